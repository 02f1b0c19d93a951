set_option maxRecDepth 100000 in
set_option maxHeartbeats 4000000 in
theorem kX7_isSection (w : gm_Wd) (a1 : Int32) (G : Gm) (q : Int32) (h : fX7_isSection a1 G = some q) : gm_C w yX7_isSection cX7_isSection 2 (some .boolean) 1 [.ref (gm_ad w 7 5 0), .int a1] G (some (.int q)) G := by
  refine gm_start (by decide) (Nat.le_of_ble_eq_true rfl) ?_
  intro x hw C E
  subst hw
  have C : gm_X x cX7_isSection 2 RX7 (some .boolean) 1 := C
  unfold fX7_isSection at h
  refine gm_lv (lv' := [(0, _), (1, _)]) rfl ?_
  refine gv_iload_n C rfl 1 rfl dX7_isSection_0 1 rfl ?_
  refine gv_iconst C 0 rfl dX7_isSection_1 2 rfl ?_
  refine gv_aload_n C rfl 0 rfl dX7_isSection_2 3 rfl ?_
  obtain ⟨q1, hq1, h⟩ := gm_bd h
  refine gv_callVi C mc_yX7_sections ⟨mi_yX7_sections, me_yX7_sections⟩ (by decide) mkX7_36 gi_7 ⟨_, rfl⟩ rfl rfl (kX7_sections _  _ _ hq1) rfl rfl (Nat.le_of_ble_eq_true rfl) dX7_isSection_3 6 rfl ?_
  refine gv_iconst C 1 rfl dX7_isSection_6 7 rfl ?_
  refine gv_isub C dX7_isSection_7 8 rfl ?_
  obtain ⟨q2, hq2, h⟩ := gm_bd h
  refine gv_callSi C mc_yX7_in ms_yX7_in (by decide) mkX7_40 (kX7_in _ _ _ _ _ _ hq2) rfl rfl (Nat.le_of_ble_eq_true rfl) dX7_isSection_8 11 rfl ?_
  obtain ⟨g3, h⟩ := gm_gp h
  obtain rfl := Option.some.inj h
  exact gv_zret C E g3 rfl rfl dX7_isSection_11
set_option maxRecDepth 100000 in
set_option maxHeartbeats 4000000 in
theorem kX7_setTime (w : gm_Wd) (a1 a2 : Int32) (G : Gm) (q : Int32 × Gm) (h : fX7_setTime a1 a2 G = some q) : gm_C w yX7_setTime cX7_setTime 4 (some .int) 2 [.ref (gm_ad w 7 5 0), .int a1, .int a2] G (some (.int q.1)) q.2 := by
  refine gm_start (by decide) (Nat.le_of_ble_eq_true rfl) ?_
  intro x hw C E
  subst hw
  have C : gm_X x cX7_setTime 4 RX7 (some .int) 2 := C
  unfold fX7_setTime at h
  refine gm_lv (lv' := [(0, _), (1, _), (2, _)]) rfl ?_
  refine gv_aload_n C rfl 0 rfl dX7_setTime_0 1 rfl ?_
  refine gv_iload_n C rfl 1 rfl dX7_setTime_1 2 rfl ?_
  obtain ⟨q1, hq1, h⟩ := gm_bd h
  refine gv_callVi C mc_yX7_isSection ⟨mi_yX7_isSection, me_yX7_isSection⟩ (by decide) mkX7_44 gi_7 ⟨_, rfl⟩ rfl rfl (kX7_isSection _ _ _ _ hq1) rfl rfl (Nat.le_of_ble_eq_true rfl) dX7_setTime_2 5 rfl ?_
  refine gv_if_ne C dX7_setTime_5 10 (by decide) 8 rfl (fun c2 => ?_) (fun c2 => ?_)
  · replace h := gm_ip c2 h
    refine gv_iconst C (-1) rfl dX7_setTime_8 9 rfl ?_
    obtain rfl := Option.some.inj h
    exact gv_iret C E rfl rfl dX7_setTime_9
  · replace h := gm_iq c2 h
    refine gv_iload_n C rfl 2 rfl dX7_setTime_10 11 rfl ?_
    refine gv_iconst C 1 rfl dX7_setTime_11 12 rfl ?_
    refine gv_bipush C 30 rfl dX7_setTime_12 14 rfl ?_
    obtain ⟨q3, hq3, h⟩ := gm_bd h
    refine gv_callSi C mc_yX7_in ms_yX7_in (by decide) mkX7_40 (kX7_in _ _ _ _ _ _ hq3) rfl rfl (Nat.le_of_ble_eq_true rfl) dX7_setTime_14 17 rfl ?_
    refine gv_if_ne C dX7_setTime_17 23 (by decide) 20 rfl (fun c4 => ?_) (fun c4 => ?_)
    · replace h := gm_ip c4 h
      refine gv_bipush C (-2) rfl dX7_setTime_20 22 rfl ?_
      obtain rfl := Option.some.inj h
      exact gv_iret C E rfl rfl dX7_setTime_22
    · replace h := gm_iq c4 h
      refine gv_aload_n C rfl 0 rfl dX7_setTime_23 24 rfl ?_
      refine gf_7_0 C gi_7 lkX7_7 dX7_setTime_24 27 rfl ?_
      refine gv_iconst C 3 rfl dX7_setTime_27 28 rfl ?_
      refine gv_iload_n C rfl 1 rfl dX7_setTime_28 29 rfl ?_
      refine gv_iadd C dX7_setTime_29 30 rfl ?_
      obtain ⟨g5, h⟩ := gm_gis h
      refine gv_iald C (gi_85 (c := 0) (by decide)) rfl g5 dX7_setTime_30 31 rfl ?_
      refine gv_istore_n C rfl [(3, _), (0, _), (1, _), (2, _)] (by decide) rfl dX7_setTime_31 32 rfl ?_
      refine gv_aload_n C rfl 1 rfl dX7_setTime_32 33 rfl ?_
      refine gf_7_0 C gi_7 lkX7_7 dX7_setTime_33 36 rfl ?_
      refine gv_iconst C 3 rfl dX7_setTime_36 37 rfl ?_
      refine gv_iload_n C rfl 2 rfl dX7_setTime_37 38 rfl ?_
      refine gv_iadd C dX7_setTime_38 39 rfl ?_
      refine gv_iload_n C rfl 3 rfl dX7_setTime_39 40 rfl ?_
      obtain ⟨g6, h⟩ := gm_gis h
      refine gv_iast C (gi_85 (c := 0) (by decide)) rfl g6 dX7_setTime_40 41 rfl ?_
      refine gv_iload_n C rfl 0 rfl dX7_setTime_41 42 rfl ?_
      obtain rfl := Option.some.inj h
      exact gv_iret C E rfl rfl dX7_setTime_42
set_option maxRecDepth 100000 in
set_option maxHeartbeats 4000000 in
theorem kX7_isWay (w : gm_Wd) (a0 : Int32) (G : Gm) (q : Int32) (h : fX7_isWay a0 = some q) : gm_C w yX7_isWay cX7_isWay 1 (some .boolean) 1 [.int a0] G (some (.int q)) G := by
  refine gm_start (by decide) (Nat.le_of_ble_eq_true rfl) ?_
  intro x hw C E
  subst hw
  have C : gm_X x cX7_isWay 1 RX7 (some .boolean) 1 := C
  unfold fX7_isWay at h
  refine gm_lv (lv' := [(0, _)]) rfl ?_
  refine gv_iload_n C rfl 0 rfl dX7_isWay_0 1 rfl ?_
  refine gv_iconst C 0 rfl dX7_isWay_1 2 rfl ?_
  refine gv_iconst C 1 rfl dX7_isWay_2 3 rfl ?_
  obtain ⟨q1, hq1, h⟩ := gm_bd h
  refine gv_callSi C mc_yX7_in ms_yX7_in (by decide) mkX7_40 (kX7_in _ _ _ _ _ _ hq1) rfl rfl (Nat.le_of_ble_eq_true rfl) dX7_isWay_3 6 rfl ?_
  obtain ⟨g2, h⟩ := gm_gp h
  obtain rfl := Option.some.inj h
  exact gv_zret C E g2 rfl rfl dX7_isWay_6
set_option maxRecDepth 100000 in
set_option maxHeartbeats 4000000 in
theorem kX7_ofTrain (w : gm_Wd) (a1 a2 : Int32) (G : Gm) (q : Int32) (h : fX7_ofTrain a1 a2 G = some q) : gm_C w yX7_ofTrain cX7_ofTrain 3 (some .int) 0 [.ref (gm_ad w 7 5 0), .int a1, .int a2] G (some (.int q)) G := by
  refine gm_start (by decide) (Nat.le_of_ble_eq_true rfl) ?_
  intro x hw C E
  subst hw
  have C : gm_X x cX7_ofTrain 3 RX7 (some .int) 0 := C
  unfold fX7_ofTrain at h
  refine gm_lv (lv' := [(0, _), (1, _), (2, _)]) rfl ?_
  refine gv_aload_n C rfl 0 rfl dX7_ofTrain_0 1 rfl ?_
  refine gf_7_0 C gi_7 lkX7_7 dX7_ofTrain_1 4 rfl ?_
  refine gv_sipush C 382 rfl dX7_ofTrain_4 7 rfl ?_
  refine gv_bipush C 8 rfl dX7_ofTrain_7 9 rfl ?_
  refine gv_iload_n C rfl 1 rfl dX7_ofTrain_9 10 rfl ?_
  refine gv_imul C dX7_ofTrain_10 11 rfl ?_
  refine gv_iadd C dX7_ofTrain_11 12 rfl ?_
  refine gv_iload_n C rfl 2 rfl dX7_ofTrain_12 13 rfl ?_
  refine gv_iadd C dX7_ofTrain_13 14 rfl ?_
  obtain ⟨g1, h⟩ := gm_gis h
  refine gv_iald C (gi_85 (c := 0) (by decide)) rfl g1 dX7_ofTrain_14 15 rfl ?_
  obtain rfl := Option.some.inj h
  exact gv_iret C E rfl rfl dX7_ofTrain_15
set_option maxRecDepth 100000 in
set_option maxHeartbeats 4000000 in
theorem kX7_many (w : gm_Wd) (a1 a2 a3 : Int32) (G : Gm) (q : Int32) (h : fX7_many a1 a2 a3 G = some q) : gm_C w yX7_many cX7_many 6 (some .int) 1 [.ref (gm_ad w 7 5 0), .int a1, .int a2, .int a3] G (some (.int q)) G := by
  refine gm_start (by decide) (Nat.le_of_ble_eq_true rfl) ?_
  intro x hw C E
  subst hw
  have C : gm_X x cX7_many 6 RX7 (some .int) 1 := C
  unfold fX7_many at h
  have L6 : ∀ (n6 : Nat) (v4 v5 : Int32), fX7_many_h6 a1 a2 a3 G n6 v4 v5 = some q → gm_V x G 6 [(0, .ref (gm_ad (cx_w x) 7 5 0)), (1, .int a1), (2, .int a2), (3, .int a3), (4, .int v4), (5, .int v5)] [] := by
    intro n6
    induction n6 with
    | zero => intro v4 v5 h; cases h
    | succ n6 ih6 =>
      intro v4 v5 h
      rw [fX7_many_h6.eq_2] at h
      refine gv_iload C 5 rfl dX7_many_6 8 rfl ?_
      refine gv_aload_n C rfl 0 rfl dX7_many_8 9 rfl ?_
      refine gf_7_0 C gi_7 lkX7_7 dX7_many_9 12 rfl ?_
      refine gv_sipush C 381 rfl dX7_many_12 15 rfl ?_
      refine gv_ialdK C 381 (by decide) (gi_85 (c := 0) (by decide)) rfl (by decide) dX7_many_15 16 rfl ?_
      refine gv_icmp_ge C dX7_many_16 68 (by decide) 19 rfl (fun c1 => ?_) (fun c1 => ?_)
      · replace h := gm_ip c1 h
        refine gv_iload C 4 rfl dX7_many_68 70 rfl ?_
        obtain rfl := Option.some.inj h
        exact gv_iret C E rfl rfl dX7_many_70
      · replace h := gm_iq c1 h
        refine gv_iload C 4 rfl dX7_many_19 21 rfl ?_
        refine gv_aload_n C rfl 0 rfl dX7_many_21 22 rfl ?_
        refine gv_iload C 5 rfl dX7_many_22 24 rfl ?_
        refine gv_iconst C 2 rfl dX7_many_24 25 rfl ?_
        obtain ⟨q2, hq2, h⟩ := gm_bd h
        refine gv_callVi C mc_yX7_ofTrain ⟨mi_yX7_ofTrain, me_yX7_ofTrain⟩ (by decide) mkX7_61 gi_7 ⟨_, rfl⟩ rfl rfl (kX7_ofTrain _ _ _ _ _ hq2) rfl rfl (Nat.le_of_ble_eq_true rfl) dX7_many_25 28 rfl ?_
        refine gv_iload_n C rfl 3 rfl dX7_many_28 29 rfl ?_
        refine gv_icmp_ne C dX7_many_29 58 (by decide) 32 rfl (fun c3 => ?_) (fun c3 => ?_)
        · replace h := gm_ip c3 h
          refine gv_aload_n C rfl 0 rfl dX7_many_32 33 rfl ?_
          refine gv_iload C 5 rfl dX7_many_33 35 rfl ?_
          refine gv_iconst C 3 rfl dX7_many_35 36 rfl ?_
          obtain ⟨q4, hq4, h⟩ := gm_bd h
          refine gv_callVi C mc_yX7_ofTrain ⟨mi_yX7_ofTrain, me_yX7_ofTrain⟩ (by decide) mkX7_61 gi_7 ⟨_, rfl⟩ rfl rfl (kX7_ofTrain _ _ _ _ _ hq4) rfl rfl (Nat.le_of_ble_eq_true rfl) dX7_many_36 39 rfl ?_
          refine gv_iload_n C rfl 1 rfl dX7_many_39 40 rfl ?_
          refine gv_icmp_ne C dX7_many_40 58 (by decide) 43 rfl (fun c5 => ?_) (fun c5 => ?_)
          · replace h := gm_ip c5 h
            refine gv_aload_n C rfl 0 rfl dX7_many_43 44 rfl ?_
            refine gv_iload C 5 rfl dX7_many_44 46 rfl ?_
            refine gv_iconst C 1 rfl dX7_many_46 47 rfl ?_
            obtain ⟨q6, hq6, h⟩ := gm_bd h
            refine gv_callVi C mc_yX7_ofTrain ⟨mi_yX7_ofTrain, me_yX7_ofTrain⟩ (by decide) mkX7_61 gi_7 ⟨_, rfl⟩ rfl rfl (kX7_ofTrain _ _ _ _ _ hq6) rfl rfl (Nat.le_of_ble_eq_true rfl) dX7_many_47 50 rfl ?_
            refine gv_iload_n C rfl 2 rfl dX7_many_50 51 rfl ?_
            refine gv_icmp_ne C dX7_many_51 58 (by decide) 54 rfl (fun c7 => ?_) (fun c7 => ?_)
            · replace h := gm_ip c7 h
              refine gv_iconst C 1 rfl dX7_many_54 55 rfl ?_
              refine gv_goto C dX7_many_55 59 (by decide) ?_
              refine gv_iadd C dX7_many_59 60 rfl ?_
              refine gv_istore C [(4, _), (0, _), (1, _), (2, _), (3, _), (5, _)] (by decide) rfl dX7_many_60 62 rfl ?_
              refine gv_iinc C 5 rfl rfl [(5, _), (4, _), (0, _), (1, _), (2, _), (3, _)] (by decide) rfl dX7_many_62 65 rfl ?_
              refine gv_goto C dX7_many_65 6 (by decide) ?_
              refine gm_ls [2, 3, 4, 5, 1, 0] rfl ?_
              exact ih6 _ _ h
            · replace h := gm_iq c7 h
              refine gv_iconst C 0 rfl dX7_many_58 59 rfl ?_
              refine gv_iadd C dX7_many_59 60 rfl ?_
              refine gv_istore C [(4, _), (0, _), (1, _), (2, _), (3, _), (5, _)] (by decide) rfl dX7_many_60 62 rfl ?_
              refine gv_iinc C 5 rfl rfl [(5, _), (4, _), (0, _), (1, _), (2, _), (3, _)] (by decide) rfl dX7_many_62 65 rfl ?_
              refine gv_goto C dX7_many_65 6 (by decide) ?_
              refine gm_ls [2, 3, 4, 5, 1, 0] rfl ?_
              exact ih6 _ _ h
          · replace h := gm_iq c5 h
            refine gv_iconst C 0 rfl dX7_many_58 59 rfl ?_
            refine gv_iadd C dX7_many_59 60 rfl ?_
            refine gv_istore C [(4, _), (0, _), (1, _), (2, _), (3, _), (5, _)] (by decide) rfl dX7_many_60 62 rfl ?_
            refine gv_iinc C 5 rfl rfl [(5, _), (4, _), (0, _), (1, _), (2, _), (3, _)] (by decide) rfl dX7_many_62 65 rfl ?_
            refine gv_goto C dX7_many_65 6 (by decide) ?_
            refine gm_ls [2, 3, 4, 5, 1, 0] rfl ?_
            exact ih6 _ _ h
        · replace h := gm_iq c3 h
          refine gv_iconst C 0 rfl dX7_many_58 59 rfl ?_
          refine gv_iadd C dX7_many_59 60 rfl ?_
          refine gv_istore C [(4, _), (0, _), (1, _), (2, _), (3, _), (5, _)] (by decide) rfl dX7_many_60 62 rfl ?_
          refine gv_iinc C 5 rfl rfl [(5, _), (4, _), (0, _), (1, _), (2, _), (3, _)] (by decide) rfl dX7_many_62 65 rfl ?_
          refine gv_goto C dX7_many_65 6 (by decide) ?_
          refine gm_ls [2, 3, 4, 5, 1, 0] rfl ?_
          exact ih6 _ _ h
  refine gm_lv (lv' := [(0, _), (1, _), (2, _), (3, _)]) rfl ?_
  refine gv_iconst C 0 rfl dX7_many_0 1 rfl ?_
  refine gv_istore C [(4, _), (0, _), (1, _), (2, _), (3, _)] (by decide) rfl dX7_many_1 3 rfl ?_
  refine gv_iconst C 0 rfl dX7_many_3 4 rfl ?_
  refine gv_istore C [(5, _), (4, _), (0, _), (1, _), (2, _), (3, _)] (by decide) rfl dX7_many_4 6 rfl ?_
  refine gm_ls [2, 3, 4, 5, 1, 0] rfl ?_
  exact L6 _ _ _ h
set_option maxRecDepth 100000 in
set_option maxHeartbeats 4000000 in
theorem kX7_setLoops (w : gm_Wd) (a1 a2 a3 : Int32) (G : Gm) (q : Int32 × Gm) (h : fX7_setLoops a1 a2 a3 G = some q) : gm_C w yX7_setLoops cX7_setLoops 5 (some .int) 2 [.ref (gm_ad w 7 5 0), .int a1, .int a2, .int a3] G (some (.int q.1)) q.2 := by
  refine gm_start (by decide) (Nat.le_of_ble_eq_true rfl) ?_
  intro x hw C E
  subst hw
  have C : gm_X x cX7_setLoops 5 RX7 (some .int) 2 := C
  unfold fX7_setLoops at h
  refine gm_lv (lv' := [(0, _), (1, _), (2, _), (3, _)]) rfl ?_
  refine gv_iload_n C rfl 1 rfl dX7_setLoops_0 1 rfl ?_
  refine gv_iconst C 0 rfl dX7_setLoops_1 2 rfl ?_
  refine gv_aload_n C rfl 0 rfl dX7_setLoops_2 3 rfl ?_
  refine gf_7_0 C gi_7 lkX7_7 dX7_setLoops_3 6 rfl ?_
  refine gv_iconst C 1 rfl dX7_setLoops_6 7 rfl ?_
  refine gv_ialdK C 1 (by decide) (gi_85 (c := 0) (by decide)) rfl (by decide) dX7_setLoops_7 8 rfl ?_
  refine gv_iconst C 1 rfl dX7_setLoops_8 9 rfl ?_
  refine gv_isub C dX7_setLoops_9 10 rfl ?_
  obtain ⟨q1, hq1, h⟩ := gm_bd h
  refine gv_callSi C mc_yX7_in ms_yX7_in (by decide) mkX7_40 (kX7_in _ _ _ _ _ _ hq1) rfl rfl (Nat.le_of_ble_eq_true rfl) dX7_setLoops_10 13 rfl ?_
  refine gv_if_eq C dX7_setLoops_13 23 (by decide) 16 rfl (fun c2 => ?_) (fun c2 => ?_)
  · replace h := gm_ip c2 h
    refine gv_iconst C (-1) rfl dX7_setLoops_23 24 rfl ?_
    obtain rfl := Option.some.inj h
    exact gv_iret C E rfl rfl dX7_setLoops_24
  · replace h := gm_iq c2 h
    refine gv_iload_n C rfl 2 rfl dX7_setLoops_16 17 rfl ?_
    obtain ⟨q3, hq3, h⟩ := gm_bd h
    refine gv_callSi C mc_yX7_isWay ms_yX7_isWay (by decide) mkX7_48 (kX7_isWay _ _ _ _ hq3) rfl rfl (Nat.le_of_ble_eq_true rfl) dX7_setLoops_17 20 rfl ?_
    refine gv_if_ne C dX7_setLoops_20 25 (by decide) 23 rfl (fun c4 => ?_) (fun c4 => ?_)
    · replace h := gm_ip c4 h
      refine gv_iconst C (-1) rfl dX7_setLoops_23 24 rfl ?_
      obtain rfl := Option.some.inj h
      exact gv_iret C E rfl rfl dX7_setLoops_24
    · replace h := gm_iq c4 h
      refine gv_iload_n C rfl 3 rfl dX7_setLoops_25 26 rfl ?_
      refine gv_iconst C 0 rfl dX7_setLoops_26 27 rfl ?_
      refine gv_iconst C 3 rfl dX7_setLoops_27 28 rfl ?_
      obtain ⟨q5, hq5, h⟩ := gm_bd h
      refine gv_callSi C mc_yX7_in ms_yX7_in (by decide) mkX7_40 (kX7_in _ _ _ _ _ _ hq5) rfl rfl (Nat.le_of_ble_eq_true rfl) dX7_setLoops_28 31 rfl ?_
      refine gv_if_ne C dX7_setLoops_31 37 (by decide) 34 rfl (fun c6 => ?_) (fun c6 => ?_)
      · replace h := gm_ip c6 h
        refine gv_bipush C (-2) rfl dX7_setLoops_34 36 rfl ?_
        obtain rfl := Option.some.inj h
        exact gv_iret C E rfl rfl dX7_setLoops_36
      · replace h := gm_iq c6 h
        refine gv_aload_n C rfl 0 rfl dX7_setLoops_37 38 rfl ?_
        refine gv_iload_n C rfl 1 rfl dX7_setLoops_38 39 rfl ?_
        refine gv_iload_n C rfl 2 rfl dX7_setLoops_39 40 rfl ?_
        refine gv_iconst C 1 rfl dX7_setLoops_40 41 rfl ?_
        obtain ⟨q7, hq7, h⟩ := gm_bd h
        refine gv_callVi C mc_yX7_many ⟨mi_yX7_many, me_yX7_many⟩ (by decide) mkX7_65 gi_7 ⟨_, rfl⟩ rfl rfl (kX7_many _ _ _ _ _ _ hq7) rfl rfl (Nat.le_of_ble_eq_true rfl) dX7_setLoops_41 44 rfl ?_
        refine gv_iload_n C rfl 3 rfl dX7_setLoops_44 45 rfl ?_
        refine gv_icmp_le C dX7_setLoops_45 51 (by decide) 48 rfl (fun c8 => ?_) (fun c8 => ?_)
        · replace h := gm_ip c8 h
          refine gv_aload_n C rfl 0 rfl dX7_setLoops_51 52 rfl ?_
          refine gf_7_0 C gi_7 lkX7_7 dX7_setLoops_52 55 rfl ?_
          refine gv_bipush C 18 rfl dX7_setLoops_55 57 rfl ?_
          refine gv_iconst C 2 rfl dX7_setLoops_57 58 rfl ?_
          refine gv_iload_n C rfl 1 rfl dX7_setLoops_58 59 rfl ?_
          refine gv_imul C dX7_setLoops_59 60 rfl ?_
          refine gv_iadd C dX7_setLoops_60 61 rfl ?_
          refine gv_iload_n C rfl 2 rfl dX7_setLoops_61 62 rfl ?_
          refine gv_iadd C dX7_setLoops_62 63 rfl ?_
          obtain ⟨g9, h⟩ := gm_gis h
          refine gv_iald C (gi_85 (c := 0) (by decide)) rfl g9 dX7_setLoops_63 64 rfl ?_
          refine gv_istore C [(4, _), (0, _), (1, _), (2, _), (3, _)] (by decide) rfl dX7_setLoops_64 66 rfl ?_
          refine gv_aload_n C rfl 1 rfl dX7_setLoops_66 67 rfl ?_
          refine gf_7_0 C gi_7 lkX7_7 dX7_setLoops_67 70 rfl ?_
          refine gv_bipush C 18 rfl dX7_setLoops_70 72 rfl ?_
          refine gv_iconst C 2 rfl dX7_setLoops_72 73 rfl ?_
          refine gv_iload_n C rfl 2 rfl dX7_setLoops_73 74 rfl ?_
          refine gv_imul C dX7_setLoops_74 75 rfl ?_
          refine gv_iadd C dX7_setLoops_75 76 rfl ?_
          refine gv_iload_n C rfl 3 rfl dX7_setLoops_76 77 rfl ?_
          refine gv_iadd C dX7_setLoops_77 78 rfl ?_
          refine gv_iload_n C rfl 4 rfl dX7_setLoops_78 79 rfl ?_
          obtain ⟨g10, h⟩ := gm_gis h
          refine gv_iast C (gi_85 (c := 0) (by decide)) rfl g10 dX7_setLoops_79 80 rfl ?_
          refine gv_iload C 0 rfl dX7_setLoops_80 82 rfl ?_
          obtain rfl := Option.some.inj h
          exact gv_iret C E rfl rfl dX7_setLoops_82
        · replace h := gm_iq c8 h
          refine gv_bipush C (-5) rfl dX7_setLoops_48 50 rfl ?_
          obtain rfl := Option.some.inj h
          exact gv_iret C E rfl rfl dX7_setLoops_50
set_option maxRecDepth 100000 in
set_option maxHeartbeats 4000000 in
theorem kX7_isSingle (w : gm_Wd) (a1 : Int32) (G : Gm) (q : Int32) (h : fX7_isSingle a1 G = some q) : gm_C w yX7_isSingle cX7_isSingle 2 (some .boolean) 0 [.ref (gm_ad w 7 5 0), .int a1] G (some (.int q)) G := by
  refine gm_start (by decide) (Nat.le_of_ble_eq_true rfl) ?_
  intro x hw C E
  subst hw
  have C : gm_X x cX7_isSingle 2 RX7 (some .boolean) 0 := C
  unfold fX7_isSingle at h
  refine gm_lv (lv' := [(0, _), (1, _)]) rfl ?_
  refine gv_aload_n C rfl 0 rfl dX7_isSingle_0 1 rfl ?_
  refine gf_7_0 C gi_7 lkX7_7 dX7_isSingle_1 4 rfl ?_
  refine gv_iconst C 2 rfl dX7_isSingle_4 5 rfl ?_
  refine gv_ialdK C 2 (by decide) (gi_85 (c := 0) (by decide)) rfl (by decide) dX7_isSingle_5 6 rfl ?_
  refine gv_iload_n C rfl 1 rfl dX7_isSingle_6 7 rfl ?_
  refine gv_ishr C dX7_isSingle_7 8 rfl ?_
  refine gv_iconst C 1 rfl dX7_isSingle_8 9 rfl ?_
  refine gv_iand C dX7_isSingle_9 10 rfl ?_
  refine gv_iconst C 1 rfl dX7_isSingle_10 11 rfl ?_
  refine gv_icmp_ne C dX7_isSingle_11 18 (by decide) 14 rfl (fun c1 => ?_) (fun c1 => ?_)
  · replace h := gm_ip c1 h
    refine gv_iconst C 1 rfl dX7_isSingle_14 15 rfl ?_
    refine gv_goto C dX7_isSingle_15 19 (by decide) ?_
    obtain rfl := Option.some.inj h
    exact gv_zret C E (Or.inr rfl) rfl rfl dX7_isSingle_19
  · replace h := gm_iq c1 h
    refine gv_iconst C 0 rfl dX7_isSingle_18 19 rfl ?_
    obtain rfl := Option.some.inj h
    exact gv_zret C E (Or.inl rfl) rfl rfl dX7_isSingle_19
set_option maxRecDepth 100000 in
set_option maxHeartbeats 4000000 in
theorem kX7_moveTokens (w : gm_Wd) (a1 a2 : Int32) (G : Gm) (q : Int32 × Gm) (h : fX7_moveTokens a1 a2 G = some q) : gm_C w yX7_moveTokens cX7_moveTokens 5 (some .int) 2 [.ref (gm_ad w 7 5 0), .int a1, .int a2] G (some (.int q.1)) q.2 := by
  refine gm_start (by decide) (Nat.le_of_ble_eq_true rfl) ?_
  intro x hw C E
  subst hw
  have C : gm_X x cX7_moveTokens 5 RX7 (some .int) 2 := C
  unfold fX7_moveTokens at h
  refine gm_lv (lv' := [(0, _), (1, _), (2, _)]) rfl ?_
  refine gv_aload_n C rfl 0 rfl dX7_moveTokens_0 1 rfl ?_
  refine gv_iload_n C rfl 1 rfl dX7_moveTokens_1 2 rfl ?_
  obtain ⟨q1, hq1, h⟩ := gm_bd h
  refine gv_callVi C mc_yX7_isSection ⟨mi_yX7_isSection, me_yX7_isSection⟩ (by decide) mkX7_44 gi_7 ⟨_, rfl⟩ rfl rfl (kX7_isSection _ _ _ _ hq1) rfl rfl (Nat.le_of_ble_eq_true rfl) dX7_moveTokens_2 5 rfl ?_
  refine gv_if_ne C dX7_moveTokens_5 10 (by decide) 8 rfl (fun c2 => ?_) (fun c2 => ?_)
  · replace h := gm_ip c2 h
    refine gv_iconst C (-1) rfl dX7_moveTokens_8 9 rfl ?_
    obtain rfl := Option.some.inj h
    exact gv_iret C E rfl rfl dX7_moveTokens_9
  · replace h := gm_iq c2 h
    refine gv_iload_n C rfl 2 rfl dX7_moveTokens_10 11 rfl ?_
    refine gv_bipush C (-10) rfl dX7_moveTokens_11 13 rfl ?_
    refine gv_bipush C 10 rfl dX7_moveTokens_13 15 rfl ?_
    obtain ⟨q3, hq3, h⟩ := gm_bd h
    refine gv_callSi C mc_yX7_in ms_yX7_in (by decide) mkX7_40 (kX7_in _ _ _ _ _ _ hq3) rfl rfl (Nat.le_of_ble_eq_true rfl) dX7_moveTokens_15 18 rfl ?_
    refine gv_if_ne C dX7_moveTokens_18 24 (by decide) 21 rfl (fun c4 => ?_) (fun c4 => ?_)
    · replace h := gm_ip c4 h
      refine gv_bipush C (-2) rfl dX7_moveTokens_21 23 rfl ?_
      obtain rfl := Option.some.inj h
      exact gv_iret C E rfl rfl dX7_moveTokens_23
    · replace h := gm_iq c4 h
      refine gv_aload_n C rfl 0 rfl dX7_moveTokens_24 25 rfl ?_
      refine gf_7_0 C gi_7 lkX7_7 dX7_moveTokens_25 28 rfl ?_
      refine gv_bipush C 8 rfl dX7_moveTokens_28 30 rfl ?_
      refine gv_iconst C 2 rfl dX7_moveTokens_30 31 rfl ?_
      refine gv_iload_n C rfl 1 rfl dX7_moveTokens_31 32 rfl ?_
      refine gv_imul C dX7_moveTokens_32 33 rfl ?_
      refine gv_iadd C dX7_moveTokens_33 34 rfl ?_
      obtain ⟨g5, h⟩ := gm_gis h
      refine gv_iald C (gi_85 (c := 0) (by decide)) rfl g5 dX7_moveTokens_34 35 rfl ?_
      refine gv_iload_n C rfl 2 rfl dX7_moveTokens_35 36 rfl ?_
      refine gv_isub C dX7_moveTokens_36 37 rfl ?_
      refine gv_istore_n C rfl [(3, _), (0, _), (1, _), (2, _)] (by decide) rfl dX7_moveTokens_37 38 rfl ?_
      refine gv_aload_n C rfl 1 rfl dX7_moveTokens_38 39 rfl ?_
      refine gf_7_0 C gi_7 lkX7_7 dX7_moveTokens_39 42 rfl ?_
      refine gv_bipush C 8 rfl dX7_moveTokens_42 44 rfl ?_
      refine gv_iconst C 2 rfl dX7_moveTokens_44 45 rfl ?_
      refine gv_iload_n C rfl 2 rfl dX7_moveTokens_45 46 rfl ?_
      refine gv_imul C dX7_moveTokens_46 47 rfl ?_
      refine gv_iadd C dX7_moveTokens_47 48 rfl ?_
      refine gv_iconst C 1 rfl dX7_moveTokens_48 49 rfl ?_
      refine gv_iadd C dX7_moveTokens_49 50 rfl ?_
      obtain ⟨g6, h⟩ := gm_gis h
      refine gv_iald C (gi_85 (c := 0) (by decide)) rfl g6 dX7_moveTokens_50 51 rfl ?_
      refine gv_iload_n C rfl 3 rfl dX7_moveTokens_51 52 rfl ?_
      refine gv_iadd C dX7_moveTokens_52 53 rfl ?_
      refine gv_istore C [(4, _), (3, _), (0, _), (1, _), (2, _)] (by decide) rfl dX7_moveTokens_53 55 rfl ?_
      refine gv_aload_n C rfl 2 rfl dX7_moveTokens_55 56 rfl ?_
      refine gv_iload_n C rfl 3 rfl dX7_moveTokens_56 57 rfl ?_
      obtain ⟨q7, hq7, h⟩ := gm_bd h
      refine gv_callVi C mc_yX7_isSingle ⟨mi_yX7_isSingle, me_yX7_isSingle⟩ (by decide) mkX7_58 gi_7 ⟨_, rfl⟩ rfl rfl (kX7_isSingle _ _ _ _ hq7) rfl rfl (Nat.le_of_ble_eq_true rfl) dX7_moveTokens_57 60 rfl ?_
      refine gv_if_eq C dX7_moveTokens_60 72 (by decide) 63 rfl (fun c8 => ?_) (fun c8 => ?_)
      · replace h := gm_ip c8 h
        refine gv_bipush C (-5) rfl dX7_moveTokens_72 74 rfl ?_
        obtain rfl := Option.some.inj h
        exact gv_iret C E rfl rfl dX7_moveTokens_74
      · replace h := gm_iq c8 h
        refine gv_iload_n C rfl 1 rfl dX7_moveTokens_63 64 rfl ?_
        refine gv_if_lt C dX7_moveTokens_64 72 (by decide) 67 rfl (fun c9 => ?_) (fun c9 => ?_)
        · replace h := gm_ip c9 h
          refine gv_bipush C (-5) rfl dX7_moveTokens_72 74 rfl ?_
          obtain rfl := Option.some.inj h
          exact gv_iret C E rfl rfl dX7_moveTokens_74
        · replace h := gm_iq c9 h
          refine gv_iload C 0 rfl dX7_moveTokens_67 69 rfl ?_
          refine gv_if_ge C dX7_moveTokens_69 75 (by decide) 72 rfl (fun c10 => ?_) (fun c10 => ?_)
          · replace h := gm_ip c10 h
            refine gv_aload_n C rfl 2 rfl dX7_moveTokens_75 76 rfl ?_
            refine gf_7_0 C gi_7 lkX7_7 dX7_moveTokens_76 79 rfl ?_
            refine gv_bipush C 8 rfl dX7_moveTokens_79 81 rfl ?_
            refine gv_iconst C 2 rfl dX7_moveTokens_81 82 rfl ?_
            refine gv_iload_n C rfl 3 rfl dX7_moveTokens_82 83 rfl ?_
            refine gv_imul C dX7_moveTokens_83 84 rfl ?_
            refine gv_iadd C dX7_moveTokens_84 85 rfl ?_
            refine gv_iload_n C rfl 1 rfl dX7_moveTokens_85 86 rfl ?_
            obtain ⟨g11, h⟩ := gm_gis h
            refine gv_iast C (gi_85 (c := 0) (by decide)) rfl g11 dX7_moveTokens_86 87 rfl ?_
            refine gv_aload_n C rfl 2 rfl dX7_moveTokens_87 88 rfl ?_
            refine gf_7_0 C gi_7 lkX7_7 dX7_moveTokens_88 91 rfl ?_
            refine gv_bipush C 8 rfl dX7_moveTokens_91 93 rfl ?_
            refine gv_iconst C 2 rfl dX7_moveTokens_93 94 rfl ?_
            refine gv_iload_n C rfl 3 rfl dX7_moveTokens_94 95 rfl ?_
            refine gv_imul C dX7_moveTokens_95 96 rfl ?_
            refine gv_iadd C dX7_moveTokens_96 97 rfl ?_
            refine gv_iconst C 1 rfl dX7_moveTokens_97 98 rfl ?_
            refine gv_iadd C dX7_moveTokens_98 99 rfl ?_
            refine gv_iload C 0 rfl dX7_moveTokens_99 101 rfl ?_
            obtain ⟨g12, h⟩ := gm_gis h
            refine gv_iast C (gi_85 (c := 0) (by decide)) rfl g12 dX7_moveTokens_101 102 rfl ?_
            refine gv_iload_n C rfl 1 rfl dX7_moveTokens_102 103 rfl ?_
            obtain rfl := Option.some.inj h
            exact gv_iret C E rfl rfl dX7_moveTokens_103
          · replace h := gm_iq c10 h
            refine gv_bipush C (-5) rfl dX7_moveTokens_72 74 rfl ?_
            obtain rfl := Option.some.inj h
            exact gv_iret C E rfl rfl dX7_moveTokens_74
set_option maxRecDepth 100000 in
set_option maxHeartbeats 4000000 in
theorem kX7_place (w : gm_Wd) (a0 a1 a2 : Int32) (G : Gm) (q : Int32) (h : fX7_place a0 a1 a2 = some q) : gm_C w yX7_place cX7_place 3 (some .int) 0 [.int a0, .int a1, .int a2] G (some (.int q)) G := by
  refine gm_start (by decide) (Nat.le_of_ble_eq_true rfl) ?_
  intro x hw C E
  subst hw
  have C : gm_X x cX7_place 3 RX7 (some .int) 0 := C
  unfold fX7_place at h
  refine gm_lv (lv' := [(0, _), (1, _), (2, _)]) rfl ?_
  refine gv_bipush C 30 rfl dX7_place_0 2 rfl ?_
  refine gv_iconst C 5 rfl dX7_place_2 3 rfl ?_
  refine gv_iconst C 2 rfl dX7_place_3 4 rfl ?_
  refine gv_iload_n C rfl 0 rfl dX7_place_4 5 rfl ?_
  refine gv_imul C dX7_place_5 6 rfl ?_
  refine gv_iload_n C rfl 1 rfl dX7_place_6 7 rfl ?_
  refine gv_iadd C dX7_place_7 8 rfl ?_
  refine gv_imul C dX7_place_8 9 rfl ?_
  refine gv_iadd C dX7_place_9 10 rfl ?_
  refine gv_iload_n C rfl 2 rfl dX7_place_10 11 rfl ?_
  refine gv_iadd C dX7_place_11 12 rfl ?_
  obtain rfl := Option.some.inj h
  exact gv_iret C E rfl rfl dX7_place_12
set_option maxRecDepth 100000 in
set_option maxHeartbeats 4000000 in
theorem kX7_ofBlock (w : gm_Wd) (a1 a2 a3 : Int32) (G : Gm) (q : Int32) (h : fX7_ofBlock a1 a2 a3 G = some q) : gm_C w yX7_ofBlock cX7_ofBlock 4 (some .int) 1 [.ref (gm_ad w 7 5 0), .int a1, .int a2, .int a3] G (some (.int q)) G := by
  refine gm_start (by decide) (Nat.le_of_ble_eq_true rfl) ?_
  intro x hw C E
  subst hw
  have C : gm_X x cX7_ofBlock 4 RX7 (some .int) 1 := C
  unfold fX7_ofBlock at h
  refine gm_lv (lv' := [(0, _), (1, _), (2, _), (3, _)]) rfl ?_
  refine gv_aload_n C rfl 0 rfl dX7_ofBlock_0 1 rfl ?_
  refine gf_7_0 C gi_7 lkX7_7 dX7_ofBlock_1 4 rfl ?_
  refine gv_iload_n C rfl 1 rfl dX7_ofBlock_4 5 rfl ?_
  refine gv_iload_n C rfl 2 rfl dX7_ofBlock_5 6 rfl ?_
  refine gv_iload_n C rfl 3 rfl dX7_ofBlock_6 7 rfl ?_
  obtain ⟨q1, hq1, h⟩ := gm_bd h
  refine gv_callSi C mc_yX7_place ms_yX7_place (by decide) mkX7_51 (kX7_place _ _ _ _ _ _ hq1) rfl rfl (Nat.le_of_ble_eq_true rfl) dX7_ofBlock_7 10 rfl ?_
  obtain ⟨g2, h⟩ := gm_gis h
  refine gv_iald C (gi_85 (c := 0) (by decide)) rfl g2 dX7_ofBlock_10 11 rfl ?_
  obtain rfl := Option.some.inj h
  exact gv_iret C E rfl rfl dX7_ofBlock_11
set_option maxRecDepth 100000 in
set_option maxHeartbeats 4000000 in
theorem kX7_isTokenOut (w : gm_Wd) (a1 : Int32) (G : Gm) (q : Int32) (h : fX7_isTokenOut a1 G = some q) : gm_C w yX7_isTokenOut cX7_isTokenOut 4 (some .boolean) 2 [.ref (gm_ad w 7 5 0), .int a1] G (some (.int q)) G := by
  refine gm_start (by decide) (Nat.le_of_ble_eq_true rfl) ?_
  intro x hw C E
  subst hw
  have C : gm_X x cX7_isTokenOut 4 RX7 (some .boolean) 2 := C
  unfold fX7_isTokenOut at h
  have L4 : ∀ (n4 : Nat) (v2 v3 : Int32), fX7_isTokenOut_h4 a1 G n4 v2 v3 = some q → gm_V x G 4 [(0, .ref (gm_ad (cx_w x) 7 5 0)), (1, .int a1), (2, .int v2), (3, .int v3)] [] := by
    intro n4
    induction n4 with
    | zero => intro v2 v3 h; cases h
    | succ n4 ih4 =>
      intro v2 v3 h
      rw [fX7_isTokenOut_h4.eq_2] at h
      refine gv_iload_n C rfl 3 rfl dX7_isTokenOut_4 5 rfl ?_
      refine gv_iconst C 2 rfl dX7_isTokenOut_5 6 rfl ?_
      refine gv_icmp_ge C dX7_isTokenOut_6 40 (by decide) 9 rfl (fun c1 => ?_) (fun c1 => ?_)
      · replace h := gm_ip c1 h
        refine gv_aload_n C rfl 0 rfl dX7_isTokenOut_40 41 rfl ?_
        refine gv_iload_n C rfl 1 rfl dX7_isTokenOut_41 42 rfl ?_
        obtain ⟨q2, hq2, h⟩ := gm_bd h
        refine gv_callVi C mc_yX7_isSingle ⟨mi_yX7_isSingle, me_yX7_isSingle⟩ (by decide) mkX7_58 gi_7 ⟨_, rfl⟩ rfl rfl (kX7_isSingle _ _ _ _ hq2) rfl rfl (Nat.le_of_ble_eq_true rfl) dX7_isTokenOut_42 45 rfl ?_
        refine gv_if_eq C dX7_isTokenOut_45 56 (by decide) 48 rfl (fun c3 => ?_) (fun c3 => ?_)
        · replace h := gm_ip c3 h
          refine gv_iconst C 0 rfl dX7_isTokenOut_56 57 rfl ?_
          obtain rfl := Option.some.inj h
          exact gv_zret C E (Or.inl rfl) rfl rfl dX7_isTokenOut_57
        · replace h := gm_iq c3 h
          refine gv_iload_n C rfl 2 rfl dX7_isTokenOut_48 49 rfl ?_
          refine gv_if_eq C dX7_isTokenOut_49 56 (by decide) 52 rfl (fun c4 => ?_) (fun c4 => ?_)
          · replace h := gm_ip c4 h
            refine gv_iconst C 0 rfl dX7_isTokenOut_56 57 rfl ?_
            obtain rfl := Option.some.inj h
            exact gv_zret C E (Or.inl rfl) rfl rfl dX7_isTokenOut_57
          · replace h := gm_iq c4 h
            refine gv_iconst C 1 rfl dX7_isTokenOut_52 53 rfl ?_
            refine gv_goto C dX7_isTokenOut_53 57 (by decide) ?_
            obtain rfl := Option.some.inj h
            exact gv_zret C E (Or.inr rfl) rfl rfl dX7_isTokenOut_57
      · replace h := gm_iq c1 h
        refine gv_iload_n C rfl 2 rfl dX7_isTokenOut_9 10 rfl ?_
        refine gv_if_ne C dX7_isTokenOut_10 28 (by decide) 13 rfl (fun c5 => ?_) (fun c5 => ?_)
        · replace h := gm_ip c5 h
          refine gv_aload_n C rfl 0 rfl dX7_isTokenOut_13 14 rfl ?_
          refine gv_iload_n C rfl 1 rfl dX7_isTokenOut_14 15 rfl ?_
          refine gv_iload_n C rfl 3 rfl dX7_isTokenOut_15 16 rfl ?_
          refine gv_iconst C 0 rfl dX7_isTokenOut_16 17 rfl ?_
          obtain ⟨q6, hq6, h⟩ := gm_bd h
          refine gv_callVi C mc_yX7_ofBlock ⟨mi_yX7_ofBlock, me_yX7_ofBlock⟩ (by decide) mkX7_55 gi_7 ⟨_, rfl⟩ rfl rfl (kX7_ofBlock _ _ _ _ _ _ hq6) rfl rfl (Nat.le_of_ble_eq_true rfl) dX7_isTokenOut_17 20 rfl ?_
          refine gv_iconst C 1 rfl dX7_isTokenOut_20 21 rfl ?_
          refine gv_iconst C 2 rfl dX7_isTokenOut_21 22 rfl ?_
          obtain ⟨q7, hq7, h⟩ := gm_bd h
          refine gv_callSi C mc_yX7_in ms_yX7_in (by decide) mkX7_40 (kX7_in _ _ _ _ _ _ hq7) rfl rfl (Nat.le_of_ble_eq_true rfl) dX7_isTokenOut_22 25 rfl ?_
          refine gv_if_eq C dX7_isTokenOut_25 32 (by decide) 28 rfl (fun c8 => ?_) (fun c8 => ?_)
          · replace h := gm_ip c8 h
            refine gv_iconst C 0 rfl dX7_isTokenOut_32 33 rfl ?_
            refine gv_istore_n C rfl [(2, _), (0, _), (1, _), (3, _)] (by decide) rfl dX7_isTokenOut_33 34 rfl ?_
            refine gv_iinc C 3 rfl rfl [(3, _), (2, _), (0, _), (1, _)] (by decide) rfl dX7_isTokenOut_34 37 rfl ?_
            refine gv_goto C dX7_isTokenOut_37 4 (by decide) ?_
            refine gm_ls [2, 3, 1, 0] rfl ?_
            exact ih4 _ _ h
          · replace h := gm_iq c8 h
            refine gv_iconst C 1 rfl dX7_isTokenOut_28 29 rfl ?_
            refine gv_goto C dX7_isTokenOut_29 33 (by decide) ?_
            refine gv_istore_n C rfl [(2, _), (0, _), (1, _), (3, _)] (by decide) rfl dX7_isTokenOut_33 34 rfl ?_
            refine gv_iinc C 3 rfl rfl [(3, _), (2, _), (0, _), (1, _)] (by decide) rfl dX7_isTokenOut_34 37 rfl ?_
            refine gv_goto C dX7_isTokenOut_37 4 (by decide) ?_
            refine gm_ls [2, 3, 1, 0] rfl ?_
            exact ih4 _ _ h
        · replace h := gm_iq c5 h
          refine gv_iconst C 1 rfl dX7_isTokenOut_28 29 rfl ?_
          refine gv_goto C dX7_isTokenOut_29 33 (by decide) ?_
          refine gv_istore_n C rfl [(2, _), (0, _), (1, _), (3, _)] (by decide) rfl dX7_isTokenOut_33 34 rfl ?_
          refine gv_iinc C 3 rfl rfl [(3, _), (2, _), (0, _), (1, _)] (by decide) rfl dX7_isTokenOut_34 37 rfl ?_
          refine gv_goto C dX7_isTokenOut_37 4 (by decide) ?_
          refine gm_ls [2, 3, 1, 0] rfl ?_
          exact ih4 _ _ h
  refine gm_lv (lv' := [(0, _), (1, _)]) rfl ?_
  refine gv_iconst C 0 rfl dX7_isTokenOut_0 1 rfl ?_
  refine gv_istore_n C rfl [(2, _), (0, _), (1, _)] (by decide) rfl dX7_isTokenOut_1 2 rfl ?_
  refine gv_iconst C 0 rfl dX7_isTokenOut_2 3 rfl ?_
  refine gv_istore_n C rfl [(3, _), (2, _), (0, _), (1, _)] (by decide) rfl dX7_isTokenOut_3 4 rfl ?_
  refine gm_ls [2, 3, 1, 0] rfl ?_
  exact L4 _ _ _ h
set_option maxRecDepth 100000 in
set_option maxHeartbeats 4000000 in
theorem kX7_section (w : gm_Wd) (a1 a2 : Int32) (G : Gm) (q : Int32) (h : fX7_section a1 a2 G = some q) : gm_C w yX7_section cX7_section 4 (some .int) 3 [.ref (gm_ad w 7 5 0), .int a1, .int a2] G (some (.int q)) G := by
  refine gm_start (by decide) (Nat.le_of_ble_eq_true rfl) ?_
  intro x hw C E
  subst hw
  have C : gm_X x cX7_section 4 RX7 (some .int) 3 := C
  unfold fX7_section at h
  refine gm_lv (lv' := [(0, _), (1, _), (2, _)]) rfl ?_
  refine gv_aload_n C rfl 0 rfl dX7_section_0 1 rfl ?_
  refine gv_iload_n C rfl 1 rfl dX7_section_1 2 rfl ?_
  obtain ⟨q1, hq1, h⟩ := gm_bd h
  refine gv_callVi C mc_yX7_isSection ⟨mi_yX7_isSection, me_yX7_isSection⟩ (by decide) mkX7_44 gi_7 ⟨_, rfl⟩ rfl rfl (kX7_isSection _ _ _ _ hq1) rfl rfl (Nat.le_of_ble_eq_true rfl) dX7_section_2 5 rfl ?_
  refine gv_if_ne C dX7_section_5 10 (by decide) 8 rfl (fun c2 => ?_) (fun c2 => ?_)
  · replace h := gm_ip c2 h
    refine gv_iconst C (-1) rfl dX7_section_8 9 rfl ?_
    obtain rfl := Option.some.inj h
    exact gv_iret C E rfl rfl dX7_section_9
  · replace h := gm_iq c2 h
    refine gv_aload_n C rfl 0 rfl dX7_section_10 11 rfl ?_
    refine gv_iload_n C rfl 1 rfl dX7_section_11 12 rfl ?_
    obtain ⟨q3, hq3, h⟩ := gm_bd h
    refine gv_callVi C mc_yX7_isSingle ⟨mi_yX7_isSingle, me_yX7_isSingle⟩ (by decide) mkX7_58 gi_7 ⟨_, rfl⟩ rfl rfl (kX7_isSingle _ _ _ _ hq3) rfl rfl (Nat.le_of_ble_eq_true rfl) dX7_section_12 15 rfl ?_
    refine gv_istore_n C rfl [(3, _), (0, _), (1, _), (2, _)] (by decide) rfl dX7_section_15 16 rfl ?_
    refine gv_iload_n C rfl 3 rfl dX7_section_16 17 rfl ?_
    by_cases c4 : a2 = 0
    · replace h := gm_ip c4 h
      refine gv_tableIn C 0 c4 dX7_section_17 (by decide) (by decide) (o := 35) (by decide) 52 (by decide) ?_
      refine gv_iload_n C rfl 0 rfl dX7_section_52 53 rfl ?_
      refine gv_if_eq C dX7_section_53 60 (by decide) 56 rfl (fun c16 => ?_) (fun c16 => ?_)
      · replace h := gm_ip c16 h
        refine gv_iconst C 0 rfl dX7_section_60 61 rfl ?_
        obtain rfl := Option.some.inj h
        exact gv_iret C E rfl rfl dX7_section_61
      · replace h := gm_iq c16 h
        refine gv_iconst C 1 rfl dX7_section_56 57 rfl ?_
        refine gv_goto C dX7_section_57 61 (by decide) ?_
        obtain rfl := Option.some.inj h
        exact gv_iret C E rfl rfl dX7_section_61
    · replace h := gm_iq c4 h
      by_cases c5 : a2 = 1
      · replace h := gm_ip c5 h
        refine gv_tableIn C 1 c5 dX7_section_17 (by decide) (by decide) (o := 45) (by decide) 62 (by decide) ?_
        refine gv_aload_n C rfl 1 rfl dX7_section_62 63 rfl ?_
        refine gf_7_0 C gi_7 lkX7_7 dX7_section_63 66 rfl ?_
        refine gv_iconst C 3 rfl dX7_section_66 67 rfl ?_
        refine gv_iload_n C rfl 2 rfl dX7_section_67 68 rfl ?_
        refine gv_iadd C dX7_section_68 69 rfl ?_
        obtain ⟨g15, h⟩ := gm_gis h
        refine gv_iald C (gi_85 (c := 0) (by decide)) rfl g15 dX7_section_69 70 rfl ?_
        obtain rfl := Option.some.inj h
        exact gv_iret C E rfl rfl dX7_section_70
      · replace h := gm_iq c5 h
        by_cases c6 : a2 = 2
        · replace h := gm_ip c6 h
          refine gv_tableIn C 2 c6 dX7_section_17 (by decide) (by decide) (o := 54) (by decide) 71 (by decide) ?_
          refine gv_iload_n C rfl 0 rfl dX7_section_71 72 rfl ?_
          refine gv_if_eq C dX7_section_72 93 (by decide) 75 rfl (fun c13 => ?_) (fun c13 => ?_)
          · replace h := gm_ip c13 h
            refine gv_iconst C 0 rfl dX7_section_93 94 rfl ?_
            obtain rfl := Option.some.inj h
            exact gv_iret C E rfl rfl dX7_section_94
          · replace h := gm_iq c13 h
            refine gv_aload_n C rfl 1 rfl dX7_section_75 76 rfl ?_
            refine gf_7_0 C gi_7 lkX7_7 dX7_section_76 79 rfl ?_
            refine gv_bipush C 8 rfl dX7_section_79 81 rfl ?_
            refine gv_iconst C 2 rfl dX7_section_81 82 rfl ?_
            refine gv_iload_n C rfl 2 rfl dX7_section_82 83 rfl ?_
            refine gv_imul C dX7_section_83 84 rfl ?_
            refine gv_iadd C dX7_section_84 85 rfl ?_
            refine gv_iload_n C rfl 3 rfl dX7_section_85 86 rfl ?_
            refine gv_iadd C dX7_section_86 87 rfl ?_
            refine gv_iconst C 2 rfl dX7_section_87 88 rfl ?_
            refine gv_isub C dX7_section_88 89 rfl ?_
            obtain ⟨g14, h⟩ := gm_gis h
            refine gv_iald C (gi_85 (c := 0) (by decide)) rfl g14 dX7_section_89 90 rfl ?_
            refine gv_goto C dX7_section_90 94 (by decide) ?_
            obtain rfl := Option.some.inj h
            exact gv_iret C E rfl rfl dX7_section_94
        · replace h := gm_iq c6 h
          by_cases c7 : a2 = 3
          · replace h := gm_ip c7 h
            refine gv_tableIn C 3 c7 dX7_section_17 (by decide) (by decide) (o := 54) (by decide) 71 (by decide) ?_
            refine gv_iload_n C rfl 0 rfl dX7_section_71 72 rfl ?_
            refine gv_if_eq C dX7_section_72 93 (by decide) 75 rfl (fun c11 => ?_) (fun c11 => ?_)
            · replace h := gm_ip c11 h
              refine gv_iconst C 0 rfl dX7_section_93 94 rfl ?_
              obtain rfl := Option.some.inj h
              exact gv_iret C E rfl rfl dX7_section_94
            · replace h := gm_iq c11 h
              refine gv_aload_n C rfl 1 rfl dX7_section_75 76 rfl ?_
              refine gf_7_0 C gi_7 lkX7_7 dX7_section_76 79 rfl ?_
              refine gv_bipush C 8 rfl dX7_section_79 81 rfl ?_
              refine gv_iconst C 2 rfl dX7_section_81 82 rfl ?_
              refine gv_iload_n C rfl 2 rfl dX7_section_82 83 rfl ?_
              refine gv_imul C dX7_section_83 84 rfl ?_
              refine gv_iadd C dX7_section_84 85 rfl ?_
              refine gv_iload_n C rfl 3 rfl dX7_section_85 86 rfl ?_
              refine gv_iadd C dX7_section_86 87 rfl ?_
              refine gv_iconst C 2 rfl dX7_section_87 88 rfl ?_
              refine gv_isub C dX7_section_88 89 rfl ?_
              obtain ⟨g12, h⟩ := gm_gis h
              refine gv_iald C (gi_85 (c := 0) (by decide)) rfl g12 dX7_section_89 90 rfl ?_
              refine gv_goto C dX7_section_90 94 (by decide) ?_
              obtain rfl := Option.some.inj h
              exact gv_iret C E rfl rfl dX7_section_94
          · replace h := gm_iq c7 h
            by_cases c8 : a2 = 4
            · replace h := gm_ip c8 h
              refine gv_tableIn C 4 c8 dX7_section_17 (by decide) (by decide) (o := 78) (by decide) 95 (by decide) ?_
              refine gv_aload_n C rfl 1 rfl dX7_section_95 96 rfl ?_
              refine gv_iload_n C rfl 2 rfl dX7_section_96 97 rfl ?_
              obtain ⟨q9, hq9, h⟩ := gm_bd h
              refine gv_callVi C mc_yX7_isTokenOut ⟨mi_yX7_isTokenOut, me_yX7_isTokenOut⟩ (by decide) mkX7_68 gi_7 ⟨_, rfl⟩ rfl rfl (kX7_isTokenOut _ _ _ _ hq9) rfl rfl (Nat.le_of_ble_eq_true rfl) dX7_section_97 100 rfl ?_
              refine gv_if_eq C dX7_section_100 107 (by decide) 103 rfl (fun c10 => ?_) (fun c10 => ?_)
              · replace h := gm_ip c10 h
                refine gv_iconst C 0 rfl dX7_section_107 108 rfl ?_
                obtain rfl := Option.some.inj h
                exact gv_iret C E rfl rfl dX7_section_108
              · replace h := gm_iq c10 h
                refine gv_iconst C 1 rfl dX7_section_103 104 rfl ?_
                refine gv_goto C dX7_section_104 108 (by decide) ?_
                obtain rfl := Option.some.inj h
                exact gv_iret C E rfl rfl dX7_section_108
            · replace h := gm_iq c8 h
              refine gv_tableD C dX7_section_17 [0, 1, 2, 3, 4] (by decide) (by decide) (List.forall_mem_cons.mpr ⟨lv_neT c4 rfl, (List.forall_mem_cons.mpr ⟨lv_neT c5 rfl, (List.forall_mem_cons.mpr ⟨lv_neT c6 rfl, (List.forall_mem_cons.mpr ⟨lv_neT c7 rfl, (List.forall_mem_cons.mpr ⟨lv_neT c8 rfl, (fun _ h => absurd h List.not_mem_nil)⟩)⟩)⟩)⟩)⟩) 109 (by decide) ?_
              refine gv_bipush C (-2) rfl dX7_section_109 111 rfl ?_
              obtain rfl := Option.some.inj h
              exact gv_iret C E rfl rfl dX7_section_111
set_option maxRecDepth 100000 in
set_option maxHeartbeats 4000000 in
theorem kX7_isBlock (w : gm_Wd) (a1 a2 : Int32) (G : Gm) (q : Int32) (h : fX7_isBlock a1 a2 G = some q) : gm_C w yX7_isBlock cX7_isBlock 3 (some .boolean) 2 [.ref (gm_ad w 7 5 0), .int a1, .int a2] G (some (.int q)) G := by
  refine gm_start (by decide) (Nat.le_of_ble_eq_true rfl) ?_
  intro x hw C E
  subst hw
  have C : gm_X x cX7_isBlock 3 RX7 (some .boolean) 2 := C
  unfold fX7_isBlock at h
  refine gm_lv (lv' := [(0, _), (1, _), (2, _)]) rfl ?_
  refine gv_aload_n C rfl 0 rfl dX7_isBlock_0 1 rfl ?_
  refine gv_iload_n C rfl 1 rfl dX7_isBlock_1 2 rfl ?_
  obtain ⟨q1, hq1, h⟩ := gm_bd h
  refine gv_callVi C mc_yX7_isSection ⟨mi_yX7_isSection, me_yX7_isSection⟩ (by decide) mkX7_44 gi_7 ⟨_, rfl⟩ rfl rfl (kX7_isSection _ _ _ _ hq1) rfl rfl (Nat.le_of_ble_eq_true rfl) dX7_isBlock_2 5 rfl ?_
  refine gv_if_eq C dX7_isBlock_5 19 (by decide) 8 rfl (fun c2 => ?_) (fun c2 => ?_)
  · replace h := gm_ip c2 h
    refine gv_iconst C 0 rfl dX7_isBlock_19 20 rfl ?_
    obtain rfl := Option.some.inj h
    exact gv_zret C E (Or.inl rfl) rfl rfl dX7_isBlock_20
  · replace h := gm_iq c2 h
    refine gv_iload_n C rfl 2 rfl dX7_isBlock_8 9 rfl ?_
    obtain ⟨q3, hq3, h⟩ := gm_bd h
    refine gv_callSi C mc_yX7_isWay ms_yX7_isWay (by decide) mkX7_48 (kX7_isWay _ _ _ _ hq3) rfl rfl (Nat.le_of_ble_eq_true rfl) dX7_isBlock_9 12 rfl ?_
    refine gv_if_eq C dX7_isBlock_12 19 (by decide) 15 rfl (fun c4 => ?_) (fun c4 => ?_)
    · replace h := gm_ip c4 h
      refine gv_iconst C 0 rfl dX7_isBlock_19 20 rfl ?_
      obtain rfl := Option.some.inj h
      exact gv_zret C E (Or.inl rfl) rfl rfl dX7_isBlock_20
    · replace h := gm_iq c4 h
      refine gv_iconst C 1 rfl dX7_isBlock_15 16 rfl ?_
      refine gv_goto C dX7_isBlock_16 20 (by decide) ?_
      obtain rfl := Option.some.inj h
      exact gv_zret C E (Or.inr rfl) rfl rfl dX7_isBlock_20
set_option maxRecDepth 100000 in
set_option maxHeartbeats 4000000 in
theorem kX7_block (w : gm_Wd) (a1 a2 a3 : Int32) (G : Gm) (q : Int32) (h : fX7_block a1 a2 a3 G = some q) : gm_C w yX7_block cX7_block 4 (some .int) 3 [.ref (gm_ad w 7 5 0), .int a1, .int a2, .int a3] G (some (.int q)) G := by
  refine gm_start (by decide) (Nat.le_of_ble_eq_true rfl) ?_
  intro x hw C E
  subst hw
  have C : gm_X x cX7_block 4 RX7 (some .int) 3 := C
  unfold fX7_block at h
  refine gm_lv (lv' := [(0, _), (1, _), (2, _), (3, _)]) rfl ?_
  refine gv_aload_n C rfl 0 rfl dX7_block_0 1 rfl ?_
  refine gv_iload_n C rfl 1 rfl dX7_block_1 2 rfl ?_
  refine gv_iload_n C rfl 2 rfl dX7_block_2 3 rfl ?_
  obtain ⟨q1, hq1, h⟩ := gm_bd h
  refine gv_callVi C mc_yX7_isBlock ⟨mi_yX7_isBlock, me_yX7_isBlock⟩ (by decide) mkX7_71 gi_7 ⟨_, rfl⟩ rfl rfl (kX7_isBlock _ _ _ _ _ hq1) rfl rfl (Nat.le_of_ble_eq_true rfl) dX7_block_3 6 rfl ?_
  refine gv_if_ne C dX7_block_6 11 (by decide) 9 rfl (fun c2 => ?_) (fun c2 => ?_)
  · replace h := gm_ip c2 h
    refine gv_iconst C (-1) rfl dX7_block_9 10 rfl ?_
    obtain rfl := Option.some.inj h
    exact gv_iret C E rfl rfl dX7_block_10
  · replace h := gm_iq c2 h
    refine gv_iload_n C rfl 3 rfl dX7_block_11 12 rfl ?_
    refine gv_iconst C 0 rfl dX7_block_12 13 rfl ?_
    refine gv_iconst C 4 rfl dX7_block_13 14 rfl ?_
    obtain ⟨q3, hq3, h⟩ := gm_bd h
    refine gv_callSi C mc_yX7_in ms_yX7_in (by decide) mkX7_40 (kX7_in _ _ _ _ _ _ hq3) rfl rfl (Nat.le_of_ble_eq_true rfl) dX7_block_14 17 rfl ?_
    refine gv_if_eq C dX7_block_17 30 (by decide) 20 rfl (fun c4 => ?_) (fun c4 => ?_)
    · replace h := gm_ip c4 h
      refine gv_bipush C (-2) rfl dX7_block_30 32 rfl ?_
      obtain rfl := Option.some.inj h
      exact gv_iret C E rfl rfl dX7_block_32
    · replace h := gm_iq c4 h
      refine gv_aload_n C rfl 0 rfl dX7_block_20 21 rfl ?_
      refine gv_iload_n C rfl 1 rfl dX7_block_21 22 rfl ?_
      refine gv_iload_n C rfl 2 rfl dX7_block_22 23 rfl ?_
      refine gv_iload_n C rfl 3 rfl dX7_block_23 24 rfl ?_
      obtain ⟨q5, hq5, h⟩ := gm_bd h
      refine gv_callVi C mc_yX7_ofBlock ⟨mi_yX7_ofBlock, me_yX7_ofBlock⟩ (by decide) mkX7_55 gi_7 ⟨_, rfl⟩ rfl rfl (kX7_ofBlock _ _ _ _ _ _ hq5) rfl rfl (Nat.le_of_ble_eq_true rfl) dX7_block_24 27 rfl ?_
      refine gv_goto C dX7_block_27 32 (by decide) ?_
      obtain rfl := Option.some.inj h
      exact gv_iret C E rfl rfl dX7_block_32
set_option maxRecDepth 100000 in
set_option maxHeartbeats 4000000 in
theorem kX7_firstBox (w : gm_Wd) (a1 : Int32) (G : Gm) (q : Int32) (h : fX7_firstBox a1 G = some q) : gm_C w yX7_firstBox cX7_firstBox 2 (some .int) 0 [.ref (gm_ad w 7 5 0), .int a1] G (some (.int q)) G := by
  refine gm_start (by decide) (Nat.le_of_ble_eq_true rfl) ?_
  intro x hw C E
  subst hw
  have C : gm_X x cX7_firstBox 2 RX7 (some .int) 0 := C
  unfold fX7_firstBox at h
  refine gm_lv (lv' := [(0, _), (1, _)]) rfl ?_
  refine gv_iload_n C rfl 1 rfl dX7_firstBox_0 1 rfl ?_
  refine gv_if_ne C dX7_firstBox_1 8 (by decide) 4 rfl (fun c1 => ?_) (fun c1 => ?_)
  · replace h := gm_ip c1 h
    refine gv_iconst C 0 rfl dX7_firstBox_4 5 rfl ?_
    refine gv_goto C dX7_firstBox_5 16 (by decide) ?_
    obtain rfl := Option.some.inj h
    exact gv_iret C E rfl rfl dX7_firstBox_16
  · replace h := gm_iq c1 h
    refine gv_aload_n C rfl 0 rfl dX7_firstBox_8 9 rfl ?_
    refine gf_7_0 C gi_7 lkX7_7 dX7_firstBox_9 12 rfl ?_
    refine gv_iconst C 1 rfl dX7_firstBox_12 13 rfl ?_
    refine gv_ialdK C 1 (by decide) (gi_85 (c := 0) (by decide)) rfl (by decide) dX7_firstBox_13 14 rfl ?_
    refine gv_iconst C 1 rfl dX7_firstBox_14 15 rfl ?_
    refine gv_isub C dX7_firstBox_15 16 rfl ?_
    obtain rfl := Option.some.inj h
    exact gv_iret C E rfl rfl dX7_firstBox_16
set_option maxRecDepth 100000 in
set_option maxHeartbeats 4000000 in
theorem kX7_isFree (w : gm_Wd) (a1 a2 : Int32) (G : Gm) (q : Int32) (h : fX7_isFree a1 a2 G = some q) : gm_C w yX7_isFree cX7_isFree 3 (some .boolean) 2 [.ref (gm_ad w 7 5 0), .int a1, .int a2] G (some (.int q)) G := by
  refine gm_start (by decide) (Nat.le_of_ble_eq_true rfl) ?_
  intro x hw C E
  subst hw
  have C : gm_X x cX7_isFree 3 RX7 (some .boolean) 2 := C
  unfold fX7_isFree at h
  refine gm_lv (lv' := [(0, _), (1, _), (2, _)]) rfl ?_
  refine gv_aload_n C rfl 0 rfl dX7_isFree_0 1 rfl ?_
  refine gv_iload_n C rfl 1 rfl dX7_isFree_1 2 rfl ?_
  refine gv_iload_n C rfl 2 rfl dX7_isFree_2 3 rfl ?_
  refine gv_iconst C 0 rfl dX7_isFree_3 4 rfl ?_
  obtain ⟨q1, hq1, h⟩ := gm_bd h
  refine gv_callVi C mc_yX7_many ⟨mi_yX7_many, me_yX7_many⟩ (by decide) mkX7_65 gi_7 ⟨_, rfl⟩ rfl rfl (kX7_many _ _ _ _ _ _ hq1) rfl rfl (Nat.le_of_ble_eq_true rfl) dX7_isFree_4 7 rfl ?_
  refine gv_if_ne C dX7_isFree_7 14 (by decide) 10 rfl (fun c2 => ?_) (fun c2 => ?_)
  · replace h := gm_ip c2 h
    refine gv_iconst C 1 rfl dX7_isFree_10 11 rfl ?_
    refine gv_goto C dX7_isFree_11 15 (by decide) ?_
    obtain rfl := Option.some.inj h
    exact gv_zret C E (Or.inr rfl) rfl rfl dX7_isFree_15
  · replace h := gm_iq c2 h
    refine gv_iconst C 0 rfl dX7_isFree_14 15 rfl ?_
    obtain rfl := Option.some.inj h
    exact gv_zret C E (Or.inl rfl) rfl rfl dX7_isFree_15
set_option maxRecDepth 100000 in
set_option maxHeartbeats 4000000 in
theorem kX7_layTrain (w : gm_Wd) (a1 a2 a3 : Int32) (G : Gm) (q : Gm) (h : fX7_layTrain a1 a2 a3 G = some q) : gm_C w yX7_layTrain cX7_layTrain 4 none 0 [.ref (gm_ad w 7 5 0), .int a1, .int a2, .int a3] G none q := by
  refine gm_start (by decide) (Nat.le_of_ble_eq_true rfl) ?_
  intro x hw C E
  subst hw
  have C : gm_X x cX7_layTrain 4 RX7 none 0 := C
  unfold fX7_layTrain at h
  refine gm_lv (lv' := [(0, _), (1, _), (2, _), (3, _)]) rfl ?_
  refine gv_aload_n C rfl 0 rfl dX7_layTrain_0 1 rfl ?_
  refine gf_7_0 C gi_7 lkX7_7 dX7_layTrain_1 4 rfl ?_
  refine gv_sipush C 382 rfl dX7_layTrain_4 7 rfl ?_
  refine gv_bipush C 8 rfl dX7_layTrain_7 9 rfl ?_
  refine gv_iload_n C rfl 1 rfl dX7_layTrain_9 10 rfl ?_
  refine gv_imul C dX7_layTrain_10 11 rfl ?_
  refine gv_iadd C dX7_layTrain_11 12 rfl ?_
  refine gv_iload_n C rfl 2 rfl dX7_layTrain_12 13 rfl ?_
  refine gv_iadd C dX7_layTrain_13 14 rfl ?_
  refine gv_iload_n C rfl 3 rfl dX7_layTrain_14 15 rfl ?_
  obtain ⟨g1, h⟩ := gm_gis h
  refine gv_iast C (gi_85 (c := 0) (by decide)) rfl g1 dX7_layTrain_15 16 rfl ?_
  obtain rfl := Option.some.inj h
  exact gv_vret C E rfl rfl dX7_layTrain_16
set_option maxRecDepth 100000 in
set_option maxHeartbeats 4000000 in
theorem kX7_add (w : gm_Wd) (a1 a2 : Int32) (G : Gm) (q : Int32 × Gm) (h : fX7_add a1 a2 G = some q) : gm_C w yX7_add cX7_add 4 (some .int) 1 [.ref (gm_ad w 7 5 0), .int a1, .int a2] G (some (.int q.1)) q.2 := by
  refine gm_start (by decide) (Nat.le_of_ble_eq_true rfl) ?_
  intro x hw C E
  subst hw
  have C : gm_X x cX7_add 4 RX7 (some .int) 1 := C
  unfold fX7_add at h
  refine gm_lv (lv' := [(0, _), (1, _), (2, _)]) rfl ?_
  refine gv_aload_n C rfl 0 rfl dX7_add_0 1 rfl ?_
  refine gf_7_0 C gi_7 lkX7_7 dX7_add_1 4 rfl ?_
  refine gv_sipush C 381 rfl dX7_add_4 7 rfl ?_
  refine gv_ialdK C 381 (by decide) (gi_85 (c := 0) (by decide)) rfl (by decide) dX7_add_7 8 rfl ?_
  refine gv_istore_n C rfl [(3, _), (0, _), (1, _), (2, _)] (by decide) rfl dX7_add_8 9 rfl ?_
  refine gv_aload_n C rfl 1 rfl dX7_add_9 10 rfl ?_
  refine gv_iload_n C rfl 0 rfl dX7_add_10 11 rfl ?_
  refine gv_iconst C 0 rfl dX7_add_11 12 rfl ?_
  refine gv_iload_n C rfl 2 rfl dX7_add_12 13 rfl ?_
  obtain ⟨q1, hq1, h⟩ := gm_bd h
  refine gv_callVv C mc_yX7_layTrain ⟨mi_yX7_layTrain, me_yX7_layTrain⟩ (by decide) mkX7_75 gi_7 ⟨_, rfl⟩ rfl rfl (kX7_layTrain _ _ _ _ _ _ hq1) rfl rfl (Nat.le_of_ble_eq_true rfl) dX7_add_13 16 rfl ?_
  refine gv_aload_n C rfl 1 rfl dX7_add_16 17 rfl ?_
  refine gv_iload_n C rfl 0 rfl dX7_add_17 18 rfl ?_
  refine gv_iconst C 1 rfl dX7_add_18 19 rfl ?_
  refine gv_iload_n C rfl 3 rfl dX7_add_19 20 rfl ?_
  obtain ⟨q2, hq2, h⟩ := gm_bd h
  refine gv_callVv C mc_yX7_layTrain ⟨mi_yX7_layTrain, me_yX7_layTrain⟩ (by decide) mkX7_75 gi_7 ⟨_, rfl⟩ rfl rfl (kX7_layTrain _ _ _ _ _ _ hq2) rfl rfl (Nat.le_of_ble_eq_true rfl) dX7_add_20 23 rfl ?_
  refine gv_aload_n C rfl 1 rfl dX7_add_23 24 rfl ?_
  refine gv_iload_n C rfl 0 rfl dX7_add_24 25 rfl ?_
  refine gv_iconst C 2 rfl dX7_add_25 26 rfl ?_
  refine gv_iconst C 0 rfl dX7_add_26 27 rfl ?_
  obtain ⟨q3, hq3, h⟩ := gm_bd h
  refine gv_callVv C mc_yX7_layTrain ⟨mi_yX7_layTrain, me_yX7_layTrain⟩ (by decide) mkX7_75 gi_7 ⟨_, rfl⟩ rfl rfl (kX7_layTrain _ _ _ _ _ _ hq3) rfl rfl (Nat.le_of_ble_eq_true rfl) dX7_add_27 30 rfl ?_
  refine gv_aload_n C rfl 1 rfl dX7_add_30 31 rfl ?_
  refine gv_iload_n C rfl 0 rfl dX7_add_31 32 rfl ?_
  refine gv_iconst C 3 rfl dX7_add_32 33 rfl ?_
  refine gv_aload_n C rfl 1 rfl dX7_add_33 34 rfl ?_
  refine gv_iload_n C rfl 3 rfl dX7_add_34 35 rfl ?_
  obtain ⟨q4, hq4, h⟩ := gm_bd h
  refine gv_callVi C mc_yX7_firstBox ⟨mi_yX7_firstBox, me_yX7_firstBox⟩ (by decide) mkX7_79 gi_7 ⟨_, rfl⟩ rfl rfl (kX7_firstBox _ _ _ _ hq4) rfl rfl (Nat.le_of_ble_eq_true rfl) dX7_add_35 38 rfl ?_
  obtain ⟨q5, hq5, h⟩ := gm_bd h
  refine gv_callVv C mc_yX7_layTrain ⟨mi_yX7_layTrain, me_yX7_layTrain⟩ (by decide) mkX7_75 gi_7 ⟨_, rfl⟩ rfl rfl (kX7_layTrain _ _ _ _ _ _ hq5) rfl rfl (Nat.le_of_ble_eq_true rfl) dX7_add_38 41 rfl ?_
  refine gv_aload_n C rfl 1 rfl dX7_add_41 42 rfl ?_
  refine gv_iload_n C rfl 0 rfl dX7_add_42 43 rfl ?_
  refine gv_iconst C 4 rfl dX7_add_43 44 rfl ?_
  refine gv_iconst C 0 rfl dX7_add_44 45 rfl ?_
  obtain ⟨q6, hq6, h⟩ := gm_bd h
  refine gv_callVv C mc_yX7_layTrain ⟨mi_yX7_layTrain, me_yX7_layTrain⟩ (by decide) mkX7_75 gi_7 ⟨_, rfl⟩ rfl rfl (kX7_layTrain _ _ _ _ _ _ hq6) rfl rfl (Nat.le_of_ble_eq_true rfl) dX7_add_45 48 rfl ?_
  refine gv_aload_n C rfl 1 rfl dX7_add_48 49 rfl ?_
  refine gv_iload_n C rfl 0 rfl dX7_add_49 50 rfl ?_
  refine gv_iconst C 5 rfl dX7_add_50 51 rfl ?_
  refine gv_iconst C 1 rfl dX7_add_51 52 rfl ?_
  obtain ⟨q7, hq7, h⟩ := gm_bd h
  refine gv_callVv C mc_yX7_layTrain ⟨mi_yX7_layTrain, me_yX7_layTrain⟩ (by decide) mkX7_75 gi_7 ⟨_, rfl⟩ rfl rfl (kX7_layTrain _ _ _ _ _ _ hq7) rfl rfl (Nat.le_of_ble_eq_true rfl) dX7_add_52 55 rfl ?_
  refine gv_aload_n C rfl 1 rfl dX7_add_55 56 rfl ?_
  refine gv_iload_n C rfl 0 rfl dX7_add_56 57 rfl ?_
  refine gv_bipush C 6 rfl dX7_add_57 59 rfl ?_
  refine gv_aload_n C rfl 1 rfl dX7_add_59 60 rfl ?_
  refine gf_7_0 C gi_7 lkX7_7 dX7_add_60 63 rfl ?_
  refine gv_iconst C 0 rfl dX7_add_63 64 rfl ?_
  refine gv_ialdK C 0 (by decide) (gi_85 (c := 0) (by decide)) rfl (by decide) dX7_add_64 65 rfl ?_
  obtain ⟨q8, hq8, h⟩ := gm_bd h
  refine gv_callVv C mc_yX7_layTrain ⟨mi_yX7_layTrain, me_yX7_layTrain⟩ (by decide) mkX7_75 gi_7 ⟨_, rfl⟩ rfl rfl (kX7_layTrain _ _ _ _ _ _ hq8) rfl rfl (Nat.le_of_ble_eq_true rfl) dX7_add_65 68 rfl ?_
  refine gv_aload_n C rfl 1 rfl dX7_add_68 69 rfl ?_
  refine gv_iload_n C rfl 0 rfl dX7_add_69 70 rfl ?_
  refine gv_bipush C 7 rfl dX7_add_70 72 rfl ?_
  refine gv_bipush C (-6) rfl dX7_add_72 74 rfl ?_
  obtain ⟨q9, hq9, h⟩ := gm_bd h
  refine gv_callVv C mc_yX7_layTrain ⟨mi_yX7_layTrain, me_yX7_layTrain⟩ (by decide) mkX7_75 gi_7 ⟨_, rfl⟩ rfl rfl (kX7_layTrain _ _ _ _ _ _ hq9) rfl rfl (Nat.le_of_ble_eq_true rfl) dX7_add_74 77 rfl ?_
  refine gv_aload_n C rfl 1 rfl dX7_add_77 78 rfl ?_
  refine gf_7_0 C gi_7 lkX7_7 dX7_add_78 81 rfl ?_
  refine gv_sipush C 381 rfl dX7_add_81 84 rfl ?_
  refine gv_dup2 C rfl rfl dX7_add_84 85 rfl ?_
  refine gv_ialdK C 381 (by decide) (gi_85 (c := 0) (by decide)) rfl (by decide) dX7_add_85 86 rfl ?_
  refine gv_iconst C 1 rfl dX7_add_86 87 rfl ?_
  refine gv_iadd C dX7_add_87 88 rfl ?_
  refine gv_iastK C 381 (by decide) (gi_85 (c := 0) (by decide)) rfl (by decide) dX7_add_88 89 rfl ?_
  refine gv_iload_n C rfl 0 rfl dX7_add_89 90 rfl ?_
  obtain rfl := Option.some.inj h
  exact gv_iret C E rfl rfl dX7_add_90
set_option maxRecDepth 100000 in
set_option maxHeartbeats 4000000 in
theorem kX7_appear (w : gm_Wd) (a1 a2 : Int32) (G : Gm) (q : Int32 × Gm) (h : fX7_appear a1 a2 G = some q) : gm_C w yX7_appear cX7_appear 3 (some .int) 3 [.ref (gm_ad w 7 5 0), .int a1, .int a2] G (some (.int q.1)) q.2 := by
  refine gm_start (by decide) (Nat.le_of_ble_eq_true rfl) ?_
  intro x hw C E
  subst hw
  have C : gm_X x cX7_appear 3 RX7 (some .int) 3 := C
  unfold fX7_appear at h
  refine gm_lv (lv' := [(0, _), (1, _), (2, _)]) rfl ?_
  refine gv_iload_n C rfl 1 rfl dX7_appear_0 1 rfl ?_
  refine gv_iconst C 1 rfl dX7_appear_1 2 rfl ?_
  refine gv_iconst C 5 rfl dX7_appear_2 3 rfl ?_
  obtain ⟨q1, hq1, h⟩ := gm_bd h
  refine gv_callSi C mc_yX7_in ms_yX7_in (by decide) mkX7_40 (kX7_in _ _ _ _ _ _ hq1) rfl rfl (Nat.le_of_ble_eq_true rfl) dX7_appear_3 6 rfl ?_
  refine gv_if_eq C dX7_appear_6 16 (by decide) 9 rfl (fun c2 => ?_) (fun c2 => ?_)
  · replace h := gm_ip c2 h
    refine gv_bipush C (-2) rfl dX7_appear_16 18 rfl ?_
    obtain rfl := Option.some.inj h
    exact gv_iret C E rfl rfl dX7_appear_18
  · replace h := gm_iq c2 h
    refine gv_iload_n C rfl 2 rfl dX7_appear_9 10 rfl ?_
    obtain ⟨q3, hq3, h⟩ := gm_bd h
    refine gv_callSi C mc_yX7_isWay ms_yX7_isWay (by decide) mkX7_48 (kX7_isWay _ _ _ _ hq3) rfl rfl (Nat.le_of_ble_eq_true rfl) dX7_appear_10 13 rfl ?_
    refine gv_if_ne C dX7_appear_13 19 (by decide) 16 rfl (fun c4 => ?_) (fun c4 => ?_)
    · replace h := gm_ip c4 h
      refine gv_bipush C (-2) rfl dX7_appear_16 18 rfl ?_
      obtain rfl := Option.some.inj h
      exact gv_iret C E rfl rfl dX7_appear_18
    · replace h := gm_iq c4 h
      refine gv_aload_n C rfl 0 rfl dX7_appear_19 20 rfl ?_
      refine gf_7_0 C gi_7 lkX7_7 dX7_appear_20 23 rfl ?_
      refine gv_sipush C 381 rfl dX7_appear_23 26 rfl ?_
      refine gv_ialdK C 381 (by decide) (gi_85 (c := 0) (by decide)) rfl (by decide) dX7_appear_26 27 rfl ?_
      refine gv_bipush C 12 rfl dX7_appear_27 29 rfl ?_
      refine gv_icmp_ne C dX7_appear_29 35 (by decide) 32 rfl (fun c5 => ?_) (fun c5 => ?_)
      · replace h := gm_ip c5 h
        refine gv_bipush C (-4) rfl dX7_appear_32 34 rfl ?_
        obtain rfl := Option.some.inj h
        exact gv_iret C E rfl rfl dX7_appear_34
      · replace h := gm_iq c5 h
        refine gv_aload_n C rfl 0 rfl dX7_appear_35 36 rfl ?_
        refine gv_aload_n C rfl 0 rfl dX7_appear_36 37 rfl ?_
        refine gv_iload_n C rfl 2 rfl dX7_appear_37 38 rfl ?_
        obtain ⟨q6, hq6, h⟩ := gm_bd h
        refine gv_callVi C mc_yX7_firstBox ⟨mi_yX7_firstBox, me_yX7_firstBox⟩ (by decide) mkX7_79 gi_7 ⟨_, rfl⟩ rfl rfl (kX7_firstBox _ _ _ _ hq6) rfl rfl (Nat.le_of_ble_eq_true rfl) dX7_appear_38 41 rfl ?_
        refine gv_iload_n C rfl 2 rfl dX7_appear_41 42 rfl ?_
        obtain ⟨q7, hq7, h⟩ := gm_bd h
        refine gv_callVi C mc_yX7_isFree ⟨mi_yX7_isFree, me_yX7_isFree⟩ (by decide) mkX7_83 gi_7 ⟨_, rfl⟩ rfl rfl (kX7_isFree _ _ _ _ _ hq7) rfl rfl (Nat.le_of_ble_eq_true rfl) dX7_appear_42 45 rfl ?_
        refine gv_if_eq C dX7_appear_45 57 (by decide) 48 rfl (fun c8 => ?_) (fun c8 => ?_)
        · replace h := gm_ip c8 h
          refine gv_bipush C (-5) rfl dX7_appear_57 59 rfl ?_
          obtain rfl := Option.some.inj h
          exact gv_iret C E rfl rfl dX7_appear_59
        · replace h := gm_iq c8 h
          refine gv_aload_n C rfl 0 rfl dX7_appear_48 49 rfl ?_
          refine gv_iload_n C rfl 1 rfl dX7_appear_49 50 rfl ?_
          refine gv_iload_n C rfl 2 rfl dX7_appear_50 51 rfl ?_
          obtain ⟨q9, hq9, h⟩ := gm_bd h
          refine gv_callVi C mc_yX7_add ⟨mi_yX7_add, me_yX7_add⟩ (by decide) mkX7_86 gi_7 ⟨_, rfl⟩ rfl rfl (kX7_add _ _ _ _ _ hq9) rfl rfl (Nat.le_of_ble_eq_true rfl) dX7_appear_51 54 rfl ?_
          refine gv_goto C dX7_appear_54 59 (by decide) ?_
          obtain rfl := Option.some.inj h
          exact gv_iret C E rfl rfl dX7_appear_59
