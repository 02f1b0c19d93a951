set_option maxRecDepth 100000 in
set_option maxHeartbeats 4000000 in
theorem kX7_work (w : gm_Wd) (a1 : Int32) (G : Gm) (q : Int32 × Gm) (h : fX7_work a1 G = some q) : gm_C w yX7_work cX7_work 4 (some .int) 7 [.ref (gm_ad w 7 5 0), .int a1] G (some (.int q.1)) q.2 := by
  refine gm_start (by decide) (Nat.le_of_ble_eq_true rfl) ?_
  intro x hw C E
  subst hw
  have C : gm_X x cX7_work 4 RX7 (some .int) 7 := C
  unfold fX7_work at h
  have L38 : ∀ (n38 : Nat) (v2 v3 : Int32) (G : Gm), fX7_work_h38 a1 n38 v2 v3 G = some q → gm_V x G 38 [(0, .ref (gm_ad (cx_w x) 7 5 0)), (1, .int a1), (2, .int v2), (3, .int v3)] [] := by
    intro n38
    induction n38 with
    | zero => intro v2 v3 G h; cases h
    | succ n38 ih38 =>
      intro v2 v3 G h
      rw [fX7_work_h38.eq_2] at h
      refine gv_iload_n C rfl 3 rfl dX7_work_38 39 rfl ?_
      refine gv_iload_n C rfl 1 rfl dX7_work_39 40 rfl ?_
      refine gv_icmp_ge C dX7_work_40 53 (by decide) 43 rfl (fun c5 => ?_) (fun c5 => ?_)
      · replace h := gm_ip c5 h
        refine gv_aload_n C rfl 0 rfl dX7_work_53 54 rfl ?_
        refine gv_iconst C 3 rfl dX7_work_54 55 rfl ?_
        obtain ⟨q6, hq6, h⟩ := gm_bd h
        refine gv_callVi C mc_yX7_trainsAt ⟨mi_yX7_trainsAt, me_yX7_trainsAt⟩ (by decide) mkX7_165 gi_7 ⟨_, rfl⟩ rfl rfl (kX7_trainsAt _ _ _ _ hq6) rfl rfl (Nat.le_of_ble_eq_true rfl) dX7_work_55 58 rfl ?_
        refine gv_iload_n C rfl 2 rfl dX7_work_58 59 rfl ?_
        refine gv_isub C dX7_work_59 60 rfl ?_
        obtain rfl := Option.some.inj h
        exact gv_iret C E rfl rfl dX7_work_60
      · replace h := gm_iq c5 h
        refine gv_aload_n C rfl 0 rfl dX7_work_43 44 rfl ?_
        obtain ⟨q7, hq7, h⟩ := gm_bd h
        refine gv_callVv C mc_yX7_workTick ⟨mi_yX7_workTick, me_yX7_workTick⟩ (by decide) mkX7_168 gi_7 ⟨_, rfl⟩ rfl rfl (kX7_workTick _  _ _ hq7) rfl rfl (Nat.le_of_ble_eq_true rfl) dX7_work_44 47 rfl ?_
        refine gv_iinc C 3 rfl rfl [(3, _), (0, _), (1, _), (2, _)] (by decide) rfl dX7_work_47 50 rfl ?_
        refine gv_goto C dX7_work_50 38 (by decide) ?_
        refine gm_ls [1, 2, 3, 0] rfl ?_
        exact ih38 _ _ _ h
  refine gm_lv (lv' := [(0, _), (1, _)]) rfl ?_
  refine gv_iload_n C rfl 1 rfl dX7_work_0 1 rfl ?_
  refine gv_iconst C 1 rfl dX7_work_1 2 rfl ?_
  refine gv_sipush C 300 rfl dX7_work_2 5 rfl ?_
  obtain ⟨q1, hq1, h⟩ := gm_bd h
  refine gv_callSi C mc_yX7_in ms_yX7_in (by decide) mkX7_40 (kX7_in _ _ _ _ _ _ hq1) rfl rfl (Nat.le_of_ble_eq_true rfl) dX7_work_5 8 rfl ?_
  refine gv_if_ne C dX7_work_8 14 (by decide) 11 rfl (fun c2 => ?_) (fun c2 => ?_)
  · replace h := gm_ip c2 h
    refine gv_bipush C (-2) rfl dX7_work_11 13 rfl ?_
    obtain rfl := Option.some.inj h
    exact gv_iret C E rfl rfl dX7_work_13
  · replace h := gm_iq c2 h
    refine gv_aload_n C rfl 0 rfl dX7_work_14 15 rfl ?_
    refine gf_7_0 C gi_7 lkX7_7 dX7_work_15 18 rfl ?_
    refine gv_iconst C 0 rfl dX7_work_18 19 rfl ?_
    refine gv_ialdK C 0 (by decide) (gi_85 (c := 0) (by decide)) rfl (by decide) dX7_work_19 20 rfl ?_
    refine gv_iload_n C rfl 1 rfl dX7_work_20 21 rfl ?_
    refine gv_iadd C dX7_work_21 22 rfl ?_
    refine gv_ldc C 1000000 knX7_132 dX7_work_22 24 rfl ?_
    refine gv_icmp_le C dX7_work_24 30 (by decide) 27 rfl (fun c3 => ?_) (fun c3 => ?_)
    · replace h := gm_ip c3 h
      refine gv_aload_n C rfl 0 rfl dX7_work_30 31 rfl ?_
      refine gv_iconst C 3 rfl dX7_work_31 32 rfl ?_
      obtain ⟨q4, hq4, h⟩ := gm_bd h
      refine gv_callVi C mc_yX7_trainsAt ⟨mi_yX7_trainsAt, me_yX7_trainsAt⟩ (by decide) mkX7_165 gi_7 ⟨_, rfl⟩ rfl rfl (kX7_trainsAt _ _ _ _ hq4) rfl rfl (Nat.le_of_ble_eq_true rfl) dX7_work_32 35 rfl ?_
      refine gv_istore_n C rfl [(2, _), (0, _), (1, _)] (by decide) rfl dX7_work_35 36 rfl ?_
      refine gv_iconst C 0 rfl dX7_work_36 37 rfl ?_
      refine gv_istore_n C rfl [(3, _), (2, _), (0, _), (1, _)] (by decide) rfl dX7_work_37 38 rfl ?_
      refine gm_ls [2, 3, 1, 0] rfl ?_
      exact L38 _ _ _ _ h
    · replace h := gm_iq c3 h
      refine gv_bipush C (-5) rfl dX7_work_27 29 rfl ?_
      obtain rfl := Option.some.inj h
      exact gv_iret C E rfl rfl dX7_work_29
set_option maxRecDepth 100000 in
set_option maxHeartbeats 4000000 in
theorem kX7_putAside (w : gm_Wd) (G : Gm) (q : Gm) (h : fX7_putAside G = some q) : gm_C w yX7_putAside cX7_putAside 2 none 0 [.ref (gm_ad w 7 5 0)] G none q := by
  refine gm_start (by decide) (Nat.le_of_ble_eq_true rfl) ?_
  intro x hw C E
  subst hw
  have C : gm_X x cX7_putAside 2 RX7 none 0 := C
  unfold fX7_putAside at h
  have L2 : ∀ (n2 : Nat) (v1 : Int32) (G : Gm), fX7_putAside_h2 n2 v1 G = some q → gm_V x G 2 [(0, .ref (gm_ad (cx_w x) 7 5 0)), (1, .int v1)] [] := by
    intro n2
    induction n2 with
    | zero => intro v1 G h; cases h
    | succ n2 ih2 =>
      intro v1 G h
      rw [fX7_putAside_h2.eq_2] at h
      refine gv_iload_n C rfl 1 rfl dX7_putAside_2 3 rfl ?_
      refine gv_sipush C 2862 rfl dX7_putAside_3 6 rfl ?_
      refine gv_icmp_ge C dX7_putAside_6 27 (by decide) 9 rfl (fun c1 => ?_) (fun c1 => ?_)
      · replace h := gm_ip c1 h
        obtain rfl := Option.some.inj h
        exact gv_vret C E rfl rfl dX7_putAside_27
      · replace h := gm_iq c1 h
        refine gv_aload_n C rfl 0 rfl dX7_putAside_9 10 rfl ?_
        refine gf_7_1 C gi_7 lkX7_13 dX7_putAside_10 13 rfl ?_
        refine gv_iload_n C rfl 1 rfl dX7_putAside_13 14 rfl ?_
        refine gv_aload_n C rfl 0 rfl dX7_putAside_14 15 rfl ?_
        refine gf_7_0 C gi_7 lkX7_7 dX7_putAside_15 18 rfl ?_
        refine gv_iload_n C rfl 1 rfl dX7_putAside_18 19 rfl ?_
        obtain ⟨g2, h⟩ := gm_gis h
        refine gv_iald C (gi_85 (c := 0) (by decide)) rfl g2 dX7_putAside_19 20 rfl ?_
        obtain ⟨g3, h⟩ := gm_gis h
        refine gv_iast C (gi_85 (c := 1) (by decide)) rfl g3 dX7_putAside_20 21 rfl ?_
        refine gv_iinc C 1 rfl rfl [(1, _), (0, _)] (by decide) rfl dX7_putAside_21 24 rfl ?_
        refine gv_goto C dX7_putAside_24 2 (by decide) ?_
        refine gm_ls [1, 0] rfl ?_
        exact ih2 _ _ h
  refine gm_lv (lv' := [(0, _)]) rfl ?_
  refine gv_iconst C 0 rfl dX7_putAside_0 1 rfl ?_
  refine gv_istore_n C rfl [(1, _), (0, _)] (by decide) rfl dX7_putAside_1 2 rfl ?_
  refine gm_ls [1, 0] rfl ?_
  exact L2 _ _ _ h
set_option maxRecDepth 100000 in
set_option maxHeartbeats 4000000 in
theorem kX7_putBack (w : gm_Wd) (G : Gm) (q : Gm) (h : fX7_putBack G = some q) : gm_C w yX7_putBack cX7_putBack 2 none 0 [.ref (gm_ad w 7 5 0)] G none q := by
  refine gm_start (by decide) (Nat.le_of_ble_eq_true rfl) ?_
  intro x hw C E
  subst hw
  have C : gm_X x cX7_putBack 2 RX7 none 0 := C
  unfold fX7_putBack at h
  have L2 : ∀ (n2 : Nat) (v1 : Int32) (G : Gm), fX7_putBack_h2 n2 v1 G = some q → gm_V x G 2 [(0, .ref (gm_ad (cx_w x) 7 5 0)), (1, .int v1)] [] := by
    intro n2
    induction n2 with
    | zero => intro v1 G h; cases h
    | succ n2 ih2 =>
      intro v1 G h
      rw [fX7_putBack_h2.eq_2] at h
      refine gv_iload_n C rfl 1 rfl dX7_putBack_2 3 rfl ?_
      refine gv_sipush C 2862 rfl dX7_putBack_3 6 rfl ?_
      refine gv_icmp_ge C dX7_putBack_6 27 (by decide) 9 rfl (fun c1 => ?_) (fun c1 => ?_)
      · replace h := gm_ip c1 h
        obtain rfl := Option.some.inj h
        exact gv_vret C E rfl rfl dX7_putBack_27
      · replace h := gm_iq c1 h
        refine gv_aload_n C rfl 0 rfl dX7_putBack_9 10 rfl ?_
        refine gf_7_0 C gi_7 lkX7_7 dX7_putBack_10 13 rfl ?_
        refine gv_iload_n C rfl 1 rfl dX7_putBack_13 14 rfl ?_
        refine gv_aload_n C rfl 0 rfl dX7_putBack_14 15 rfl ?_
        refine gf_7_1 C gi_7 lkX7_13 dX7_putBack_15 18 rfl ?_
        refine gv_iload_n C rfl 1 rfl dX7_putBack_18 19 rfl ?_
        obtain ⟨g2, h⟩ := gm_gis h
        refine gv_iald C (gi_85 (c := 1) (by decide)) rfl g2 dX7_putBack_19 20 rfl ?_
        obtain ⟨g3, h⟩ := gm_gis h
        refine gv_iast C (gi_85 (c := 0) (by decide)) rfl g3 dX7_putBack_20 21 rfl ?_
        refine gv_iinc C 1 rfl rfl [(1, _), (0, _)] (by decide) rfl dX7_putBack_21 24 rfl ?_
        refine gv_goto C dX7_putBack_24 2 (by decide) ?_
        refine gm_ls [1, 0] rfl ?_
        exact ih2 _ _ h
  refine gm_lv (lv' := [(0, _)]) rfl ?_
  refine gv_iconst C 0 rfl dX7_putBack_0 1 rfl ?_
  refine gv_istore_n C rfl [(1, _), (0, _)] (by decide) rfl dX7_putBack_1 2 rfl ?_
  refine gm_ls [1, 0] rfl ?_
  exact L2 _ _ _ h
set_option maxRecDepth 100000 in
set_option maxHeartbeats 4000000 in
theorem kX7_forecast (w : gm_Wd) (a1 a2 : Int32) (G : Gm) (q : Int32 × Gm) (h : fX7_forecast a1 a2 G = some q) : gm_C w yX7_forecast cX7_forecast 5 (some .int) 7 [.ref (gm_ad w 7 5 0), .int a1, .int a2] G (some (.int q.1)) q.2 := by
  refine gm_start (by decide) (Nat.le_of_ble_eq_true rfl) ?_
  intro x hw C E
  subst hw
  have C : gm_X x cX7_forecast 5 RX7 (some .int) 7 := C
  unfold fX7_forecast at h
  have L48 : ∀ (n48 : Nat) (v3 v4 : Int32) (G : Gm), fX7_forecast_h48 a1 a2 n48 v3 v4 G = some q → gm_V x G 48 [(0, .ref (gm_ad (cx_w x) 7 5 0)), (1, .int a1), (2, .int a2), (3, .int v3), (4, .int v4)] [] := by
    intro n48
    induction n48 with
    | zero => intro v3 v4 G h; cases h
    | succ n48 ih48 =>
      intro v3 v4 G h
      rw [fX7_forecast_h48.eq_2] at h
      refine gv_iload C 4 rfl dX7_forecast_48 50 rfl ?_
      refine gv_iload_n C rfl 2 rfl dX7_forecast_50 51 rfl ?_
      refine gv_icmp_gt C dX7_forecast_51 86 (by decide) 54 rfl (fun c8 => ?_) (fun c8 => ?_)
      · replace h := gm_ip c8 h
        refine gv_aload_n C rfl 0 rfl dX7_forecast_86 87 rfl ?_
        obtain ⟨q9, hq9, h⟩ := gm_bd h
        refine gv_callVv C mc_yX7_putBack ⟨mi_yX7_putBack, me_yX7_putBack⟩ (by decide) mkX7_174 gi_7 ⟨_, rfl⟩ rfl rfl (kX7_putBack _  _ _ hq9) rfl rfl (Nat.le_of_ble_eq_true rfl) dX7_forecast_87 90 rfl ?_
        refine gv_iload_n C rfl 3 rfl dX7_forecast_90 91 rfl ?_
        obtain rfl := Option.some.inj h
        exact gv_iret C E rfl rfl dX7_forecast_91
      · replace h := gm_iq c8 h
        refine gv_iload_n C rfl 3 rfl dX7_forecast_54 55 rfl ?_
        refine gv_if_ge C dX7_forecast_55 86 (by decide) 58 rfl (fun c10 => ?_) (fun c10 => ?_)
        · replace h := gm_ip c10 h
          refine gv_aload_n C rfl 0 rfl dX7_forecast_86 87 rfl ?_
          obtain ⟨q11, hq11, h⟩ := gm_bd h
          refine gv_callVv C mc_yX7_putBack ⟨mi_yX7_putBack, me_yX7_putBack⟩ (by decide) mkX7_174 gi_7 ⟨_, rfl⟩ rfl rfl (kX7_putBack _  _ _ hq11) rfl rfl (Nat.le_of_ble_eq_true rfl) dX7_forecast_87 90 rfl ?_
          refine gv_iload_n C rfl 3 rfl dX7_forecast_90 91 rfl ?_
          obtain rfl := Option.some.inj h
          exact gv_iret C E rfl rfl dX7_forecast_91
        · replace h := gm_iq c10 h
          refine gv_aload_n C rfl 0 rfl dX7_forecast_58 59 rfl ?_
          obtain ⟨q12, hq12, h⟩ := gm_bd h
          refine gv_callVv C mc_yX7_workTick ⟨mi_yX7_workTick, me_yX7_workTick⟩ (by decide) mkX7_168 gi_7 ⟨_, rfl⟩ rfl rfl (kX7_workTick _  _ _ hq12) rfl rfl (Nat.le_of_ble_eq_true rfl) dX7_forecast_59 62 rfl ?_
          refine gv_aload_n C rfl 0 rfl dX7_forecast_62 63 rfl ?_
          refine gv_iload_n C rfl 1 rfl dX7_forecast_63 64 rfl ?_
          refine gv_iconst C 2 rfl dX7_forecast_64 65 rfl ?_
          obtain ⟨q13, hq13, h⟩ := gm_bd h
          refine gv_callVi C mc_yX7_ofTrain ⟨mi_yX7_ofTrain, me_yX7_ofTrain⟩ (by decide) mkX7_61 gi_7 ⟨_, rfl⟩ rfl rfl (kX7_ofTrain _ _ _ _ _ hq13) rfl rfl (Nat.le_of_ble_eq_true rfl) dX7_forecast_65 68 rfl ?_
          refine gv_iconst C 3 rfl dX7_forecast_68 69 rfl ?_
          refine gv_icmp_ne C dX7_forecast_69 77 (by decide) 72 rfl (fun c14 => ?_) (fun c14 => ?_)
          · replace h := gm_ip c14 h
            refine gv_iload C 4 rfl dX7_forecast_72 74 rfl ?_
            refine gv_goto C dX7_forecast_74 79 (by decide) ?_
            refine gv_istore_n C rfl [(3, _), (0, _), (1, _), (2, _), (4, _)] (by decide) rfl dX7_forecast_79 80 rfl ?_
            refine gv_iinc C 4 rfl rfl [(4, _), (3, _), (0, _), (1, _), (2, _)] (by decide) rfl dX7_forecast_80 83 rfl ?_
            refine gv_goto C dX7_forecast_83 48 (by decide) ?_
            refine gm_ls [2, 3, 4, 1, 0] rfl ?_
            exact ih48 _ _ _ h
          · replace h := gm_iq c14 h
            refine gv_bipush C (-6) rfl dX7_forecast_77 79 rfl ?_
            refine gv_istore_n C rfl [(3, _), (0, _), (1, _), (2, _), (4, _)] (by decide) rfl dX7_forecast_79 80 rfl ?_
            refine gv_iinc C 4 rfl rfl [(4, _), (3, _), (0, _), (1, _), (2, _)] (by decide) rfl dX7_forecast_80 83 rfl ?_
            refine gv_goto C dX7_forecast_83 48 (by decide) ?_
            refine gm_ls [2, 3, 4, 1, 0] rfl ?_
            exact ih48 _ _ _ h
  refine gm_lv (lv' := [(0, _), (1, _), (2, _)]) rfl ?_
  refine gv_aload_n C rfl 0 rfl dX7_forecast_0 1 rfl ?_
  refine gv_iload_n C rfl 1 rfl dX7_forecast_1 2 rfl ?_
  obtain ⟨q1, hq1, h⟩ := gm_bd h
  refine gv_callVi C mc_yX7_isTrain ⟨mi_yX7_isTrain, me_yX7_isTrain⟩ (by decide) mkX7_89 gi_7 ⟨_, rfl⟩ rfl rfl (kX7_isTrain _ _ _ _ hq1) rfl rfl (Nat.le_of_ble_eq_true rfl) dX7_forecast_2 5 rfl ?_
  refine gv_if_ne C dX7_forecast_5 10 (by decide) 8 rfl (fun c2 => ?_) (fun c2 => ?_)
  · replace h := gm_ip c2 h
    refine gv_iconst C (-1) rfl dX7_forecast_8 9 rfl ?_
    obtain rfl := Option.some.inj h
    exact gv_iret C E rfl rfl dX7_forecast_9
  · replace h := gm_iq c2 h
    refine gv_iload_n C rfl 2 rfl dX7_forecast_10 11 rfl ?_
    refine gv_iconst C 1 rfl dX7_forecast_11 12 rfl ?_
    refine gv_sipush C 500 rfl dX7_forecast_12 15 rfl ?_
    obtain ⟨q3, hq3, h⟩ := gm_bd h
    refine gv_callSi C mc_yX7_in ms_yX7_in (by decide) mkX7_40 (kX7_in _ _ _ _ _ _ hq3) rfl rfl (Nat.le_of_ble_eq_true rfl) dX7_forecast_15 18 rfl ?_
    refine gv_if_ne C dX7_forecast_18 24 (by decide) 21 rfl (fun c4 => ?_) (fun c4 => ?_)
    · replace h := gm_ip c4 h
      refine gv_bipush C (-2) rfl dX7_forecast_21 23 rfl ?_
      obtain rfl := Option.some.inj h
      exact gv_iret C E rfl rfl dX7_forecast_23
    · replace h := gm_iq c4 h
      refine gv_aload_n C rfl 0 rfl dX7_forecast_24 25 rfl ?_
      obtain ⟨q5, hq5, h⟩ := gm_bd h
      refine gv_callVv C mc_yX7_putAside ⟨mi_yX7_putAside, me_yX7_putAside⟩ (by decide) mkX7_171 gi_7 ⟨_, rfl⟩ rfl rfl (kX7_putAside _  _ _ hq5) rfl rfl (Nat.le_of_ble_eq_true rfl) dX7_forecast_25 28 rfl ?_
      refine gv_aload_n C rfl 0 rfl dX7_forecast_28 29 rfl ?_
      refine gv_iload_n C rfl 1 rfl dX7_forecast_29 30 rfl ?_
      refine gv_iconst C 2 rfl dX7_forecast_30 31 rfl ?_
      obtain ⟨q6, hq6, h⟩ := gm_bd h
      refine gv_callVi C mc_yX7_ofTrain ⟨mi_yX7_ofTrain, me_yX7_ofTrain⟩ (by decide) mkX7_61 gi_7 ⟨_, rfl⟩ rfl rfl (kX7_ofTrain _ _ _ _ _ hq6) rfl rfl (Nat.le_of_ble_eq_true rfl) dX7_forecast_31 34 rfl ?_
      refine gv_iconst C 3 rfl dX7_forecast_34 35 rfl ?_
      refine gv_icmp_ne C dX7_forecast_35 42 (by decide) 38 rfl (fun c7 => ?_) (fun c7 => ?_)
      · replace h := gm_ip c7 h
        refine gv_iconst C 0 rfl dX7_forecast_38 39 rfl ?_
        refine gv_goto C dX7_forecast_39 44 (by decide) ?_
        refine gv_istore_n C rfl [(3, _), (0, _), (1, _), (2, _)] (by decide) rfl dX7_forecast_44 45 rfl ?_
        refine gv_iconst C 1 rfl dX7_forecast_45 46 rfl ?_
        refine gv_istore C [(4, _), (3, _), (0, _), (1, _), (2, _)] (by decide) rfl dX7_forecast_46 48 rfl ?_
        refine gm_ls [2, 3, 4, 1, 0] rfl ?_
        exact L48 _ _ _ _ h
      · replace h := gm_iq c7 h
        refine gv_bipush C (-6) rfl dX7_forecast_42 44 rfl ?_
        refine gv_istore_n C rfl [(3, _), (0, _), (1, _), (2, _)] (by decide) rfl dX7_forecast_44 45 rfl ?_
        refine gv_iconst C 1 rfl dX7_forecast_45 46 rfl ?_
        refine gv_istore C [(4, _), (3, _), (0, _), (1, _), (2, _)] (by decide) rfl dX7_forecast_46 48 rfl ?_
        refine gm_ls [2, 3, 4, 1, 0] rfl ?_
        exact L48 _ _ _ _ h
set_option maxRecDepth 100000 in
set_option maxHeartbeats 4000000 in
theorem kX7_capacity (w : gm_Wd) (a1 a2 a3 : Int32) (G : Gm) (q : Int32 × Gm) (h : fX7_capacity a1 a2 a3 G = some q) : gm_C w yX7_capacity cX7_capacity 5 (some .int) 7 [.ref (gm_ad w 7 5 0), .int a1, .int a2, .int a3] G (some (.int q.1)) q.2 := by
  refine gm_start (by decide) (Nat.le_of_ble_eq_true rfl) ?_
  intro x hw C E
  subst hw
  have C : gm_X x cX7_capacity 5 RX7 (some .int) 7 := C
  unfold fX7_capacity at h
  have L65 : ∀ (n65 : Nat) (v4 : Int32) (G : Gm), fX7_capacity_h65 a1 a2 a3 n65 v4 G = some q → gm_V x G 65 [(0, .ref (gm_ad (cx_w x) 7 5 0)), (1, .int a1), (2, .int a2), (3, .int a3), (4, .int v4)] [] := by
    intro n65
    induction n65 with
    | zero => intro v4 G h; cases h
    | succ n65 ih65 =>
      intro v4 G h
      rw [fX7_capacity_h65.eq_2] at h
      refine gv_iload C 4 rfl dX7_capacity_65 67 rfl ?_
      refine gv_iload_n C rfl 3 rfl dX7_capacity_67 68 rfl ?_
      refine gv_icmp_ge C dX7_capacity_68 101 (by decide) 71 rfl (fun c9 => ?_) (fun c9 => ?_)
      · replace h := gm_ip c9 h
        refine gv_aload_n C rfl 0 rfl dX7_capacity_101 102 rfl ?_
        refine gv_iconst C 3 rfl dX7_capacity_102 103 rfl ?_
        obtain ⟨q10, hq10, h⟩ := gm_bd h
        refine gv_callVi C mc_yX7_trainsAt ⟨mi_yX7_trainsAt, me_yX7_trainsAt⟩ (by decide) mkX7_165 gi_7 ⟨_, rfl⟩ rfl rfl (kX7_trainsAt _ _ _ _ hq10) rfl rfl (Nat.le_of_ble_eq_true rfl) dX7_capacity_103 106 rfl ?_
        refine gv_istore C [(4, _), (0, _), (1, _), (2, _), (3, _)] (by decide) rfl dX7_capacity_106 108 rfl ?_
        refine gv_aload_n C rfl 1 rfl dX7_capacity_108 109 rfl ?_
        obtain ⟨q11, hq11, h⟩ := gm_bd h
        refine gv_callVv C mc_yX7_putBack ⟨mi_yX7_putBack, me_yX7_putBack⟩ (by decide) mkX7_174 gi_7 ⟨_, rfl⟩ rfl rfl (kX7_putBack _  _ _ hq11) rfl rfl (Nat.le_of_ble_eq_true rfl) dX7_capacity_109 112 rfl ?_
        refine gv_iload C 0 rfl dX7_capacity_112 114 rfl ?_
        obtain rfl := Option.some.inj h
        exact gv_iret C E rfl rfl dX7_capacity_114
      · replace h := gm_iq c9 h
        refine gv_aload_n C rfl 0 rfl dX7_capacity_71 72 rfl ?_
        refine gv_aload_n C rfl 0 rfl dX7_capacity_72 73 rfl ?_
        refine gv_iload_n C rfl 2 rfl dX7_capacity_73 74 rfl ?_
        obtain ⟨q12, hq12, h⟩ := gm_bd h
        refine gv_callVi C mc_yX7_firstBox ⟨mi_yX7_firstBox, me_yX7_firstBox⟩ (by decide) mkX7_79 gi_7 ⟨_, rfl⟩ rfl rfl (kX7_firstBox _ _ _ _ hq12) rfl rfl (Nat.le_of_ble_eq_true rfl) dX7_capacity_74 77 rfl ?_
        refine gv_iload_n C rfl 2 rfl dX7_capacity_77 78 rfl ?_
        obtain ⟨q13, hq13, h⟩ := gm_bd h
        refine gv_callVi C mc_yX7_isFree ⟨mi_yX7_isFree, me_yX7_isFree⟩ (by decide) mkX7_83 gi_7 ⟨_, rfl⟩ rfl rfl (kX7_isFree _ _ _ _ _ hq13) rfl rfl (Nat.le_of_ble_eq_true rfl) dX7_capacity_78 81 rfl ?_
        refine gv_if_eq C dX7_capacity_81 91 (by decide) 84 rfl (fun c14 => ?_) (fun c14 => ?_)
        · replace h := gm_ip c14 h
          refine gv_aload_n C rfl 0 rfl dX7_capacity_91 92 rfl ?_
          obtain ⟨q15, hq15, h⟩ := gm_bd h
          refine gv_callVv C mc_yX7_workTick ⟨mi_yX7_workTick, me_yX7_workTick⟩ (by decide) mkX7_168 gi_7 ⟨_, rfl⟩ rfl rfl (kX7_workTick _  _ _ hq15) rfl rfl (Nat.le_of_ble_eq_true rfl) dX7_capacity_92 95 rfl ?_
          refine gv_iinc C 4 rfl rfl [(4, _), (0, _), (1, _), (2, _), (3, _)] (by decide) rfl dX7_capacity_95 98 rfl ?_
          refine gv_goto C dX7_capacity_98 65 (by decide) ?_
          refine gm_ls [1, 2, 3, 4, 0] rfl ?_
          exact ih65 _ _ h
        · replace h := gm_iq c14 h
          refine gv_aload_n C rfl 0 rfl dX7_capacity_84 85 rfl ?_
          refine gv_iload_n C rfl 1 rfl dX7_capacity_85 86 rfl ?_
          refine gv_iload_n C rfl 2 rfl dX7_capacity_86 87 rfl ?_
          obtain ⟨q16, hq16, h⟩ := gm_bd h
          refine gv_callVi C mc_yX7_add ⟨mi_yX7_add, me_yX7_add⟩ (by decide) mkX7_86 gi_7 ⟨_, rfl⟩ rfl rfl (kX7_add _ _ _ _ _ hq16) rfl rfl (Nat.le_of_ble_eq_true rfl) dX7_capacity_87 90 rfl ?_
          refine gv_pop C rfl dX7_capacity_90 91 rfl ?_
          refine gv_aload_n C rfl 0 rfl dX7_capacity_91 92 rfl ?_
          obtain ⟨q17, hq17, h⟩ := gm_bd h
          refine gv_callVv C mc_yX7_workTick ⟨mi_yX7_workTick, me_yX7_workTick⟩ (by decide) mkX7_168 gi_7 ⟨_, rfl⟩ rfl rfl (kX7_workTick _  _ _ hq17) rfl rfl (Nat.le_of_ble_eq_true rfl) dX7_capacity_92 95 rfl ?_
          refine gv_iinc C 4 rfl rfl [(4, _), (0, _), (1, _), (2, _), (3, _)] (by decide) rfl dX7_capacity_95 98 rfl ?_
          refine gv_goto C dX7_capacity_98 65 (by decide) ?_
          refine gm_ls [1, 2, 3, 4, 0] rfl ?_
          exact ih65 _ _ h
  refine gm_lv (lv' := [(0, _), (1, _), (2, _), (3, _)]) rfl ?_
  refine gv_iload_n C rfl 1 rfl dX7_capacity_0 1 rfl ?_
  refine gv_iconst C 1 rfl dX7_capacity_1 2 rfl ?_
  refine gv_iconst C 5 rfl dX7_capacity_2 3 rfl ?_
  obtain ⟨q1, hq1, h⟩ := gm_bd h
  refine gv_callSi C mc_yX7_in ms_yX7_in (by decide) mkX7_40 (kX7_in _ _ _ _ _ _ hq1) rfl rfl (Nat.le_of_ble_eq_true rfl) dX7_capacity_3 6 rfl ?_
  refine gv_if_eq C dX7_capacity_6 27 (by decide) 9 rfl (fun c2 => ?_) (fun c2 => ?_)
  · replace h := gm_ip c2 h
    refine gv_bipush C (-2) rfl dX7_capacity_27 29 rfl ?_
    obtain rfl := Option.some.inj h
    exact gv_iret C E rfl rfl dX7_capacity_29
  · replace h := gm_iq c2 h
    refine gv_iload_n C rfl 2 rfl dX7_capacity_9 10 rfl ?_
    obtain ⟨q3, hq3, h⟩ := gm_bd h
    refine gv_callSi C mc_yX7_isWay ms_yX7_isWay (by decide) mkX7_48 (kX7_isWay _ _ _ _ hq3) rfl rfl (Nat.le_of_ble_eq_true rfl) dX7_capacity_10 13 rfl ?_
    refine gv_if_eq C dX7_capacity_13 27 (by decide) 16 rfl (fun c4 => ?_) (fun c4 => ?_)
    · replace h := gm_ip c4 h
      refine gv_bipush C (-2) rfl dX7_capacity_27 29 rfl ?_
      obtain rfl := Option.some.inj h
      exact gv_iret C E rfl rfl dX7_capacity_29
    · replace h := gm_iq c4 h
      refine gv_iload_n C rfl 3 rfl dX7_capacity_16 17 rfl ?_
      refine gv_iconst C 1 rfl dX7_capacity_17 18 rfl ?_
      refine gv_sipush C 300 rfl dX7_capacity_18 21 rfl ?_
      obtain ⟨q5, hq5, h⟩ := gm_bd h
      refine gv_callSi C mc_yX7_in ms_yX7_in (by decide) mkX7_40 (kX7_in _ _ _ _ _ _ hq5) rfl rfl (Nat.le_of_ble_eq_true rfl) dX7_capacity_21 24 rfl ?_
      refine gv_if_ne C dX7_capacity_24 30 (by decide) 27 rfl (fun c6 => ?_) (fun c6 => ?_)
      · replace h := gm_ip c6 h
        refine gv_bipush C (-2) rfl dX7_capacity_27 29 rfl ?_
        obtain rfl := Option.some.inj h
        exact gv_iret C E rfl rfl dX7_capacity_29
      · replace h := gm_iq c6 h
        refine gv_aload_n C rfl 0 rfl dX7_capacity_30 31 rfl ?_
        obtain ⟨q7, hq7, h⟩ := gm_bd h
        refine gv_callVv C mc_yX7_putAside ⟨mi_yX7_putAside, me_yX7_putAside⟩ (by decide) mkX7_171 gi_7 ⟨_, rfl⟩ rfl rfl (kX7_putAside _  _ _ hq7) rfl rfl (Nat.le_of_ble_eq_true rfl) dX7_capacity_31 34 rfl ?_
        refine gv_aload_n C rfl 0 rfl dX7_capacity_34 35 rfl ?_
        refine gf_7_0 C gi_7 lkX7_7 dX7_capacity_35 38 rfl ?_
        refine gv_iconst C 0 rfl dX7_capacity_38 39 rfl ?_
        refine gv_iconst C 0 rfl dX7_capacity_39 40 rfl ?_
        refine gv_iastK C 0 (by decide) (gi_85 (c := 0) (by decide)) rfl (by decide) dX7_capacity_40 41 rfl ?_
        refine gv_aload_n C rfl 0 rfl dX7_capacity_41 42 rfl ?_
        refine gf_7_0 C gi_7 lkX7_7 dX7_capacity_42 45 rfl ?_
        refine gv_sipush C 381 rfl dX7_capacity_45 48 rfl ?_
        refine gv_iconst C 0 rfl dX7_capacity_48 49 rfl ?_
        refine gv_iastK C 381 (by decide) (gi_85 (c := 0) (by decide)) rfl (by decide) dX7_capacity_49 50 rfl ?_
        refine gv_aload_n C rfl 0 rfl dX7_capacity_50 51 rfl ?_
        refine gf_7_0 C gi_7 lkX7_7 dX7_capacity_51 54 rfl ?_
        refine gv_bipush C 80 rfl dX7_capacity_54 56 rfl ?_
        refine gv_iconst C 0 rfl dX7_capacity_56 57 rfl ?_
        refine gv_iastK C 80 (by decide) (gi_85 (c := 0) (by decide)) rfl (by decide) dX7_capacity_57 58 rfl ?_
        refine gv_aload_n C rfl 0 rfl dX7_capacity_58 59 rfl ?_
        obtain ⟨q8, hq8, h⟩ := gm_bd h
        refine gv_callVv C mc_yX7_layBlocks ⟨mi_yX7_layBlocks, me_yX7_layBlocks⟩ (by decide) mkX7_33 gi_7 ⟨_, rfl⟩ rfl rfl (kX7_layBlocks _  _ _ hq8) rfl rfl (Nat.le_of_ble_eq_true rfl) dX7_capacity_59 62 rfl ?_
        refine gv_iconst C 0 rfl dX7_capacity_62 63 rfl ?_
        refine gv_istore C [(4, _), (0, _), (1, _), (2, _), (3, _)] (by decide) rfl dX7_capacity_63 65 rfl ?_
        refine gm_ls [1, 2, 3, 4, 0] rfl ?_
        exact L65 _ _ _ h
set_option maxRecDepth 100000 in
set_option maxHeartbeats 4000000 in
theorem kX7_say (w : gm_Wd) (a1 : Int32) (G : Gm) (q : Int32 × Gm) (h : fX7_say a1 G = some q) : gm_C w yX7_say cX7_say 2 (some .int) 1 [.ref (gm_ad w 7 5 0), .int a1] G (some (.int q.1)) q.2 := by
  refine gm_start (by decide) (Nat.le_of_ble_eq_true rfl) ?_
  intro x hw C E
  subst hw
  have C : gm_X x cX7_say 2 RX7 (some .int) 1 := C
  unfold fX7_say at h
  refine gm_lv (lv' := [(0, _), (1, _)]) rfl ?_
  refine gv_iload_n C rfl 1 rfl dX7_say_0 1 rfl ?_
  refine gv_bipush C 33 rfl dX7_say_1 3 rfl ?_
  refine gv_bipush C 126 rfl dX7_say_3 5 rfl ?_
  obtain ⟨q1, hq1, h⟩ := gm_bd h
  refine gv_callSi C mc_yX7_in ms_yX7_in (by decide) mkX7_40 (kX7_in _ _ _ _ _ _ hq1) rfl rfl (Nat.le_of_ble_eq_true rfl) dX7_say_5 8 rfl ?_
  refine gv_if_ne C dX7_say_8 14 (by decide) 11 rfl (fun c2 => ?_) (fun c2 => ?_)
  · replace h := gm_ip c2 h
    refine gv_bipush C (-2) rfl dX7_say_11 13 rfl ?_
    obtain rfl := Option.some.inj h
    exact gv_iret C E rfl rfl dX7_say_13
  · replace h := gm_iq c2 h
    refine gv_aload_n C rfl 0 rfl dX7_say_14 15 rfl ?_
    refine gf_7_5 C gi_7 lkX7_177 dX7_say_15 18 rfl ?_
    refine gv_bipush C 60 rfl dX7_say_18 20 rfl ?_
    refine gv_icmp_ne C dX7_say_20 26 (by decide) 23 rfl (fun c3 => ?_) (fun c3 => ?_)
    · replace h := gm_ip c3 h
      refine gv_bipush C (-4) rfl dX7_say_23 25 rfl ?_
      obtain rfl := Option.some.inj h
      exact gv_iret C E rfl rfl dX7_say_25
    · replace h := gm_iq c3 h
      refine gv_aload_n C rfl 0 rfl dX7_say_26 27 rfl ?_
      refine gf_7_4 C gi_7 lkX7_23 dX7_say_27 30 rfl ?_
      refine gv_aload_n C rfl 0 rfl dX7_say_30 31 rfl ?_
      refine gf_7_5 C gi_7 lkX7_177 dX7_say_31 34 rfl ?_
      refine gv_iload_n C rfl 1 rfl dX7_say_34 35 rfl ?_
      obtain ⟨g4, h⟩ := gm_gis h
      refine gv_iast C (gi_85 (c := 3) (by decide)) rfl g4 dX7_say_35 36 rfl ?_
      refine gv_aload_n C rfl 0 rfl dX7_say_36 37 rfl ?_
      refine gv_dup C rfl dX7_say_37 38 rfl ?_
      refine gf_7_5 C gi_7 lkX7_177 dX7_say_38 41 rfl ?_
      refine gv_iconst C 1 rfl dX7_say_41 42 rfl ?_
      refine gv_iadd C dX7_say_42 43 rfl ?_
      refine pf_7_5 C gi_7 lkX7_177 dX7_say_43 46 rfl ?_
      refine gv_aload_n C rfl 0 rfl dX7_say_46 47 rfl ?_
      refine gf_7_5 C gi_7 lkX7_177 dX7_say_47 50 rfl ?_
      obtain rfl := Option.some.inj h
      exact gv_iret C E rfl rfl dX7_say_50
set_option maxRecDepth 100000 in
set_option maxHeartbeats 4000000 in
theorem kX7_wipe (w : gm_Wd) (G : Gm) (q : Int32 × Gm) (h : fX7_wipe G = some q) : gm_C w yX7_wipe cX7_wipe 2 (some .int) 0 [.ref (gm_ad w 7 5 0)] G (some (.int q.1)) q.2 := by
  refine gm_start (by decide) (Nat.le_of_ble_eq_true rfl) ?_
  intro x hw C E
  subst hw
  have C : gm_X x cX7_wipe 2 RX7 (some .int) 0 := C
  unfold fX7_wipe at h
  refine gm_lv (lv' := [(0, _)]) rfl ?_
  refine gv_aload_n C rfl 0 rfl dX7_wipe_0 1 rfl ?_
  refine gf_7_5 C gi_7 lkX7_177 dX7_wipe_1 4 rfl ?_
  refine gv_istore_n C rfl [(1, _), (0, _)] (by decide) rfl dX7_wipe_4 5 rfl ?_
  refine gv_aload_n C rfl 1 rfl dX7_wipe_5 6 rfl ?_
  refine gv_iconst C 0 rfl dX7_wipe_6 7 rfl ?_
  refine pf_7_5 C gi_7 lkX7_177 dX7_wipe_7 10 rfl ?_
  refine gv_iload_n C rfl 0 rfl dX7_wipe_10 11 rfl ?_
  obtain rfl := Option.some.inj h
  exact gv_iret C E rfl rfl dX7_wipe_11
set_option maxRecDepth 100000 in
set_option maxHeartbeats 4000000 in
theorem kX7_nextSign (w : gm_Wd) (G : Gm) (q : Int32) (h : fX7_nextSign G = some q) : gm_C w yX7_nextSign cX7_nextSign 1 (some .int) 0 [.ref (gm_ad w 7 5 0)] G (some (.int q)) G := by
  refine gm_start (by decide) (Nat.le_of_ble_eq_true rfl) ?_
  intro x hw C E
  subst hw
  have C : gm_X x cX7_nextSign 1 RX7 (some .int) 0 := C
  unfold fX7_nextSign at h
  refine gm_lv (lv' := [(0, _)]) rfl ?_
  refine gv_aload_n C rfl 0 rfl dX7_nextSign_0 1 rfl ?_
  refine gf_7_6 C gi_7 lkX7_181 dX7_nextSign_1 4 rfl ?_
  refine gv_aload_n C rfl 0 rfl dX7_nextSign_4 5 rfl ?_
  refine gf_7_5 C gi_7 lkX7_177 dX7_nextSign_5 8 rfl ?_
  refine gv_icmp_ge C dX7_nextSign_8 23 (by decide) 11 rfl (fun c1 => ?_) (fun c1 => ?_)
  · replace h := gm_ip c1 h
    refine gv_iconst C 0 rfl dX7_nextSign_23 24 rfl ?_
    obtain rfl := Option.some.inj h
    exact gv_iret C E rfl rfl dX7_nextSign_24
  · replace h := gm_iq c1 h
    refine gv_aload_n C rfl 0 rfl dX7_nextSign_11 12 rfl ?_
    refine gf_7_4 C gi_7 lkX7_23 dX7_nextSign_12 15 rfl ?_
    refine gv_aload_n C rfl 0 rfl dX7_nextSign_15 16 rfl ?_
    refine gf_7_6 C gi_7 lkX7_181 dX7_nextSign_16 19 rfl ?_
    obtain ⟨g2, h⟩ := gm_gis h
    refine gv_iald C (gi_85 (c := 3) (by decide)) rfl g2 dX7_nextSign_19 20 rfl ?_
    refine gv_goto C dX7_nextSign_20 24 (by decide) ?_
    obtain rfl := Option.some.inj h
    exact gv_iret C E rfl rfl dX7_nextSign_24
set_option maxRecDepth 100000 in
set_option maxHeartbeats 4000000 in
theorem kX7_isForTrain (w : gm_Wd) (a0 : Int32) (G : Gm) (q : Int32) (h : fX7_isForTrain a0 = some q) : gm_C w yX7_isForTrain cX7_isForTrain 1 (some .boolean) 0 [.int a0] G (some (.int q)) G := by
  refine gm_start (by decide) (Nat.le_of_ble_eq_true rfl) ?_
  intro x hw C E
  subst hw
  have C : gm_X x cX7_isForTrain 1 RX7 (some .boolean) 0 := C
  unfold fX7_isForTrain at h
  refine gm_lv (lv' := [(0, _)]) rfl ?_
  refine gv_iload_n C rfl 0 rfl dX7_isForTrain_0 1 rfl ?_
  refine gv_bipush C 111 rfl dX7_isForTrain_1 3 rfl ?_
  refine gv_icmp_eq C dX7_isForTrain_3 24 (by decide) 6 rfl (fun c1 => ?_) (fun c1 => ?_)
  · replace h := gm_ip c1 h
    refine gv_iconst C 1 rfl dX7_isForTrain_24 25 rfl ?_
    refine gv_goto C dX7_isForTrain_25 29 (by decide) ?_
    obtain rfl := Option.some.inj h
    exact gv_zret C E (Or.inr rfl) rfl rfl dX7_isForTrain_29
  · replace h := gm_iq c1 h
    refine gv_iload_n C rfl 0 rfl dX7_isForTrain_6 7 rfl ?_
    refine gv_bipush C 100 rfl dX7_isForTrain_7 9 rfl ?_
    refine gv_icmp_eq C dX7_isForTrain_9 24 (by decide) 12 rfl (fun c2 => ?_) (fun c2 => ?_)
    · replace h := gm_ip c2 h
      refine gv_iconst C 1 rfl dX7_isForTrain_24 25 rfl ?_
      refine gv_goto C dX7_isForTrain_25 29 (by decide) ?_
      obtain rfl := Option.some.inj h
      exact gv_zret C E (Or.inr rfl) rfl rfl dX7_isForTrain_29
    · replace h := gm_iq c2 h
      refine gv_iload_n C rfl 0 rfl dX7_isForTrain_12 13 rfl ?_
      refine gv_bipush C 115 rfl dX7_isForTrain_13 15 rfl ?_
      refine gv_icmp_eq C dX7_isForTrain_15 24 (by decide) 18 rfl (fun c3 => ?_) (fun c3 => ?_)
      · replace h := gm_ip c3 h
        refine gv_iconst C 1 rfl dX7_isForTrain_24 25 rfl ?_
        refine gv_goto C dX7_isForTrain_25 29 (by decide) ?_
        obtain rfl := Option.some.inj h
        exact gv_zret C E (Or.inr rfl) rfl rfl dX7_isForTrain_29
      · replace h := gm_iq c3 h
        refine gv_iload_n C rfl 0 rfl dX7_isForTrain_18 19 rfl ?_
        refine gv_bipush C 108 rfl dX7_isForTrain_19 21 rfl ?_
        refine gv_icmp_ne C dX7_isForTrain_21 28 (by decide) 24 rfl (fun c4 => ?_) (fun c4 => ?_)
        · replace h := gm_ip c4 h
          refine gv_iconst C 1 rfl dX7_isForTrain_24 25 rfl ?_
          refine gv_goto C dX7_isForTrain_25 29 (by decide) ?_
          obtain rfl := Option.some.inj h
          exact gv_zret C E (Or.inr rfl) rfl rfl dX7_isForTrain_29
        · replace h := gm_iq c4 h
          refine gv_iconst C 0 rfl dX7_isForTrain_28 29 rfl ?_
          obtain rfl := Option.some.inj h
          exact gv_zret C E (Or.inl rfl) rfl rfl dX7_isForTrain_29
set_option maxRecDepth 100000 in
set_option maxHeartbeats 4000000 in
theorem kX7_isForBlock (w : gm_Wd) (a0 : Int32) (G : Gm) (q : Int32) (h : fX7_isForBlock a0 = some q) : gm_C w yX7_isForBlock cX7_isForBlock 1 (some .boolean) 0 [.int a0] G (some (.int q)) G := by
  refine gm_start (by decide) (Nat.le_of_ble_eq_true rfl) ?_
  intro x hw C E
  subst hw
  have C : gm_X x cX7_isForBlock 1 RX7 (some .boolean) 0 := C
  unfold fX7_isForBlock at h
  refine gm_lv (lv' := [(0, _)]) rfl ?_
  refine gv_iload_n C rfl 0 rfl dX7_isForBlock_0 1 rfl ?_
  refine gv_bipush C 121 rfl dX7_isForBlock_1 3 rfl ?_
  refine gv_icmp_eq C dX7_isForBlock_3 36 (by decide) 6 rfl (fun c1 => ?_) (fun c1 => ?_)
  · replace h := gm_ip c1 h
    refine gv_iconst C 1 rfl dX7_isForBlock_36 37 rfl ?_
    refine gv_goto C dX7_isForBlock_37 41 (by decide) ?_
    obtain rfl := Option.some.inj h
    exact gv_zret C E (Or.inr rfl) rfl rfl dX7_isForBlock_41
  · replace h := gm_iq c1 h
    refine gv_iload_n C rfl 0 rfl dX7_isForBlock_6 7 rfl ?_
    refine gv_bipush C 110 rfl dX7_isForBlock_7 9 rfl ?_
    refine gv_icmp_eq C dX7_isForBlock_9 36 (by decide) 12 rfl (fun c2 => ?_) (fun c2 => ?_)
    · replace h := gm_ip c2 h
      refine gv_iconst C 1 rfl dX7_isForBlock_36 37 rfl ?_
      refine gv_goto C dX7_isForBlock_37 41 (by decide) ?_
      obtain rfl := Option.some.inj h
      exact gv_zret C E (Or.inr rfl) rfl rfl dX7_isForBlock_41
    · replace h := gm_iq c2 h
      refine gv_iload_n C rfl 0 rfl dX7_isForBlock_12 13 rfl ?_
      refine gv_bipush C 99 rfl dX7_isForBlock_13 15 rfl ?_
      refine gv_icmp_eq C dX7_isForBlock_15 36 (by decide) 18 rfl (fun c3 => ?_) (fun c3 => ?_)
      · replace h := gm_ip c3 h
        refine gv_iconst C 1 rfl dX7_isForBlock_36 37 rfl ?_
        refine gv_goto C dX7_isForBlock_37 41 (by decide) ?_
        obtain rfl := Option.some.inj h
        exact gv_zret C E (Or.inr rfl) rfl rfl dX7_isForBlock_41
      · replace h := gm_iq c3 h
        refine gv_iload_n C rfl 0 rfl dX7_isForBlock_18 19 rfl ?_
        refine gv_bipush C 97 rfl dX7_isForBlock_19 21 rfl ?_
        refine gv_icmp_eq C dX7_isForBlock_21 36 (by decide) 24 rfl (fun c4 => ?_) (fun c4 => ?_)
        · replace h := gm_ip c4 h
          refine gv_iconst C 1 rfl dX7_isForBlock_36 37 rfl ?_
          refine gv_goto C dX7_isForBlock_37 41 (by decide) ?_
          obtain rfl := Option.some.inj h
          exact gv_zret C E (Or.inr rfl) rfl rfl dX7_isForBlock_41
        · replace h := gm_iq c4 h
          refine gv_iload_n C rfl 0 rfl dX7_isForBlock_24 25 rfl ?_
          refine gv_bipush C 117 rfl dX7_isForBlock_25 27 rfl ?_
          refine gv_icmp_eq C dX7_isForBlock_27 36 (by decide) 30 rfl (fun c5 => ?_) (fun c5 => ?_)
          · replace h := gm_ip c5 h
            refine gv_iconst C 1 rfl dX7_isForBlock_36 37 rfl ?_
            refine gv_goto C dX7_isForBlock_37 41 (by decide) ?_
            obtain rfl := Option.some.inj h
            exact gv_zret C E (Or.inr rfl) rfl rfl dX7_isForBlock_41
          · replace h := gm_iq c5 h
            refine gv_iload_n C rfl 0 rfl dX7_isForBlock_30 31 rfl ?_
            refine gv_bipush C 101 rfl dX7_isForBlock_31 33 rfl ?_
            refine gv_icmp_ne C dX7_isForBlock_33 40 (by decide) 36 rfl (fun c6 => ?_) (fun c6 => ?_)
            · replace h := gm_ip c6 h
              refine gv_iconst C 1 rfl dX7_isForBlock_36 37 rfl ?_
              refine gv_goto C dX7_isForBlock_37 41 (by decide) ?_
              obtain rfl := Option.some.inj h
              exact gv_zret C E (Or.inr rfl) rfl rfl dX7_isForBlock_41
            · replace h := gm_iq c6 h
              refine gv_iconst C 0 rfl dX7_isForBlock_40 41 rfl ?_
              obtain rfl := Option.some.inj h
              exact gv_zret C E (Or.inl rfl) rfl rfl dX7_isForBlock_41
set_option maxRecDepth 100000 in
set_option maxHeartbeats 4000000 in
theorem kX7_takeNumber (w : gm_Wd) (a1 a2 : Int32) (G : Gm) (q : Int32 × Gm) (h : fX7_takeNumber a1 a2 G = some q) : gm_C w yX7_takeNumber cX7_takeNumber 4 (some .int) 1 [.ref (gm_ad w 7 5 0), .int a1, .int a2] G (some (.int q.1)) q.2 := by
  refine gm_start (by decide) (Nat.le_of_ble_eq_true rfl) ?_
  intro x hw C E
  subst hw
  have C : gm_X x cX7_takeNumber 4 RX7 (some .int) 1 := C
  unfold fX7_takeNumber at h
  have L40 : ∀ (n40 : Nat) (v3 : Int32) (G : Gm), fX7_takeNumber_h40 a1 a2 n40 v3 G = some q → gm_V x G 40 [(0, .ref (gm_ad (cx_w x) 7 5 0)), (1, .int a1), (2, .int a2), (3, .int v3)] [] := by
    intro n40
    induction n40 with
    | zero => intro v3 G h; cases h
    | succ n40 ih40 =>
      intro v3 G h
      rw [fX7_takeNumber_h40.eq_2] at h
      refine gv_iload_n C rfl 3 rfl dX7_takeNumber_40 41 rfl ?_
      refine gv_if_le C dX7_takeNumber_41 100 (by decide) 44 rfl (fun c5 => ?_) (fun c5 => ?_)
      · replace h := gm_ip c5 h
        refine gv_iload_n C rfl 3 rfl dX7_takeNumber_100 101 rfl ?_
        obtain rfl := Option.some.inj h
        exact gv_iret C E rfl rfl dX7_takeNumber_101
      · replace h := gm_iq c5 h
        refine gv_aload_n C rfl 0 rfl dX7_takeNumber_44 45 rfl ?_
        obtain ⟨q6, hq6, h⟩ := gm_bd h
        refine gv_callVi C mc_yX7_nextSign ⟨mi_yX7_nextSign, me_yX7_nextSign⟩ (by decide) mkX7_184 gi_7 ⟨_, rfl⟩ rfl rfl (kX7_nextSign _  _ _ hq6) rfl rfl (Nat.le_of_ble_eq_true rfl) dX7_takeNumber_45 48 rfl ?_
        refine gv_bipush C 48 rfl dX7_takeNumber_48 50 rfl ?_
        refine gv_bipush C 57 rfl dX7_takeNumber_50 52 rfl ?_
        obtain ⟨q7, hq7, h⟩ := gm_bd h
        refine gv_callSi C mc_yX7_in ms_yX7_in (by decide) mkX7_40 (kX7_in _ _ _ _ _ _ hq7) rfl rfl (Nat.le_of_ble_eq_true rfl) dX7_takeNumber_52 55 rfl ?_
        refine gv_if_eq C dX7_takeNumber_55 100 (by decide) 58 rfl (fun c8 => ?_) (fun c8 => ?_)
        · replace h := gm_ip c8 h
          refine gv_iload_n C rfl 3 rfl dX7_takeNumber_100 101 rfl ?_
          obtain rfl := Option.some.inj h
          exact gv_iret C E rfl rfl dX7_takeNumber_101
        · replace h := gm_iq c8 h
          refine gv_bipush C 10 rfl dX7_takeNumber_58 60 rfl ?_
          refine gv_iload_n C rfl 3 rfl dX7_takeNumber_60 61 rfl ?_
          refine gv_imul C dX7_takeNumber_61 62 rfl ?_
          refine gv_aload_n C rfl 0 rfl dX7_takeNumber_62 63 rfl ?_
          obtain ⟨q9, hq9, h⟩ := gm_bd h
          refine gv_callVi C mc_yX7_nextSign ⟨mi_yX7_nextSign, me_yX7_nextSign⟩ (by decide) mkX7_184 gi_7 ⟨_, rfl⟩ rfl rfl (kX7_nextSign _  _ _ hq9) rfl rfl (Nat.le_of_ble_eq_true rfl) dX7_takeNumber_63 66 rfl ?_
          refine gv_iadd C dX7_takeNumber_66 67 rfl ?_
          refine gv_bipush C 48 rfl dX7_takeNumber_67 69 rfl ?_
          refine gv_isub C dX7_takeNumber_69 70 rfl ?_
          refine gv_iload_n C rfl 2 rfl dX7_takeNumber_70 71 rfl ?_
          refine gv_icmp_gt C dX7_takeNumber_71 100 (by decide) 74 rfl (fun c10 => ?_) (fun c10 => ?_)
          · replace h := gm_ip c10 h
            refine gv_iload_n C rfl 3 rfl dX7_takeNumber_100 101 rfl ?_
            obtain rfl := Option.some.inj h
            exact gv_iret C E rfl rfl dX7_takeNumber_101
          · replace h := gm_iq c10 h
            refine gv_bipush C 10 rfl dX7_takeNumber_74 76 rfl ?_
            refine gv_iload_n C rfl 3 rfl dX7_takeNumber_76 77 rfl ?_
            refine gv_imul C dX7_takeNumber_77 78 rfl ?_
            refine gv_aload_n C rfl 0 rfl dX7_takeNumber_78 79 rfl ?_
            obtain ⟨q11, hq11, h⟩ := gm_bd h
            refine gv_callVi C mc_yX7_nextSign ⟨mi_yX7_nextSign, me_yX7_nextSign⟩ (by decide) mkX7_184 gi_7 ⟨_, rfl⟩ rfl rfl (kX7_nextSign _  _ _ hq11) rfl rfl (Nat.le_of_ble_eq_true rfl) dX7_takeNumber_79 82 rfl ?_
            refine gv_iadd C dX7_takeNumber_82 83 rfl ?_
            refine gv_bipush C 48 rfl dX7_takeNumber_83 85 rfl ?_
            refine gv_isub C dX7_takeNumber_85 86 rfl ?_
            refine gv_istore_n C rfl [(3, _), (0, _), (1, _), (2, _)] (by decide) rfl dX7_takeNumber_86 87 rfl ?_
            refine gv_aload_n C rfl 1 rfl dX7_takeNumber_87 88 rfl ?_
            refine gv_dup C rfl dX7_takeNumber_88 89 rfl ?_
            refine gf_7_6 C gi_7 lkX7_181 dX7_takeNumber_89 92 rfl ?_
            refine gv_iconst C 1 rfl dX7_takeNumber_92 93 rfl ?_
            refine gv_iadd C dX7_takeNumber_93 94 rfl ?_
            refine pf_7_6 C gi_7 lkX7_181 dX7_takeNumber_94 97 rfl ?_
            refine gv_goto C dX7_takeNumber_97 40 (by decide) ?_
            refine gm_ls [1, 2, 3, 0] rfl ?_
            exact ih40 _ _ h
  refine gm_lv (lv' := [(0, _), (1, _), (2, _)]) rfl ?_
  refine gv_aload_n C rfl 0 rfl dX7_takeNumber_0 1 rfl ?_
  obtain ⟨q1, hq1, h⟩ := gm_bd h
  refine gv_callVi C mc_yX7_nextSign ⟨mi_yX7_nextSign, me_yX7_nextSign⟩ (by decide) mkX7_184 gi_7 ⟨_, rfl⟩ rfl rfl (kX7_nextSign _  _ _ hq1) rfl rfl (Nat.le_of_ble_eq_true rfl) dX7_takeNumber_1 4 rfl ?_
  refine gv_bipush C 48 rfl dX7_takeNumber_4 6 rfl ?_
  refine gv_isub C dX7_takeNumber_6 7 rfl ?_
  refine gv_istore_n C rfl [(3, _), (0, _), (1, _), (2, _)] (by decide) rfl dX7_takeNumber_7 8 rfl ?_
  refine gv_iload_n C rfl 0 rfl dX7_takeNumber_8 9 rfl ?_
  refine gv_iload_n C rfl 2 rfl dX7_takeNumber_9 10 rfl ?_
  refine gv_bipush C 9 rfl dX7_takeNumber_10 12 rfl ?_
  obtain ⟨q2, hq2, h⟩ := gm_bd h
  refine gv_callSi C mc_yX7_in ms_yX7_in (by decide) mkX7_40 (kX7_in _ _ _ _ _ _ hq2) rfl rfl (Nat.le_of_ble_eq_true rfl) dX7_takeNumber_12 15 rfl ?_
  refine gv_if_eq C dX7_takeNumber_15 23 (by decide) 18 rfl (fun c3 => ?_) (fun c3 => ?_)
  · replace h := gm_ip c3 h
    refine gv_aload_n C rfl 1 rfl dX7_takeNumber_23 24 rfl ?_
    refine gv_iconst C 1 rfl dX7_takeNumber_24 25 rfl ?_
    refine pf_7_7 C gi_7 (Or.inr rfl) lkX7_187 dX7_takeNumber_25 28 rfl ?_
    refine gv_iconst C 0 rfl dX7_takeNumber_28 29 rfl ?_
    obtain rfl := Option.some.inj h
    exact gv_iret C E rfl rfl dX7_takeNumber_29
  · replace h := gm_iq c3 h
    refine gv_iload_n C rfl 0 rfl dX7_takeNumber_18 19 rfl ?_
    refine gv_iload_n C rfl 3 rfl dX7_takeNumber_19 20 rfl ?_
    refine gv_icmp_le C dX7_takeNumber_20 30 (by decide) 23 rfl (fun c4 => ?_) (fun c4 => ?_)
    · replace h := gm_ip c4 h
      refine gv_aload_n C rfl 1 rfl dX7_takeNumber_30 31 rfl ?_
      refine gv_dup C rfl dX7_takeNumber_31 32 rfl ?_
      refine gf_7_6 C gi_7 lkX7_181 dX7_takeNumber_32 35 rfl ?_
      refine gv_iconst C 1 rfl dX7_takeNumber_35 36 rfl ?_
      refine gv_iadd C dX7_takeNumber_36 37 rfl ?_
      refine pf_7_6 C gi_7 lkX7_181 dX7_takeNumber_37 40 rfl ?_
      refine gm_ls [1, 2, 3, 0] rfl ?_
      exact L40 _ _ _ h
    · replace h := gm_iq c4 h
      refine gv_aload_n C rfl 1 rfl dX7_takeNumber_23 24 rfl ?_
      refine gv_iconst C 1 rfl dX7_takeNumber_24 25 rfl ?_
      refine pf_7_7 C gi_7 (Or.inr rfl) lkX7_187 dX7_takeNumber_25 28 rfl ?_
      refine gv_iconst C 0 rfl dX7_takeNumber_28 29 rfl ?_
      obtain rfl := Option.some.inj h
      exact gv_iret C E rfl rfl dX7_takeNumber_29
set_option maxRecDepth 100000 in
set_option maxHeartbeats 4000000 in
theorem kX7_takeSide (w : gm_Wd) (G : Gm) (q : Int32 × Gm) (h : fX7_takeSide G = some q) : gm_C w yX7_takeSide cX7_takeSide 1 (some .int) 1 [.ref (gm_ad w 7 5 0)] G (some (.int q.1)) q.2 := by
  refine gm_start (by decide) (Nat.le_of_ble_eq_true rfl) ?_
  intro x hw C E
  subst hw
  have C : gm_X x cX7_takeSide 1 RX7 (some .int) 1 := C
  unfold fX7_takeSide at h
  refine gm_lv (lv' := [(0, _)]) rfl ?_
  refine gv_aload_n C rfl 0 rfl dX7_takeSide_0 1 rfl ?_
  refine gf_7_7 C gi_7 lkX7_187 dX7_takeSide_1 4 rfl ?_
  refine gv_if_ne C dX7_takeSide_4 25 (by decide) 7 rfl (fun c1 => ?_) (fun c1 => ?_)
  · replace h := gm_ip c1 h
    refine gv_aload_n C rfl 0 rfl dX7_takeSide_7 8 rfl ?_
    obtain ⟨q2, hq2, h⟩ := gm_bd h
    refine gv_callVi C mc_yX7_nextSign ⟨mi_yX7_nextSign, me_yX7_nextSign⟩ (by decide) mkX7_184 gi_7 ⟨_, rfl⟩ rfl rfl (kX7_nextSign _  _ _ hq2) rfl rfl (Nat.le_of_ble_eq_true rfl) dX7_takeSide_8 11 rfl ?_
    refine gv_bipush C 43 rfl dX7_takeSide_11 13 rfl ?_
    refine gv_icmp_eq C dX7_takeSide_13 32 (by decide) 16 rfl (fun c3 => ?_) (fun c3 => ?_)
    · replace h := gm_ip c3 h
      refine gv_aload_n C rfl 0 rfl dX7_takeSide_32 33 rfl ?_
      refine gv_dup C rfl dX7_takeSide_33 34 rfl ?_
      refine gf_7_6 C gi_7 lkX7_181 dX7_takeSide_34 37 rfl ?_
      refine gv_iconst C 1 rfl dX7_takeSide_37 38 rfl ?_
      refine gv_iadd C dX7_takeSide_38 39 rfl ?_
      refine pf_7_6 C gi_7 lkX7_181 dX7_takeSide_39 42 rfl ?_
      refine gv_aload_n C rfl 0 rfl dX7_takeSide_42 43 rfl ?_
      refine gf_7_4 C gi_7 lkX7_23 dX7_takeSide_43 46 rfl ?_
      refine gv_aload_n C rfl 0 rfl dX7_takeSide_46 47 rfl ?_
      refine gf_7_6 C gi_7 lkX7_181 dX7_takeSide_47 50 rfl ?_
      refine gv_iconst C 1 rfl dX7_takeSide_50 51 rfl ?_
      refine gv_isub C dX7_takeSide_51 52 rfl ?_
      obtain ⟨g4, h⟩ := gm_gis h
      refine gv_iald C (gi_85 (c := 3) (by decide)) rfl g4 dX7_takeSide_52 53 rfl ?_
      refine gv_bipush C 43 rfl dX7_takeSide_53 55 rfl ?_
      refine gv_icmp_ne C dX7_takeSide_55 62 (by decide) 58 rfl (fun c5 => ?_) (fun c5 => ?_)
      · replace h := gm_ip c5 h
        refine gv_iconst C 0 rfl dX7_takeSide_58 59 rfl ?_
        refine gv_goto C dX7_takeSide_59 63 (by decide) ?_
        obtain rfl := Option.some.inj h
        exact gv_iret C E rfl rfl dX7_takeSide_63
      · replace h := gm_iq c5 h
        refine gv_iconst C 1 rfl dX7_takeSide_62 63 rfl ?_
        obtain rfl := Option.some.inj h
        exact gv_iret C E rfl rfl dX7_takeSide_63
    · replace h := gm_iq c3 h
      refine gv_aload_n C rfl 0 rfl dX7_takeSide_16 17 rfl ?_
      obtain ⟨q6, hq6, h⟩ := gm_bd h
      refine gv_callVi C mc_yX7_nextSign ⟨mi_yX7_nextSign, me_yX7_nextSign⟩ (by decide) mkX7_184 gi_7 ⟨_, rfl⟩ rfl rfl (kX7_nextSign _  _ _ hq6) rfl rfl (Nat.le_of_ble_eq_true rfl) dX7_takeSide_17 20 rfl ?_
      refine gv_bipush C 45 rfl dX7_takeSide_20 22 rfl ?_
      refine gv_icmp_eq C dX7_takeSide_22 32 (by decide) 25 rfl (fun c7 => ?_) (fun c7 => ?_)
      · replace h := gm_ip c7 h
        refine gv_aload_n C rfl 0 rfl dX7_takeSide_32 33 rfl ?_
        refine gv_dup C rfl dX7_takeSide_33 34 rfl ?_
        refine gf_7_6 C gi_7 lkX7_181 dX7_takeSide_34 37 rfl ?_
        refine gv_iconst C 1 rfl dX7_takeSide_37 38 rfl ?_
        refine gv_iadd C dX7_takeSide_38 39 rfl ?_
        refine pf_7_6 C gi_7 lkX7_181 dX7_takeSide_39 42 rfl ?_
        refine gv_aload_n C rfl 0 rfl dX7_takeSide_42 43 rfl ?_
        refine gf_7_4 C gi_7 lkX7_23 dX7_takeSide_43 46 rfl ?_
        refine gv_aload_n C rfl 0 rfl dX7_takeSide_46 47 rfl ?_
        refine gf_7_6 C gi_7 lkX7_181 dX7_takeSide_47 50 rfl ?_
        refine gv_iconst C 1 rfl dX7_takeSide_50 51 rfl ?_
        refine gv_isub C dX7_takeSide_51 52 rfl ?_
        obtain ⟨g8, h⟩ := gm_gis h
        refine gv_iald C (gi_85 (c := 3) (by decide)) rfl g8 dX7_takeSide_52 53 rfl ?_
        refine gv_bipush C 43 rfl dX7_takeSide_53 55 rfl ?_
        refine gv_icmp_ne C dX7_takeSide_55 62 (by decide) 58 rfl (fun c9 => ?_) (fun c9 => ?_)
        · replace h := gm_ip c9 h
          refine gv_iconst C 0 rfl dX7_takeSide_58 59 rfl ?_
          refine gv_goto C dX7_takeSide_59 63 (by decide) ?_
          obtain rfl := Option.some.inj h
          exact gv_iret C E rfl rfl dX7_takeSide_63
        · replace h := gm_iq c9 h
          refine gv_iconst C 1 rfl dX7_takeSide_62 63 rfl ?_
          obtain rfl := Option.some.inj h
          exact gv_iret C E rfl rfl dX7_takeSide_63
      · replace h := gm_iq c7 h
        refine gv_aload_n C rfl 0 rfl dX7_takeSide_25 26 rfl ?_
        refine gv_iconst C 1 rfl dX7_takeSide_26 27 rfl ?_
        refine pf_7_7 C gi_7 (Or.inr rfl) lkX7_187 dX7_takeSide_27 30 rfl ?_
        refine gv_iconst C 0 rfl dX7_takeSide_30 31 rfl ?_
        obtain rfl := Option.some.inj h
        exact gv_iret C E rfl rfl dX7_takeSide_31
  · replace h := gm_iq c1 h
    refine gv_aload_n C rfl 0 rfl dX7_takeSide_25 26 rfl ?_
    refine gv_iconst C 1 rfl dX7_takeSide_26 27 rfl ?_
    refine pf_7_7 C gi_7 (Or.inr rfl) lkX7_187 dX7_takeSide_27 30 rfl ?_
    refine gv_iconst C 0 rfl dX7_takeSide_30 31 rfl ?_
    obtain rfl := Option.some.inj h
    exact gv_iret C E rfl rfl dX7_takeSide_31
set_option maxRecDepth 100000 in
set_option maxHeartbeats 4000000 in
theorem kX7_readOrder (w : gm_Wd) (G : Gm) (q : Gm) (h : fX7_readOrder G = some q) : gm_C w yX7_readOrder cX7_readOrder 3 none 2 [.ref (gm_ad w 7 5 0)] G none q := by
  refine gm_start (by decide) (Nat.le_of_ble_eq_true rfl) ?_
  intro x hw C E
  subst hw
  have C : gm_X x cX7_readOrder 3 RX7 none 2 := C
  unfold fX7_readOrder at h
  refine gm_lv (lv' := [(0, _)]) rfl ?_
  refine gv_aload_n C rfl 0 rfl dX7_readOrder_0 1 rfl ?_
  obtain ⟨q1, hq1, h⟩ := gm_bd h
  refine gv_callVi C mc_yX7_nextSign ⟨mi_yX7_nextSign, me_yX7_nextSign⟩ (by decide) mkX7_184 gi_7 ⟨_, rfl⟩ rfl rfl (kX7_nextSign _  _ _ hq1) rfl rfl (Nat.le_of_ble_eq_true rfl) dX7_readOrder_1 4 rfl ?_
  refine gv_istore_n C rfl [(1, _), (0, _)] (by decide) rfl dX7_readOrder_4 5 rfl ?_
  refine gv_iload_n C rfl 0 rfl dX7_readOrder_5 6 rfl ?_
  obtain ⟨q2, hq2, h⟩ := gm_bd h
  refine gv_callSi C mc_yX7_isForTrain ms_yX7_isForTrain (by decide) mkX7_191 (kX7_isForTrain _ _ _ _ hq2) rfl rfl (Nat.le_of_ble_eq_true rfl) dX7_readOrder_6 9 rfl ?_
  refine gv_if_ne C dX7_readOrder_9 31 (by decide) 12 rfl (fun c3 => ?_) (fun c3 => ?_)
  · replace h := gm_ip c3 h
    refine gv_iload_n C rfl 0 rfl dX7_readOrder_12 13 rfl ?_
    obtain ⟨q4, hq4, h⟩ := gm_bd h
    refine gv_callSi C mc_yX7_isForBlock ms_yX7_isForBlock (by decide) mkX7_194 (kX7_isForBlock _ _ _ _ hq4) rfl rfl (Nat.le_of_ble_eq_true rfl) dX7_readOrder_13 16 rfl ?_
    refine gv_if_ne C dX7_readOrder_16 31 (by decide) 19 rfl (fun c5 => ?_) (fun c5 => ?_)
    · replace h := gm_ip c5 h
      refine gv_iload_n C rfl 0 rfl dX7_readOrder_19 20 rfl ?_
      refine gv_bipush C 116 rfl dX7_readOrder_20 22 rfl ?_
      refine gv_icmp_eq C dX7_readOrder_22 31 (by decide) 25 rfl (fun c6 => ?_) (fun c6 => ?_)
      · replace h := gm_ip c6 h
        refine gv_aload_n C rfl 1 rfl dX7_readOrder_31 32 rfl ?_
        refine gv_dup C rfl dX7_readOrder_32 33 rfl ?_
        refine gf_7_6 C gi_7 lkX7_181 dX7_readOrder_33 36 rfl ?_
        refine gv_iconst C 1 rfl dX7_readOrder_36 37 rfl ?_
        refine gv_iadd C dX7_readOrder_37 38 rfl ?_
        refine pf_7_6 C gi_7 lkX7_181 dX7_readOrder_38 41 rfl ?_
        refine gv_iconst C 3 rfl dX7_readOrder_41 42 rfl ?_
        refine gv_aload_n C rfl 1 rfl dX7_readOrder_42 43 rfl ?_
        refine gf_7_9 C gi_7 lkX7_197 dX7_readOrder_43 46 rfl ?_
        refine gv_imul C dX7_readOrder_46 47 rfl ?_
        refine gv_istore_n C rfl [(2, _), (1, _), (0, _)] (by decide) rfl dX7_readOrder_47 48 rfl ?_
        refine gv_aload_n C rfl 2 rfl dX7_readOrder_48 49 rfl ?_
        refine gf_7_8 C gi_7 lkX7_26 dX7_readOrder_49 52 rfl ?_
        refine gv_iload_n C rfl 0 rfl dX7_readOrder_52 53 rfl ?_
        refine gv_iload_n C rfl 1 rfl dX7_readOrder_53 54 rfl ?_
        obtain ⟨g7, h⟩ := gm_gis h
        refine gv_iast C (gi_85 (c := 4) (by decide)) rfl g7 dX7_readOrder_54 55 rfl ?_
        refine gv_aload_n C rfl 2 rfl dX7_readOrder_55 56 rfl ?_
        refine gf_7_8 C gi_7 lkX7_26 dX7_readOrder_56 59 rfl ?_
        refine gv_iload_n C rfl 0 rfl dX7_readOrder_59 60 rfl ?_
        refine gv_iconst C 1 rfl dX7_readOrder_60 61 rfl ?_
        refine gv_iadd C dX7_readOrder_61 62 rfl ?_
        refine gv_iload_n C rfl 1 rfl dX7_readOrder_62 63 rfl ?_
        obtain ⟨q8, hq8, h⟩ := gm_bd h
        refine gv_callSi C mc_yX7_isForTrain ms_yX7_isForTrain (by decide) mkX7_191 (kX7_isForTrain _ _ _ _ hq8) rfl rfl (Nat.le_of_ble_eq_true rfl) dX7_readOrder_63 66 rfl ?_
        refine gv_if_eq C dX7_readOrder_66 79 (by decide) 69 rfl (fun c9 => ?_) (fun c9 => ?_)
        · replace h := gm_ip c9 h
          refine gv_iload_n C rfl 1 rfl dX7_readOrder_79 80 rfl ?_
          obtain ⟨q10, hq10, h⟩ := gm_bd h
          refine gv_callSi C mc_yX7_isForBlock ms_yX7_isForBlock (by decide) mkX7_194 (kX7_isForBlock _ _ _ _ hq10) rfl rfl (Nat.le_of_ble_eq_true rfl) dX7_readOrder_80 83 rfl ?_
          refine gv_if_eq C dX7_readOrder_83 95 (by decide) 86 rfl (fun c11 => ?_) (fun c11 => ?_)
          · replace h := gm_ip c11 h
            refine gv_aload_n C rfl 2 rfl dX7_readOrder_95 96 rfl ?_
            refine gv_iconst C 1 rfl dX7_readOrder_96 97 rfl ?_
            refine gv_bipush C 99 rfl dX7_readOrder_97 99 rfl ?_
            obtain ⟨q12, hq12, h⟩ := gm_bd h
            refine gv_callVi C mc_yX7_takeNumber ⟨mi_yX7_takeNumber, me_yX7_takeNumber⟩ (by decide) mkX7_200 gi_7 ⟨_, rfl⟩ rfl rfl (kX7_takeNumber _ _ _ _ _ hq12) rfl rfl (Nat.le_of_ble_eq_true rfl) dX7_readOrder_99 102 rfl ?_
            obtain ⟨g13, h⟩ := gm_gis h
            refine gv_iast C (gi_85 (c := 4) (by decide)) rfl g13 dX7_readOrder_102 103 rfl ?_
            refine gv_aload_n C rfl 2 rfl dX7_readOrder_103 104 rfl ?_
            refine gf_7_8 C gi_7 lkX7_26 dX7_readOrder_104 107 rfl ?_
            refine gv_iload_n C rfl 0 rfl dX7_readOrder_107 108 rfl ?_
            refine gv_iconst C 2 rfl dX7_readOrder_108 109 rfl ?_
            refine gv_iadd C dX7_readOrder_109 110 rfl ?_
            refine gv_iload_n C rfl 1 rfl dX7_readOrder_110 111 rfl ?_
            obtain ⟨q14, hq14, h⟩ := gm_bd h
            refine gv_callSi C mc_yX7_isForBlock ms_yX7_isForBlock (by decide) mkX7_194 (kX7_isForBlock _ _ _ _ hq14) rfl rfl (Nat.le_of_ble_eq_true rfl) dX7_readOrder_111 114 rfl ?_
            refine gv_if_eq C dX7_readOrder_114 124 (by decide) 117 rfl (fun c15 => ?_) (fun c15 => ?_)
            · replace h := gm_ip c15 h
              refine gv_iconst C 0 rfl dX7_readOrder_124 125 rfl ?_
              obtain ⟨g16, h⟩ := gm_gis h
              refine gv_iast C (gi_85 (c := 4) (by decide)) rfl g16 dX7_readOrder_125 126 rfl ?_
              refine gv_aload_n C rfl 2 rfl dX7_readOrder_126 127 rfl ?_
              refine gv_dup C rfl dX7_readOrder_127 128 rfl ?_
              refine gf_7_9 C gi_7 lkX7_197 dX7_readOrder_128 131 rfl ?_
              refine gv_iconst C 1 rfl dX7_readOrder_131 132 rfl ?_
              refine gv_iadd C dX7_readOrder_132 133 rfl ?_
              refine pf_7_9 C gi_7 lkX7_197 dX7_readOrder_133 136 rfl ?_
              obtain rfl := Option.some.inj h
              exact gv_vret C E rfl rfl dX7_readOrder_136
            · replace h := gm_iq c15 h
              refine gv_aload_n C rfl 2 rfl dX7_readOrder_117 118 rfl ?_
              obtain ⟨q17, hq17, h⟩ := gm_bd h
              refine gv_callVi C mc_yX7_takeSide ⟨mi_yX7_takeSide, me_yX7_takeSide⟩ (by decide) mkX7_203 gi_7 ⟨_, rfl⟩ rfl rfl (kX7_takeSide _  _ _ hq17) rfl rfl (Nat.le_of_ble_eq_true rfl) dX7_readOrder_118 121 rfl ?_
              refine gv_goto C dX7_readOrder_121 125 (by decide) ?_
              obtain ⟨g18, h⟩ := gm_gis h
              refine gv_iast C (gi_85 (c := 4) (by decide)) rfl g18 dX7_readOrder_125 126 rfl ?_
              refine gv_aload_n C rfl 2 rfl dX7_readOrder_126 127 rfl ?_
              refine gv_dup C rfl dX7_readOrder_127 128 rfl ?_
              refine gf_7_9 C gi_7 lkX7_197 dX7_readOrder_128 131 rfl ?_
              refine gv_iconst C 1 rfl dX7_readOrder_131 132 rfl ?_
              refine gv_iadd C dX7_readOrder_132 133 rfl ?_
              refine pf_7_9 C gi_7 lkX7_197 dX7_readOrder_133 136 rfl ?_
              obtain rfl := Option.some.inj h
              exact gv_vret C E rfl rfl dX7_readOrder_136
          · replace h := gm_iq c11 h
            refine gv_aload_n C rfl 2 rfl dX7_readOrder_86 87 rfl ?_
            refine gv_iconst C 0 rfl dX7_readOrder_87 88 rfl ?_
            refine gv_iconst C 4 rfl dX7_readOrder_88 89 rfl ?_
            obtain ⟨q19, hq19, h⟩ := gm_bd h
            refine gv_callVi C mc_yX7_takeNumber ⟨mi_yX7_takeNumber, me_yX7_takeNumber⟩ (by decide) mkX7_200 gi_7 ⟨_, rfl⟩ rfl rfl (kX7_takeNumber _ _ _ _ _ hq19) rfl rfl (Nat.le_of_ble_eq_true rfl) dX7_readOrder_89 92 rfl ?_
            refine gv_goto C dX7_readOrder_92 102 (by decide) ?_
            obtain ⟨g20, h⟩ := gm_gis h
            refine gv_iast C (gi_85 (c := 4) (by decide)) rfl g20 dX7_readOrder_102 103 rfl ?_
            refine gv_aload_n C rfl 2 rfl dX7_readOrder_103 104 rfl ?_
            refine gf_7_8 C gi_7 lkX7_26 dX7_readOrder_104 107 rfl ?_
            refine gv_iload_n C rfl 0 rfl dX7_readOrder_107 108 rfl ?_
            refine gv_iconst C 2 rfl dX7_readOrder_108 109 rfl ?_
            refine gv_iadd C dX7_readOrder_109 110 rfl ?_
            refine gv_iload_n C rfl 1 rfl dX7_readOrder_110 111 rfl ?_
            obtain ⟨q21, hq21, h⟩ := gm_bd h
            refine gv_callSi C mc_yX7_isForBlock ms_yX7_isForBlock (by decide) mkX7_194 (kX7_isForBlock _ _ _ _ hq21) rfl rfl (Nat.le_of_ble_eq_true rfl) dX7_readOrder_111 114 rfl ?_
            refine gv_if_eq C dX7_readOrder_114 124 (by decide) 117 rfl (fun c22 => ?_) (fun c22 => ?_)
            · replace h := gm_ip c22 h
              refine gv_iconst C 0 rfl dX7_readOrder_124 125 rfl ?_
              obtain ⟨g23, h⟩ := gm_gis h
              refine gv_iast C (gi_85 (c := 4) (by decide)) rfl g23 dX7_readOrder_125 126 rfl ?_
              refine gv_aload_n C rfl 2 rfl dX7_readOrder_126 127 rfl ?_
              refine gv_dup C rfl dX7_readOrder_127 128 rfl ?_
              refine gf_7_9 C gi_7 lkX7_197 dX7_readOrder_128 131 rfl ?_
              refine gv_iconst C 1 rfl dX7_readOrder_131 132 rfl ?_
              refine gv_iadd C dX7_readOrder_132 133 rfl ?_
              refine pf_7_9 C gi_7 lkX7_197 dX7_readOrder_133 136 rfl ?_
              obtain rfl := Option.some.inj h
              exact gv_vret C E rfl rfl dX7_readOrder_136
            · replace h := gm_iq c22 h
              refine gv_aload_n C rfl 2 rfl dX7_readOrder_117 118 rfl ?_
              obtain ⟨q24, hq24, h⟩ := gm_bd h
              refine gv_callVi C mc_yX7_takeSide ⟨mi_yX7_takeSide, me_yX7_takeSide⟩ (by decide) mkX7_203 gi_7 ⟨_, rfl⟩ rfl rfl (kX7_takeSide _  _ _ hq24) rfl rfl (Nat.le_of_ble_eq_true rfl) dX7_readOrder_118 121 rfl ?_
              refine gv_goto C dX7_readOrder_121 125 (by decide) ?_
              obtain ⟨g25, h⟩ := gm_gis h
              refine gv_iast C (gi_85 (c := 4) (by decide)) rfl g25 dX7_readOrder_125 126 rfl ?_
              refine gv_aload_n C rfl 2 rfl dX7_readOrder_126 127 rfl ?_
              refine gv_dup C rfl dX7_readOrder_127 128 rfl ?_
              refine gf_7_9 C gi_7 lkX7_197 dX7_readOrder_128 131 rfl ?_
              refine gv_iconst C 1 rfl dX7_readOrder_131 132 rfl ?_
              refine gv_iadd C dX7_readOrder_132 133 rfl ?_
              refine pf_7_9 C gi_7 lkX7_197 dX7_readOrder_133 136 rfl ?_
              obtain rfl := Option.some.inj h
              exact gv_vret C E rfl rfl dX7_readOrder_136
        · replace h := gm_iq c9 h
          refine gv_aload_n C rfl 2 rfl dX7_readOrder_69 70 rfl ?_
          refine gv_iconst C 0 rfl dX7_readOrder_70 71 rfl ?_
          refine gv_bipush C 11 rfl dX7_readOrder_71 73 rfl ?_
          obtain ⟨q26, hq26, h⟩ := gm_bd h
          refine gv_callVi C mc_yX7_takeNumber ⟨mi_yX7_takeNumber, me_yX7_takeNumber⟩ (by decide) mkX7_200 gi_7 ⟨_, rfl⟩ rfl rfl (kX7_takeNumber _ _ _ _ _ hq26) rfl rfl (Nat.le_of_ble_eq_true rfl) dX7_readOrder_73 76 rfl ?_
          refine gv_goto C dX7_readOrder_76 102 (by decide) ?_
          obtain ⟨g27, h⟩ := gm_gis h
          refine gv_iast C (gi_85 (c := 4) (by decide)) rfl g27 dX7_readOrder_102 103 rfl ?_
          refine gv_aload_n C rfl 2 rfl dX7_readOrder_103 104 rfl ?_
          refine gf_7_8 C gi_7 lkX7_26 dX7_readOrder_104 107 rfl ?_
          refine gv_iload_n C rfl 0 rfl dX7_readOrder_107 108 rfl ?_
          refine gv_iconst C 2 rfl dX7_readOrder_108 109 rfl ?_
          refine gv_iadd C dX7_readOrder_109 110 rfl ?_
          refine gv_iload_n C rfl 1 rfl dX7_readOrder_110 111 rfl ?_
          obtain ⟨q28, hq28, h⟩ := gm_bd h
          refine gv_callSi C mc_yX7_isForBlock ms_yX7_isForBlock (by decide) mkX7_194 (kX7_isForBlock _ _ _ _ hq28) rfl rfl (Nat.le_of_ble_eq_true rfl) dX7_readOrder_111 114 rfl ?_
          refine gv_if_eq C dX7_readOrder_114 124 (by decide) 117 rfl (fun c29 => ?_) (fun c29 => ?_)
          · replace h := gm_ip c29 h
            refine gv_iconst C 0 rfl dX7_readOrder_124 125 rfl ?_
            obtain ⟨g30, h⟩ := gm_gis h
            refine gv_iast C (gi_85 (c := 4) (by decide)) rfl g30 dX7_readOrder_125 126 rfl ?_
            refine gv_aload_n C rfl 2 rfl dX7_readOrder_126 127 rfl ?_
            refine gv_dup C rfl dX7_readOrder_127 128 rfl ?_
            refine gf_7_9 C gi_7 lkX7_197 dX7_readOrder_128 131 rfl ?_
            refine gv_iconst C 1 rfl dX7_readOrder_131 132 rfl ?_
            refine gv_iadd C dX7_readOrder_132 133 rfl ?_
            refine pf_7_9 C gi_7 lkX7_197 dX7_readOrder_133 136 rfl ?_
            obtain rfl := Option.some.inj h
            exact gv_vret C E rfl rfl dX7_readOrder_136
          · replace h := gm_iq c29 h
            refine gv_aload_n C rfl 2 rfl dX7_readOrder_117 118 rfl ?_
            obtain ⟨q31, hq31, h⟩ := gm_bd h
            refine gv_callVi C mc_yX7_takeSide ⟨mi_yX7_takeSide, me_yX7_takeSide⟩ (by decide) mkX7_203 gi_7 ⟨_, rfl⟩ rfl rfl (kX7_takeSide _  _ _ hq31) rfl rfl (Nat.le_of_ble_eq_true rfl) dX7_readOrder_118 121 rfl ?_
            refine gv_goto C dX7_readOrder_121 125 (by decide) ?_
            obtain ⟨g32, h⟩ := gm_gis h
            refine gv_iast C (gi_85 (c := 4) (by decide)) rfl g32 dX7_readOrder_125 126 rfl ?_
            refine gv_aload_n C rfl 2 rfl dX7_readOrder_126 127 rfl ?_
            refine gv_dup C rfl dX7_readOrder_127 128 rfl ?_
            refine gf_7_9 C gi_7 lkX7_197 dX7_readOrder_128 131 rfl ?_
            refine gv_iconst C 1 rfl dX7_readOrder_131 132 rfl ?_
            refine gv_iadd C dX7_readOrder_132 133 rfl ?_
            refine pf_7_9 C gi_7 lkX7_197 dX7_readOrder_133 136 rfl ?_
            obtain rfl := Option.some.inj h
            exact gv_vret C E rfl rfl dX7_readOrder_136
      · replace h := gm_iq c6 h
        refine gv_aload_n C rfl 1 rfl dX7_readOrder_25 26 rfl ?_
        refine gv_iconst C 1 rfl dX7_readOrder_26 27 rfl ?_
        refine pf_7_7 C gi_7 (Or.inr rfl) lkX7_187 dX7_readOrder_27 30 rfl ?_
        obtain rfl := Option.some.inj h
        exact gv_vret C E rfl rfl dX7_readOrder_30
    · replace h := gm_iq c5 h
      refine gv_aload_n C rfl 1 rfl dX7_readOrder_31 32 rfl ?_
      refine gv_dup C rfl dX7_readOrder_32 33 rfl ?_
      refine gf_7_6 C gi_7 lkX7_181 dX7_readOrder_33 36 rfl ?_
      refine gv_iconst C 1 rfl dX7_readOrder_36 37 rfl ?_
      refine gv_iadd C dX7_readOrder_37 38 rfl ?_
      refine pf_7_6 C gi_7 lkX7_181 dX7_readOrder_38 41 rfl ?_
      refine gv_iconst C 3 rfl dX7_readOrder_41 42 rfl ?_
      refine gv_aload_n C rfl 1 rfl dX7_readOrder_42 43 rfl ?_
      refine gf_7_9 C gi_7 lkX7_197 dX7_readOrder_43 46 rfl ?_
      refine gv_imul C dX7_readOrder_46 47 rfl ?_
      refine gv_istore_n C rfl [(2, _), (1, _), (0, _)] (by decide) rfl dX7_readOrder_47 48 rfl ?_
      refine gv_aload_n C rfl 2 rfl dX7_readOrder_48 49 rfl ?_
      refine gf_7_8 C gi_7 lkX7_26 dX7_readOrder_49 52 rfl ?_
      refine gv_iload_n C rfl 0 rfl dX7_readOrder_52 53 rfl ?_
      refine gv_iload_n C rfl 1 rfl dX7_readOrder_53 54 rfl ?_
      obtain ⟨g33, h⟩ := gm_gis h
      refine gv_iast C (gi_85 (c := 4) (by decide)) rfl g33 dX7_readOrder_54 55 rfl ?_
      refine gv_aload_n C rfl 2 rfl dX7_readOrder_55 56 rfl ?_
      refine gf_7_8 C gi_7 lkX7_26 dX7_readOrder_56 59 rfl ?_
      refine gv_iload_n C rfl 0 rfl dX7_readOrder_59 60 rfl ?_
      refine gv_iconst C 1 rfl dX7_readOrder_60 61 rfl ?_
      refine gv_iadd C dX7_readOrder_61 62 rfl ?_
      refine gv_iload_n C rfl 1 rfl dX7_readOrder_62 63 rfl ?_
      obtain ⟨q34, hq34, h⟩ := gm_bd h
      refine gv_callSi C mc_yX7_isForTrain ms_yX7_isForTrain (by decide) mkX7_191 (kX7_isForTrain _ _ _ _ hq34) rfl rfl (Nat.le_of_ble_eq_true rfl) dX7_readOrder_63 66 rfl ?_
      refine gv_if_eq C dX7_readOrder_66 79 (by decide) 69 rfl (fun c35 => ?_) (fun c35 => ?_)
      · replace h := gm_ip c35 h
        refine gv_iload_n C rfl 1 rfl dX7_readOrder_79 80 rfl ?_
        obtain ⟨q36, hq36, h⟩ := gm_bd h
        refine gv_callSi C mc_yX7_isForBlock ms_yX7_isForBlock (by decide) mkX7_194 (kX7_isForBlock _ _ _ _ hq36) rfl rfl (Nat.le_of_ble_eq_true rfl) dX7_readOrder_80 83 rfl ?_
        refine gv_if_eq C dX7_readOrder_83 95 (by decide) 86 rfl (fun c37 => ?_) (fun c37 => ?_)
        · replace h := gm_ip c37 h
          refine gv_aload_n C rfl 2 rfl dX7_readOrder_95 96 rfl ?_
          refine gv_iconst C 1 rfl dX7_readOrder_96 97 rfl ?_
          refine gv_bipush C 99 rfl dX7_readOrder_97 99 rfl ?_
          obtain ⟨q38, hq38, h⟩ := gm_bd h
          refine gv_callVi C mc_yX7_takeNumber ⟨mi_yX7_takeNumber, me_yX7_takeNumber⟩ (by decide) mkX7_200 gi_7 ⟨_, rfl⟩ rfl rfl (kX7_takeNumber _ _ _ _ _ hq38) rfl rfl (Nat.le_of_ble_eq_true rfl) dX7_readOrder_99 102 rfl ?_
          obtain ⟨g39, h⟩ := gm_gis h
          refine gv_iast C (gi_85 (c := 4) (by decide)) rfl g39 dX7_readOrder_102 103 rfl ?_
          refine gv_aload_n C rfl 2 rfl dX7_readOrder_103 104 rfl ?_
          refine gf_7_8 C gi_7 lkX7_26 dX7_readOrder_104 107 rfl ?_
          refine gv_iload_n C rfl 0 rfl dX7_readOrder_107 108 rfl ?_
          refine gv_iconst C 2 rfl dX7_readOrder_108 109 rfl ?_
          refine gv_iadd C dX7_readOrder_109 110 rfl ?_
          refine gv_iload_n C rfl 1 rfl dX7_readOrder_110 111 rfl ?_
          obtain ⟨q40, hq40, h⟩ := gm_bd h
          refine gv_callSi C mc_yX7_isForBlock ms_yX7_isForBlock (by decide) mkX7_194 (kX7_isForBlock _ _ _ _ hq40) rfl rfl (Nat.le_of_ble_eq_true rfl) dX7_readOrder_111 114 rfl ?_
          refine gv_if_eq C dX7_readOrder_114 124 (by decide) 117 rfl (fun c41 => ?_) (fun c41 => ?_)
          · replace h := gm_ip c41 h
            refine gv_iconst C 0 rfl dX7_readOrder_124 125 rfl ?_
            obtain ⟨g42, h⟩ := gm_gis h
            refine gv_iast C (gi_85 (c := 4) (by decide)) rfl g42 dX7_readOrder_125 126 rfl ?_
            refine gv_aload_n C rfl 2 rfl dX7_readOrder_126 127 rfl ?_
            refine gv_dup C rfl dX7_readOrder_127 128 rfl ?_
            refine gf_7_9 C gi_7 lkX7_197 dX7_readOrder_128 131 rfl ?_
            refine gv_iconst C 1 rfl dX7_readOrder_131 132 rfl ?_
            refine gv_iadd C dX7_readOrder_132 133 rfl ?_
            refine pf_7_9 C gi_7 lkX7_197 dX7_readOrder_133 136 rfl ?_
            obtain rfl := Option.some.inj h
            exact gv_vret C E rfl rfl dX7_readOrder_136
          · replace h := gm_iq c41 h
            refine gv_aload_n C rfl 2 rfl dX7_readOrder_117 118 rfl ?_
            obtain ⟨q43, hq43, h⟩ := gm_bd h
            refine gv_callVi C mc_yX7_takeSide ⟨mi_yX7_takeSide, me_yX7_takeSide⟩ (by decide) mkX7_203 gi_7 ⟨_, rfl⟩ rfl rfl (kX7_takeSide _  _ _ hq43) rfl rfl (Nat.le_of_ble_eq_true rfl) dX7_readOrder_118 121 rfl ?_
            refine gv_goto C dX7_readOrder_121 125 (by decide) ?_
            obtain ⟨g44, h⟩ := gm_gis h
            refine gv_iast C (gi_85 (c := 4) (by decide)) rfl g44 dX7_readOrder_125 126 rfl ?_
            refine gv_aload_n C rfl 2 rfl dX7_readOrder_126 127 rfl ?_
            refine gv_dup C rfl dX7_readOrder_127 128 rfl ?_
            refine gf_7_9 C gi_7 lkX7_197 dX7_readOrder_128 131 rfl ?_
            refine gv_iconst C 1 rfl dX7_readOrder_131 132 rfl ?_
            refine gv_iadd C dX7_readOrder_132 133 rfl ?_
            refine pf_7_9 C gi_7 lkX7_197 dX7_readOrder_133 136 rfl ?_
            obtain rfl := Option.some.inj h
            exact gv_vret C E rfl rfl dX7_readOrder_136
        · replace h := gm_iq c37 h
          refine gv_aload_n C rfl 2 rfl dX7_readOrder_86 87 rfl ?_
          refine gv_iconst C 0 rfl dX7_readOrder_87 88 rfl ?_
          refine gv_iconst C 4 rfl dX7_readOrder_88 89 rfl ?_
          obtain ⟨q45, hq45, h⟩ := gm_bd h
          refine gv_callVi C mc_yX7_takeNumber ⟨mi_yX7_takeNumber, me_yX7_takeNumber⟩ (by decide) mkX7_200 gi_7 ⟨_, rfl⟩ rfl rfl (kX7_takeNumber _ _ _ _ _ hq45) rfl rfl (Nat.le_of_ble_eq_true rfl) dX7_readOrder_89 92 rfl ?_
          refine gv_goto C dX7_readOrder_92 102 (by decide) ?_
          obtain ⟨g46, h⟩ := gm_gis h
          refine gv_iast C (gi_85 (c := 4) (by decide)) rfl g46 dX7_readOrder_102 103 rfl ?_
          refine gv_aload_n C rfl 2 rfl dX7_readOrder_103 104 rfl ?_
          refine gf_7_8 C gi_7 lkX7_26 dX7_readOrder_104 107 rfl ?_
          refine gv_iload_n C rfl 0 rfl dX7_readOrder_107 108 rfl ?_
          refine gv_iconst C 2 rfl dX7_readOrder_108 109 rfl ?_
          refine gv_iadd C dX7_readOrder_109 110 rfl ?_
          refine gv_iload_n C rfl 1 rfl dX7_readOrder_110 111 rfl ?_
          obtain ⟨q47, hq47, h⟩ := gm_bd h
          refine gv_callSi C mc_yX7_isForBlock ms_yX7_isForBlock (by decide) mkX7_194 (kX7_isForBlock _ _ _ _ hq47) rfl rfl (Nat.le_of_ble_eq_true rfl) dX7_readOrder_111 114 rfl ?_
          refine gv_if_eq C dX7_readOrder_114 124 (by decide) 117 rfl (fun c48 => ?_) (fun c48 => ?_)
          · replace h := gm_ip c48 h
            refine gv_iconst C 0 rfl dX7_readOrder_124 125 rfl ?_
            obtain ⟨g49, h⟩ := gm_gis h
            refine gv_iast C (gi_85 (c := 4) (by decide)) rfl g49 dX7_readOrder_125 126 rfl ?_
            refine gv_aload_n C rfl 2 rfl dX7_readOrder_126 127 rfl ?_
            refine gv_dup C rfl dX7_readOrder_127 128 rfl ?_
            refine gf_7_9 C gi_7 lkX7_197 dX7_readOrder_128 131 rfl ?_
            refine gv_iconst C 1 rfl dX7_readOrder_131 132 rfl ?_
            refine gv_iadd C dX7_readOrder_132 133 rfl ?_
            refine pf_7_9 C gi_7 lkX7_197 dX7_readOrder_133 136 rfl ?_
            obtain rfl := Option.some.inj h
            exact gv_vret C E rfl rfl dX7_readOrder_136
          · replace h := gm_iq c48 h
            refine gv_aload_n C rfl 2 rfl dX7_readOrder_117 118 rfl ?_
            obtain ⟨q50, hq50, h⟩ := gm_bd h
            refine gv_callVi C mc_yX7_takeSide ⟨mi_yX7_takeSide, me_yX7_takeSide⟩ (by decide) mkX7_203 gi_7 ⟨_, rfl⟩ rfl rfl (kX7_takeSide _  _ _ hq50) rfl rfl (Nat.le_of_ble_eq_true rfl) dX7_readOrder_118 121 rfl ?_
            refine gv_goto C dX7_readOrder_121 125 (by decide) ?_
            obtain ⟨g51, h⟩ := gm_gis h
            refine gv_iast C (gi_85 (c := 4) (by decide)) rfl g51 dX7_readOrder_125 126 rfl ?_
            refine gv_aload_n C rfl 2 rfl dX7_readOrder_126 127 rfl ?_
            refine gv_dup C rfl dX7_readOrder_127 128 rfl ?_
            refine gf_7_9 C gi_7 lkX7_197 dX7_readOrder_128 131 rfl ?_
            refine gv_iconst C 1 rfl dX7_readOrder_131 132 rfl ?_
            refine gv_iadd C dX7_readOrder_132 133 rfl ?_
            refine pf_7_9 C gi_7 lkX7_197 dX7_readOrder_133 136 rfl ?_
            obtain rfl := Option.some.inj h
            exact gv_vret C E rfl rfl dX7_readOrder_136
      · replace h := gm_iq c35 h
        refine gv_aload_n C rfl 2 rfl dX7_readOrder_69 70 rfl ?_
        refine gv_iconst C 0 rfl dX7_readOrder_70 71 rfl ?_
        refine gv_bipush C 11 rfl dX7_readOrder_71 73 rfl ?_
        obtain ⟨q52, hq52, h⟩ := gm_bd h
        refine gv_callVi C mc_yX7_takeNumber ⟨mi_yX7_takeNumber, me_yX7_takeNumber⟩ (by decide) mkX7_200 gi_7 ⟨_, rfl⟩ rfl rfl (kX7_takeNumber _ _ _ _ _ hq52) rfl rfl (Nat.le_of_ble_eq_true rfl) dX7_readOrder_73 76 rfl ?_
        refine gv_goto C dX7_readOrder_76 102 (by decide) ?_
        obtain ⟨g53, h⟩ := gm_gis h
        refine gv_iast C (gi_85 (c := 4) (by decide)) rfl g53 dX7_readOrder_102 103 rfl ?_
        refine gv_aload_n C rfl 2 rfl dX7_readOrder_103 104 rfl ?_
        refine gf_7_8 C gi_7 lkX7_26 dX7_readOrder_104 107 rfl ?_
        refine gv_iload_n C rfl 0 rfl dX7_readOrder_107 108 rfl ?_
        refine gv_iconst C 2 rfl dX7_readOrder_108 109 rfl ?_
        refine gv_iadd C dX7_readOrder_109 110 rfl ?_
        refine gv_iload_n C rfl 1 rfl dX7_readOrder_110 111 rfl ?_
        obtain ⟨q54, hq54, h⟩ := gm_bd h
        refine gv_callSi C mc_yX7_isForBlock ms_yX7_isForBlock (by decide) mkX7_194 (kX7_isForBlock _ _ _ _ hq54) rfl rfl (Nat.le_of_ble_eq_true rfl) dX7_readOrder_111 114 rfl ?_
        refine gv_if_eq C dX7_readOrder_114 124 (by decide) 117 rfl (fun c55 => ?_) (fun c55 => ?_)
        · replace h := gm_ip c55 h
          refine gv_iconst C 0 rfl dX7_readOrder_124 125 rfl ?_
          obtain ⟨g56, h⟩ := gm_gis h
          refine gv_iast C (gi_85 (c := 4) (by decide)) rfl g56 dX7_readOrder_125 126 rfl ?_
          refine gv_aload_n C rfl 2 rfl dX7_readOrder_126 127 rfl ?_
          refine gv_dup C rfl dX7_readOrder_127 128 rfl ?_
          refine gf_7_9 C gi_7 lkX7_197 dX7_readOrder_128 131 rfl ?_
          refine gv_iconst C 1 rfl dX7_readOrder_131 132 rfl ?_
          refine gv_iadd C dX7_readOrder_132 133 rfl ?_
          refine pf_7_9 C gi_7 lkX7_197 dX7_readOrder_133 136 rfl ?_
          obtain rfl := Option.some.inj h
          exact gv_vret C E rfl rfl dX7_readOrder_136
        · replace h := gm_iq c55 h
          refine gv_aload_n C rfl 2 rfl dX7_readOrder_117 118 rfl ?_
          obtain ⟨q57, hq57, h⟩ := gm_bd h
          refine gv_callVi C mc_yX7_takeSide ⟨mi_yX7_takeSide, me_yX7_takeSide⟩ (by decide) mkX7_203 gi_7 ⟨_, rfl⟩ rfl rfl (kX7_takeSide _  _ _ hq57) rfl rfl (Nat.le_of_ble_eq_true rfl) dX7_readOrder_118 121 rfl ?_
          refine gv_goto C dX7_readOrder_121 125 (by decide) ?_
          obtain ⟨g58, h⟩ := gm_gis h
          refine gv_iast C (gi_85 (c := 4) (by decide)) rfl g58 dX7_readOrder_125 126 rfl ?_
          refine gv_aload_n C rfl 2 rfl dX7_readOrder_126 127 rfl ?_
          refine gv_dup C rfl dX7_readOrder_127 128 rfl ?_
          refine gf_7_9 C gi_7 lkX7_197 dX7_readOrder_128 131 rfl ?_
          refine gv_iconst C 1 rfl dX7_readOrder_131 132 rfl ?_
          refine gv_iadd C dX7_readOrder_132 133 rfl ?_
          refine pf_7_9 C gi_7 lkX7_197 dX7_readOrder_133 136 rfl ?_
          obtain rfl := Option.some.inj h
          exact gv_vret C E rfl rfl dX7_readOrder_136
  · replace h := gm_iq c3 h
    refine gv_aload_n C rfl 1 rfl dX7_readOrder_31 32 rfl ?_
    refine gv_dup C rfl dX7_readOrder_32 33 rfl ?_
    refine gf_7_6 C gi_7 lkX7_181 dX7_readOrder_33 36 rfl ?_
    refine gv_iconst C 1 rfl dX7_readOrder_36 37 rfl ?_
    refine gv_iadd C dX7_readOrder_37 38 rfl ?_
    refine pf_7_6 C gi_7 lkX7_181 dX7_readOrder_38 41 rfl ?_
    refine gv_iconst C 3 rfl dX7_readOrder_41 42 rfl ?_
    refine gv_aload_n C rfl 1 rfl dX7_readOrder_42 43 rfl ?_
    refine gf_7_9 C gi_7 lkX7_197 dX7_readOrder_43 46 rfl ?_
    refine gv_imul C dX7_readOrder_46 47 rfl ?_
    refine gv_istore_n C rfl [(2, _), (1, _), (0, _)] (by decide) rfl dX7_readOrder_47 48 rfl ?_
    refine gv_aload_n C rfl 2 rfl dX7_readOrder_48 49 rfl ?_
    refine gf_7_8 C gi_7 lkX7_26 dX7_readOrder_49 52 rfl ?_
    refine gv_iload_n C rfl 0 rfl dX7_readOrder_52 53 rfl ?_
    refine gv_iload_n C rfl 1 rfl dX7_readOrder_53 54 rfl ?_
    obtain ⟨g59, h⟩ := gm_gis h
    refine gv_iast C (gi_85 (c := 4) (by decide)) rfl g59 dX7_readOrder_54 55 rfl ?_
    refine gv_aload_n C rfl 2 rfl dX7_readOrder_55 56 rfl ?_
    refine gf_7_8 C gi_7 lkX7_26 dX7_readOrder_56 59 rfl ?_
    refine gv_iload_n C rfl 0 rfl dX7_readOrder_59 60 rfl ?_
    refine gv_iconst C 1 rfl dX7_readOrder_60 61 rfl ?_
    refine gv_iadd C dX7_readOrder_61 62 rfl ?_
    refine gv_iload_n C rfl 1 rfl dX7_readOrder_62 63 rfl ?_
    obtain ⟨q60, hq60, h⟩ := gm_bd h
    refine gv_callSi C mc_yX7_isForTrain ms_yX7_isForTrain (by decide) mkX7_191 (kX7_isForTrain _ _ _ _ hq60) rfl rfl (Nat.le_of_ble_eq_true rfl) dX7_readOrder_63 66 rfl ?_
    refine gv_if_eq C dX7_readOrder_66 79 (by decide) 69 rfl (fun c61 => ?_) (fun c61 => ?_)
    · replace h := gm_ip c61 h
      refine gv_iload_n C rfl 1 rfl dX7_readOrder_79 80 rfl ?_
      obtain ⟨q62, hq62, h⟩ := gm_bd h
      refine gv_callSi C mc_yX7_isForBlock ms_yX7_isForBlock (by decide) mkX7_194 (kX7_isForBlock _ _ _ _ hq62) rfl rfl (Nat.le_of_ble_eq_true rfl) dX7_readOrder_80 83 rfl ?_
      refine gv_if_eq C dX7_readOrder_83 95 (by decide) 86 rfl (fun c63 => ?_) (fun c63 => ?_)
      · replace h := gm_ip c63 h
        refine gv_aload_n C rfl 2 rfl dX7_readOrder_95 96 rfl ?_
        refine gv_iconst C 1 rfl dX7_readOrder_96 97 rfl ?_
        refine gv_bipush C 99 rfl dX7_readOrder_97 99 rfl ?_
        obtain ⟨q64, hq64, h⟩ := gm_bd h
        refine gv_callVi C mc_yX7_takeNumber ⟨mi_yX7_takeNumber, me_yX7_takeNumber⟩ (by decide) mkX7_200 gi_7 ⟨_, rfl⟩ rfl rfl (kX7_takeNumber _ _ _ _ _ hq64) rfl rfl (Nat.le_of_ble_eq_true rfl) dX7_readOrder_99 102 rfl ?_
        obtain ⟨g65, h⟩ := gm_gis h
        refine gv_iast C (gi_85 (c := 4) (by decide)) rfl g65 dX7_readOrder_102 103 rfl ?_
        refine gv_aload_n C rfl 2 rfl dX7_readOrder_103 104 rfl ?_
        refine gf_7_8 C gi_7 lkX7_26 dX7_readOrder_104 107 rfl ?_
        refine gv_iload_n C rfl 0 rfl dX7_readOrder_107 108 rfl ?_
        refine gv_iconst C 2 rfl dX7_readOrder_108 109 rfl ?_
        refine gv_iadd C dX7_readOrder_109 110 rfl ?_
        refine gv_iload_n C rfl 1 rfl dX7_readOrder_110 111 rfl ?_
        obtain ⟨q66, hq66, h⟩ := gm_bd h
        refine gv_callSi C mc_yX7_isForBlock ms_yX7_isForBlock (by decide) mkX7_194 (kX7_isForBlock _ _ _ _ hq66) rfl rfl (Nat.le_of_ble_eq_true rfl) dX7_readOrder_111 114 rfl ?_
        refine gv_if_eq C dX7_readOrder_114 124 (by decide) 117 rfl (fun c67 => ?_) (fun c67 => ?_)
        · replace h := gm_ip c67 h
          refine gv_iconst C 0 rfl dX7_readOrder_124 125 rfl ?_
          obtain ⟨g68, h⟩ := gm_gis h
          refine gv_iast C (gi_85 (c := 4) (by decide)) rfl g68 dX7_readOrder_125 126 rfl ?_
          refine gv_aload_n C rfl 2 rfl dX7_readOrder_126 127 rfl ?_
          refine gv_dup C rfl dX7_readOrder_127 128 rfl ?_
          refine gf_7_9 C gi_7 lkX7_197 dX7_readOrder_128 131 rfl ?_
          refine gv_iconst C 1 rfl dX7_readOrder_131 132 rfl ?_
          refine gv_iadd C dX7_readOrder_132 133 rfl ?_
          refine pf_7_9 C gi_7 lkX7_197 dX7_readOrder_133 136 rfl ?_
          obtain rfl := Option.some.inj h
          exact gv_vret C E rfl rfl dX7_readOrder_136
        · replace h := gm_iq c67 h
          refine gv_aload_n C rfl 2 rfl dX7_readOrder_117 118 rfl ?_
          obtain ⟨q69, hq69, h⟩ := gm_bd h
          refine gv_callVi C mc_yX7_takeSide ⟨mi_yX7_takeSide, me_yX7_takeSide⟩ (by decide) mkX7_203 gi_7 ⟨_, rfl⟩ rfl rfl (kX7_takeSide _  _ _ hq69) rfl rfl (Nat.le_of_ble_eq_true rfl) dX7_readOrder_118 121 rfl ?_
          refine gv_goto C dX7_readOrder_121 125 (by decide) ?_
          obtain ⟨g70, h⟩ := gm_gis h
          refine gv_iast C (gi_85 (c := 4) (by decide)) rfl g70 dX7_readOrder_125 126 rfl ?_
          refine gv_aload_n C rfl 2 rfl dX7_readOrder_126 127 rfl ?_
          refine gv_dup C rfl dX7_readOrder_127 128 rfl ?_
          refine gf_7_9 C gi_7 lkX7_197 dX7_readOrder_128 131 rfl ?_
          refine gv_iconst C 1 rfl dX7_readOrder_131 132 rfl ?_
          refine gv_iadd C dX7_readOrder_132 133 rfl ?_
          refine pf_7_9 C gi_7 lkX7_197 dX7_readOrder_133 136 rfl ?_
          obtain rfl := Option.some.inj h
          exact gv_vret C E rfl rfl dX7_readOrder_136
      · replace h := gm_iq c63 h
        refine gv_aload_n C rfl 2 rfl dX7_readOrder_86 87 rfl ?_
        refine gv_iconst C 0 rfl dX7_readOrder_87 88 rfl ?_
        refine gv_iconst C 4 rfl dX7_readOrder_88 89 rfl ?_
        obtain ⟨q71, hq71, h⟩ := gm_bd h
        refine gv_callVi C mc_yX7_takeNumber ⟨mi_yX7_takeNumber, me_yX7_takeNumber⟩ (by decide) mkX7_200 gi_7 ⟨_, rfl⟩ rfl rfl (kX7_takeNumber _ _ _ _ _ hq71) rfl rfl (Nat.le_of_ble_eq_true rfl) dX7_readOrder_89 92 rfl ?_
        refine gv_goto C dX7_readOrder_92 102 (by decide) ?_
        obtain ⟨g72, h⟩ := gm_gis h
        refine gv_iast C (gi_85 (c := 4) (by decide)) rfl g72 dX7_readOrder_102 103 rfl ?_
        refine gv_aload_n C rfl 2 rfl dX7_readOrder_103 104 rfl ?_
        refine gf_7_8 C gi_7 lkX7_26 dX7_readOrder_104 107 rfl ?_
        refine gv_iload_n C rfl 0 rfl dX7_readOrder_107 108 rfl ?_
        refine gv_iconst C 2 rfl dX7_readOrder_108 109 rfl ?_
        refine gv_iadd C dX7_readOrder_109 110 rfl ?_
        refine gv_iload_n C rfl 1 rfl dX7_readOrder_110 111 rfl ?_
        obtain ⟨q73, hq73, h⟩ := gm_bd h
        refine gv_callSi C mc_yX7_isForBlock ms_yX7_isForBlock (by decide) mkX7_194 (kX7_isForBlock _ _ _ _ hq73) rfl rfl (Nat.le_of_ble_eq_true rfl) dX7_readOrder_111 114 rfl ?_
        refine gv_if_eq C dX7_readOrder_114 124 (by decide) 117 rfl (fun c74 => ?_) (fun c74 => ?_)
        · replace h := gm_ip c74 h
          refine gv_iconst C 0 rfl dX7_readOrder_124 125 rfl ?_
          obtain ⟨g75, h⟩ := gm_gis h
          refine gv_iast C (gi_85 (c := 4) (by decide)) rfl g75 dX7_readOrder_125 126 rfl ?_
          refine gv_aload_n C rfl 2 rfl dX7_readOrder_126 127 rfl ?_
          refine gv_dup C rfl dX7_readOrder_127 128 rfl ?_
          refine gf_7_9 C gi_7 lkX7_197 dX7_readOrder_128 131 rfl ?_
          refine gv_iconst C 1 rfl dX7_readOrder_131 132 rfl ?_
          refine gv_iadd C dX7_readOrder_132 133 rfl ?_
          refine pf_7_9 C gi_7 lkX7_197 dX7_readOrder_133 136 rfl ?_
          obtain rfl := Option.some.inj h
          exact gv_vret C E rfl rfl dX7_readOrder_136
        · replace h := gm_iq c74 h
          refine gv_aload_n C rfl 2 rfl dX7_readOrder_117 118 rfl ?_
          obtain ⟨q76, hq76, h⟩ := gm_bd h
          refine gv_callVi C mc_yX7_takeSide ⟨mi_yX7_takeSide, me_yX7_takeSide⟩ (by decide) mkX7_203 gi_7 ⟨_, rfl⟩ rfl rfl (kX7_takeSide _  _ _ hq76) rfl rfl (Nat.le_of_ble_eq_true rfl) dX7_readOrder_118 121 rfl ?_
          refine gv_goto C dX7_readOrder_121 125 (by decide) ?_
          obtain ⟨g77, h⟩ := gm_gis h
          refine gv_iast C (gi_85 (c := 4) (by decide)) rfl g77 dX7_readOrder_125 126 rfl ?_
          refine gv_aload_n C rfl 2 rfl dX7_readOrder_126 127 rfl ?_
          refine gv_dup C rfl dX7_readOrder_127 128 rfl ?_
          refine gf_7_9 C gi_7 lkX7_197 dX7_readOrder_128 131 rfl ?_
          refine gv_iconst C 1 rfl dX7_readOrder_131 132 rfl ?_
          refine gv_iadd C dX7_readOrder_132 133 rfl ?_
          refine pf_7_9 C gi_7 lkX7_197 dX7_readOrder_133 136 rfl ?_
          obtain rfl := Option.some.inj h
          exact gv_vret C E rfl rfl dX7_readOrder_136
    · replace h := gm_iq c61 h
      refine gv_aload_n C rfl 2 rfl dX7_readOrder_69 70 rfl ?_
      refine gv_iconst C 0 rfl dX7_readOrder_70 71 rfl ?_
      refine gv_bipush C 11 rfl dX7_readOrder_71 73 rfl ?_
      obtain ⟨q78, hq78, h⟩ := gm_bd h
      refine gv_callVi C mc_yX7_takeNumber ⟨mi_yX7_takeNumber, me_yX7_takeNumber⟩ (by decide) mkX7_200 gi_7 ⟨_, rfl⟩ rfl rfl (kX7_takeNumber _ _ _ _ _ hq78) rfl rfl (Nat.le_of_ble_eq_true rfl) dX7_readOrder_73 76 rfl ?_
      refine gv_goto C dX7_readOrder_76 102 (by decide) ?_
      obtain ⟨g79, h⟩ := gm_gis h
      refine gv_iast C (gi_85 (c := 4) (by decide)) rfl g79 dX7_readOrder_102 103 rfl ?_
      refine gv_aload_n C rfl 2 rfl dX7_readOrder_103 104 rfl ?_
      refine gf_7_8 C gi_7 lkX7_26 dX7_readOrder_104 107 rfl ?_
      refine gv_iload_n C rfl 0 rfl dX7_readOrder_107 108 rfl ?_
      refine gv_iconst C 2 rfl dX7_readOrder_108 109 rfl ?_
      refine gv_iadd C dX7_readOrder_109 110 rfl ?_
      refine gv_iload_n C rfl 1 rfl dX7_readOrder_110 111 rfl ?_
      obtain ⟨q80, hq80, h⟩ := gm_bd h
      refine gv_callSi C mc_yX7_isForBlock ms_yX7_isForBlock (by decide) mkX7_194 (kX7_isForBlock _ _ _ _ hq80) rfl rfl (Nat.le_of_ble_eq_true rfl) dX7_readOrder_111 114 rfl ?_
      refine gv_if_eq C dX7_readOrder_114 124 (by decide) 117 rfl (fun c81 => ?_) (fun c81 => ?_)
      · replace h := gm_ip c81 h
        refine gv_iconst C 0 rfl dX7_readOrder_124 125 rfl ?_
        obtain ⟨g82, h⟩ := gm_gis h
        refine gv_iast C (gi_85 (c := 4) (by decide)) rfl g82 dX7_readOrder_125 126 rfl ?_
        refine gv_aload_n C rfl 2 rfl dX7_readOrder_126 127 rfl ?_
        refine gv_dup C rfl dX7_readOrder_127 128 rfl ?_
        refine gf_7_9 C gi_7 lkX7_197 dX7_readOrder_128 131 rfl ?_
        refine gv_iconst C 1 rfl dX7_readOrder_131 132 rfl ?_
        refine gv_iadd C dX7_readOrder_132 133 rfl ?_
        refine pf_7_9 C gi_7 lkX7_197 dX7_readOrder_133 136 rfl ?_
        obtain rfl := Option.some.inj h
        exact gv_vret C E rfl rfl dX7_readOrder_136
      · replace h := gm_iq c81 h
        refine gv_aload_n C rfl 2 rfl dX7_readOrder_117 118 rfl ?_
        obtain ⟨q83, hq83, h⟩ := gm_bd h
        refine gv_callVi C mc_yX7_takeSide ⟨mi_yX7_takeSide, me_yX7_takeSide⟩ (by decide) mkX7_203 gi_7 ⟨_, rfl⟩ rfl rfl (kX7_takeSide _  _ _ hq83) rfl rfl (Nat.le_of_ble_eq_true rfl) dX7_readOrder_118 121 rfl ?_
        refine gv_goto C dX7_readOrder_121 125 (by decide) ?_
        obtain ⟨g84, h⟩ := gm_gis h
        refine gv_iast C (gi_85 (c := 4) (by decide)) rfl g84 dX7_readOrder_125 126 rfl ?_
        refine gv_aload_n C rfl 2 rfl dX7_readOrder_126 127 rfl ?_
        refine gv_dup C rfl dX7_readOrder_127 128 rfl ?_
        refine gf_7_9 C gi_7 lkX7_197 dX7_readOrder_128 131 rfl ?_
        refine gv_iconst C 1 rfl dX7_readOrder_131 132 rfl ?_
        refine gv_iadd C dX7_readOrder_132 133 rfl ?_
        refine pf_7_9 C gi_7 lkX7_197 dX7_readOrder_133 136 rfl ?_
        obtain rfl := Option.some.inj h
        exact gv_vret C E rfl rfl dX7_readOrder_136
