set_option maxRecDepth 100000 in
set_option maxHeartbeats 4000000 in
theorem kX1_shuntTrain (w : gm_Wd) (l p1 : Nat) (hl : l < 4) (hp1 : p1 < 12) (G : Gm) (q : Int32 × Gm) (h : fX1_shuntTrain l p1 G = some q) : gm_C w yX1_shuntTrain cX1_shuntTrain 2 (some .int) 4 [.ref (gm_ad w 1 l 0), .ref (gm_ad w 5 l p1)] G (some (.int q.1)) q.2 := by
  refine gm_start (by decide) (Nat.le_of_ble_eq_true rfl) ?_
  intro x hw C E
  subst hw
  have C : gm_X x cX1_shuntTrain 2 RX1 (some .int) 4 := C
  unfold fX1_shuntTrain at h
  refine gm_lv (lv' := [(0, _), (1, _)]) rfl ?_
  refine gv_aload_n C rfl 1 rfl dX1_shuntTrain_0 1 rfl ?_
  refine gf_5_3 C (gi_5 hl hp1) lkX1_100 dX1_shuntTrain_1 4 rfl ?_
  refine gv_if_ne C dX1_shuntTrain_4 13 (by decide) 7 rfl (fun c1 => ?_) (fun c1 => ?_)
  · replace h := gm_ip c1 h
    refine gv_aload_n C rfl 0 rfl dX1_shuntTrain_7 8 rfl ?_
    refine gv_aload_n C rfl 1 rfl dX1_shuntTrain_8 9 rfl ?_
    obtain ⟨q2, hq2, h⟩ := gm_bd h
    refine gv_callVi C mc_yX1_shuntToLoop ⟨mi_yX1_shuntToLoop, me_yX1_shuntToLoop⟩ (by decide) mkX1_158 (gi_1 hl) ⟨_, rfl⟩ rfl rfl (kX1_shuntToLoop _ _ _ hl hp1 _ _ hq2) rfl rfl (Nat.le_of_ble_eq_true rfl) dX1_shuntTrain_9 12 rfl ?_
    obtain rfl := Option.some.inj h
    exact gv_iret C E rfl rfl dX1_shuntTrain_12
  · replace h := gm_iq c1 h
    refine gv_aload_n C rfl 1 rfl dX1_shuntTrain_13 14 rfl ?_
    refine gf_5_3 C (gi_5 hl hp1) lkX1_100 dX1_shuntTrain_14 17 rfl ?_
    refine gv_iconst C 1 rfl dX1_shuntTrain_17 18 rfl ?_
    refine gv_icmp_ne C dX1_shuntTrain_18 29 (by decide) 21 rfl (fun c3 => ?_) (fun c3 => ?_)
    · replace h := gm_ip c3 h
      refine gv_aload_n C rfl 0 rfl dX1_shuntTrain_21 22 rfl ?_
      refine gv_aload_n C rfl 1 rfl dX1_shuntTrain_22 23 rfl ?_
      obtain ⟨q4, hq4, h⟩ := gm_bd h
      refine gv_callVi C mc_yX1_shuntBack ⟨mi_yX1_shuntBack, me_yX1_shuntBack⟩ (by decide) mkX1_162 (gi_1 hl) ⟨_, rfl⟩ rfl rfl (kX1_shuntBack _ _ _ hl hp1 _ _ hq4) rfl rfl (Nat.le_of_ble_eq_true rfl) dX1_shuntTrain_23 26 rfl ?_
      refine gv_goto C dX1_shuntTrain_26 31 (by decide) ?_
      obtain rfl := Option.some.inj h
      exact gv_iret C E rfl rfl dX1_shuntTrain_31
    · replace h := gm_iq c3 h
      refine gv_bipush C (-5) rfl dX1_shuntTrain_29 31 rfl ?_
      obtain rfl := Option.some.inj h
      exact gv_iret C E rfl rfl dX1_shuntTrain_31
set_option maxRecDepth 100000 in
set_option maxHeartbeats 4000000 in
theorem kX1_lastBox (w : gm_Wd) (l : Nat) (hl : l < 4) (a1 : Int32) (G : Gm) (q : Int32) (h : fX1_lastBox l a1 G = some q) : gm_C w yX1_lastBox cX1_lastBox 2 (some .int) 1 [.ref (gm_ad w 1 l 0), .int a1] G (some (.int q)) G := by
  refine gm_start (by decide) (Nat.le_of_ble_eq_true rfl) ?_
  intro x hw C E
  subst hw
  have C : gm_X x cX1_lastBox 2 RX1 (some .int) 1 := C
  unfold fX1_lastBox at h
  refine gm_lv (lv' := [(0, _), (1, _)]) rfl ?_
  refine gv_aload_n C rfl 0 rfl dX1_lastBox_0 1 rfl ?_
  refine gv_iconst C 1 rfl dX1_lastBox_1 2 rfl ?_
  refine gv_iload_n C rfl 1 rfl dX1_lastBox_2 3 rfl ?_
  refine gv_isub C dX1_lastBox_3 4 rfl ?_
  obtain ⟨q1, hq1, h⟩ := gm_bd h
  refine gv_callVi C mc_yX1_firstBox ⟨mi_yX1_firstBox, me_yX1_firstBox⟩ (by decide) mkX1_103 (gi_1 hl) ⟨_, rfl⟩ rfl rfl (kX1_firstBox _ _ hl _ _ _ hq1) rfl rfl (Nat.le_of_ble_eq_true rfl) dX1_lastBox_4 7 rfl ?_
  obtain rfl := Option.some.inj h
  exact gv_iret C E rfl rfl dX1_lastBox_7
set_option maxRecDepth 100000 in
set_option maxHeartbeats 4000000 in
theorem kX1_letLeave (w : gm_Wd) (l p1 : Nat) (hl : l < 4) (hp1 : p1 < 12) (G : Gm) (q : Int32 × Gm) (h : fX1_letLeave l p1 G = some q) : gm_C w yX1_letLeave cX1_letLeave 2 (some .int) 2 [.ref (gm_ad w 1 l 0), .ref (gm_ad w 5 l p1)] G (some (.int q.1)) q.2 := by
  refine gm_start (by decide) (Nat.le_of_ble_eq_true rfl) ?_
  intro x hw C E
  subst hw
  have C : gm_X x cX1_letLeave 2 RX1 (some .int) 2 := C
  unfold fX1_letLeave at h
  refine gm_lv (lv' := [(0, _), (1, _)]) rfl ?_
  refine gv_aload_n C rfl 1 rfl dX1_letLeave_0 1 rfl ?_
  refine gv_iconst C 0 rfl dX1_letLeave_1 2 rfl ?_
  refine gv_aload_n C rfl 0 rfl dX1_letLeave_2 3 rfl ?_
  refine gv_aload_n C rfl 1 rfl dX1_letLeave_3 4 rfl ?_
  refine gf_5_2 C (gi_5 hl hp1) lkX1_118 dX1_letLeave_4 7 rfl ?_
  obtain ⟨q1, hq1, h⟩ := gm_bd h
  refine gv_callVi C mc_yX1_lastBox ⟨mi_yX1_lastBox, me_yX1_lastBox⟩ (by decide) mkX1_185 (gi_1 hl) ⟨_, rfl⟩ rfl rfl (kX1_lastBox _ _ hl _ _ _ hq1) rfl rfl (Nat.le_of_ble_eq_true rfl) dX1_letLeave_7 10 rfl ?_
  refine gv_aload_n C rfl 1 rfl dX1_letLeave_10 11 rfl ?_
  refine gf_5_2 C (gi_5 hl hp1) lkX1_118 dX1_letLeave_11 14 rfl ?_
  obtain ⟨q2, hq2, h⟩ := gm_bd h
  refine gv_callVi C mc_yX5_stands ⟨mi_yX5_stands, me_yX5_stands⟩ (by decide) mkX1_111 (gi_5 hl hp1) ⟨_, rfl⟩ rfl rfl (kX5_stands _ _ _ hl hp1 _ _ _ _ _ hq2) rfl rfl (Nat.le_of_ble_eq_true rfl) dX1_letLeave_14 17 rfl ?_
  refine gv_if_ne C dX1_letLeave_17 23 (by decide) 20 rfl (fun c3 => ?_) (fun c3 => ?_)
  · replace h := gm_ip c3 h
    refine gv_bipush C (-5) rfl dX1_letLeave_20 22 rfl ?_
    obtain rfl := Option.some.inj h
    exact gv_iret C E rfl rfl dX1_letLeave_22
  · replace h := gm_iq c3 h
    refine gv_aload_n C rfl 1 rfl dX1_letLeave_23 24 rfl ?_
    refine gv_aload_n C rfl 0 rfl dX1_letLeave_24 25 rfl ?_
    refine gf_1_7 C (gi_1 hl) lkX1_61 dX1_letLeave_25 28 rfl ?_
    obtain ⟨q4, hq4, h⟩ := gm_bd h
    refine gv_callVv C mc_yX5_go ⟨mi_yX5_go, me_yX5_go⟩ (by decide) mkX1_188 (gi_5 hl hp1) ⟨_, rfl⟩ rfl rfl (kX5_go _ _ _ hl hp1 _ _ _ hq4) rfl rfl (Nat.le_of_ble_eq_true rfl) dX1_letLeave_28 31 rfl ?_
    refine gv_aload_n C rfl 0 rfl dX1_letLeave_31 32 rfl ?_
    refine gf_1_7 C (gi_1 hl) lkX1_61 dX1_letLeave_32 35 rfl ?_
    refine gv_aload_n C rfl 1 rfl dX1_letLeave_35 36 rfl ?_
    refine gf_5_7 C (gi_5 hl hp1) lkX1_191 dX1_letLeave_36 39 rfl ?_
    refine gv_isub C dX1_letLeave_39 40 rfl ?_
    obtain rfl := Option.some.inj h
    exact gv_iret C E rfl rfl dX1_letLeave_40
set_option maxRecDepth 100000 in
set_option maxHeartbeats 4000000 in
theorem kX1_divideTrain (w : gm_Wd) (l p1 : Nat) (hl : l < 4) (hp1 : p1 < 12) (G : Gm) (q : Int32 × Gm) (h : fX1_divideTrain l p1 G = some q) : gm_C w yX1_divideTrain cX1_divideTrain 3 (some .int) 1 [.ref (gm_ad w 1 l 0), .ref (gm_ad w 5 l p1)] G (some (.int q.1)) q.2 := by
  refine gm_start (by decide) (Nat.le_of_ble_eq_true rfl) ?_
  intro x hw C E
  subst hw
  have C : gm_X x cX1_divideTrain 3 RX1 (some .int) 1 := C
  unfold fX1_divideTrain at h
  refine gm_lv (lv' := [(0, _), (1, _)]) rfl ?_
  refine gv_aload_n C rfl 1 rfl dX1_divideTrain_0 1 rfl ?_
  refine gf_5_3 C (gi_5 hl hp1) lkX1_100 dX1_divideTrain_1 4 rfl ?_
  refine gv_iconst C 2 rfl dX1_divideTrain_4 5 rfl ?_
  refine gv_icmp_ne C dX1_divideTrain_5 23 (by decide) 8 rfl (fun c1 => ?_) (fun c1 => ?_)
  · replace h := gm_ip c1 h
    refine gv_aload_n C rfl 0 rfl dX1_divideTrain_8 9 rfl ?_
    refine gv_aload_n C rfl 1 rfl dX1_divideTrain_9 10 rfl ?_
    refine gf_5_4 C (gi_5 hl hp1) lkX1_115 dX1_divideTrain_10 13 rfl ?_
    refine gv_aload_n C rfl 1 rfl dX1_divideTrain_13 14 rfl ?_
    refine gf_5_2 C (gi_5 hl hp1) lkX1_118 dX1_divideTrain_14 17 rfl ?_
    obtain ⟨q2, hq2, h⟩ := gm_bd h
    rcases gm_oc h with ⟨eq2, h⟩ | ⟨t3, eq2, h⟩
    · replace hq2 := hq2.trans (congrArg some eq2)
      refine gv_callVn C mc_yX1_blockAt ⟨mi_yX1_blockAt, me_yX1_blockAt⟩ (by decide) mkX1_121 (gi_1 hl) ⟨_, rfl⟩ rfl rfl (kX1_blockAt _ _ hl _ _ _ _ hq2) rfl rfl (Nat.le_of_ble_eq_true rfl) dX1_divideTrain_17 20 rfl ?_
      refine gv_goto C dX1_divideTrain_20 24 (by decide) ?_
      refine gv_astore_nN C rfl [(2, _), (0, _), (1, _)] (by decide) rfl dX1_divideTrain_24 25 rfl ?_
      refine gv_aload_nN C rfl 0 rfl dX1_divideTrain_25 26 rfl ?_
      refine gv_ifnullN C dX1_divideTrain_26 36 (by decide) ?_
      refine gv_bipush C (-5) rfl dX1_divideTrain_36 38 rfl ?_
      obtain rfl := Option.some.inj h
      exact gv_iret C E rfl rfl dX1_divideTrain_38
    · replace hq2 := hq2.trans (congrArg some eq2)
      refine gv_callVa C mc_yX1_blockAt ⟨mi_yX1_blockAt, me_yX1_blockAt⟩ (by decide) mkX1_121 (gi_1 hl) ⟨_, rfl⟩ rfl rfl (kX1_blockAt _ _ hl _ _ _ _ hq2) rfl rfl (Nat.le_of_ble_eq_true rfl) dX1_divideTrain_17 20 rfl ?_
      refine gv_goto C dX1_divideTrain_20 24 (by decide) ?_
      refine gv_astore_n C rfl [(2, _), (0, _), (1, _)] (by decide) rfl dX1_divideTrain_24 25 rfl ?_
      refine gv_aload_n C rfl 0 rfl dX1_divideTrain_25 26 rfl ?_
      refine gv_ifnull C dX1_divideTrain_26 29 rfl ?_
      refine gv_aload_n C rfl 2 rfl dX1_divideTrain_29 30 rfl ?_
      refine gf_5_6 C (gi_5 hl hp1) lkX1_194 dX1_divideTrain_30 33 rfl ?_
      refine gv_if_ne C dX1_divideTrain_33 39 (by decide) 36 rfl (fun c4 => ?_) (fun c4 => ?_)
      · replace h := gm_ip c4 h
        refine gv_bipush C (-5) rfl dX1_divideTrain_36 38 rfl ?_
        obtain rfl := Option.some.inj h
        exact gv_iret C E rfl rfl dX1_divideTrain_38
      · replace h := gm_iq c4 h
        refine gv_aload_n C rfl 2 rfl dX1_divideTrain_39 40 rfl ?_
        refine gv_iconst C 0 rfl dX1_divideTrain_40 41 rfl ?_
        refine pf_5_6 C (gi_5 hl hp1) (Or.inl rfl) lkX1_194 dX1_divideTrain_41 44 rfl ?_
        refine gv_aload_n C rfl 0 rfl dX1_divideTrain_44 45 rfl ?_
        refine gv_iconst C 1 rfl dX1_divideTrain_45 46 rfl ?_
        refine pf_0_5 C (gi_0 hl (bX1_blockAt _ hl _ _ _ _ hq2)) (Or.inr rfl) lkX1_197 dX1_divideTrain_46 49 rfl ?_
        refine gv_aload_n C rfl 0 rfl dX1_divideTrain_49 50 rfl ?_
        refine gf_0_0 C (gi_0 hl (bX1_blockAt _ hl _ _ _ _ hq2)) lkX1_131 dX1_divideTrain_50 53 rfl ?_
        refine gf_4_0 C (gi_4 hl (gm_h2 (bX1_blockAt _ hl _ _ _ _ hq2))) lkX1_135 dX1_divideTrain_53 56 rfl ?_
        obtain rfl := Option.some.inj h
        exact gv_iret C E rfl rfl dX1_divideTrain_56
  · replace h := gm_iq c1 h
    refine gv_null C dX1_divideTrain_23 24 rfl ?_
    refine gv_astore_nN C rfl [(2, _), (0, _), (1, _)] (by decide) rfl dX1_divideTrain_24 25 rfl ?_
    refine gv_aload_nN C rfl 0 rfl dX1_divideTrain_25 26 rfl ?_
    refine gv_ifnullN C dX1_divideTrain_26 36 (by decide) ?_
    refine gv_bipush C (-5) rfl dX1_divideTrain_36 38 rfl ?_
    obtain rfl := Option.some.inj h
    exact gv_iret C E rfl rfl dX1_divideTrain_38
set_option maxRecDepth 100000 in
set_option maxHeartbeats 4000000 in
theorem kX6_offerCode (w : gm_Wd) (a0 : Int32) (G : Gm) (q : Int32) (h : fX6_offerCode a0 = some q) : gm_C w yX6_offerCode cX6_offerCode 1 (some .int) 0 [.int a0] G (some (.int q)) G := by
  refine gm_start (by decide) (Nat.le_of_ble_eq_true rfl) ?_
  intro x hw C E
  subst hw
  have C : gm_X x cX6_offerCode 1 RX6 (some .int) 0 := C
  unfold fX6_offerCode at h
  refine gm_lv (lv' := [(0, _)]) rfl ?_
  refine gv_iload_n C rfl 0 rfl dX6_offerCode_0 1 rfl ?_
  by_cases c1 : a0 = 1
  · replace h := gm_ip c1 h
    refine gv_tableIn C 1 c1 dX6_offerCode_1 (by decide) (by decide) (o := 31) (by decide) 32 (by decide) ?_
    refine gv_iconst C 4 rfl dX6_offerCode_32 33 rfl ?_
    obtain rfl := Option.some.inj h
    exact gv_iret C E rfl rfl dX6_offerCode_33
  · replace h := gm_iq c1 h
    by_cases c2 : a0 = 2
    · replace h := gm_ip c2 h
      refine gv_tableIn C 2 c2 dX6_offerCode_1 (by decide) (by decide) (o := 33) (by decide) 34 (by decide) ?_
      refine gv_bipush C 31 rfl dX6_offerCode_34 36 rfl ?_
      obtain rfl := Option.some.inj h
      exact gv_iret C E rfl rfl dX6_offerCode_36
    · replace h := gm_iq c2 h
      by_cases c3 : a0 = 3
      · replace h := gm_ip c3 h
        refine gv_tableIn C 3 c3 dX6_offerCode_1 (by decide) (by decide) (o := 36) (by decide) 37 (by decide) ?_
        refine gv_iconst C 5 rfl dX6_offerCode_37 38 rfl ?_
        obtain rfl := Option.some.inj h
        exact gv_iret C E rfl rfl dX6_offerCode_38
      · replace h := gm_iq c3 h
        by_cases c4 : a0 = 4
        · replace h := gm_ip c4 h
          refine gv_tableIn C 4 c4 dX6_offerCode_1 (by decide) (by decide) (o := 38) (by decide) 39 (by decide) ?_
          refine gv_bipush C 32 rfl dX6_offerCode_39 41 rfl ?_
          obtain rfl := Option.some.inj h
          exact gv_iret C E rfl rfl dX6_offerCode_41
        · replace h := gm_iq c4 h
          refine gv_tableD C dX6_offerCode_1 [1, 2, 3, 4] (by decide) (by decide) (List.forall_mem_cons.mpr ⟨lv_neT c1 rfl, (List.forall_mem_cons.mpr ⟨lv_neT c2 rfl, (List.forall_mem_cons.mpr ⟨lv_neT c3 rfl, (List.forall_mem_cons.mpr ⟨lv_neT c4 rfl, (fun _ h => absurd h List.not_mem_nil)⟩)⟩)⟩)⟩) 42 (by decide) ?_
          refine gv_bipush C 41 rfl dX6_offerCode_42 44 rfl ?_
          obtain rfl := Option.some.inj h
          exact gv_iret C E rfl rfl dX6_offerCode_44
set_option maxRecDepth 100000 in
set_option maxHeartbeats 4000000 in
theorem kX1_ringRear (w : gm_Wd) (l p1 : Nat) (hl : l < 4) (hp1 : p1 < 10) (a2 : Int32) (G : Gm) (q : Int32 × Gm) (h : fX1_ringRear l p1 a2 G = some q) : gm_C w yX1_ringRear cX1_ringRear 3 (some .int) 2 [.ref (gm_ad w 1 l 0), .ref (gm_ad w 0 l p1), .int a2] G (some (.int q.1)) q.2 := by
  refine gm_start (by decide) (Nat.le_of_ble_eq_true rfl) ?_
  intro x hw C E
  subst hw
  have C : gm_X x cX1_ringRear 3 RX1 (some .int) 2 := C
  unfold fX1_ringRear at h
  refine gm_lv (lv' := [(0, _), (1, _), (2, _)]) rfl ?_
  refine gv_aload_n C rfl 0 rfl dX1_ringRear_0 1 rfl ?_
  refine gf_1_4 C (gi_1 hl) lkX1_43 dX1_ringRear_1 4 rfl ?_
  refine gv_aload_n C rfl 0 rfl dX1_ringRear_4 5 rfl ?_
  refine gf_1_7 C (gi_1 hl) lkX1_61 dX1_ringRear_5 8 rfl ?_
  refine gv_aload_n C rfl 1 rfl dX1_ringRear_8 9 rfl ?_
  refine gv_aload_n C rfl 1 rfl dX1_ringRear_9 10 rfl ?_
  obtain ⟨q1, hq1, h⟩ := gm_bd h
  refine gv_callVi C mc_yX0_rearBox ⟨mi_yX0_rearBox, me_yX0_rearBox⟩ (by decide) mkX1_200 (gi_0 hl hp1) ⟨_, rfl⟩ rfl rfl (kX0_rearBox _ _ _ hl hp1 _ _ hq1) rfl rfl (Nat.le_of_ble_eq_true rfl) dX1_ringRear_10 13 rfl ?_
  refine gv_iload_n C rfl 2 rfl dX1_ringRear_13 14 rfl ?_
  obtain ⟨q2, hq2, h⟩ := gm_bd h
  refine gv_callVv C mc_yX3_record ⟨mi_yX3_record, me_yX3_record⟩ (by decide) mkX1_203 (gi_3 hl) ⟨_, rfl⟩ rfl rfl (kX3_record _ _ _ hl hp1 _ _ _ _ _ hq2) rfl rfl (Nat.le_of_ble_eq_true rfl) dX1_ringRear_14 17 rfl ?_
  refine gv_iload_n C rfl 2 rfl dX1_ringRear_17 18 rfl ?_
  obtain rfl := Option.some.inj h
  exact gv_iret C E rfl rfl dX1_ringRear_18
set_option maxRecDepth 100000 in
set_option maxHeartbeats 4000000 in
theorem kX1_offerTrain (w : gm_Wd) (l p1 : Nat) (hl : l < 4) (hp1 : p1 < 12) (G : Gm) (q : Int32 × Gm) (h : fX1_offerTrain l p1 G = some q) : gm_C w yX1_offerTrain cX1_offerTrain 3 (some .int) 3 [.ref (gm_ad w 1 l 0), .ref (gm_ad w 5 l p1)] G (some (.int q.1)) q.2 := by
  refine gm_start (by decide) (Nat.le_of_ble_eq_true rfl) ?_
  intro x hw C E
  subst hw
  have C : gm_X x cX1_offerTrain 3 RX1 (some .int) 3 := C
  unfold fX1_offerTrain at h
  refine gm_lv (lv' := [(0, _), (1, _)]) rfl ?_
  refine gv_aload_n C rfl 0 rfl dX1_offerTrain_0 1 rfl ?_
  refine gv_aload_n C rfl 1 rfl dX1_offerTrain_1 2 rfl ?_
  obtain ⟨q1, hq1, h⟩ := gm_bd h
  rcases gm_oc h with ⟨eq1, h⟩ | ⟨t2, eq1, h⟩
  · replace hq1 := hq1.trans (congrArg some eq1)
    refine gv_callVn C mc_yX1_nextBlock ⟨mi_yX1_nextBlock, me_yX1_nextBlock⟩ (by decide) mkX1_165 (gi_1 hl) ⟨_, rfl⟩ rfl rfl (kX1_nextBlock _ _ _ hl hp1 _ _ hq1) rfl rfl (Nat.le_of_ble_eq_true rfl) dX1_offerTrain_2 5 rfl ?_
    refine gv_astore_nN C rfl [(2, _), (0, _), (1, _)] (by decide) rfl dX1_offerTrain_5 6 rfl ?_
    refine gv_aload_nN C rfl 0 rfl dX1_offerTrain_6 7 rfl ?_
    refine gv_ifnullN C dX1_offerTrain_7 26 (by decide) ?_
    refine gv_bipush C (-5) rfl dX1_offerTrain_26 28 rfl ?_
    obtain rfl := Option.some.inj h
    exact gv_iret C E rfl rfl dX1_offerTrain_28
  · replace hq1 := hq1.trans (congrArg some eq1)
    refine gv_callVa C mc_yX1_nextBlock ⟨mi_yX1_nextBlock, me_yX1_nextBlock⟩ (by decide) mkX1_165 (gi_1 hl) ⟨_, rfl⟩ rfl rfl (kX1_nextBlock _ _ _ hl hp1 _ _ hq1) rfl rfl (Nat.le_of_ble_eq_true rfl) dX1_offerTrain_2 5 rfl ?_
    refine gv_astore_n C rfl [(2, _), (0, _), (1, _)] (by decide) rfl dX1_offerTrain_5 6 rfl ?_
    refine gv_aload_n C rfl 0 rfl dX1_offerTrain_6 7 rfl ?_
    refine gv_ifnull C dX1_offerTrain_7 10 rfl ?_
    refine gv_aload_n C rfl 0 rfl dX1_offerTrain_10 11 rfl ?_
    refine gf_0_2 C (gi_0 hl (bX1_nextBlock _ _ hl hp1 _ _ hq1)) lkX1_125 dX1_offerTrain_11 14 rfl ?_
    refine gv_if_ne C dX1_offerTrain_14 26 (by decide) 17 rfl (fun c3 => ?_) (fun c3 => ?_)
    · replace h := gm_ip c3 h
      refine gv_aload_n C rfl 0 rfl dX1_offerTrain_17 18 rfl ?_
      refine gf_0_3 C (gi_0 hl (bX1_nextBlock _ _ hl hp1 _ _ hq1)) lkX1_169 dX1_offerTrain_18 21 rfl ?_
      refine gv_bipush C (-6) rfl dX1_offerTrain_21 23 rfl ?_
      refine gv_icmp_eq C dX1_offerTrain_23 29 (by decide) 26 rfl (fun c4 => ?_) (fun c4 => ?_)
      · replace h := gm_ip c4 h
        refine gv_aload_n C rfl 0 rfl dX1_offerTrain_29 30 rfl ?_
        refine gv_aload_n C rfl 2 rfl dX1_offerTrain_30 31 rfl ?_
        refine gf_5_0 C (gi_5 hl hp1) lkX1_153 dX1_offerTrain_31 34 rfl ?_
        refine pf_0_3 C (gi_0 hl (bX1_nextBlock _ _ hl hp1 _ _ hq1)) lkX1_169 dX1_offerTrain_34 37 rfl ?_
        refine gv_aload_n C rfl 1 rfl dX1_offerTrain_37 38 rfl ?_
        refine gv_aload_n C rfl 0 rfl dX1_offerTrain_38 39 rfl ?_
        refine gv_aload_n C rfl 2 rfl dX1_offerTrain_39 40 rfl ?_
        refine gf_5_1 C (gi_5 hl hp1) lkX1_210 dX1_offerTrain_40 43 rfl ?_
        obtain ⟨q5, hq5, h⟩ := gm_bd h
        refine gv_callNi C mc_yX6_offerCode ms_yX6_offerCode (by decide) C.2.2.2.2.2.1.2.2 (kX6_offerCode _ _ _ _ hq5) rfl rfl (Nat.le_of_ble_eq_true rfl) dX1_offerTrain_43 46 rfl ?_
        obtain ⟨q6, hq6, h⟩ := gm_bd h
        refine gv_callVi C mc_yX1_ringRear ⟨mi_yX1_ringRear, me_yX1_ringRear⟩ (by decide) mkX1_216 (gi_1 hl) ⟨_, rfl⟩ rfl rfl (kX1_ringRear _ _ _ hl (bX1_nextBlock _ _ hl hp1 _ _ hq1) _ _ _ hq6) rfl rfl (Nat.le_of_ble_eq_true rfl) dX1_offerTrain_46 49 rfl ?_
        obtain rfl := Option.some.inj h
        exact gv_iret C E rfl rfl dX1_offerTrain_49
      · replace h := gm_iq c4 h
        refine gv_bipush C (-5) rfl dX1_offerTrain_26 28 rfl ?_
        obtain rfl := Option.some.inj h
        exact gv_iret C E rfl rfl dX1_offerTrain_28
    · replace h := gm_iq c3 h
      refine gv_bipush C (-5) rfl dX1_offerTrain_26 28 rfl ?_
      obtain rfl := Option.some.inj h
      exact gv_iret C E rfl rfl dX1_offerTrain_28
set_option maxRecDepth 100000 in
set_option maxHeartbeats 4000000 in
theorem kX1_isTokenReady (w : gm_Wd) (l p1 : Nat) (hl : l < 4) (hp1 : p1 < 10) (G : Gm) (q : Int32) (h : fX1_isTokenReady l p1 G = some q) : gm_C w yX1_isTokenReady cX1_isTokenReady 5 (some .boolean) 1 [.ref (gm_ad w 1 l 0), .ref (gm_ad w 0 l p1)] G (some (.int q)) G := by
  refine gm_start (by decide) (Nat.le_of_ble_eq_true rfl) ?_
  intro x hw C E
  subst hw
  have C : gm_X x cX1_isTokenReady 5 RX1 (some .boolean) 1 := C
  unfold fX1_isTokenReady at h
  refine gm_lv (lv' := [(0, _), (1, _)]) rfl ?_
  refine gv_aload_n C rfl 1 rfl dX1_isTokenReady_0 1 rfl ?_
  refine gf_0_0 C (gi_0 hl hp1) lkX1_131 dX1_isTokenReady_1 4 rfl ?_
  refine gv_astore_n C rfl [(2, _), (0, _), (1, _)] (by decide) rfl dX1_isTokenReady_4 5 rfl ?_
  refine gv_aload_n C rfl 0 rfl dX1_isTokenReady_5 6 rfl ?_
  refine gf_4_1 C (gi_4 hl (gm_h2 hp1)) lkX1_231 dX1_isTokenReady_6 9 rfl ?_
  refine gv_if_ne C dX1_isTokenReady_9 14 (by decide) 12 rfl (fun c1 => ?_) (fun c1 => ?_)
  · replace h := gm_ip c1 h
    refine gv_iconst C 1 rfl dX1_isTokenReady_12 13 rfl ?_
    obtain rfl := Option.some.inj h
    exact gv_zret C E (Or.inr rfl) rfl rfl dX1_isTokenReady_13
  · replace h := gm_iq c1 h
    refine gv_aload_n C rfl 1 rfl dX1_isTokenReady_14 15 rfl ?_
    refine gv_aload_n C rfl 0 rfl dX1_isTokenReady_15 16 rfl ?_
    refine gf_4_0 C (gi_4 hl (gm_h2 hp1)) lkX1_135 dX1_isTokenReady_16 19 rfl ?_
    refine gv_iconst C 1 rfl dX1_isTokenReady_19 20 rfl ?_
    refine gv_aload_n C rfl 2 rfl dX1_isTokenReady_20 21 rfl ?_
    refine gf_0_1 C (gi_0 hl hp1) lkX1_220 dX1_isTokenReady_21 24 rfl ?_
    refine gv_isub C dX1_isTokenReady_24 25 rfl ?_
    obtain ⟨q2, hq2, h⟩ := gm_bd h
    rcases gm_oc h with ⟨eq2, h⟩ | ⟨t3, eq2, h⟩
    · replace hq2 := hq2.trans (congrArg some eq2)
      refine gv_callVn C mc_yX1_blockAt ⟨mi_yX1_blockAt, me_yX1_blockAt⟩ (by decide) mkX1_121 (gi_1 hl) ⟨_, rfl⟩ rfl rfl (kX1_blockAt _ _ hl _ _ _ _ hq2) rfl rfl (Nat.le_of_ble_eq_true rfl) dX1_isTokenReady_25 28 rfl ?_
      refine gv_astore_nN C rfl [(3, _), (2, _), (0, _), (1, _)] (by decide) rfl dX1_isTokenReady_28 29 rfl ?_
      refine gv_aload_nN C rfl 0 rfl dX1_isTokenReady_29 30 rfl ?_
      refine gv_ifnullN C dX1_isTokenReady_30 44 (by decide) ?_
      refine gv_iconst C 0 rfl dX1_isTokenReady_44 45 rfl ?_
      refine gv_istore C [(4, _), (3, _), (2, _), (0, _), (1, _)] (by decide) rfl dX1_isTokenReady_45 47 rfl ?_
      refine gv_iload C 0 rfl dX1_isTokenReady_47 49 rfl ?_
      refine gv_if_eq C dX1_isTokenReady_49 74 (by decide) 52 rfl (fun c4 => ?_) (fun c4 => ?_)
      rotate_left
      · exact absurd (by decide) c4
      refine gv_iconst C 0 rfl dX1_isTokenReady_74 75 rfl ?_
      obtain rfl := Option.some.inj h
      exact gv_zret C E (Or.inl rfl) rfl rfl dX1_isTokenReady_75
    · replace hq2 := hq2.trans (congrArg some eq2)
      refine gv_callVa C mc_yX1_blockAt ⟨mi_yX1_blockAt, me_yX1_blockAt⟩ (by decide) mkX1_121 (gi_1 hl) ⟨_, rfl⟩ rfl rfl (kX1_blockAt _ _ hl _ _ _ _ hq2) rfl rfl (Nat.le_of_ble_eq_true rfl) dX1_isTokenReady_25 28 rfl ?_
      refine gv_astore_n C rfl [(3, _), (2, _), (0, _), (1, _)] (by decide) rfl dX1_isTokenReady_28 29 rfl ?_
      refine gv_aload_n C rfl 0 rfl dX1_isTokenReady_29 30 rfl ?_
      refine gv_ifnull C dX1_isTokenReady_30 33 rfl ?_
      refine gv_aload_n C rfl 0 rfl dX1_isTokenReady_33 34 rfl ?_
      refine gf_0_2 C (gi_0 hl (bX1_blockAt _ hl _ _ _ _ hq2)) lkX1_125 dX1_isTokenReady_34 37 rfl ?_
      refine gv_if_ne C dX1_isTokenReady_37 44 (by decide) 40 rfl (fun c5 => ?_) (fun c5 => ?_)
      · replace h := gm_ip c5 h
        refine gv_iconst C 1 rfl dX1_isTokenReady_40 41 rfl ?_
        refine gv_goto C dX1_isTokenReady_41 45 (by decide) ?_
        refine gv_istore C [(4, _), (3, _), (2, _), (0, _), (1, _)] (by decide) rfl dX1_isTokenReady_45 47 rfl ?_
        refine gv_iload C 0 rfl dX1_isTokenReady_47 49 rfl ?_
        refine gv_if_eq C dX1_isTokenReady_49 74 (by decide) 52 rfl (fun c6 => ?_) (fun c6 => ?_)
        · exact absurd c6 (by decide)
        refine gv_aload_n C rfl 2 rfl dX1_isTokenReady_52 53 rfl ?_
        refine gf_4_5 C (gi_4 hl (gm_h2 hp1)) lkX1_70 dX1_isTokenReady_53 56 rfl ?_
        refine gv_if_ne C dX1_isTokenReady_56 74 (by decide) 59 rfl (fun c7 => ?_) (fun c7 => ?_)
        · replace h := gm_ip c7 h
          refine gv_aload_n C rfl 2 rfl dX1_isTokenReady_59 60 rfl ?_
          refine gv_aload_n C rfl 4 rfl dX1_isTokenReady_60 61 rfl ?_
          obtain ⟨q8, hq8, h⟩ := gm_bd h
          refine gv_callVi C mc_yX0_rearEnd ⟨mi_yX0_rearEnd, me_yX0_rearEnd⟩ (by decide) mkX1_234 (gi_0 hl hp1) ⟨_, rfl⟩ rfl rfl (kX0_rearEnd _ _ _ hl hp1 _ _ hq8) rfl rfl (Nat.le_of_ble_eq_true rfl) dX1_isTokenReady_61 64 rfl ?_
          obtain ⟨q9, hq9, h⟩ := gm_bd h
          refine gv_callVi C mc_yX4_hasToken ⟨mi_yX4_hasToken, me_yX4_hasToken⟩ (by decide) mkX1_237 (gi_4 hl (gm_h2 hp1)) ⟨_, rfl⟩ rfl rfl (kX4_hasToken _ _ _ hl (gm_h2 hp1) _ _ _ hq9) rfl rfl (Nat.le_of_ble_eq_true rfl) dX1_isTokenReady_64 67 rfl ?_
          refine gv_if_eq C dX1_isTokenReady_67 74 (by decide) 70 rfl (fun c10 => ?_) (fun c10 => ?_)
          · replace h := gm_ip c10 h
            refine gv_iconst C 0 rfl dX1_isTokenReady_74 75 rfl ?_
            obtain rfl := Option.some.inj h
            exact gv_zret C E (Or.inl rfl) rfl rfl dX1_isTokenReady_75
          · replace h := gm_iq c10 h
            refine gv_iconst C 1 rfl dX1_isTokenReady_70 71 rfl ?_
            refine gv_goto C dX1_isTokenReady_71 75 (by decide) ?_
            obtain rfl := Option.some.inj h
            exact gv_zret C E (Or.inr rfl) rfl rfl dX1_isTokenReady_75
        · replace h := gm_iq c7 h
          refine gv_iconst C 0 rfl dX1_isTokenReady_74 75 rfl ?_
          obtain rfl := Option.some.inj h
          exact gv_zret C E (Or.inl rfl) rfl rfl dX1_isTokenReady_75
      · replace h := gm_iq c5 h
        refine gv_iconst C 0 rfl dX1_isTokenReady_44 45 rfl ?_
        refine gv_istore C [(4, _), (3, _), (2, _), (0, _), (1, _)] (by decide) rfl dX1_isTokenReady_45 47 rfl ?_
        refine gv_iload C 0 rfl dX1_isTokenReady_47 49 rfl ?_
        refine gv_if_eq C dX1_isTokenReady_49 74 (by decide) 52 rfl (fun c11 => ?_) (fun c11 => ?_)
        rotate_left
        · exact absurd (by decide) c11
        refine gv_iconst C 0 rfl dX1_isTokenReady_74 75 rfl ?_
        obtain rfl := Option.some.inj h
        exact gv_zret C E (Or.inl rfl) rfl rfl dX1_isTokenReady_75
set_option maxRecDepth 100000 in
set_option maxHeartbeats 4000000 in
theorem kX1_ringAhead (w : gm_Wd) (l p1 : Nat) (hl : l < 4) (hp1 : p1 < 10) (a2 : Int32) (G : Gm) (q : Int32 × Gm) (h : fX1_ringAhead l p1 a2 G = some q) : gm_C w yX1_ringAhead cX1_ringAhead 3 (some .int) 2 [.ref (gm_ad w 1 l 0), .ref (gm_ad w 0 l p1), .int a2] G (some (.int q.1)) q.2 := by
  refine gm_start (by decide) (Nat.le_of_ble_eq_true rfl) ?_
  intro x hw C E
  subst hw
  have C : gm_X x cX1_ringAhead 3 RX1 (some .int) 2 := C
  unfold fX1_ringAhead at h
  refine gm_lv (lv' := [(0, _), (1, _), (2, _)]) rfl ?_
  refine gv_aload_n C rfl 0 rfl dX1_ringAhead_0 1 rfl ?_
  refine gf_1_4 C (gi_1 hl) lkX1_43 dX1_ringAhead_1 4 rfl ?_
  refine gv_aload_n C rfl 0 rfl dX1_ringAhead_4 5 rfl ?_
  refine gf_1_7 C (gi_1 hl) lkX1_61 dX1_ringAhead_5 8 rfl ?_
  refine gv_aload_n C rfl 1 rfl dX1_ringAhead_8 9 rfl ?_
  refine gv_aload_n C rfl 1 rfl dX1_ringAhead_9 10 rfl ?_
  obtain ⟨q1, hq1, h⟩ := gm_bd h
  refine gv_callVi C mc_yX0_boxAhead ⟨mi_yX0_boxAhead, me_yX0_boxAhead⟩ (by decide) mkX1_207 (gi_0 hl hp1) ⟨_, rfl⟩ rfl rfl (kX0_boxAhead _ _ _ hl hp1 _ _ hq1) rfl rfl (Nat.le_of_ble_eq_true rfl) dX1_ringAhead_10 13 rfl ?_
  refine gv_iload_n C rfl 2 rfl dX1_ringAhead_13 14 rfl ?_
  obtain ⟨q2, hq2, h⟩ := gm_bd h
  refine gv_callVv C mc_yX3_record ⟨mi_yX3_record, me_yX3_record⟩ (by decide) mkX1_203 (gi_3 hl) ⟨_, rfl⟩ rfl rfl (kX3_record _ _ _ hl hp1 _ _ _ _ _ hq2) rfl rfl (Nat.le_of_ble_eq_true rfl) dX1_ringAhead_14 17 rfl ?_
  refine gv_iload_n C rfl 2 rfl dX1_ringAhead_17 18 rfl ?_
  obtain rfl := Option.some.inj h
  exact gv_iret C E rfl rfl dX1_ringAhead_18
set_option maxRecDepth 100000 in
set_option maxHeartbeats 4000000 in
theorem kX1_accept (w : gm_Wd) (l p1 : Nat) (hl : l < 4) (hp1 : p1 < 10) (G : Gm) (q : Int32 × Gm) (h : fX1_accept l p1 G = some q) : gm_C w yX1_accept cX1_accept 3 (some .int) 3 [.ref (gm_ad w 1 l 0), .ref (gm_ad w 0 l p1)] G (some (.int q.1)) q.2 := by
  refine gm_start (by decide) (Nat.le_of_ble_eq_true rfl) ?_
  intro x hw C E
  subst hw
  have C : gm_X x cX1_accept 3 RX1 (some .int) 3 := C
  unfold fX1_accept at h
  refine gm_lv (lv' := [(0, _), (1, _)]) rfl ?_
  refine gv_aload_n C rfl 0 rfl dX1_accept_0 1 rfl ?_
  refine gv_aload_n C rfl 1 rfl dX1_accept_1 2 rfl ?_
  refine gf_0_3 C (gi_0 hl hp1) lkX1_169 dX1_accept_2 5 rfl ?_
  obtain ⟨q1, hq1, h⟩ := gm_bd h
  rcases gm_oc h with ⟨eq1, h⟩ | ⟨t2, eq1, h⟩
  · replace hq1 := hq1.trans (congrArg some eq1)
    refine gv_callVn C mc_yX1_trainAt ⟨mi_yX1_trainAt, me_yX1_trainAt⟩ (by decide) mkX1_96 (gi_1 hl) ⟨_, rfl⟩ rfl rfl (kX1_trainAt _ _ hl _ _ _ hq1) rfl rfl (Nat.le_of_ble_eq_true rfl) dX1_accept_5 8 rfl ?_
    refine gv_astore_nN C rfl [(2, _), (0, _), (1, _)] (by decide) rfl dX1_accept_8 9 rfl ?_
    refine gv_aload_nN C rfl 0 rfl dX1_accept_9 10 rfl ?_
    refine gv_ifnullN C dX1_accept_10 36 (by decide) ?_
    refine gv_bipush C (-5) rfl dX1_accept_36 38 rfl ?_
    obtain rfl := Option.some.inj h
    exact gv_iret C E rfl rfl dX1_accept_38
  · replace hq1 := hq1.trans (congrArg some eq1)
    refine gv_callVa C mc_yX1_trainAt ⟨mi_yX1_trainAt, me_yX1_trainAt⟩ (by decide) mkX1_96 (gi_1 hl) ⟨_, rfl⟩ rfl rfl (kX1_trainAt _ _ hl _ _ _ hq1) rfl rfl (Nat.le_of_ble_eq_true rfl) dX1_accept_5 8 rfl ?_
    refine gv_astore_n C rfl [(2, _), (0, _), (1, _)] (by decide) rfl dX1_accept_8 9 rfl ?_
    refine gv_aload_n C rfl 0 rfl dX1_accept_9 10 rfl ?_
    refine gv_ifnull C dX1_accept_10 13 rfl ?_
    refine gv_aload_n C rfl 1 rfl dX1_accept_13 14 rfl ?_
    refine gv_aload_n C rfl 2 rfl dX1_accept_14 15 rfl ?_
    obtain ⟨q3, hq3, h⟩ := gm_bd h
    refine gv_callVi C mc_yX0_boxAhead ⟨mi_yX0_boxAhead, me_yX0_boxAhead⟩ (by decide) mkX1_207 (gi_0 hl hp1) ⟨_, rfl⟩ rfl rfl (kX0_boxAhead _ _ _ hl hp1 _ _ hq3) rfl rfl (Nat.le_of_ble_eq_true rfl) dX1_accept_15 18 rfl ?_
    refine gv_aload_n C rfl 2 rfl dX1_accept_18 19 rfl ?_
    refine gf_0_1 C (gi_0 hl hp1) lkX1_220 dX1_accept_19 22 rfl ?_
    obtain ⟨q4, hq4, h⟩ := gm_bd h
    refine gv_callVi C mc_yX1_isLineFree ⟨mi_yX1_isLineFree, me_yX1_isLineFree⟩ (by decide) mkX1_145 (gi_1 hl) ⟨_, rfl⟩ rfl rfl (kX1_isLineFree _ _ hl _ _ _ _ hq4) rfl rfl (Nat.le_of_ble_eq_true rfl) dX1_accept_22 25 rfl ?_
    refine gv_if_eq C dX1_accept_25 36 (by decide) 28 rfl (fun c5 => ?_) (fun c5 => ?_)
    · replace h := gm_ip c5 h
      refine gv_bipush C (-5) rfl dX1_accept_36 38 rfl ?_
      obtain rfl := Option.some.inj h
      exact gv_iret C E rfl rfl dX1_accept_38
    · replace h := gm_iq c5 h
      refine gv_aload_n C rfl 1 rfl dX1_accept_28 29 rfl ?_
      refine gv_aload_n C rfl 2 rfl dX1_accept_29 30 rfl ?_
      obtain ⟨q6, hq6, h⟩ := gm_bd h
      refine gv_callVi C mc_yX1_isTokenReady ⟨mi_yX1_isTokenReady, me_yX1_isTokenReady⟩ (by decide) mkX1_221 (gi_1 hl) ⟨_, rfl⟩ rfl rfl (kX1_isTokenReady _ _ _ hl hp1 _ _ hq6) rfl rfl (Nat.le_of_ble_eq_true rfl) dX1_accept_30 33 rfl ?_
      refine gv_if_ne C dX1_accept_33 39 (by decide) 36 rfl (fun c7 => ?_) (fun c7 => ?_)
      · replace h := gm_ip c7 h
        refine gv_bipush C (-5) rfl dX1_accept_36 38 rfl ?_
        obtain rfl := Option.some.inj h
        exact gv_iret C E rfl rfl dX1_accept_38
      · replace h := gm_iq c7 h
        refine gv_aload_n C rfl 2 rfl dX1_accept_39 40 rfl ?_
        obtain ⟨q8, hq8, h⟩ := gm_bd h
        refine gv_callVv C mc_yX0_makeClear ⟨mi_yX0_makeClear, me_yX0_makeClear⟩ (by decide) mkX1_225 (gi_0 hl hp1) ⟨_, rfl⟩ rfl rfl (kX0_makeClear _ _ _ hl hp1 _ _ hq8) rfl rfl (Nat.le_of_ble_eq_true rfl) dX1_accept_40 43 rfl ?_
        refine gv_aload_n C rfl 1 rfl dX1_accept_43 44 rfl ?_
        refine gv_aload_n C rfl 2 rfl dX1_accept_44 45 rfl ?_
        refine gv_aload_n C rfl 0 rfl dX1_accept_45 46 rfl ?_
        refine gf_5_1 C (gi_5 hl (bX1_trainAt _ hl _ _ _ hq1)) lkX1_210 dX1_accept_46 49 rfl ?_
        obtain ⟨q9, hq9, h⟩ := gm_bd h
        refine gv_callNi C mc_yX6_offerCode ms_yX6_offerCode (by decide) C.2.2.2.2.2.1.2.2 (kX6_offerCode _ _ _ _ hq9) rfl rfl (Nat.le_of_ble_eq_true rfl) dX1_accept_49 52 rfl ?_
        obtain ⟨q10, hq10, h⟩ := gm_bd h
        refine gv_callVi C mc_yX1_ringAhead ⟨mi_yX1_ringAhead, me_yX1_ringAhead⟩ (by decide) mkX1_228 (gi_1 hl) ⟨_, rfl⟩ rfl rfl (kX1_ringAhead _ _ _ hl hp1 _ _ _ hq10) rfl rfl (Nat.le_of_ble_eq_true rfl) dX1_accept_52 55 rfl ?_
        obtain rfl := Option.some.inj h
        exact gv_iret C E rfl rfl dX1_accept_55
set_option maxRecDepth 100000 in
set_option maxHeartbeats 4000000 in
theorem kX1_refuse (w : gm_Wd) (l p1 : Nat) (hl : l < 4) (hp1 : p1 < 10) (G : Gm) (q : Int32 × Gm) (h : fX1_refuse l p1 G = some q) : gm_C w yX1_refuse cX1_refuse 2 (some .int) 3 [.ref (gm_ad w 1 l 0), .ref (gm_ad w 0 l p1)] G (some (.int q.1)) q.2 := by
  refine gm_start (by decide) (Nat.le_of_ble_eq_true rfl) ?_
  intro x hw C E
  subst hw
  have C : gm_X x cX1_refuse 2 RX1 (some .int) 3 := C
  unfold fX1_refuse at h
  refine gm_lv (lv' := [(0, _), (1, _)]) rfl ?_
  refine gv_aload_n C rfl 1 rfl dX1_refuse_0 1 rfl ?_
  refine gf_0_3 C (gi_0 hl hp1) lkX1_169 dX1_refuse_1 4 rfl ?_
  refine gv_bipush C (-6) rfl dX1_refuse_4 6 rfl ?_
  refine gv_icmp_ne C dX1_refuse_6 12 (by decide) 9 rfl (fun c1 => ?_) (fun c1 => ?_)
  · replace h := gm_ip c1 h
    refine gv_bipush C (-5) rfl dX1_refuse_9 11 rfl ?_
    obtain rfl := Option.some.inj h
    exact gv_iret C E rfl rfl dX1_refuse_11
  · replace h := gm_iq c1 h
    refine gv_aload_n C rfl 1 rfl dX1_refuse_12 13 rfl ?_
    refine gv_bipush C (-6) rfl dX1_refuse_13 15 rfl ?_
    refine pf_0_3 C (gi_0 hl hp1) lkX1_169 dX1_refuse_15 18 rfl ?_
    refine gv_aload_n C rfl 0 rfl dX1_refuse_18 19 rfl ?_
    refine gv_aload_n C rfl 1 rfl dX1_refuse_19 20 rfl ?_
    refine gv_iconst C 1 rfl dX1_refuse_20 21 rfl ?_
    obtain ⟨q2, hq2, h⟩ := gm_bd h
    refine gv_callVi C mc_yX1_ringAhead ⟨mi_yX1_ringAhead, me_yX1_ringAhead⟩ (by decide) mkX1_228 (gi_1 hl) ⟨_, rfl⟩ rfl rfl (kX1_ringAhead _ _ _ hl hp1 _ _ _ hq2) rfl rfl (Nat.le_of_ble_eq_true rfl) dX1_refuse_21 24 rfl ?_
    obtain rfl := Option.some.inj h
    exact gv_iret C E rfl rfl dX1_refuse_24
set_option maxRecDepth 100000 in
set_option maxHeartbeats 4000000 in
theorem kX1_cancelBlock (w : gm_Wd) (l p1 : Nat) (hl : l < 4) (hp1 : p1 < 10) (G : Gm) (q : Int32 × Gm) (h : fX1_cancelBlock l p1 G = some q) : gm_C w yX1_cancelBlock cX1_cancelBlock 2 (some .int) 3 [.ref (gm_ad w 1 l 0), .ref (gm_ad w 0 l p1)] G (some (.int q.1)) q.2 := by
  refine gm_start (by decide) (Nat.le_of_ble_eq_true rfl) ?_
  intro x hw C E
  subst hw
  have C : gm_X x cX1_cancelBlock 2 RX1 (some .int) 3 := C
  unfold fX1_cancelBlock at h
  refine gm_lv (lv' := [(0, _), (1, _)]) rfl ?_
  refine gv_aload_n C rfl 1 rfl dX1_cancelBlock_0 1 rfl ?_
  refine gf_0_3 C (gi_0 hl hp1) lkX1_169 dX1_cancelBlock_1 4 rfl ?_
  refine gv_bipush C (-6) rfl dX1_cancelBlock_4 6 rfl ?_
  refine gv_icmp_ne C dX1_cancelBlock_6 20 (by decide) 9 rfl (fun c1 => ?_) (fun c1 => ?_)
  · replace h := gm_ip c1 h
    refine gv_aload_n C rfl 1 rfl dX1_cancelBlock_9 10 rfl ?_
    refine gf_0_2 C (gi_0 hl hp1) lkX1_125 dX1_cancelBlock_10 13 rfl ?_
    refine gv_iconst C 1 rfl dX1_cancelBlock_13 14 rfl ?_
    refine gv_icmp_eq C dX1_cancelBlock_14 20 (by decide) 17 rfl (fun c2 => ?_) (fun c2 => ?_)
    · replace h := gm_ip c2 h
      refine gv_aload_n C rfl 1 rfl dX1_cancelBlock_20 21 rfl ?_
      refine gv_iconst C 0 rfl dX1_cancelBlock_21 22 rfl ?_
      obtain ⟨q3, hq3, h⟩ := gm_bd h
      refine gv_callVv C mc_yX0_takeBack ⟨mi_yX0_takeBack, me_yX0_takeBack⟩ (by decide) mkX1_240 (gi_0 hl hp1) ⟨_, rfl⟩ rfl rfl (kX0_takeBack _ _ _ hl hp1 _ _ _ hq3) rfl rfl (Nat.le_of_ble_eq_true rfl) dX1_cancelBlock_22 25 rfl ?_
      refine gv_aload_n C rfl 0 rfl dX1_cancelBlock_25 26 rfl ?_
      refine gv_aload_n C rfl 1 rfl dX1_cancelBlock_26 27 rfl ?_
      refine gv_bipush C 35 rfl dX1_cancelBlock_27 29 rfl ?_
      obtain ⟨q4, hq4, h⟩ := gm_bd h
      refine gv_callVi C mc_yX1_ringRear ⟨mi_yX1_ringRear, me_yX1_ringRear⟩ (by decide) mkX1_216 (gi_1 hl) ⟨_, rfl⟩ rfl rfl (kX1_ringRear _ _ _ hl hp1 _ _ _ hq4) rfl rfl (Nat.le_of_ble_eq_true rfl) dX1_cancelBlock_29 32 rfl ?_
      obtain rfl := Option.some.inj h
      exact gv_iret C E rfl rfl dX1_cancelBlock_32
    · replace h := gm_iq c2 h
      refine gv_bipush C (-5) rfl dX1_cancelBlock_17 19 rfl ?_
      obtain rfl := Option.some.inj h
      exact gv_iret C E rfl rfl dX1_cancelBlock_19
  · replace h := gm_iq c1 h
    refine gv_aload_n C rfl 1 rfl dX1_cancelBlock_20 21 rfl ?_
    refine gv_iconst C 0 rfl dX1_cancelBlock_21 22 rfl ?_
    obtain ⟨q5, hq5, h⟩ := gm_bd h
    refine gv_callVv C mc_yX0_takeBack ⟨mi_yX0_takeBack, me_yX0_takeBack⟩ (by decide) mkX1_240 (gi_0 hl hp1) ⟨_, rfl⟩ rfl rfl (kX0_takeBack _ _ _ hl hp1 _ _ _ hq5) rfl rfl (Nat.le_of_ble_eq_true rfl) dX1_cancelBlock_22 25 rfl ?_
    refine gv_aload_n C rfl 0 rfl dX1_cancelBlock_25 26 rfl ?_
    refine gv_aload_n C rfl 1 rfl dX1_cancelBlock_26 27 rfl ?_
    refine gv_bipush C 35 rfl dX1_cancelBlock_27 29 rfl ?_
    obtain ⟨q6, hq6, h⟩ := gm_bd h
    refine gv_callVi C mc_yX1_ringRear ⟨mi_yX1_ringRear, me_yX1_ringRear⟩ (by decide) mkX1_216 (gi_1 hl) ⟨_, rfl⟩ rfl rfl (kX1_ringRear _ _ _ hl hp1 _ _ _ hq6) rfl rfl (Nat.le_of_ble_eq_true rfl) dX1_cancelBlock_29 32 rfl ?_
    obtain rfl := Option.some.inj h
    exact gv_iret C E rfl rfl dX1_cancelBlock_32
set_option maxRecDepth 100000 in
set_option maxHeartbeats 4000000 in
theorem kX1_letDepart (w : gm_Wd) (l p1 : Nat) (hl : l < 4) (hp1 : p1 < 12) (G : Gm) (q : Int32 × Gm) (h : fX1_letDepart l p1 G = some q) : gm_C w yX1_letDepart cX1_letDepart 3 (some .int) 3 [.ref (gm_ad w 1 l 0), .ref (gm_ad w 5 l p1)] G (some (.int q.1)) q.2 := by
  refine gm_start (by decide) (Nat.le_of_ble_eq_true rfl) ?_
  intro x hw C E
  subst hw
  have C : gm_X x cX1_letDepart 3 RX1 (some .int) 3 := C
  unfold fX1_letDepart at h
  refine gm_lv (lv' := [(0, _), (1, _)]) rfl ?_
  refine gv_aload_n C rfl 0 rfl dX1_letDepart_0 1 rfl ?_
  refine gv_aload_n C rfl 1 rfl dX1_letDepart_1 2 rfl ?_
  obtain ⟨q1, hq1, h⟩ := gm_bd h
  rcases gm_oc h with ⟨eq1, h⟩ | ⟨t2, eq1, h⟩
  · replace hq1 := hq1.trans (congrArg some eq1)
    refine gv_callVn C mc_yX1_nextBlock ⟨mi_yX1_nextBlock, me_yX1_nextBlock⟩ (by decide) mkX1_165 (gi_1 hl) ⟨_, rfl⟩ rfl rfl (kX1_nextBlock _ _ _ hl hp1 _ _ hq1) rfl rfl (Nat.le_of_ble_eq_true rfl) dX1_letDepart_2 5 rfl ?_
    refine gv_astore_nN C rfl [(2, _), (0, _), (1, _)] (by decide) rfl dX1_letDepart_5 6 rfl ?_
    refine gv_aload_nN C rfl 0 rfl dX1_letDepart_6 7 rfl ?_
    refine gv_ifnullN C dX1_letDepart_7 29 (by decide) ?_
    refine gv_bipush C (-5) rfl dX1_letDepart_29 31 rfl ?_
    obtain rfl := Option.some.inj h
    exact gv_iret C E rfl rfl dX1_letDepart_31
  · replace hq1 := hq1.trans (congrArg some eq1)
    refine gv_callVa C mc_yX1_nextBlock ⟨mi_yX1_nextBlock, me_yX1_nextBlock⟩ (by decide) mkX1_165 (gi_1 hl) ⟨_, rfl⟩ rfl rfl (kX1_nextBlock _ _ _ hl hp1 _ _ hq1) rfl rfl (Nat.le_of_ble_eq_true rfl) dX1_letDepart_2 5 rfl ?_
    refine gv_astore_n C rfl [(2, _), (0, _), (1, _)] (by decide) rfl dX1_letDepart_5 6 rfl ?_
    refine gv_aload_n C rfl 0 rfl dX1_letDepart_6 7 rfl ?_
    refine gv_ifnull C dX1_letDepart_7 10 rfl ?_
    refine gv_aload_n C rfl 0 rfl dX1_letDepart_10 11 rfl ?_
    refine gf_0_2 C (gi_0 hl (bX1_nextBlock _ _ hl hp1 _ _ hq1)) lkX1_125 dX1_letDepart_11 14 rfl ?_
    refine gv_iconst C 1 rfl dX1_letDepart_14 15 rfl ?_
    refine gv_icmp_ne C dX1_letDepart_15 29 (by decide) 18 rfl (fun c3 => ?_) (fun c3 => ?_)
    · replace h := gm_ip c3 h
      refine gv_aload_n C rfl 0 rfl dX1_letDepart_18 19 rfl ?_
      refine gf_0_4 C (gi_0 hl (bX1_nextBlock _ _ hl hp1 _ _ hq1)) lkX1_128 dX1_letDepart_19 22 rfl ?_
      refine gv_aload_n C rfl 2 rfl dX1_letDepart_22 23 rfl ?_
      refine gf_5_0 C (gi_5 hl hp1) lkX1_153 dX1_letDepart_23 26 rfl ?_
      refine gv_icmp_eq C dX1_letDepart_26 32 (by decide) 29 rfl (fun c4 => ?_) (fun c4 => ?_)
      · replace h := gm_ip c4 h
        refine gv_aload_n C rfl 0 rfl dX1_letDepart_32 33 rfl ?_
        refine gv_iconst C 2 rfl dX1_letDepart_33 34 rfl ?_
        refine pf_0_2 C (gi_0 hl (bX1_nextBlock _ _ hl hp1 _ _ hq1)) lkX1_125 dX1_letDepart_34 37 rfl ?_
        refine gv_aload_n C rfl 2 rfl dX1_letDepart_37 38 rfl ?_
        refine gv_aload_n C rfl 0 rfl dX1_letDepart_38 39 rfl ?_
        refine gf_0_0 C (gi_0 hl (bX1_nextBlock _ _ hl hp1 _ _ hq1)) lkX1_131 dX1_letDepart_39 42 rfl ?_
        obtain ⟨q5, hq5, h⟩ := gm_bd h
        refine gv_callVv C mc_yX5_enter ⟨mi_yX5_enter, me_yX5_enter⟩ (by decide) mkX1_243 (gi_5 hl hp1) ⟨_, rfl⟩ rfl rfl (kX5_enter _ _ _ _ hl hp1 (gm_h2 (bX1_nextBlock _ _ hl hp1 _ _ hq1)) _ _ hq5) rfl rfl (Nat.le_of_ble_eq_true rfl) dX1_letDepart_42 45 rfl ?_
        refine gv_aload_n C rfl 1 rfl dX1_letDepart_45 46 rfl ?_
        refine gv_aload_n C rfl 0 rfl dX1_letDepart_46 47 rfl ?_
        refine gv_iconst C 2 rfl dX1_letDepart_47 48 rfl ?_
        obtain ⟨q6, hq6, h⟩ := gm_bd h
        refine gv_callVi C mc_yX1_ringRear ⟨mi_yX1_ringRear, me_yX1_ringRear⟩ (by decide) mkX1_216 (gi_1 hl) ⟨_, rfl⟩ rfl rfl (kX1_ringRear _ _ _ hl (bX1_nextBlock _ _ hl hp1 _ _ hq1) _ _ _ hq6) rfl rfl (Nat.le_of_ble_eq_true rfl) dX1_letDepart_48 51 rfl ?_
        refine gv_pop C rfl dX1_letDepart_51 52 rfl ?_
        refine gv_aload_n C rfl 2 rfl dX1_letDepart_52 53 rfl ?_
        refine gf_5_5 C (gi_5 hl hp1) lkX1_246 dX1_letDepart_53 56 rfl ?_
        obtain rfl := Option.some.inj h
        exact gv_iret C E rfl rfl dX1_letDepart_56
      · replace h := gm_iq c4 h
        refine gv_bipush C (-5) rfl dX1_letDepart_29 31 rfl ?_
        obtain rfl := Option.some.inj h
        exact gv_iret C E rfl rfl dX1_letDepart_31
    · replace h := gm_iq c3 h
      refine gv_bipush C (-5) rfl dX1_letDepart_29 31 rfl ?_
      obtain rfl := Option.some.inj h
      exact gv_iret C E rfl rfl dX1_letDepart_31
theorem bX1_trainInside (l p1 : Nat) (hl : l < 4) (hp1 : p1 < 10) (G : Gm) (t : Nat) (h : fX1_trainInside l p1 G = some (some t)) : t < 12 := by
  unfold fX1_trainInside at h
  by_cases c1 : (G 0 l p1 2) = 2
  · replace h := gm_ip c1 h
    obtain ⟨q2, hq2, h⟩ := gm_bd h
    rcases gm_oc h with ⟨eq2, h⟩ | ⟨t3, eq2, h⟩
    · replace hq2 := hq2.trans (congrArg some eq2)
      cases h
    · replace hq2 := hq2.trans (congrArg some eq2)
      by_cases c4 : (G 5 l t3 3) = 2
      · replace h := gm_ip c4 h
        by_cases c5 : (G 5 l t3 4) = (nI (p1 / 2))
        · replace h := gm_ip c5 h
          obtain rfl := Option.some.inj (Option.some.inj h)
          exact (bX1_trainAt _ hl _ _ _ hq2)
        · replace h := gm_iq c5 h
          cases h
      · replace h := gm_iq c4 h
        cases h
  · replace h := gm_iq c1 h
    cases h
set_option maxRecDepth 100000 in
set_option maxHeartbeats 4000000 in
theorem kX1_trainInside (w : gm_Wd) (l p1 : Nat) (hl : l < 4) (hp1 : p1 < 10) (G : Gm) (q : Option Nat) (h : fX1_trainInside l p1 G = some q) : gm_C w yX1_trainInside cX1_trainInside 3 (some (.object "BlockBells$Train")) 1 [.ref (gm_ad w 1 l 0), .ref (gm_ad w 0 l p1)] G (some (va_rf (q.map fun t => gm_ad w 5 l t))) G := by
  refine gm_start (by decide) (Nat.le_of_ble_eq_true rfl) ?_
  intro x hw C E
  subst hw
  have C : gm_X x cX1_trainInside 3 RX1 (some (.object "BlockBells$Train")) 1 := C
  unfold fX1_trainInside at h
  refine gm_lv (lv' := [(0, _), (1, _)]) rfl ?_
  refine gv_aload_n C rfl 1 rfl dX1_trainInside_0 1 rfl ?_
  refine gf_0_2 C (gi_0 hl hp1) lkX1_125 dX1_trainInside_1 4 rfl ?_
  refine gv_iconst C 2 rfl dX1_trainInside_4 5 rfl ?_
  refine gv_icmp_ne C dX1_trainInside_5 19 (by decide) 8 rfl (fun c1 => ?_) (fun c1 => ?_)
  · replace h := gm_ip c1 h
    refine gv_aload_n C rfl 0 rfl dX1_trainInside_8 9 rfl ?_
    refine gv_aload_n C rfl 1 rfl dX1_trainInside_9 10 rfl ?_
    refine gf_0_4 C (gi_0 hl hp1) lkX1_128 dX1_trainInside_10 13 rfl ?_
    obtain ⟨q2, hq2, h⟩ := gm_bd h
    rcases gm_oc h with ⟨eq2, h⟩ | ⟨t3, eq2, h⟩
    · replace hq2 := hq2.trans (congrArg some eq2)
      refine gv_callVn C mc_yX1_trainAt ⟨mi_yX1_trainAt, me_yX1_trainAt⟩ (by decide) mkX1_96 (gi_1 hl) ⟨_, rfl⟩ rfl rfl (kX1_trainAt _ _ hl _ _ _ hq2) rfl rfl (Nat.le_of_ble_eq_true rfl) dX1_trainInside_13 16 rfl ?_
      refine gv_goto C dX1_trainInside_16 20 (by decide) ?_
      refine gv_astore_nN C rfl [(2, _), (0, _), (1, _)] (by decide) rfl dX1_trainInside_20 21 rfl ?_
      refine gv_aload_nN C rfl 0 rfl dX1_trainInside_21 22 rfl ?_
      refine gv_ifnullN C dX1_trainInside_22 47 (by decide) ?_
      refine gv_null C dX1_trainInside_47 48 rfl ?_
      obtain rfl := Option.some.inj h
      exact gv_aret C E (Or.inl rfl) rfl rfl dX1_trainInside_48
    · replace hq2 := hq2.trans (congrArg some eq2)
      refine gv_callVa C mc_yX1_trainAt ⟨mi_yX1_trainAt, me_yX1_trainAt⟩ (by decide) mkX1_96 (gi_1 hl) ⟨_, rfl⟩ rfl rfl (kX1_trainAt _ _ hl _ _ _ hq2) rfl rfl (Nat.le_of_ble_eq_true rfl) dX1_trainInside_13 16 rfl ?_
      refine gv_goto C dX1_trainInside_16 20 (by decide) ?_
      refine gv_astore_n C rfl [(2, _), (0, _), (1, _)] (by decide) rfl dX1_trainInside_20 21 rfl ?_
      refine gv_aload_n C rfl 0 rfl dX1_trainInside_21 22 rfl ?_
      refine gv_ifnull C dX1_trainInside_22 25 rfl ?_
      refine gv_aload_n C rfl 0 rfl dX1_trainInside_25 26 rfl ?_
      refine gf_5_3 C (gi_5 hl (bX1_trainAt _ hl _ _ _ hq2)) lkX1_100 dX1_trainInside_26 29 rfl ?_
      refine gv_iconst C 2 rfl dX1_trainInside_29 30 rfl ?_
      refine gv_icmp_ne C dX1_trainInside_30 47 (by decide) 33 rfl (fun c4 => ?_) (fun c4 => ?_)
      · replace h := gm_ip c4 h
        refine gv_aload_n C rfl 0 rfl dX1_trainInside_33 34 rfl ?_
        refine gf_5_4 C (gi_5 hl (bX1_trainAt _ hl _ _ _ hq2)) lkX1_115 dX1_trainInside_34 37 rfl ?_
        refine gv_aload_n C rfl 2 rfl dX1_trainInside_37 38 rfl ?_
        refine gf_0_0 C (gi_0 hl hp1) lkX1_131 dX1_trainInside_38 41 rfl ?_
        refine gf_4_0 C (gi_4 hl (gm_h2 hp1)) lkX1_135 dX1_trainInside_41 44 rfl ?_
        refine gv_icmp_eq C dX1_trainInside_44 49 (by decide) 47 rfl (fun c5 => ?_) (fun c5 => ?_)
        · replace h := gm_ip c5 h
          refine gv_aload_n C rfl 0 rfl dX1_trainInside_49 50 rfl ?_
          obtain rfl := Option.some.inj h
          exact gv_aret C E (Or.inr ⟨_, rfl⟩) rfl rfl dX1_trainInside_50
        · replace h := gm_iq c5 h
          refine gv_null C dX1_trainInside_47 48 rfl ?_
          obtain rfl := Option.some.inj h
          exact gv_aret C E (Or.inl rfl) rfl rfl dX1_trainInside_48
      · replace h := gm_iq c4 h
        refine gv_null C dX1_trainInside_47 48 rfl ?_
        obtain rfl := Option.some.inj h
        exact gv_aret C E (Or.inl rfl) rfl rfl dX1_trainInside_48
  · replace h := gm_iq c1 h
    refine gv_null C dX1_trainInside_19 20 rfl ?_
    refine gv_astore_nN C rfl [(2, _), (0, _), (1, _)] (by decide) rfl dX1_trainInside_20 21 rfl ?_
    refine gv_aload_nN C rfl 0 rfl dX1_trainInside_21 22 rfl ?_
    refine gv_ifnullN C dX1_trainInside_22 47 (by decide) ?_
    refine gv_null C dX1_trainInside_47 48 rfl ?_
    obtain rfl := Option.some.inj h
    exact gv_aret C E (Or.inl rfl) rfl rfl dX1_trainInside_48
set_option maxRecDepth 100000 in
set_option maxHeartbeats 4000000 in
theorem kX1_admitTrain (w : gm_Wd) (l p1 : Nat) (hl : l < 4) (hp1 : p1 < 10) (G : Gm) (q : Int32 × Gm) (h : fX1_admitTrain l p1 G = some q) : gm_C w yX1_admitTrain cX1_admitTrain 3 (some .int) 3 [.ref (gm_ad w 1 l 0), .ref (gm_ad w 0 l p1)] G (some (.int q.1)) q.2 := by
  refine gm_start (by decide) (Nat.le_of_ble_eq_true rfl) ?_
  intro x hw C E
  subst hw
  have C : gm_X x cX1_admitTrain 3 RX1 (some .int) 3 := C
  unfold fX1_admitTrain at h
  refine gm_lv (lv' := [(0, _), (1, _)]) rfl ?_
  refine gv_aload_n C rfl 0 rfl dX1_admitTrain_0 1 rfl ?_
  refine gv_aload_n C rfl 1 rfl dX1_admitTrain_1 2 rfl ?_
  obtain ⟨q1, hq1, h⟩ := gm_bd h
  rcases gm_oc h with ⟨eq1, h⟩ | ⟨t2, eq1, h⟩
  · replace hq1 := hq1.trans (congrArg some eq1)
    refine gv_callVn C mc_yX1_trainInside ⟨mi_yX1_trainInside, me_yX1_trainInside⟩ (by decide) mkX1_249 (gi_1 hl) ⟨_, rfl⟩ rfl rfl (kX1_trainInside _ _ _ hl hp1 _ _ hq1) rfl rfl (Nat.le_of_ble_eq_true rfl) dX1_admitTrain_2 5 rfl ?_
    refine gv_astore_nN C rfl [(2, _), (0, _), (1, _)] (by decide) rfl dX1_admitTrain_5 6 rfl ?_
    refine gv_aload_nN C rfl 0 rfl dX1_admitTrain_6 7 rfl ?_
    refine gv_ifnullN C dX1_admitTrain_7 32 (by decide) ?_
    refine gv_bipush C (-5) rfl dX1_admitTrain_32 34 rfl ?_
    obtain rfl := Option.some.inj h
    exact gv_iret C E rfl rfl dX1_admitTrain_34
  · replace hq1 := hq1.trans (congrArg some eq1)
    refine gv_callVa C mc_yX1_trainInside ⟨mi_yX1_trainInside, me_yX1_trainInside⟩ (by decide) mkX1_249 (gi_1 hl) ⟨_, rfl⟩ rfl rfl (kX1_trainInside _ _ _ hl hp1 _ _ hq1) rfl rfl (Nat.le_of_ble_eq_true rfl) dX1_admitTrain_2 5 rfl ?_
    refine gv_astore_n C rfl [(2, _), (0, _), (1, _)] (by decide) rfl dX1_admitTrain_5 6 rfl ?_
    refine gv_aload_n C rfl 0 rfl dX1_admitTrain_6 7 rfl ?_
    refine gv_ifnull C dX1_admitTrain_7 10 rfl ?_
    refine gv_aload_n C rfl 0 rfl dX1_admitTrain_10 11 rfl ?_
    refine gf_5_5 C (gi_5 hl (bX1_trainInside _ _ hl hp1 _ _ hq1)) lkX1_246 dX1_admitTrain_11 14 rfl ?_
    refine gv_if_gt C dX1_admitTrain_14 32 (by decide) 17 rfl (fun c3 => ?_) (fun c3 => ?_)
    · replace h := gm_ip c3 h
      refine gv_bipush C (-5) rfl dX1_admitTrain_32 34 rfl ?_
      obtain rfl := Option.some.inj h
      exact gv_iret C E rfl rfl dX1_admitTrain_34
    · replace h := gm_iq c3 h
      refine gv_aload_n C rfl 1 rfl dX1_admitTrain_17 18 rfl ?_
      refine gv_aload_n C rfl 2 rfl dX1_admitTrain_18 19 rfl ?_
      obtain ⟨q4, hq4, h⟩ := gm_bd h
      refine gv_callVi C mc_yX0_boxAhead ⟨mi_yX0_boxAhead, me_yX0_boxAhead⟩ (by decide) mkX1_207 (gi_0 hl hp1) ⟨_, rfl⟩ rfl rfl (kX0_boxAhead _ _ _ hl hp1 _ _ hq4) rfl rfl (Nat.le_of_ble_eq_true rfl) dX1_admitTrain_19 22 rfl ?_
      refine gv_aload_n C rfl 2 rfl dX1_admitTrain_22 23 rfl ?_
      refine gf_0_1 C (gi_0 hl hp1) lkX1_220 dX1_admitTrain_23 26 rfl ?_
      obtain ⟨q5, hq5, h⟩ := gm_bd h
      refine gv_callVi C mc_yX1_isLineFree ⟨mi_yX1_isLineFree, me_yX1_isLineFree⟩ (by decide) mkX1_145 (gi_1 hl) ⟨_, rfl⟩ rfl rfl (kX1_isLineFree _ _ hl _ _ _ _ hq5) rfl rfl (Nat.le_of_ble_eq_true rfl) dX1_admitTrain_26 29 rfl ?_
      refine gv_if_ne C dX1_admitTrain_29 35 (by decide) 32 rfl (fun c6 => ?_) (fun c6 => ?_)
      · replace h := gm_ip c6 h
        refine gv_bipush C (-5) rfl dX1_admitTrain_32 34 rfl ?_
        obtain rfl := Option.some.inj h
        exact gv_iret C E rfl rfl dX1_admitTrain_34
      · replace h := gm_iq c6 h
        refine gv_aload_n C rfl 0 rfl dX1_admitTrain_35 36 rfl ?_
        refine gv_iconst C 0 rfl dX1_admitTrain_36 37 rfl ?_
        refine gv_aload_n C rfl 2 rfl dX1_admitTrain_37 38 rfl ?_
        obtain ⟨q7, hq7, h⟩ := gm_bd h
        refine gv_callVi C mc_yX0_boxAhead ⟨mi_yX0_boxAhead, me_yX0_boxAhead⟩ (by decide) mkX1_207 (gi_0 hl hp1) ⟨_, rfl⟩ rfl rfl (kX0_boxAhead _ _ _ hl hp1 _ _ hq7) rfl rfl (Nat.le_of_ble_eq_true rfl) dX1_admitTrain_38 41 rfl ?_
        obtain ⟨q8, hq8, h⟩ := gm_bd h
        refine gv_callVv C mc_yX5_standAt ⟨mi_yX5_standAt, me_yX5_standAt⟩ (by decide) mkX1_179 (gi_5 hl (bX1_trainInside _ _ hl hp1 _ _ hq1)) ⟨_, rfl⟩ rfl rfl (kX5_standAt _ _ _ hl (bX1_trainInside _ _ hl hp1 _ _ hq1) _ _ _ _ hq8) rfl rfl (Nat.le_of_ble_eq_true rfl) dX1_admitTrain_41 44 rfl ?_
        refine gv_aload_n C rfl 0 rfl dX1_admitTrain_44 45 rfl ?_
        refine gf_5_0 C (gi_5 hl (bX1_trainInside _ _ hl hp1 _ _ hq1)) lkX1_153 dX1_admitTrain_45 48 rfl ?_
        obtain rfl := Option.some.inj h
        exact gv_iret C E rfl rfl dX1_admitTrain_48
set_option maxRecDepth 100000 in
set_option maxHeartbeats 4000000 in
theorem kX1_reportOut (w : gm_Wd) (l p1 : Nat) (hl : l < 4) (hp1 : p1 < 10) (G : Gm) (q : Int32 × Gm) (h : fX1_reportOut l p1 G = some q) : gm_C w yX1_reportOut cX1_reportOut 2 (some .int) 3 [.ref (gm_ad w 1 l 0), .ref (gm_ad w 0 l p1)] G (some (.int q.1)) q.2 := by
  refine gm_start (by decide) (Nat.le_of_ble_eq_true rfl) ?_
  intro x hw C E
  subst hw
  have C : gm_X x cX1_reportOut 2 RX1 (some .int) 3 := C
  unfold fX1_reportOut at h
  refine gm_lv (lv' := [(0, _), (1, _)]) rfl ?_
  refine gv_aload_n C rfl 1 rfl dX1_reportOut_0 1 rfl ?_
  refine gf_0_2 C (gi_0 hl hp1) lkX1_125 dX1_reportOut_1 4 rfl ?_
  refine gv_iconst C 2 rfl dX1_reportOut_4 5 rfl ?_
  refine gv_icmp_ne C dX1_reportOut_5 23 (by decide) 8 rfl (fun c1 => ?_) (fun c1 => ?_)
  · replace h := gm_ip c1 h
    refine gv_aload_n C rfl 1 rfl dX1_reportOut_8 9 rfl ?_
    refine gf_0_5 C (gi_0 hl hp1) lkX1_197 dX1_reportOut_9 12 rfl ?_
    refine gv_if_ne C dX1_reportOut_12 23 (by decide) 15 rfl (fun c2 => ?_) (fun c2 => ?_)
    · replace h := gm_ip c2 h
      refine gv_aload_n C rfl 0 rfl dX1_reportOut_15 16 rfl ?_
      refine gv_aload_n C rfl 1 rfl dX1_reportOut_16 17 rfl ?_
      obtain ⟨q3, hq3, h⟩ := gm_bd h
      rcases gm_oc h with ⟨eq3, h⟩ | ⟨t4, eq3, h⟩
      · replace hq3 := hq3.trans (congrArg some eq3)
        refine gv_callVn C mc_yX1_trainInside ⟨mi_yX1_trainInside, me_yX1_trainInside⟩ (by decide) mkX1_249 (gi_1 hl) ⟨_, rfl⟩ rfl rfl (kX1_trainInside _ _ _ hl hp1 _ _ hq3) rfl rfl (Nat.le_of_ble_eq_true rfl) dX1_reportOut_17 20 rfl ?_
        refine gv_ifnullN C dX1_reportOut_20 26 (by decide) ?_
        refine gv_aload_n C rfl 1 rfl dX1_reportOut_26 27 rfl ?_
        obtain ⟨q5, hq5, h⟩ := gm_bd h
        refine gv_callVv C mc_yX0_makeFree ⟨mi_yX0_makeFree, me_yX0_makeFree⟩ (by decide) mkX1_253 (gi_0 hl hp1) ⟨_, rfl⟩ rfl rfl (kX0_makeFree _ _ _ hl hp1 _ _ hq5) rfl rfl (Nat.le_of_ble_eq_true rfl) dX1_reportOut_27 30 rfl ?_
        refine gv_aload_n C rfl 0 rfl dX1_reportOut_30 31 rfl ?_
        refine gv_aload_n C rfl 1 rfl dX1_reportOut_31 32 rfl ?_
        refine gv_bipush C 21 rfl dX1_reportOut_32 34 rfl ?_
        obtain ⟨q6, hq6, h⟩ := gm_bd h
        refine gv_callVi C mc_yX1_ringAhead ⟨mi_yX1_ringAhead, me_yX1_ringAhead⟩ (by decide) mkX1_228 (gi_1 hl) ⟨_, rfl⟩ rfl rfl (kX1_ringAhead _ _ _ hl hp1 _ _ _ hq6) rfl rfl (Nat.le_of_ble_eq_true rfl) dX1_reportOut_34 37 rfl ?_
        obtain rfl := Option.some.inj h
        exact gv_iret C E rfl rfl dX1_reportOut_37
      · replace hq3 := hq3.trans (congrArg some eq3)
        refine gv_callVa C mc_yX1_trainInside ⟨mi_yX1_trainInside, me_yX1_trainInside⟩ (by decide) mkX1_249 (gi_1 hl) ⟨_, rfl⟩ rfl rfl (kX1_trainInside _ _ _ hl hp1 _ _ hq3) rfl rfl (Nat.le_of_ble_eq_true rfl) dX1_reportOut_17 20 rfl ?_
        refine gv_ifnull C dX1_reportOut_20 23 rfl ?_
        refine gv_bipush C (-5) rfl dX1_reportOut_23 25 rfl ?_
        obtain rfl := Option.some.inj h
        exact gv_iret C E rfl rfl dX1_reportOut_25
    · replace h := gm_iq c2 h
      refine gv_bipush C (-5) rfl dX1_reportOut_23 25 rfl ?_
      obtain rfl := Option.some.inj h
      exact gv_iret C E rfl rfl dX1_reportOut_25
  · replace h := gm_iq c1 h
    refine gv_bipush C (-5) rfl dX1_reportOut_23 25 rfl ?_
    obtain rfl := Option.some.inj h
    exact gv_iret C E rfl rfl dX1_reportOut_25
set_option maxRecDepth 100000 in
set_option maxHeartbeats 4000000 in
theorem kX1_sendEngine (w : gm_Wd) (l p1 : Nat) (hl : l < 4) (hp1 : p1 < 10) (G : Gm) (q : Int32 × Gm) (h : fX1_sendEngine l p1 G = some q) : gm_C w yX1_sendEngine cX1_sendEngine 2 (some .int) 3 [.ref (gm_ad w 1 l 0), .ref (gm_ad w 0 l p1)] G (some (.int q.1)) q.2 := by
  refine gm_start (by decide) (Nat.le_of_ble_eq_true rfl) ?_
  intro x hw C E
  subst hw
  have C : gm_X x cX1_sendEngine 2 RX1 (some .int) 3 := C
  unfold fX1_sendEngine at h
  refine gm_lv (lv' := [(0, _), (1, _)]) rfl ?_
  refine gv_aload_n C rfl 1 rfl dX1_sendEngine_0 1 rfl ?_
  refine gf_0_5 C (gi_0 hl hp1) lkX1_197 dX1_sendEngine_1 4 rfl ?_
  refine gv_if_eq C dX1_sendEngine_4 22 (by decide) 7 rfl (fun c1 => ?_) (fun c1 => ?_)
  · replace h := gm_ip c1 h
    refine gv_bipush C (-5) rfl dX1_sendEngine_22 24 rfl ?_
    obtain rfl := Option.some.inj h
    exact gv_iret C E rfl rfl dX1_sendEngine_24
  · replace h := gm_iq c1 h
    refine gv_aload_n C rfl 1 rfl dX1_sendEngine_7 8 rfl ?_
    refine gf_0_6 C (gi_0 hl hp1) lkX1_256 dX1_sendEngine_8 11 rfl ?_
    refine gv_if_gt C dX1_sendEngine_11 22 (by decide) 14 rfl (fun c2 => ?_) (fun c2 => ?_)
    · replace h := gm_ip c2 h
      refine gv_bipush C (-5) rfl dX1_sendEngine_22 24 rfl ?_
      obtain rfl := Option.some.inj h
      exact gv_iret C E rfl rfl dX1_sendEngine_24
    · replace h := gm_iq c2 h
      refine gv_aload_n C rfl 0 rfl dX1_sendEngine_14 15 rfl ?_
      refine gv_aload_n C rfl 1 rfl dX1_sendEngine_15 16 rfl ?_
      obtain ⟨q3, hq3, h⟩ := gm_bd h
      rcases gm_oc h with ⟨eq3, h⟩ | ⟨t4, eq3, h⟩
      · replace hq3 := hq3.trans (congrArg some eq3)
        refine gv_callVn C mc_yX1_trainInside ⟨mi_yX1_trainInside, me_yX1_trainInside⟩ (by decide) mkX1_249 (gi_1 hl) ⟨_, rfl⟩ rfl rfl (kX1_trainInside _ _ _ hl hp1 _ _ hq3) rfl rfl (Nat.le_of_ble_eq_true rfl) dX1_sendEngine_16 19 rfl ?_
        refine gv_ifnullN C dX1_sendEngine_19 25 (by decide) ?_
        refine gv_aload_n C rfl 1 rfl dX1_sendEngine_25 26 rfl ?_
        refine gv_iconst C 2 rfl dX1_sendEngine_26 27 rfl ?_
        refine gv_aload_n C rfl 1 rfl dX1_sendEngine_27 28 rfl ?_
        refine gf_0_0 C (gi_0 hl hp1) lkX1_131 dX1_sendEngine_28 31 rfl ?_
        refine gf_4_2 C (gi_4 hl (gm_h2 hp1)) lkX1_259 dX1_sendEngine_31 34 rfl ?_
        refine gv_imul C dX1_sendEngine_34 35 rfl ?_
        refine pf_0_6 C (gi_0 hl hp1) lkX1_256 dX1_sendEngine_35 38 rfl ?_
        refine gv_aload_n C rfl 0 rfl dX1_sendEngine_38 39 rfl ?_
        refine gv_aload_n C rfl 1 rfl dX1_sendEngine_39 40 rfl ?_
        refine gv_bipush C 22 rfl dX1_sendEngine_40 42 rfl ?_
        obtain ⟨q5, hq5, h⟩ := gm_bd h
        refine gv_callVi C mc_yX1_ringRear ⟨mi_yX1_ringRear, me_yX1_ringRear⟩ (by decide) mkX1_216 (gi_1 hl) ⟨_, rfl⟩ rfl rfl (kX1_ringRear _ _ _ hl hp1 _ _ _ hq5) rfl rfl (Nat.le_of_ble_eq_true rfl) dX1_sendEngine_42 45 rfl ?_
        refine gv_pop C rfl dX1_sendEngine_45 46 rfl ?_
        refine gv_aload_n C rfl 1 rfl dX1_sendEngine_46 47 rfl ?_
        refine gf_0_6 C (gi_0 hl hp1) lkX1_256 dX1_sendEngine_47 50 rfl ?_
        obtain rfl := Option.some.inj h
        exact gv_iret C E rfl rfl dX1_sendEngine_50
      · replace hq3 := hq3.trans (congrArg some eq3)
        refine gv_callVa C mc_yX1_trainInside ⟨mi_yX1_trainInside, me_yX1_trainInside⟩ (by decide) mkX1_249 (gi_1 hl) ⟨_, rfl⟩ rfl rfl (kX1_trainInside _ _ _ hl hp1 _ _ hq3) rfl rfl (Nat.le_of_ble_eq_true rfl) dX1_sendEngine_16 19 rfl ?_
        refine gv_ifnull C dX1_sendEngine_19 22 rfl ?_
        refine gv_bipush C (-5) rfl dX1_sendEngine_22 24 rfl ?_
        obtain rfl := Option.some.inj h
        exact gv_iret C E rfl rfl dX1_sendEngine_24
set_option maxRecDepth 100000 in
set_option maxHeartbeats 4000000 in
theorem kX1_obstructBlock (w : gm_Wd) (l p1 : Nat) (hl : l < 4) (hp1 : p1 < 10) (G : Gm) (q : Int32 × Gm) (h : fX1_obstructBlock l p1 G = some q) : gm_C w yX1_obstructBlock cX1_obstructBlock 3 (some .int) 3 [.ref (gm_ad w 1 l 0), .ref (gm_ad w 0 l p1)] G (some (.int q.1)) q.2 := by
  refine gm_start (by decide) (Nat.le_of_ble_eq_true rfl) ?_
  intro x hw C E
  subst hw
  have C : gm_X x cX1_obstructBlock 3 RX1 (some .int) 3 := C
  unfold fX1_obstructBlock at h
  refine gm_lv (lv' := [(0, _), (1, _)]) rfl ?_
  refine gv_aload_n C rfl 1 rfl dX1_obstructBlock_0 1 rfl ?_
  refine gf_0_2 C (gi_0 hl hp1) lkX1_125 dX1_obstructBlock_1 4 rfl ?_
  refine gv_istore_n C rfl [(2, _), (0, _), (1, _)] (by decide) rfl dX1_obstructBlock_4 5 rfl ?_
  refine gv_iload_n C rfl 0 rfl dX1_obstructBlock_5 6 rfl ?_
  refine gv_if_eq C dX1_obstructBlock_6 17 (by decide) 9 rfl (fun c1 => ?_) (fun c1 => ?_)
  · replace h := gm_ip c1 h
    refine gv_aload_n C rfl 2 rfl dX1_obstructBlock_17 18 rfl ?_
    refine gv_iconst C 3 rfl dX1_obstructBlock_18 19 rfl ?_
    obtain ⟨q2, hq2, h⟩ := gm_bd h
    refine gv_callVv C mc_yX0_takeBack ⟨mi_yX0_takeBack, me_yX0_takeBack⟩ (by decide) mkX1_240 (gi_0 hl hp1) ⟨_, rfl⟩ rfl rfl (kX0_takeBack _ _ _ hl hp1 _ _ _ hq2) rfl rfl (Nat.le_of_ble_eq_true rfl) dX1_obstructBlock_19 22 rfl ?_
    refine gv_aload_n C rfl 1 rfl dX1_obstructBlock_22 23 rfl ?_
    refine gv_aload_n C rfl 2 rfl dX1_obstructBlock_23 24 rfl ?_
    refine gv_bipush C 6 rfl dX1_obstructBlock_24 26 rfl ?_
    obtain ⟨q3, hq3, h⟩ := gm_bd h
    refine gv_callVi C mc_yX1_ringAhead ⟨mi_yX1_ringAhead, me_yX1_ringAhead⟩ (by decide) mkX1_228 (gi_1 hl) ⟨_, rfl⟩ rfl rfl (kX1_ringAhead _ _ _ hl hp1 _ _ _ hq3) rfl rfl (Nat.le_of_ble_eq_true rfl) dX1_obstructBlock_26 29 rfl ?_
    refine gv_pop C rfl dX1_obstructBlock_29 30 rfl ?_
    refine gv_iload_n C rfl 0 rfl dX1_obstructBlock_30 31 rfl ?_
    obtain rfl := Option.some.inj h
    exact gv_iret C E rfl rfl dX1_obstructBlock_31
  · replace h := gm_iq c1 h
    refine gv_iload_n C rfl 0 rfl dX1_obstructBlock_9 10 rfl ?_
    refine gv_iconst C 1 rfl dX1_obstructBlock_10 11 rfl ?_
    refine gv_icmp_eq C dX1_obstructBlock_11 17 (by decide) 14 rfl (fun c4 => ?_) (fun c4 => ?_)
    · replace h := gm_ip c4 h
      refine gv_aload_n C rfl 2 rfl dX1_obstructBlock_17 18 rfl ?_
      refine gv_iconst C 3 rfl dX1_obstructBlock_18 19 rfl ?_
      obtain ⟨q5, hq5, h⟩ := gm_bd h
      refine gv_callVv C mc_yX0_takeBack ⟨mi_yX0_takeBack, me_yX0_takeBack⟩ (by decide) mkX1_240 (gi_0 hl hp1) ⟨_, rfl⟩ rfl rfl (kX0_takeBack _ _ _ hl hp1 _ _ _ hq5) rfl rfl (Nat.le_of_ble_eq_true rfl) dX1_obstructBlock_19 22 rfl ?_
      refine gv_aload_n C rfl 1 rfl dX1_obstructBlock_22 23 rfl ?_
      refine gv_aload_n C rfl 2 rfl dX1_obstructBlock_23 24 rfl ?_
      refine gv_bipush C 6 rfl dX1_obstructBlock_24 26 rfl ?_
      obtain ⟨q6, hq6, h⟩ := gm_bd h
      refine gv_callVi C mc_yX1_ringAhead ⟨mi_yX1_ringAhead, me_yX1_ringAhead⟩ (by decide) mkX1_228 (gi_1 hl) ⟨_, rfl⟩ rfl rfl (kX1_ringAhead _ _ _ hl hp1 _ _ _ hq6) rfl rfl (Nat.le_of_ble_eq_true rfl) dX1_obstructBlock_26 29 rfl ?_
      refine gv_pop C rfl dX1_obstructBlock_29 30 rfl ?_
      refine gv_iload_n C rfl 0 rfl dX1_obstructBlock_30 31 rfl ?_
      obtain rfl := Option.some.inj h
      exact gv_iret C E rfl rfl dX1_obstructBlock_31
    · replace h := gm_iq c4 h
      refine gv_bipush C (-5) rfl dX1_obstructBlock_14 16 rfl ?_
      obtain rfl := Option.some.inj h
      exact gv_iret C E rfl rfl dX1_obstructBlock_16
set_option maxRecDepth 100000 in
set_option maxHeartbeats 4000000 in
theorem kX1_liftBlock (w : gm_Wd) (l p1 : Nat) (hl : l < 4) (hp1 : p1 < 10) (G : Gm) (q : Int32 × Gm) (h : fX1_liftBlock l p1 G = some q) : gm_C w yX1_liftBlock cX1_liftBlock 2 (some .int) 3 [.ref (gm_ad w 1 l 0), .ref (gm_ad w 0 l p1)] G (some (.int q.1)) q.2 := by
  refine gm_start (by decide) (Nat.le_of_ble_eq_true rfl) ?_
  intro x hw C E
  subst hw
  have C : gm_X x cX1_liftBlock 2 RX1 (some .int) 3 := C
  unfold fX1_liftBlock at h
  refine gm_lv (lv' := [(0, _), (1, _)]) rfl ?_
  refine gv_aload_n C rfl 1 rfl dX1_liftBlock_0 1 rfl ?_
  refine gf_0_2 C (gi_0 hl hp1) lkX1_125 dX1_liftBlock_1 4 rfl ?_
  refine gv_iconst C 3 rfl dX1_liftBlock_4 5 rfl ?_
  refine gv_icmp_eq C dX1_liftBlock_5 11 (by decide) 8 rfl (fun c1 => ?_) (fun c1 => ?_)
  · replace h := gm_ip c1 h
    refine gv_aload_n C rfl 1 rfl dX1_liftBlock_11 12 rfl ?_
    refine gv_iconst C 0 rfl dX1_liftBlock_12 13 rfl ?_
    refine pf_0_2 C (gi_0 hl hp1) lkX1_125 dX1_liftBlock_13 16 rfl ?_
    refine gv_aload_n C rfl 0 rfl dX1_liftBlock_16 17 rfl ?_
    refine gv_aload_n C rfl 1 rfl dX1_liftBlock_17 18 rfl ?_
    refine gv_bipush C 13 rfl dX1_liftBlock_18 20 rfl ?_
    obtain ⟨q2, hq2, h⟩ := gm_bd h
    refine gv_callVi C mc_yX1_ringAhead ⟨mi_yX1_ringAhead, me_yX1_ringAhead⟩ (by decide) mkX1_228 (gi_1 hl) ⟨_, rfl⟩ rfl rfl (kX1_ringAhead _ _ _ hl hp1 _ _ _ hq2) rfl rfl (Nat.le_of_ble_eq_true rfl) dX1_liftBlock_20 23 rfl ?_
    obtain rfl := Option.some.inj h
    exact gv_iret C E rfl rfl dX1_liftBlock_23
  · replace h := gm_iq c1 h
    refine gv_bipush C (-5) rfl dX1_liftBlock_8 10 rfl ?_
    obtain rfl := Option.some.inj h
    exact gv_iret C E rfl rfl dX1_liftBlock_10
