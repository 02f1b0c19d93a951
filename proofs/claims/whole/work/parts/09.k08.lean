set_option maxRecDepth 100000 in
set_option maxHeartbeats 4000000 in
theorem kX7_isTrain (w : gm_Wd) (a1 : Int32) (G : Gm) (q : Int32) (h : fX7_isTrain a1 G = some q) : gm_C w yX7_isTrain cX7_isTrain 2 (some .boolean) 1 [.ref (gm_ad w 7 5 0), .int a1] G (some (.int q)) G := by
  refine gm_start (by decide) (Nat.le_of_ble_eq_true rfl) ?_
  intro x hw C E
  subst hw
  have C : gm_X x cX7_isTrain 2 RX7 (some .boolean) 1 := C
  unfold fX7_isTrain at h
  refine gm_lv (lv' := [(0, _), (1, _)]) rfl ?_
  refine gv_iload_n C rfl 1 rfl dX7_isTrain_0 1 rfl ?_
  refine gv_iconst C 0 rfl dX7_isTrain_1 2 rfl ?_
  refine gv_aload_n C rfl 0 rfl dX7_isTrain_2 3 rfl ?_
  refine gf_7_0 C gi_7 lkX7_7 dX7_isTrain_3 6 rfl ?_
  refine gv_sipush C 381 rfl dX7_isTrain_6 9 rfl ?_
  refine gv_ialdK C 381 (by decide) (gi_85 (c := 0) (by decide)) rfl (by decide) dX7_isTrain_9 10 rfl ?_
  refine gv_iconst C 1 rfl dX7_isTrain_10 11 rfl ?_
  refine gv_isub C dX7_isTrain_11 12 rfl ?_
  obtain ⟨q1, hq1, h⟩ := gm_bd h
  refine gv_callSi C mc_yX7_in ms_yX7_in (by decide) mkX7_40 (kX7_in _ _ _ _ _ _ hq1) rfl rfl (Nat.le_of_ble_eq_true rfl) dX7_isTrain_12 15 rfl ?_
  obtain ⟨g2, h⟩ := gm_gp h
  obtain rfl := Option.some.inj h
  exact gv_zret C E g2 rfl rfl dX7_isTrain_15
set_option maxRecDepth 100000 in
set_option maxHeartbeats 4000000 in
theorem kX7_train (w : gm_Wd) (a1 a2 : Int32) (G : Gm) (q : Int32) (h : fX7_train a1 a2 G = some q) : gm_C w yX7_train cX7_train 3 (some .int) 2 [.ref (gm_ad w 7 5 0), .int a1, .int a2] G (some (.int q)) G := by
  refine gm_start (by decide) (Nat.le_of_ble_eq_true rfl) ?_
  intro x hw C E
  subst hw
  have C : gm_X x cX7_train 3 RX7 (some .int) 2 := C
  unfold fX7_train at h
  refine gm_lv (lv' := [(0, _), (1, _), (2, _)]) rfl ?_
  refine gv_aload_n C rfl 0 rfl dX7_train_0 1 rfl ?_
  refine gv_iload_n C rfl 1 rfl dX7_train_1 2 rfl ?_
  obtain ⟨q1, hq1, h⟩ := gm_bd h
  refine gv_callVi C mc_yX7_isTrain ⟨mi_yX7_isTrain, me_yX7_isTrain⟩ (by decide) mkX7_89 gi_7 ⟨_, rfl⟩ rfl rfl (kX7_isTrain _ _ _ _ hq1) rfl rfl (Nat.le_of_ble_eq_true rfl) dX7_train_2 5 rfl ?_
  refine gv_if_ne C dX7_train_5 10 (by decide) 8 rfl (fun c2 => ?_) (fun c2 => ?_)
  · replace h := gm_ip c2 h
    refine gv_iconst C (-1) rfl dX7_train_8 9 rfl ?_
    obtain rfl := Option.some.inj h
    exact gv_iret C E rfl rfl dX7_train_9
  · replace h := gm_iq c2 h
    refine gv_iload_n C rfl 2 rfl dX7_train_10 11 rfl ?_
    refine gv_iconst C 0 rfl dX7_train_11 12 rfl ?_
    refine gv_bipush C 7 rfl dX7_train_12 14 rfl ?_
    obtain ⟨q3, hq3, h⟩ := gm_bd h
    refine gv_callSi C mc_yX7_in ms_yX7_in (by decide) mkX7_40 (kX7_in _ _ _ _ _ _ hq3) rfl rfl (Nat.le_of_ble_eq_true rfl) dX7_train_14 17 rfl ?_
    refine gv_if_eq C dX7_train_17 29 (by decide) 20 rfl (fun c4 => ?_) (fun c4 => ?_)
    · replace h := gm_ip c4 h
      refine gv_bipush C (-2) rfl dX7_train_29 31 rfl ?_
      obtain rfl := Option.some.inj h
      exact gv_iret C E rfl rfl dX7_train_31
    · replace h := gm_iq c4 h
      refine gv_aload_n C rfl 0 rfl dX7_train_20 21 rfl ?_
      refine gv_iload_n C rfl 1 rfl dX7_train_21 22 rfl ?_
      refine gv_iload_n C rfl 2 rfl dX7_train_22 23 rfl ?_
      obtain ⟨q5, hq5, h⟩ := gm_bd h
      refine gv_callVi C mc_yX7_ofTrain ⟨mi_yX7_ofTrain, me_yX7_ofTrain⟩ (by decide) mkX7_61 gi_7 ⟨_, rfl⟩ rfl rfl (kX7_ofTrain _ _ _ _ _ hq5) rfl rfl (Nat.le_of_ble_eq_true rfl) dX7_train_23 26 rfl ?_
      refine gv_goto C dX7_train_26 31 (by decide) ?_
      obtain rfl := Option.some.inj h
      exact gv_iret C E rfl rfl dX7_train_31
set_option maxRecDepth 100000 in
set_option maxHeartbeats 4000000 in
theorem kX7_nextSection (w : gm_Wd) (a1 : Int32) (G : Gm) (q : Int32) (h : fX7_nextSection a1 G = some q) : gm_C w yX7_nextSection cX7_nextSection 3 (some .int) 2 [.ref (gm_ad w 7 5 0), .int a1] G (some (.int q)) G := by
  refine gm_start (by decide) (Nat.le_of_ble_eq_true rfl) ?_
  intro x hw C E
  subst hw
  have C : gm_X x cX7_nextSection 3 RX7 (some .int) 2 := C
  unfold fX7_nextSection at h
  refine gm_lv (lv' := [(0, _), (1, _)]) rfl ?_
  refine gv_aload_n C rfl 0 rfl dX7_nextSection_0 1 rfl ?_
  refine gv_iload_n C rfl 1 rfl dX7_nextSection_1 2 rfl ?_
  refine gv_iconst C 3 rfl dX7_nextSection_2 3 rfl ?_
  obtain ⟨q1, hq1, h⟩ := gm_bd h
  refine gv_callVi C mc_yX7_ofTrain ⟨mi_yX7_ofTrain, me_yX7_ofTrain⟩ (by decide) mkX7_61 gi_7 ⟨_, rfl⟩ rfl rfl (kX7_ofTrain _ _ _ _ _ hq1) rfl rfl (Nat.le_of_ble_eq_true rfl) dX7_nextSection_3 6 rfl ?_
  refine gv_aload_n C rfl 0 rfl dX7_nextSection_6 7 rfl ?_
  refine gv_iload_n C rfl 1 rfl dX7_nextSection_7 8 rfl ?_
  refine gv_iconst C 1 rfl dX7_nextSection_8 9 rfl ?_
  obtain ⟨q2, hq2, h⟩ := gm_bd h
  refine gv_callVi C mc_yX7_ofTrain ⟨mi_yX7_ofTrain, me_yX7_ofTrain⟩ (by decide) mkX7_61 gi_7 ⟨_, rfl⟩ rfl rfl (kX7_ofTrain _ _ _ _ _ hq2) rfl rfl (Nat.le_of_ble_eq_true rfl) dX7_nextSection_9 12 rfl ?_
  refine gv_isub C dX7_nextSection_12 13 rfl ?_
  refine gv_istore_n C rfl [(2, _), (0, _), (1, _)] (by decide) rfl dX7_nextSection_13 14 rfl ?_
  refine gv_aload_n C rfl 1 rfl dX7_nextSection_14 15 rfl ?_
  refine gv_iload_n C rfl 0 rfl dX7_nextSection_15 16 rfl ?_
  obtain ⟨q3, hq3, h⟩ := gm_bd h
  refine gv_callVi C mc_yX7_isSection ⟨mi_yX7_isSection, me_yX7_isSection⟩ (by decide) mkX7_44 gi_7 ⟨_, rfl⟩ rfl rfl (kX7_isSection _ _ _ _ hq3) rfl rfl (Nat.le_of_ble_eq_true rfl) dX7_nextSection_16 19 rfl ?_
  refine gv_if_eq C dX7_nextSection_19 26 (by decide) 22 rfl (fun c4 => ?_) (fun c4 => ?_)
  · replace h := gm_ip c4 h
    refine gv_bipush C (-6) rfl dX7_nextSection_26 28 rfl ?_
    obtain rfl := Option.some.inj h
    exact gv_iret C E rfl rfl dX7_nextSection_28
  · replace h := gm_iq c4 h
    refine gv_iload_n C rfl 0 rfl dX7_nextSection_22 23 rfl ?_
    refine gv_goto C dX7_nextSection_23 28 (by decide) ?_
    obtain rfl := Option.some.inj h
    exact gv_iret C E rfl rfl dX7_nextSection_28
set_option maxRecDepth 100000 in
set_option maxHeartbeats 4000000 in
theorem kX7_isOffered (w : gm_Wd) (a1 : Int32) (G : Gm) (q : Int32) (h : fX7_isOffered a1 G = some q) : gm_C w yX7_isOffered cX7_isOffered 3 (some .boolean) 3 [.ref (gm_ad w 7 5 0), .int a1] G (some (.int q)) G := by
  refine gm_start (by decide) (Nat.le_of_ble_eq_true rfl) ?_
  intro x hw C E
  subst hw
  have C : gm_X x cX7_isOffered 3 RX7 (some .boolean) 3 := C
  unfold fX7_isOffered at h
  refine gm_lv (lv' := [(0, _), (1, _)]) rfl ?_
  refine gv_aload_n C rfl 0 rfl dX7_isOffered_0 1 rfl ?_
  refine gv_iload_n C rfl 1 rfl dX7_isOffered_1 2 rfl ?_
  obtain ⟨q1, hq1, h⟩ := gm_bd h
  refine gv_callVi C mc_yX7_nextSection ⟨mi_yX7_nextSection, me_yX7_nextSection⟩ (by decide) mkX7_92 gi_7 ⟨_, rfl⟩ rfl rfl (kX7_nextSection _ _ _ _ hq1) rfl rfl (Nat.le_of_ble_eq_true rfl) dX7_isOffered_2 5 rfl ?_
  refine gv_istore_n C rfl [(2, _), (0, _), (1, _)] (by decide) rfl dX7_isOffered_5 6 rfl ?_
  refine gv_iload_n C rfl 0 rfl dX7_isOffered_6 7 rfl ?_
  refine gv_if_lt C dX7_isOffered_7 30 (by decide) 10 rfl (fun c2 => ?_) (fun c2 => ?_)
  · replace h := gm_ip c2 h
    refine gv_iconst C 0 rfl dX7_isOffered_30 31 rfl ?_
    obtain rfl := Option.some.inj h
    exact gv_zret C E (Or.inl rfl) rfl rfl dX7_isOffered_31
  · replace h := gm_iq c2 h
    refine gv_aload_n C rfl 1 rfl dX7_isOffered_10 11 rfl ?_
    refine gv_iload_n C rfl 0 rfl dX7_isOffered_11 12 rfl ?_
    refine gv_aload_n C rfl 1 rfl dX7_isOffered_12 13 rfl ?_
    refine gv_iload_n C rfl 2 rfl dX7_isOffered_13 14 rfl ?_
    refine gv_iconst C 1 rfl dX7_isOffered_14 15 rfl ?_
    obtain ⟨q3, hq3, h⟩ := gm_bd h
    refine gv_callVi C mc_yX7_ofTrain ⟨mi_yX7_ofTrain, me_yX7_ofTrain⟩ (by decide) mkX7_61 gi_7 ⟨_, rfl⟩ rfl rfl (kX7_ofTrain _ _ _ _ _ hq3) rfl rfl (Nat.le_of_ble_eq_true rfl) dX7_isOffered_15 18 rfl ?_
    refine gv_iconst C 1 rfl dX7_isOffered_18 19 rfl ?_
    obtain ⟨q4, hq4, h⟩ := gm_bd h
    refine gv_callVi C mc_yX7_ofBlock ⟨mi_yX7_ofBlock, me_yX7_ofBlock⟩ (by decide) mkX7_55 gi_7 ⟨_, rfl⟩ rfl rfl (kX7_ofBlock _ _ _ _ _ _ hq4) rfl rfl (Nat.le_of_ble_eq_true rfl) dX7_isOffered_19 22 rfl ?_
    refine gv_iload_n C rfl 2 rfl dX7_isOffered_22 23 rfl ?_
    refine gv_icmp_ne C dX7_isOffered_23 30 (by decide) 26 rfl (fun c5 => ?_) (fun c5 => ?_)
    · replace h := gm_ip c5 h
      refine gv_iconst C 1 rfl dX7_isOffered_26 27 rfl ?_
      refine gv_goto C dX7_isOffered_27 31 (by decide) ?_
      obtain rfl := Option.some.inj h
      exact gv_zret C E (Or.inr rfl) rfl rfl dX7_isOffered_31
    · replace h := gm_iq c5 h
      refine gv_iconst C 0 rfl dX7_isOffered_30 31 rfl ?_
      obtain rfl := Option.some.inj h
      exact gv_zret C E (Or.inl rfl) rfl rfl dX7_isOffered_31
set_option maxRecDepth 100000 in
set_option maxHeartbeats 4000000 in
theorem kX7_isClearFor (w : gm_Wd) (a1 : Int32) (G : Gm) (q : Int32) (h : fX7_isClearFor a1 G = some q) : gm_C w yX7_isClearFor cX7_isClearFor 4 (some .boolean) 3 [.ref (gm_ad w 7 5 0), .int a1] G (some (.int q)) G := by
  refine gm_start (by decide) (Nat.le_of_ble_eq_true rfl) ?_
  intro x hw C E
  subst hw
  have C : gm_X x cX7_isClearFor 4 RX7 (some .boolean) 3 := C
  unfold fX7_isClearFor at h
  refine gm_lv (lv' := [(0, _), (1, _)]) rfl ?_
  refine gv_aload_n C rfl 0 rfl dX7_isClearFor_0 1 rfl ?_
  refine gv_iload_n C rfl 1 rfl dX7_isClearFor_1 2 rfl ?_
  obtain ⟨q1, hq1, h⟩ := gm_bd h
  refine gv_callVi C mc_yX7_nextSection ⟨mi_yX7_nextSection, me_yX7_nextSection⟩ (by decide) mkX7_92 gi_7 ⟨_, rfl⟩ rfl rfl (kX7_nextSection _ _ _ _ hq1) rfl rfl (Nat.le_of_ble_eq_true rfl) dX7_isClearFor_2 5 rfl ?_
  refine gv_istore_n C rfl [(2, _), (0, _), (1, _)] (by decide) rfl dX7_isClearFor_5 6 rfl ?_
  refine gv_aload_n C rfl 1 rfl dX7_isClearFor_6 7 rfl ?_
  refine gv_iload_n C rfl 2 rfl dX7_isClearFor_7 8 rfl ?_
  refine gv_iconst C 1 rfl dX7_isClearFor_8 9 rfl ?_
  obtain ⟨q2, hq2, h⟩ := gm_bd h
  refine gv_callVi C mc_yX7_ofTrain ⟨mi_yX7_ofTrain, me_yX7_ofTrain⟩ (by decide) mkX7_61 gi_7 ⟨_, rfl⟩ rfl rfl (kX7_ofTrain _ _ _ _ _ hq2) rfl rfl (Nat.le_of_ble_eq_true rfl) dX7_isClearFor_9 12 rfl ?_
  refine gv_istore_n C rfl [(3, _), (2, _), (0, _), (1, _)] (by decide) rfl dX7_isClearFor_12 13 rfl ?_
  refine gv_iload_n C rfl 1 rfl dX7_isClearFor_13 14 rfl ?_
  refine gv_if_lt C dX7_isClearFor_14 43 (by decide) 17 rfl (fun c3 => ?_) (fun c3 => ?_)
  · replace h := gm_ip c3 h
    refine gv_iconst C 0 rfl dX7_isClearFor_43 44 rfl ?_
    obtain rfl := Option.some.inj h
    exact gv_zret C E (Or.inl rfl) rfl rfl dX7_isClearFor_44
  · replace h := gm_iq c3 h
    refine gv_aload_n C rfl 2 rfl dX7_isClearFor_17 18 rfl ?_
    refine gv_iload_n C rfl 1 rfl dX7_isClearFor_18 19 rfl ?_
    refine gv_iload_n C rfl 0 rfl dX7_isClearFor_19 20 rfl ?_
    refine gv_iconst C 0 rfl dX7_isClearFor_20 21 rfl ?_
    obtain ⟨q4, hq4, h⟩ := gm_bd h
    refine gv_callVi C mc_yX7_ofBlock ⟨mi_yX7_ofBlock, me_yX7_ofBlock⟩ (by decide) mkX7_55 gi_7 ⟨_, rfl⟩ rfl rfl (kX7_ofBlock _ _ _ _ _ _ hq4) rfl rfl (Nat.le_of_ble_eq_true rfl) dX7_isClearFor_21 24 rfl ?_
    refine gv_iconst C 1 rfl dX7_isClearFor_24 25 rfl ?_
    refine gv_icmp_ne C dX7_isClearFor_25 43 (by decide) 28 rfl (fun c5 => ?_) (fun c5 => ?_)
    · replace h := gm_ip c5 h
      refine gv_aload_n C rfl 2 rfl dX7_isClearFor_28 29 rfl ?_
      refine gv_iload_n C rfl 1 rfl dX7_isClearFor_29 30 rfl ?_
      refine gv_iload_n C rfl 0 rfl dX7_isClearFor_30 31 rfl ?_
      refine gv_iconst C 2 rfl dX7_isClearFor_31 32 rfl ?_
      obtain ⟨q6, hq6, h⟩ := gm_bd h
      refine gv_callVi C mc_yX7_ofBlock ⟨mi_yX7_ofBlock, me_yX7_ofBlock⟩ (by decide) mkX7_55 gi_7 ⟨_, rfl⟩ rfl rfl (kX7_ofBlock _ _ _ _ _ _ hq6) rfl rfl (Nat.le_of_ble_eq_true rfl) dX7_isClearFor_32 35 rfl ?_
      refine gv_iload_n C rfl 3 rfl dX7_isClearFor_35 36 rfl ?_
      refine gv_icmp_ne C dX7_isClearFor_36 43 (by decide) 39 rfl (fun c7 => ?_) (fun c7 => ?_)
      · replace h := gm_ip c7 h
        refine gv_iconst C 1 rfl dX7_isClearFor_39 40 rfl ?_
        refine gv_goto C dX7_isClearFor_40 44 (by decide) ?_
        obtain rfl := Option.some.inj h
        exact gv_zret C E (Or.inr rfl) rfl rfl dX7_isClearFor_44
      · replace h := gm_iq c7 h
        refine gv_iconst C 0 rfl dX7_isClearFor_43 44 rfl ?_
        obtain rfl := Option.some.inj h
        exact gv_zret C E (Or.inl rfl) rfl rfl dX7_isClearFor_44
    · replace h := gm_iq c5 h
      refine gv_iconst C 0 rfl dX7_isClearFor_43 44 rfl ?_
      obtain rfl := Option.some.inj h
      exact gv_zret C E (Or.inl rfl) rfl rfl dX7_isClearFor_44
set_option maxRecDepth 100000 in
set_option maxHeartbeats 4000000 in
theorem kX7_canGoIn (w : gm_Wd) (a1 : Int32) (G : Gm) (q : Int32) (h : fX7_canGoIn a1 G = some q) : gm_C w yX7_canGoIn cX7_canGoIn 3 (some .boolean) 4 [.ref (gm_ad w 7 5 0), .int a1] G (some (.int q)) G := by
  refine gm_start (by decide) (Nat.le_of_ble_eq_true rfl) ?_
  intro x hw C E
  subst hw
  have C : gm_X x cX7_canGoIn 3 RX7 (some .boolean) 4 := C
  unfold fX7_canGoIn at h
  refine gm_lv (lv' := [(0, _), (1, _)]) rfl ?_
  refine gv_aload_n C rfl 0 rfl dX7_canGoIn_0 1 rfl ?_
  refine gf_7_0 C gi_7 lkX7_7 dX7_canGoIn_1 4 rfl ?_
  refine gv_bipush C 18 rfl dX7_canGoIn_4 6 rfl ?_
  refine gv_iconst C 2 rfl dX7_canGoIn_6 7 rfl ?_
  refine gv_aload_n C rfl 0 rfl dX7_canGoIn_7 8 rfl ?_
  refine gv_iload_n C rfl 1 rfl dX7_canGoIn_8 9 rfl ?_
  refine gv_iconst C 3 rfl dX7_canGoIn_9 10 rfl ?_
  obtain ⟨q1, hq1, h⟩ := gm_bd h
  refine gv_callVi C mc_yX7_ofTrain ⟨mi_yX7_ofTrain, me_yX7_ofTrain⟩ (by decide) mkX7_61 gi_7 ⟨_, rfl⟩ rfl rfl (kX7_ofTrain _ _ _ _ _ hq1) rfl rfl (Nat.le_of_ble_eq_true rfl) dX7_canGoIn_10 13 rfl ?_
  refine gv_imul C dX7_canGoIn_13 14 rfl ?_
  refine gv_iadd C dX7_canGoIn_14 15 rfl ?_
  refine gv_aload_n C rfl 0 rfl dX7_canGoIn_15 16 rfl ?_
  refine gv_iload_n C rfl 1 rfl dX7_canGoIn_16 17 rfl ?_
  refine gv_iconst C 1 rfl dX7_canGoIn_17 18 rfl ?_
  obtain ⟨q2, hq2, h⟩ := gm_bd h
  refine gv_callVi C mc_yX7_ofTrain ⟨mi_yX7_ofTrain, me_yX7_ofTrain⟩ (by decide) mkX7_61 gi_7 ⟨_, rfl⟩ rfl rfl (kX7_ofTrain _ _ _ _ _ hq2) rfl rfl (Nat.le_of_ble_eq_true rfl) dX7_canGoIn_18 21 rfl ?_
  refine gv_iadd C dX7_canGoIn_21 22 rfl ?_
  obtain ⟨g3, h⟩ := gm_gis h
  refine gv_iald C (gi_85 (c := 0) (by decide)) rfl g3 dX7_canGoIn_22 23 rfl ?_
  refine gv_istore_n C rfl [(2, _), (0, _), (1, _)] (by decide) rfl dX7_canGoIn_23 24 rfl ?_
  refine gv_aload_n C rfl 1 rfl dX7_canGoIn_24 25 rfl ?_
  refine gv_iload_n C rfl 2 rfl dX7_canGoIn_25 26 rfl ?_
  obtain ⟨q4, hq4, h⟩ := gm_bd h
  refine gv_callVi C mc_yX7_isOffered ⟨mi_yX7_isOffered, me_yX7_isOffered⟩ (by decide) mkX7_95 gi_7 ⟨_, rfl⟩ rfl rfl (kX7_isOffered _ _ _ _ hq4) rfl rfl (Nat.le_of_ble_eq_true rfl) dX7_canGoIn_26 29 rfl ?_
  refine gv_if_ne C dX7_canGoIn_29 65 (by decide) 32 rfl (fun c5 => ?_) (fun c5 => ?_)
  · replace h := gm_ip c5 h
    refine gv_aload_n C rfl 1 rfl dX7_canGoIn_32 33 rfl ?_
    refine gv_iload_n C rfl 2 rfl dX7_canGoIn_33 34 rfl ?_
    obtain ⟨q6, hq6, h⟩ := gm_bd h
    refine gv_callVi C mc_yX7_isClearFor ⟨mi_yX7_isClearFor, me_yX7_isClearFor⟩ (by decide) mkX7_98 gi_7 ⟨_, rfl⟩ rfl rfl (kX7_isClearFor _ _ _ _ hq6) rfl rfl (Nat.le_of_ble_eq_true rfl) dX7_canGoIn_34 37 rfl ?_
    refine gv_if_ne C dX7_canGoIn_37 65 (by decide) 40 rfl (fun c7 => ?_) (fun c7 => ?_)
    · replace h := gm_ip c7 h
      refine gv_aload_n C rfl 1 rfl dX7_canGoIn_40 41 rfl ?_
      refine gv_aload_n C rfl 1 rfl dX7_canGoIn_41 42 rfl ?_
      refine gv_iload_n C rfl 2 rfl dX7_canGoIn_42 43 rfl ?_
      refine gv_iconst C 3 rfl dX7_canGoIn_43 44 rfl ?_
      obtain ⟨q8, hq8, h⟩ := gm_bd h
      refine gv_callVi C mc_yX7_ofTrain ⟨mi_yX7_ofTrain, me_yX7_ofTrain⟩ (by decide) mkX7_61 gi_7 ⟨_, rfl⟩ rfl rfl (kX7_ofTrain _ _ _ _ _ hq8) rfl rfl (Nat.le_of_ble_eq_true rfl) dX7_canGoIn_44 47 rfl ?_
      refine gv_aload_n C rfl 1 rfl dX7_canGoIn_47 48 rfl ?_
      refine gv_iload_n C rfl 2 rfl dX7_canGoIn_48 49 rfl ?_
      refine gv_iconst C 1 rfl dX7_canGoIn_49 50 rfl ?_
      obtain ⟨q9, hq9, h⟩ := gm_bd h
      refine gv_callVi C mc_yX7_ofTrain ⟨mi_yX7_ofTrain, me_yX7_ofTrain⟩ (by decide) mkX7_61 gi_7 ⟨_, rfl⟩ rfl rfl (kX7_ofTrain _ _ _ _ _ hq9) rfl rfl (Nat.le_of_ble_eq_true rfl) dX7_canGoIn_50 53 rfl ?_
      refine gv_iconst C 1 rfl dX7_canGoIn_53 54 rfl ?_
      obtain ⟨q10, hq10, h⟩ := gm_bd h
      refine gv_callVi C mc_yX7_many ⟨mi_yX7_many, me_yX7_many⟩ (by decide) mkX7_65 gi_7 ⟨_, rfl⟩ rfl rfl (kX7_many _ _ _ _ _ _ hq10) rfl rfl (Nat.le_of_ble_eq_true rfl) dX7_canGoIn_54 57 rfl ?_
      refine gv_iload_n C rfl 0 rfl dX7_canGoIn_57 58 rfl ?_
      refine gv_icmp_ge C dX7_canGoIn_58 65 (by decide) 61 rfl (fun c11 => ?_) (fun c11 => ?_)
      · replace h := gm_ip c11 h
        refine gv_iconst C 0 rfl dX7_canGoIn_65 66 rfl ?_
        obtain rfl := Option.some.inj h
        exact gv_zret C E (Or.inl rfl) rfl rfl dX7_canGoIn_66
      · replace h := gm_iq c11 h
        refine gv_iconst C 1 rfl dX7_canGoIn_61 62 rfl ?_
        refine gv_goto C dX7_canGoIn_62 66 (by decide) ?_
        obtain rfl := Option.some.inj h
        exact gv_zret C E (Or.inr rfl) rfl rfl dX7_canGoIn_66
    · replace h := gm_iq c7 h
      refine gv_iconst C 0 rfl dX7_canGoIn_65 66 rfl ?_
      obtain rfl := Option.some.inj h
      exact gv_zret C E (Or.inl rfl) rfl rfl dX7_canGoIn_66
  · replace h := gm_iq c5 h
    refine gv_iconst C 0 rfl dX7_canGoIn_65 66 rfl ?_
    obtain rfl := Option.some.inj h
    exact gv_zret C E (Or.inl rfl) rfl rfl dX7_canGoIn_66
set_option maxRecDepth 100000 in
set_option maxHeartbeats 4000000 in
theorem kX7_isCalmBehind (w : gm_Wd) (a1 : Int32) (G : Gm) (q : Int32) (h : fX7_isCalmBehind a1 G = some q) : gm_C w yX7_isCalmBehind cX7_isCalmBehind 4 (some .boolean) 2 [.ref (gm_ad w 7 5 0), .int a1] G (some (.int q)) G := by
  refine gm_start (by decide) (Nat.le_of_ble_eq_true rfl) ?_
  intro x hw C E
  subst hw
  have C : gm_X x cX7_isCalmBehind 4 RX7 (some .boolean) 2 := C
  unfold fX7_isCalmBehind at h
  refine gm_lv (lv' := [(0, _), (1, _)]) rfl ?_
  refine gv_aload_n C rfl 0 rfl dX7_isCalmBehind_0 1 rfl ?_
  refine gv_iload_n C rfl 1 rfl dX7_isCalmBehind_1 2 rfl ?_
  refine gv_iconst C 1 rfl dX7_isCalmBehind_2 3 rfl ?_
  obtain ⟨q1, hq1, h⟩ := gm_bd h
  refine gv_callVi C mc_yX7_ofTrain ⟨mi_yX7_ofTrain, me_yX7_ofTrain⟩ (by decide) mkX7_61 gi_7 ⟨_, rfl⟩ rfl rfl (kX7_ofTrain _ _ _ _ _ hq1) rfl rfl (Nat.le_of_ble_eq_true rfl) dX7_isCalmBehind_3 6 rfl ?_
  refine gv_istore_n C rfl [(2, _), (0, _), (1, _)] (by decide) rfl dX7_isCalmBehind_6 7 rfl ?_
  refine gv_aload_n C rfl 1 rfl dX7_isCalmBehind_7 8 rfl ?_
  refine gv_iload_n C rfl 2 rfl dX7_isCalmBehind_8 9 rfl ?_
  refine gv_iconst C 3 rfl dX7_isCalmBehind_9 10 rfl ?_
  obtain ⟨q2, hq2, h⟩ := gm_bd h
  refine gv_callVi C mc_yX7_ofTrain ⟨mi_yX7_ofTrain, me_yX7_ofTrain⟩ (by decide) mkX7_61 gi_7 ⟨_, rfl⟩ rfl rfl (kX7_ofTrain _ _ _ _ _ hq2) rfl rfl (Nat.le_of_ble_eq_true rfl) dX7_isCalmBehind_10 13 rfl ?_
  refine gv_iconst C 1 rfl dX7_isCalmBehind_13 14 rfl ?_
  refine gv_isub C dX7_isCalmBehind_14 15 rfl ?_
  refine gv_iload_n C rfl 0 rfl dX7_isCalmBehind_15 16 rfl ?_
  refine gv_iadd C dX7_isCalmBehind_16 17 rfl ?_
  refine gv_istore_n C rfl [(3, _), (2, _), (0, _), (1, _)] (by decide) rfl dX7_isCalmBehind_17 18 rfl ?_
  refine gv_aload_n C rfl 2 rfl dX7_isCalmBehind_18 19 rfl ?_
  refine gv_iload_n C rfl 0 rfl dX7_isCalmBehind_19 20 rfl ?_
  obtain ⟨q3, hq3, h⟩ := gm_bd h
  refine gv_callVi C mc_yX7_isSection ⟨mi_yX7_isSection, me_yX7_isSection⟩ (by decide) mkX7_44 gi_7 ⟨_, rfl⟩ rfl rfl (kX7_isSection _ _ _ _ hq3) rfl rfl (Nat.le_of_ble_eq_true rfl) dX7_isCalmBehind_20 23 rfl ?_
  refine gv_if_eq C dX7_isCalmBehind_23 47 (by decide) 26 rfl (fun c4 => ?_) (fun c4 => ?_)
  · replace h := gm_ip c4 h
    refine gv_iconst C 1 rfl dX7_isCalmBehind_47 48 rfl ?_
    refine gv_goto C dX7_isCalmBehind_48 52 (by decide) ?_
    obtain rfl := Option.some.inj h
    exact gv_zret C E (Or.inr rfl) rfl rfl dX7_isCalmBehind_52
  · replace h := gm_iq c4 h
    refine gv_aload_n C rfl 2 rfl dX7_isCalmBehind_26 27 rfl ?_
    refine gv_iload_n C rfl 0 rfl dX7_isCalmBehind_27 28 rfl ?_
    refine gv_iload_n C rfl 1 rfl dX7_isCalmBehind_28 29 rfl ?_
    refine gv_iconst C 0 rfl dX7_isCalmBehind_29 30 rfl ?_
    obtain ⟨q5, hq5, h⟩ := gm_bd h
    refine gv_callVi C mc_yX7_ofBlock ⟨mi_yX7_ofBlock, me_yX7_ofBlock⟩ (by decide) mkX7_55 gi_7 ⟨_, rfl⟩ rfl rfl (kX7_ofBlock _ _ _ _ _ _ hq5) rfl rfl (Nat.le_of_ble_eq_true rfl) dX7_isCalmBehind_30 33 rfl ?_
    refine gv_if_eq C dX7_isCalmBehind_33 47 (by decide) 36 rfl (fun c6 => ?_) (fun c6 => ?_)
    · replace h := gm_ip c6 h
      refine gv_iconst C 1 rfl dX7_isCalmBehind_47 48 rfl ?_
      refine gv_goto C dX7_isCalmBehind_48 52 (by decide) ?_
      obtain rfl := Option.some.inj h
      exact gv_zret C E (Or.inr rfl) rfl rfl dX7_isCalmBehind_52
    · replace h := gm_iq c6 h
      refine gv_aload_n C rfl 2 rfl dX7_isCalmBehind_36 37 rfl ?_
      refine gv_iload_n C rfl 0 rfl dX7_isCalmBehind_37 38 rfl ?_
      refine gv_iload_n C rfl 1 rfl dX7_isCalmBehind_38 39 rfl ?_
      refine gv_iconst C 0 rfl dX7_isCalmBehind_39 40 rfl ?_
      obtain ⟨q7, hq7, h⟩ := gm_bd h
      refine gv_callVi C mc_yX7_ofBlock ⟨mi_yX7_ofBlock, me_yX7_ofBlock⟩ (by decide) mkX7_55 gi_7 ⟨_, rfl⟩ rfl rfl (kX7_ofBlock _ _ _ _ _ _ hq7) rfl rfl (Nat.le_of_ble_eq_true rfl) dX7_isCalmBehind_40 43 rfl ?_
      refine gv_iconst C 3 rfl dX7_isCalmBehind_43 44 rfl ?_
      refine gv_icmp_ne C dX7_isCalmBehind_44 51 (by decide) 47 rfl (fun c8 => ?_) (fun c8 => ?_)
      · replace h := gm_ip c8 h
        refine gv_iconst C 1 rfl dX7_isCalmBehind_47 48 rfl ?_
        refine gv_goto C dX7_isCalmBehind_48 52 (by decide) ?_
        obtain rfl := Option.some.inj h
        exact gv_zret C E (Or.inr rfl) rfl rfl dX7_isCalmBehind_52
      · replace h := gm_iq c8 h
        refine gv_iconst C 0 rfl dX7_isCalmBehind_51 52 rfl ?_
        obtain rfl := Option.some.inj h
        exact gv_zret C E (Or.inl rfl) rfl rfl dX7_isCalmBehind_52
set_option maxRecDepth 100000 in
set_option maxHeartbeats 4000000 in
theorem kX7_shunt (w : gm_Wd) (a1 : Int32) (G : Gm) (q : Int32 × Gm) (h : fX7_shunt a1 G = some q) : gm_C w yX7_shunt cX7_shunt 4 (some .int) 5 [.ref (gm_ad w 7 5 0), .int a1] G (some (.int q.1)) q.2 := by
  refine gm_start (by decide) (Nat.le_of_ble_eq_true rfl) ?_
  intro x hw C E
  subst hw
  have C : gm_X x cX7_shunt 4 RX7 (some .int) 5 := C
  unfold fX7_shunt at h
  refine gm_lv (lv' := [(0, _), (1, _)]) rfl ?_
  refine gv_aload_n C rfl 0 rfl dX7_shunt_0 1 rfl ?_
  refine gv_iload_n C rfl 1 rfl dX7_shunt_1 2 rfl ?_
  obtain ⟨q1, hq1, h⟩ := gm_bd h
  refine gv_callVi C mc_yX7_isTrain ⟨mi_yX7_isTrain, me_yX7_isTrain⟩ (by decide) mkX7_89 gi_7 ⟨_, rfl⟩ rfl rfl (kX7_isTrain _ _ _ _ hq1) rfl rfl (Nat.le_of_ble_eq_true rfl) dX7_shunt_2 5 rfl ?_
  refine gv_if_ne C dX7_shunt_5 10 (by decide) 8 rfl (fun c2 => ?_) (fun c2 => ?_)
  · replace h := gm_ip c2 h
    refine gv_iconst C (-1) rfl dX7_shunt_8 9 rfl ?_
    obtain rfl := Option.some.inj h
    exact gv_iret C E rfl rfl dX7_shunt_9
  · replace h := gm_iq c2 h
    refine gv_aload_n C rfl 0 rfl dX7_shunt_10 11 rfl ?_
    refine gv_iload_n C rfl 1 rfl dX7_shunt_11 12 rfl ?_
    refine gv_iconst C 2 rfl dX7_shunt_12 13 rfl ?_
    obtain ⟨q3, hq3, h⟩ := gm_bd h
    refine gv_callVi C mc_yX7_ofTrain ⟨mi_yX7_ofTrain, me_yX7_ofTrain⟩ (by decide) mkX7_61 gi_7 ⟨_, rfl⟩ rfl rfl (kX7_ofTrain _ _ _ _ _ hq3) rfl rfl (Nat.le_of_ble_eq_true rfl) dX7_shunt_13 16 rfl ?_
    refine gv_istore_n C rfl [(2, _), (0, _), (1, _)] (by decide) rfl dX7_shunt_16 17 rfl ?_
    refine gv_iload_n C rfl 0 rfl dX7_shunt_17 18 rfl ?_
    refine gv_iconst C 1 rfl dX7_shunt_18 19 rfl ?_
    refine gv_icmp_le C dX7_shunt_19 25 (by decide) 22 rfl (fun c4 => ?_) (fun c4 => ?_)
    · replace h := gm_ip c4 h
      refine gv_iload_n C rfl 0 rfl dX7_shunt_25 26 rfl ?_
      refine gv_if_ne C dX7_shunt_26 37 (by decide) 29 rfl (fun c5 => ?_) (fun c5 => ?_)
      · replace h := gm_ip c5 h
        refine gv_aload_n C rfl 1 rfl dX7_shunt_29 30 rfl ?_
        refine gv_iload_n C rfl 2 rfl dX7_shunt_30 31 rfl ?_
        obtain ⟨q6, hq6, h⟩ := gm_bd h
        refine gv_callVi C mc_yX7_canGoIn ⟨mi_yX7_canGoIn, me_yX7_canGoIn⟩ (by decide) mkX7_101 gi_7 ⟨_, rfl⟩ rfl rfl (kX7_canGoIn _ _ _ _ hq6) rfl rfl (Nat.le_of_ble_eq_true rfl) dX7_shunt_31 34 rfl ?_
        refine gv_goto C dX7_shunt_34 69 (by decide) ?_
        refine gv_istore_n C rfl [(3, _), (2, _), (0, _), (1, _)] (by decide) rfl dX7_shunt_69 70 rfl ?_
        refine gv_iload_n C rfl 0 rfl dX7_shunt_70 71 rfl ?_
        refine gv_if_ne C dX7_shunt_71 77 (by decide) 74 rfl (fun c7 => ?_) (fun c7 => ?_)
        · replace h := gm_ip c7 h
          refine gv_bipush C (-5) rfl dX7_shunt_74 76 rfl ?_
          obtain rfl := Option.some.inj h
          exact gv_iret C E rfl rfl dX7_shunt_76
        · replace h := gm_iq c7 h
          refine gv_aload_n C rfl 2 rfl dX7_shunt_77 78 rfl ?_
          refine gv_iload_n C rfl 3 rfl dX7_shunt_78 79 rfl ?_
          refine gv_iconst C 2 rfl dX7_shunt_79 80 rfl ?_
          refine gv_iconst C 1 rfl dX7_shunt_80 81 rfl ?_
          refine gv_iload_n C rfl 1 rfl dX7_shunt_81 82 rfl ?_
          refine gv_isub C dX7_shunt_82 83 rfl ?_
          obtain ⟨q8, hq8, h⟩ := gm_bd h
          refine gv_callVv C mc_yX7_layTrain ⟨mi_yX7_layTrain, me_yX7_layTrain⟩ (by decide) mkX7_75 gi_7 ⟨_, rfl⟩ rfl rfl (kX7_layTrain _ _ _ _ _ _ hq8) rfl rfl (Nat.le_of_ble_eq_true rfl) dX7_shunt_83 86 rfl ?_
          refine gv_aload_n C rfl 2 rfl dX7_shunt_86 87 rfl ?_
          refine gv_iload_n C rfl 3 rfl dX7_shunt_87 88 rfl ?_
          refine gv_iconst C 2 rfl dX7_shunt_88 89 rfl ?_
          obtain ⟨q9, hq9, h⟩ := gm_bd h
          refine gv_callVi C mc_yX7_ofTrain ⟨mi_yX7_ofTrain, me_yX7_ofTrain⟩ (by decide) mkX7_61 gi_7 ⟨_, rfl⟩ rfl rfl (kX7_ofTrain _ _ _ _ _ hq9) rfl rfl (Nat.le_of_ble_eq_true rfl) dX7_shunt_89 92 rfl ?_
          obtain rfl := Option.some.inj h
          exact gv_iret C E rfl rfl dX7_shunt_92
      · replace h := gm_iq c5 h
        refine gv_aload_n C rfl 1 rfl dX7_shunt_37 38 rfl ?_
        refine gv_aload_n C rfl 1 rfl dX7_shunt_38 39 rfl ?_
        refine gv_iload_n C rfl 2 rfl dX7_shunt_39 40 rfl ?_
        refine gv_iconst C 3 rfl dX7_shunt_40 41 rfl ?_
        obtain ⟨q10, hq10, h⟩ := gm_bd h
        refine gv_callVi C mc_yX7_ofTrain ⟨mi_yX7_ofTrain, me_yX7_ofTrain⟩ (by decide) mkX7_61 gi_7 ⟨_, rfl⟩ rfl rfl (kX7_ofTrain _ _ _ _ _ hq10) rfl rfl (Nat.le_of_ble_eq_true rfl) dX7_shunt_41 44 rfl ?_
        refine gv_aload_n C rfl 1 rfl dX7_shunt_44 45 rfl ?_
        refine gv_iload_n C rfl 2 rfl dX7_shunt_45 46 rfl ?_
        refine gv_iconst C 1 rfl dX7_shunt_46 47 rfl ?_
        obtain ⟨q11, hq11, h⟩ := gm_bd h
        refine gv_callVi C mc_yX7_ofTrain ⟨mi_yX7_ofTrain, me_yX7_ofTrain⟩ (by decide) mkX7_61 gi_7 ⟨_, rfl⟩ rfl rfl (kX7_ofTrain _ _ _ _ _ hq11) rfl rfl (Nat.le_of_ble_eq_true rfl) dX7_shunt_47 50 rfl ?_
        obtain ⟨q12, hq12, h⟩ := gm_bd h
        refine gv_callVi C mc_yX7_isFree ⟨mi_yX7_isFree, me_yX7_isFree⟩ (by decide) mkX7_83 gi_7 ⟨_, rfl⟩ rfl rfl (kX7_isFree _ _ _ _ _ hq12) rfl rfl (Nat.le_of_ble_eq_true rfl) dX7_shunt_50 53 rfl ?_
        refine gv_if_eq C dX7_shunt_53 68 (by decide) 56 rfl (fun c13 => ?_) (fun c13 => ?_)
        · replace h := gm_ip c13 h
          refine gv_iconst C 0 rfl dX7_shunt_68 69 rfl ?_
          refine gv_istore_n C rfl [(3, _), (2, _), (0, _), (1, _)] (by decide) rfl dX7_shunt_69 70 rfl ?_
          refine gv_iload_n C rfl 0 rfl dX7_shunt_70 71 rfl ?_
          refine gv_if_ne C dX7_shunt_71 77 (by decide) 74 rfl (fun c14 => ?_) (fun c14 => ?_)
          rotate_left
          · exact absurd (by decide) c14
          refine gv_bipush C (-5) rfl dX7_shunt_74 76 rfl ?_
          obtain rfl := Option.some.inj h
          exact gv_iret C E rfl rfl dX7_shunt_76
        · replace h := gm_iq c13 h
          refine gv_aload_n C rfl 1 rfl dX7_shunt_56 57 rfl ?_
          refine gv_iload_n C rfl 2 rfl dX7_shunt_57 58 rfl ?_
          obtain ⟨q15, hq15, h⟩ := gm_bd h
          refine gv_callVi C mc_yX7_isCalmBehind ⟨mi_yX7_isCalmBehind, me_yX7_isCalmBehind⟩ (by decide) mkX7_104 gi_7 ⟨_, rfl⟩ rfl rfl (kX7_isCalmBehind _ _ _ _ hq15) rfl rfl (Nat.le_of_ble_eq_true rfl) dX7_shunt_58 61 rfl ?_
          refine gv_if_eq C dX7_shunt_61 68 (by decide) 64 rfl (fun c16 => ?_) (fun c16 => ?_)
          · replace h := gm_ip c16 h
            refine gv_iconst C 0 rfl dX7_shunt_68 69 rfl ?_
            refine gv_istore_n C rfl [(3, _), (2, _), (0, _), (1, _)] (by decide) rfl dX7_shunt_69 70 rfl ?_
            refine gv_iload_n C rfl 0 rfl dX7_shunt_70 71 rfl ?_
            refine gv_if_ne C dX7_shunt_71 77 (by decide) 74 rfl (fun c17 => ?_) (fun c17 => ?_)
            rotate_left
            · exact absurd (by decide) c17
            refine gv_bipush C (-5) rfl dX7_shunt_74 76 rfl ?_
            obtain rfl := Option.some.inj h
            exact gv_iret C E rfl rfl dX7_shunt_76
          · replace h := gm_iq c16 h
            refine gv_iconst C 1 rfl dX7_shunt_64 65 rfl ?_
            refine gv_goto C dX7_shunt_65 69 (by decide) ?_
            refine gv_istore_n C rfl [(3, _), (2, _), (0, _), (1, _)] (by decide) rfl dX7_shunt_69 70 rfl ?_
            refine gv_iload_n C rfl 0 rfl dX7_shunt_70 71 rfl ?_
            refine gv_if_ne C dX7_shunt_71 77 (by decide) 74 rfl (fun c18 => ?_) (fun c18 => ?_)
            · exact absurd c18 (by decide)
            refine gv_aload_n C rfl 2 rfl dX7_shunt_77 78 rfl ?_
            refine gv_iload_n C rfl 3 rfl dX7_shunt_78 79 rfl ?_
            refine gv_iconst C 2 rfl dX7_shunt_79 80 rfl ?_
            refine gv_iconst C 1 rfl dX7_shunt_80 81 rfl ?_
            refine gv_iload_n C rfl 1 rfl dX7_shunt_81 82 rfl ?_
            refine gv_isub C dX7_shunt_82 83 rfl ?_
            obtain ⟨q19, hq19, h⟩ := gm_bd h
            refine gv_callVv C mc_yX7_layTrain ⟨mi_yX7_layTrain, me_yX7_layTrain⟩ (by decide) mkX7_75 gi_7 ⟨_, rfl⟩ rfl rfl (kX7_layTrain _ _ _ _ _ _ hq19) rfl rfl (Nat.le_of_ble_eq_true rfl) dX7_shunt_83 86 rfl ?_
            refine gv_aload_n C rfl 2 rfl dX7_shunt_86 87 rfl ?_
            refine gv_iload_n C rfl 3 rfl dX7_shunt_87 88 rfl ?_
            refine gv_iconst C 2 rfl dX7_shunt_88 89 rfl ?_
            obtain ⟨q20, hq20, h⟩ := gm_bd h
            refine gv_callVi C mc_yX7_ofTrain ⟨mi_yX7_ofTrain, me_yX7_ofTrain⟩ (by decide) mkX7_61 gi_7 ⟨_, rfl⟩ rfl rfl (kX7_ofTrain _ _ _ _ _ hq20) rfl rfl (Nat.le_of_ble_eq_true rfl) dX7_shunt_89 92 rfl ?_
            obtain rfl := Option.some.inj h
            exact gv_iret C E rfl rfl dX7_shunt_92
    · replace h := gm_iq c4 h
      refine gv_bipush C (-5) rfl dX7_shunt_22 24 rfl ?_
      obtain rfl := Option.some.inj h
      exact gv_iret C E rfl rfl dX7_shunt_24
set_option maxRecDepth 100000 in
set_option maxHeartbeats 4000000 in
theorem kX7_leave (w : gm_Wd) (a1 : Int32) (G : Gm) (q : Int32 × Gm) (h : fX7_leave a1 G = some q) : gm_C w yX7_leave cX7_leave 2 (some .int) 2 [.ref (gm_ad w 7 5 0), .int a1] G (some (.int q.1)) q.2 := by
  refine gm_start (by decide) (Nat.le_of_ble_eq_true rfl) ?_
  intro x hw C E
  subst hw
  have C : gm_X x cX7_leave 2 RX7 (some .int) 2 := C
  unfold fX7_leave at h
  refine gm_lv (lv' := [(0, _), (1, _)]) rfl ?_
  refine gv_aload_n C rfl 0 rfl dX7_leave_0 1 rfl ?_
  refine gv_iload_n C rfl 1 rfl dX7_leave_1 2 rfl ?_
  obtain ⟨q1, hq1, h⟩ := gm_bd h
  refine gv_callVi C mc_yX7_isTrain ⟨mi_yX7_isTrain, me_yX7_isTrain⟩ (by decide) mkX7_89 gi_7 ⟨_, rfl⟩ rfl rfl (kX7_isTrain _ _ _ _ hq1) rfl rfl (Nat.le_of_ble_eq_true rfl) dX7_leave_2 5 rfl ?_
  refine gv_if_ne C dX7_leave_5 10 (by decide) 8 rfl (fun c2 => ?_) (fun c2 => ?_)
  · replace h := gm_ip c2 h
    refine gv_iconst C (-1) rfl dX7_leave_8 9 rfl ?_
    obtain rfl := Option.some.inj h
    exact gv_iret C E rfl rfl dX7_leave_9
  · replace h := gm_iq c2 h
    refine gv_aload_n C rfl 0 rfl dX7_leave_10 11 rfl ?_
    refine gv_iload_n C rfl 1 rfl dX7_leave_11 12 rfl ?_
    refine gv_iconst C 2 rfl dX7_leave_12 13 rfl ?_
    obtain ⟨q3, hq3, h⟩ := gm_bd h
    refine gv_callVi C mc_yX7_ofTrain ⟨mi_yX7_ofTrain, me_yX7_ofTrain⟩ (by decide) mkX7_61 gi_7 ⟨_, rfl⟩ rfl rfl (kX7_ofTrain _ _ _ _ _ hq3) rfl rfl (Nat.le_of_ble_eq_true rfl) dX7_leave_13 16 rfl ?_
    refine gv_if_ne C dX7_leave_16 40 (by decide) 19 rfl (fun c4 => ?_) (fun c4 => ?_)
    · replace h := gm_ip c4 h
      refine gv_aload_n C rfl 0 rfl dX7_leave_19 20 rfl ?_
      refine gv_iload_n C rfl 1 rfl dX7_leave_20 21 rfl ?_
      refine gv_iconst C 3 rfl dX7_leave_21 22 rfl ?_
      obtain ⟨q5, hq5, h⟩ := gm_bd h
      refine gv_callVi C mc_yX7_ofTrain ⟨mi_yX7_ofTrain, me_yX7_ofTrain⟩ (by decide) mkX7_61 gi_7 ⟨_, rfl⟩ rfl rfl (kX7_ofTrain _ _ _ _ _ hq5) rfl rfl (Nat.le_of_ble_eq_true rfl) dX7_leave_22 25 rfl ?_
      refine gv_aload_n C rfl 0 rfl dX7_leave_25 26 rfl ?_
      refine gv_iconst C 1 rfl dX7_leave_26 27 rfl ?_
      refine gv_aload_n C rfl 0 rfl dX7_leave_27 28 rfl ?_
      refine gv_iload_n C rfl 1 rfl dX7_leave_28 29 rfl ?_
      refine gv_iconst C 1 rfl dX7_leave_29 30 rfl ?_
      obtain ⟨q6, hq6, h⟩ := gm_bd h
      refine gv_callVi C mc_yX7_ofTrain ⟨mi_yX7_ofTrain, me_yX7_ofTrain⟩ (by decide) mkX7_61 gi_7 ⟨_, rfl⟩ rfl rfl (kX7_ofTrain _ _ _ _ _ hq6) rfl rfl (Nat.le_of_ble_eq_true rfl) dX7_leave_30 33 rfl ?_
      refine gv_isub C dX7_leave_33 34 rfl ?_
      obtain ⟨q7, hq7, h⟩ := gm_bd h
      refine gv_callVi C mc_yX7_firstBox ⟨mi_yX7_firstBox, me_yX7_firstBox⟩ (by decide) mkX7_79 gi_7 ⟨_, rfl⟩ rfl rfl (kX7_firstBox _ _ _ _ hq7) rfl rfl (Nat.le_of_ble_eq_true rfl) dX7_leave_34 37 rfl ?_
      refine gv_icmp_eq C dX7_leave_37 43 (by decide) 40 rfl (fun c8 => ?_) (fun c8 => ?_)
      · replace h := gm_ip c8 h
        refine gv_aload_n C rfl 0 rfl dX7_leave_43 44 rfl ?_
        refine gv_iload_n C rfl 1 rfl dX7_leave_44 45 rfl ?_
        refine gv_iconst C 2 rfl dX7_leave_45 46 rfl ?_
        refine gv_iconst C 3 rfl dX7_leave_46 47 rfl ?_
        obtain ⟨q9, hq9, h⟩ := gm_bd h
        refine gv_callVv C mc_yX7_layTrain ⟨mi_yX7_layTrain, me_yX7_layTrain⟩ (by decide) mkX7_75 gi_7 ⟨_, rfl⟩ rfl rfl (kX7_layTrain _ _ _ _ _ _ hq9) rfl rfl (Nat.le_of_ble_eq_true rfl) dX7_leave_47 50 rfl ?_
        refine gv_aload_n C rfl 0 rfl dX7_leave_50 51 rfl ?_
        refine gv_iload_n C rfl 1 rfl dX7_leave_51 52 rfl ?_
        refine gv_iconst C 3 rfl dX7_leave_52 53 rfl ?_
        refine gv_bipush C (-6) rfl dX7_leave_53 55 rfl ?_
        obtain ⟨q10, hq10, h⟩ := gm_bd h
        refine gv_callVv C mc_yX7_layTrain ⟨mi_yX7_layTrain, me_yX7_layTrain⟩ (by decide) mkX7_75 gi_7 ⟨_, rfl⟩ rfl rfl (kX7_layTrain _ _ _ _ _ _ hq10) rfl rfl (Nat.le_of_ble_eq_true rfl) dX7_leave_55 58 rfl ?_
        refine gv_aload_n C rfl 0 rfl dX7_leave_58 59 rfl ?_
        refine gv_iload_n C rfl 1 rfl dX7_leave_59 60 rfl ?_
        refine gv_bipush C 7 rfl dX7_leave_60 62 rfl ?_
        refine gv_aload_n C rfl 0 rfl dX7_leave_62 63 rfl ?_
        refine gf_7_0 C gi_7 lkX7_7 dX7_leave_63 66 rfl ?_
        refine gv_iconst C 0 rfl dX7_leave_66 67 rfl ?_
        refine gv_ialdK C 0 (by decide) (gi_85 (c := 0) (by decide)) rfl (by decide) dX7_leave_67 68 rfl ?_
        obtain ⟨q11, hq11, h⟩ := gm_bd h
        refine gv_callVv C mc_yX7_layTrain ⟨mi_yX7_layTrain, me_yX7_layTrain⟩ (by decide) mkX7_75 gi_7 ⟨_, rfl⟩ rfl rfl (kX7_layTrain _ _ _ _ _ _ hq11) rfl rfl (Nat.le_of_ble_eq_true rfl) dX7_leave_68 71 rfl ?_
        refine gv_aload_n C rfl 0 rfl dX7_leave_71 72 rfl ?_
        refine gf_7_0 C gi_7 lkX7_7 dX7_leave_72 75 rfl ?_
        refine gv_iconst C 0 rfl dX7_leave_75 76 rfl ?_
        refine gv_ialdK C 0 (by decide) (gi_85 (c := 0) (by decide)) rfl (by decide) dX7_leave_76 77 rfl ?_
        refine gv_aload_n C rfl 0 rfl dX7_leave_77 78 rfl ?_
        refine gv_iload_n C rfl 1 rfl dX7_leave_78 79 rfl ?_
        refine gv_bipush C 6 rfl dX7_leave_79 81 rfl ?_
        obtain ⟨q12, hq12, h⟩ := gm_bd h
        refine gv_callVi C mc_yX7_ofTrain ⟨mi_yX7_ofTrain, me_yX7_ofTrain⟩ (by decide) mkX7_61 gi_7 ⟨_, rfl⟩ rfl rfl (kX7_ofTrain _ _ _ _ _ hq12) rfl rfl (Nat.le_of_ble_eq_true rfl) dX7_leave_81 84 rfl ?_
        refine gv_isub C dX7_leave_84 85 rfl ?_
        obtain rfl := Option.some.inj h
        exact gv_iret C E rfl rfl dX7_leave_85
      · replace h := gm_iq c8 h
        refine gv_bipush C (-5) rfl dX7_leave_40 42 rfl ?_
        obtain rfl := Option.some.inj h
        exact gv_iret C E rfl rfl dX7_leave_42
    · replace h := gm_iq c4 h
      refine gv_bipush C (-5) rfl dX7_leave_40 42 rfl ?_
      obtain rfl := Option.some.inj h
      exact gv_iret C E rfl rfl dX7_leave_42
set_option maxRecDepth 100000 in
set_option maxHeartbeats 4000000 in
theorem kX7_divide (w : gm_Wd) (a1 : Int32) (G : Gm) (q : Int32 × Gm) (h : fX7_divide a1 G = some q) : gm_C w yX7_divide cX7_divide 2 (some .int) 2 [.ref (gm_ad w 7 5 0), .int a1] G (some (.int q.1)) q.2 := by
  refine gm_start (by decide) (Nat.le_of_ble_eq_true rfl) ?_
  intro x hw C E
  subst hw
  have C : gm_X x cX7_divide 2 RX7 (some .int) 2 := C
  unfold fX7_divide at h
  refine gm_lv (lv' := [(0, _), (1, _)]) rfl ?_
  refine gv_aload_n C rfl 0 rfl dX7_divide_0 1 rfl ?_
  refine gv_iload_n C rfl 1 rfl dX7_divide_1 2 rfl ?_
  obtain ⟨q1, hq1, h⟩ := gm_bd h
  refine gv_callVi C mc_yX7_isTrain ⟨mi_yX7_isTrain, me_yX7_isTrain⟩ (by decide) mkX7_89 gi_7 ⟨_, rfl⟩ rfl rfl (kX7_isTrain _ _ _ _ hq1) rfl rfl (Nat.le_of_ble_eq_true rfl) dX7_divide_2 5 rfl ?_
  refine gv_if_ne C dX7_divide_5 10 (by decide) 8 rfl (fun c2 => ?_) (fun c2 => ?_)
  · replace h := gm_ip c2 h
    refine gv_iconst C (-1) rfl dX7_divide_8 9 rfl ?_
    obtain rfl := Option.some.inj h
    exact gv_iret C E rfl rfl dX7_divide_9
  · replace h := gm_iq c2 h
    refine gv_aload_n C rfl 0 rfl dX7_divide_10 11 rfl ?_
    refine gv_iload_n C rfl 1 rfl dX7_divide_11 12 rfl ?_
    refine gv_iconst C 2 rfl dX7_divide_12 13 rfl ?_
    obtain ⟨q3, hq3, h⟩ := gm_bd h
    refine gv_callVi C mc_yX7_ofTrain ⟨mi_yX7_ofTrain, me_yX7_ofTrain⟩ (by decide) mkX7_61 gi_7 ⟨_, rfl⟩ rfl rfl (kX7_ofTrain _ _ _ _ _ hq3) rfl rfl (Nat.le_of_ble_eq_true rfl) dX7_divide_13 16 rfl ?_
    refine gv_iconst C 2 rfl dX7_divide_16 17 rfl ?_
    refine gv_icmp_ne C dX7_divide_17 29 (by decide) 20 rfl (fun c4 => ?_) (fun c4 => ?_)
    · replace h := gm_ip c4 h
      refine gv_aload_n C rfl 0 rfl dX7_divide_20 21 rfl ?_
      refine gv_iload_n C rfl 1 rfl dX7_divide_21 22 rfl ?_
      refine gv_iconst C 5 rfl dX7_divide_22 23 rfl ?_
      obtain ⟨q5, hq5, h⟩ := gm_bd h
      refine gv_callVi C mc_yX7_ofTrain ⟨mi_yX7_ofTrain, me_yX7_ofTrain⟩ (by decide) mkX7_61 gi_7 ⟨_, rfl⟩ rfl rfl (kX7_ofTrain _ _ _ _ _ hq5) rfl rfl (Nat.le_of_ble_eq_true rfl) dX7_divide_23 26 rfl ?_
      refine gv_if_ne C dX7_divide_26 32 (by decide) 29 rfl (fun c6 => ?_) (fun c6 => ?_)
      · replace h := gm_ip c6 h
        refine gv_bipush C (-5) rfl dX7_divide_29 31 rfl ?_
        obtain rfl := Option.some.inj h
        exact gv_iret C E rfl rfl dX7_divide_31
      · replace h := gm_iq c6 h
        refine gv_aload_n C rfl 0 rfl dX7_divide_32 33 rfl ?_
        refine gv_iload_n C rfl 1 rfl dX7_divide_33 34 rfl ?_
        refine gv_iconst C 5 rfl dX7_divide_34 35 rfl ?_
        refine gv_iconst C 0 rfl dX7_divide_35 36 rfl ?_
        obtain ⟨q7, hq7, h⟩ := gm_bd h
        refine gv_callVv C mc_yX7_layTrain ⟨mi_yX7_layTrain, me_yX7_layTrain⟩ (by decide) mkX7_75 gi_7 ⟨_, rfl⟩ rfl rfl (kX7_layTrain _ _ _ _ _ _ hq7) rfl rfl (Nat.le_of_ble_eq_true rfl) dX7_divide_36 39 rfl ?_
        refine gv_aload_n C rfl 0 rfl dX7_divide_39 40 rfl ?_
        refine gf_7_0 C gi_7 lkX7_7 dX7_divide_40 43 rfl ?_
        refine gv_aload_n C rfl 0 rfl dX7_divide_43 44 rfl ?_
        refine gv_iload_n C rfl 1 rfl dX7_divide_44 45 rfl ?_
        refine gv_iconst C 3 rfl dX7_divide_45 46 rfl ?_
        obtain ⟨q8, hq8, h⟩ := gm_bd h
        refine gv_callVi C mc_yX7_ofTrain ⟨mi_yX7_ofTrain, me_yX7_ofTrain⟩ (by decide) mkX7_61 gi_7 ⟨_, rfl⟩ rfl rfl (kX7_ofTrain _ _ _ _ _ hq8) rfl rfl (Nat.le_of_ble_eq_true rfl) dX7_divide_46 49 rfl ?_
        refine gv_aload_n C rfl 0 rfl dX7_divide_49 50 rfl ?_
        refine gv_iload_n C rfl 1 rfl dX7_divide_50 51 rfl ?_
        refine gv_iconst C 1 rfl dX7_divide_51 52 rfl ?_
        obtain ⟨q9, hq9, h⟩ := gm_bd h
        refine gv_callVi C mc_yX7_ofTrain ⟨mi_yX7_ofTrain, me_yX7_ofTrain⟩ (by decide) mkX7_61 gi_7 ⟨_, rfl⟩ rfl rfl (kX7_ofTrain _ _ _ _ _ hq9) rfl rfl (Nat.le_of_ble_eq_true rfl) dX7_divide_52 55 rfl ?_
        refine gv_iconst C 3 rfl dX7_divide_55 56 rfl ?_
        obtain ⟨q10, hq10, h⟩ := gm_bd h
        refine gv_callSi C mc_yX7_place ms_yX7_place (by decide) mkX7_51 (kX7_place _ _ _ _ _ _ hq10) rfl rfl (Nat.le_of_ble_eq_true rfl) dX7_divide_56 59 rfl ?_
        refine gv_iconst C 1 rfl dX7_divide_59 60 rfl ?_
        obtain ⟨g11, h⟩ := gm_gis h
        refine gv_iast C (gi_85 (c := 0) (by decide)) rfl g11 dX7_divide_60 61 rfl ?_
        refine gv_aload_n C rfl 0 rfl dX7_divide_61 62 rfl ?_
        refine gv_iload_n C rfl 1 rfl dX7_divide_62 63 rfl ?_
        refine gv_iconst C 3 rfl dX7_divide_63 64 rfl ?_
        obtain ⟨q12, hq12, h⟩ := gm_bd h
        refine gv_callVi C mc_yX7_ofTrain ⟨mi_yX7_ofTrain, me_yX7_ofTrain⟩ (by decide) mkX7_61 gi_7 ⟨_, rfl⟩ rfl rfl (kX7_ofTrain _ _ _ _ _ hq12) rfl rfl (Nat.le_of_ble_eq_true rfl) dX7_divide_64 67 rfl ?_
        obtain rfl := Option.some.inj h
        exact gv_iret C E rfl rfl dX7_divide_67
    · replace h := gm_iq c4 h
      refine gv_bipush C (-5) rfl dX7_divide_29 31 rfl ?_
      obtain rfl := Option.some.inj h
      exact gv_iret C E rfl rfl dX7_divide_31
set_option maxRecDepth 100000 in
set_option maxHeartbeats 4000000 in
theorem kX7_rear (w : gm_Wd) (a0 a1 : Int32) (G : Gm) (q : Int32) (h : fX7_rear a0 a1 = some q) : gm_C w yX7_rear cX7_rear 2 (some .int) 0 [.int a0, .int a1] G (some (.int q)) G := by
  refine gm_start (by decide) (Nat.le_of_ble_eq_true rfl) ?_
  intro x hw C E
  subst hw
  have C : gm_X x cX7_rear 2 RX7 (some .int) 0 := C
  unfold fX7_rear at h
  refine gm_lv (lv' := [(0, _), (1, _)]) rfl ?_
  refine gv_iload_n C rfl 0 rfl dX7_rear_0 1 rfl ?_
  refine gv_iload_n C rfl 1 rfl dX7_rear_1 2 rfl ?_
  refine gv_iadd C dX7_rear_2 3 rfl ?_
  obtain rfl := Option.some.inj h
  exact gv_iret C E rfl rfl dX7_rear_3
set_option maxRecDepth 100000 in
set_option maxHeartbeats 4000000 in
theorem kX7_codeOf (w : gm_Wd) (a0 : Int32) (G : Gm) (q : Int32) (h : fX7_codeOf a0 = some q) : gm_C w yX7_codeOf cX7_codeOf 1 (some .int) 0 [.int a0] G (some (.int q)) G := by
  refine gm_start (by decide) (Nat.le_of_ble_eq_true rfl) ?_
  intro x hw C E
  subst hw
  have C : gm_X x cX7_codeOf 1 RX7 (some .int) 0 := C
  unfold fX7_codeOf at h
  refine gm_lv (lv' := [(0, _)]) rfl ?_
  refine gv_iload_n C rfl 0 rfl dX7_codeOf_0 1 rfl ?_
  by_cases c1 : a0 = 1
  · replace h := gm_ip c1 h
    refine gv_tableIn C 1 c1 dX7_codeOf_1 (by decide) (by decide) (o := 31) (by decide) 32 (by decide) ?_
    refine gv_iconst C 4 rfl dX7_codeOf_32 33 rfl ?_
    obtain rfl := Option.some.inj h
    exact gv_iret C E rfl rfl dX7_codeOf_33
  · replace h := gm_iq c1 h
    by_cases c2 : a0 = 2
    · replace h := gm_ip c2 h
      refine gv_tableIn C 2 c2 dX7_codeOf_1 (by decide) (by decide) (o := 33) (by decide) 34 (by decide) ?_
      refine gv_bipush C 31 rfl dX7_codeOf_34 36 rfl ?_
      obtain rfl := Option.some.inj h
      exact gv_iret C E rfl rfl dX7_codeOf_36
    · replace h := gm_iq c2 h
      by_cases c3 : a0 = 3
      · replace h := gm_ip c3 h
        refine gv_tableIn C 3 c3 dX7_codeOf_1 (by decide) (by decide) (o := 36) (by decide) 37 (by decide) ?_
        refine gv_iconst C 5 rfl dX7_codeOf_37 38 rfl ?_
        obtain rfl := Option.some.inj h
        exact gv_iret C E rfl rfl dX7_codeOf_38
      · replace h := gm_iq c3 h
        by_cases c4 : a0 = 4
        · replace h := gm_ip c4 h
          refine gv_tableIn C 4 c4 dX7_codeOf_1 (by decide) (by decide) (o := 38) (by decide) 39 (by decide) ?_
          refine gv_bipush C 32 rfl dX7_codeOf_39 41 rfl ?_
          obtain rfl := Option.some.inj h
          exact gv_iret C E rfl rfl dX7_codeOf_41
        · replace h := gm_iq c4 h
          refine gv_tableD C dX7_codeOf_1 [1, 2, 3, 4] (by decide) (by decide) (List.forall_mem_cons.mpr ⟨lv_neT c1 rfl, (List.forall_mem_cons.mpr ⟨lv_neT c2 rfl, (List.forall_mem_cons.mpr ⟨lv_neT c3 rfl, (List.forall_mem_cons.mpr ⟨lv_neT c4 rfl, (fun _ h => absurd h List.not_mem_nil)⟩)⟩)⟩)⟩) 42 (by decide) ?_
          refine gv_bipush C 41 rfl dX7_codeOf_42 44 rfl ?_
          obtain rfl := Option.some.inj h
          exact gv_iret C E rfl rfl dX7_codeOf_44
set_option maxRecDepth 100000 in
set_option maxHeartbeats 4000000 in
theorem kX7_ring (w : gm_Wd) (a1 a2 a3 a4 : Int32) (G : Gm) (q : Int32 × Gm) (h : fX7_ring a1 a2 a3 a4 G = some q) : gm_C w yX7_ring cX7_ring 6 (some .int) 0 [.ref (gm_ad w 7 5 0), .int a1, .int a2, .int a3, .int a4] G (some (.int q.1)) q.2 := by
  refine gm_start (by decide) (Nat.le_of_ble_eq_true rfl) ?_
  intro x hw C E
  subst hw
  have C : gm_X x cX7_ring 6 RX7 (some .int) 0 := C
  unfold fX7_ring at h
  refine gm_lv (lv' := [(0, _), (1, _), (2, _), (3, _), (4, _)]) rfl ?_
  refine gv_bipush C 81 rfl dX7_ring_0 2 rfl ?_
  refine gv_iconst C 5 rfl dX7_ring_2 3 rfl ?_
  refine gv_aload_n C rfl 0 rfl dX7_ring_3 4 rfl ?_
  refine gf_7_0 C gi_7 lkX7_7 dX7_ring_4 7 rfl ?_
  refine gv_bipush C 80 rfl dX7_ring_7 9 rfl ?_
  refine gv_ialdK C 80 (by decide) (gi_85 (c := 0) (by decide)) rfl (by decide) dX7_ring_9 10 rfl ?_
  refine gv_bipush C 60 rfl dX7_ring_10 12 rfl ?_
  refine gv_irem C (by decide) dX7_ring_12 13 rfl ?_
  refine gv_imul C dX7_ring_13 14 rfl ?_
  refine gv_iadd C dX7_ring_14 15 rfl ?_
  refine gv_istore C [(5, _), (0, _), (1, _), (2, _), (3, _), (4, _)] (by decide) rfl dX7_ring_15 17 rfl ?_
  refine gv_aload_n C rfl 1 rfl dX7_ring_17 18 rfl ?_
  refine gf_7_0 C gi_7 lkX7_7 dX7_ring_18 21 rfl ?_
  refine gv_iload C 0 rfl dX7_ring_21 23 rfl ?_
  refine gv_aload_n C rfl 1 rfl dX7_ring_23 24 rfl ?_
  refine gf_7_0 C gi_7 lkX7_7 dX7_ring_24 27 rfl ?_
  refine gv_iconst C 0 rfl dX7_ring_27 28 rfl ?_
  refine gv_ialdK C 0 (by decide) (gi_85 (c := 0) (by decide)) rfl (by decide) dX7_ring_28 29 rfl ?_
  obtain ⟨g1, h⟩ := gm_gis h
  refine gv_iast C (gi_85 (c := 0) (by decide)) rfl g1 dX7_ring_29 30 rfl ?_
  refine gv_aload_n C rfl 1 rfl dX7_ring_30 31 rfl ?_
  refine gf_7_0 C gi_7 lkX7_7 dX7_ring_31 34 rfl ?_
  refine gv_iload C 0 rfl dX7_ring_34 36 rfl ?_
  refine gv_iconst C 1 rfl dX7_ring_36 37 rfl ?_
  refine gv_iadd C dX7_ring_37 38 rfl ?_
  refine gv_iload_n C rfl 2 rfl dX7_ring_38 39 rfl ?_
  obtain ⟨g2, h⟩ := gm_gis h
  refine gv_iast C (gi_85 (c := 0) (by decide)) rfl g2 dX7_ring_39 40 rfl ?_
  refine gv_aload_n C rfl 1 rfl dX7_ring_40 41 rfl ?_
  refine gf_7_0 C gi_7 lkX7_7 dX7_ring_41 44 rfl ?_
  refine gv_iload C 0 rfl dX7_ring_44 46 rfl ?_
  refine gv_iconst C 2 rfl dX7_ring_46 47 rfl ?_
  refine gv_iadd C dX7_ring_47 48 rfl ?_
  refine gv_iload_n C rfl 3 rfl dX7_ring_48 49 rfl ?_
  obtain ⟨g3, h⟩ := gm_gis h
  refine gv_iast C (gi_85 (c := 0) (by decide)) rfl g3 dX7_ring_49 50 rfl ?_
  refine gv_aload_n C rfl 1 rfl dX7_ring_50 51 rfl ?_
  refine gf_7_0 C gi_7 lkX7_7 dX7_ring_51 54 rfl ?_
  refine gv_iload C 0 rfl dX7_ring_54 56 rfl ?_
  refine gv_iconst C 3 rfl dX7_ring_56 57 rfl ?_
  refine gv_iadd C dX7_ring_57 58 rfl ?_
  refine gv_iload_n C rfl 4 rfl dX7_ring_58 59 rfl ?_
  obtain ⟨g4, h⟩ := gm_gis h
  refine gv_iast C (gi_85 (c := 0) (by decide)) rfl g4 dX7_ring_59 60 rfl ?_
  refine gv_aload_n C rfl 1 rfl dX7_ring_60 61 rfl ?_
  refine gf_7_0 C gi_7 lkX7_7 dX7_ring_61 64 rfl ?_
  refine gv_iload C 0 rfl dX7_ring_64 66 rfl ?_
  refine gv_iconst C 4 rfl dX7_ring_66 67 rfl ?_
  refine gv_iadd C dX7_ring_67 68 rfl ?_
  refine gv_iload C 5 rfl dX7_ring_68 70 rfl ?_
  obtain ⟨g5, h⟩ := gm_gis h
  refine gv_iast C (gi_85 (c := 0) (by decide)) rfl g5 dX7_ring_70 71 rfl ?_
  refine gv_aload_n C rfl 1 rfl dX7_ring_71 72 rfl ?_
  refine gf_7_0 C gi_7 lkX7_7 dX7_ring_72 75 rfl ?_
  refine gv_bipush C 80 rfl dX7_ring_75 77 rfl ?_
  refine gv_dup2 C rfl rfl dX7_ring_77 78 rfl ?_
  refine gv_ialdK C 80 (by decide) (gi_85 (c := 0) (by decide)) rfl (by decide) dX7_ring_78 79 rfl ?_
  refine gv_iconst C 1 rfl dX7_ring_79 80 rfl ?_
  refine gv_iadd C dX7_ring_80 81 rfl ?_
  refine gv_iastK C 80 (by decide) (gi_85 (c := 0) (by decide)) rfl (by decide) dX7_ring_81 82 rfl ?_
  refine gv_iload C 5 rfl dX7_ring_82 84 rfl ?_
  obtain rfl := Option.some.inj h
  exact gv_iret C E rfl rfl dX7_ring_84
set_option maxRecDepth 100000 in
set_option maxHeartbeats 4000000 in
theorem kX7_offer (w : gm_Wd) (a1 : Int32) (G : Gm) (q : Int32 × Gm) (h : fX7_offer a1 G = some q) : gm_C w yX7_offer cX7_offer 4 (some .int) 3 [.ref (gm_ad w 7 5 0), .int a1] G (some (.int q.1)) q.2 := by
  refine gm_start (by decide) (Nat.le_of_ble_eq_true rfl) ?_
  intro x hw C E
  subst hw
  have C : gm_X x cX7_offer 4 RX7 (some .int) 3 := C
  unfold fX7_offer at h
  refine gm_lv (lv' := [(0, _), (1, _)]) rfl ?_
  refine gv_aload_n C rfl 0 rfl dX7_offer_0 1 rfl ?_
  refine gv_iload_n C rfl 1 rfl dX7_offer_1 2 rfl ?_
  obtain ⟨q1, hq1, h⟩ := gm_bd h
  refine gv_callVi C mc_yX7_isTrain ⟨mi_yX7_isTrain, me_yX7_isTrain⟩ (by decide) mkX7_89 gi_7 ⟨_, rfl⟩ rfl rfl (kX7_isTrain _ _ _ _ hq1) rfl rfl (Nat.le_of_ble_eq_true rfl) dX7_offer_2 5 rfl ?_
  refine gv_if_ne C dX7_offer_5 10 (by decide) 8 rfl (fun c2 => ?_) (fun c2 => ?_)
  · replace h := gm_ip c2 h
    refine gv_iconst C (-1) rfl dX7_offer_8 9 rfl ?_
    obtain rfl := Option.some.inj h
    exact gv_iret C E rfl rfl dX7_offer_9
  · replace h := gm_iq c2 h
    refine gv_aload_n C rfl 0 rfl dX7_offer_10 11 rfl ?_
    refine gv_iload_n C rfl 1 rfl dX7_offer_11 12 rfl ?_
    refine gv_iconst C 2 rfl dX7_offer_12 13 rfl ?_
    obtain ⟨q3, hq3, h⟩ := gm_bd h
    refine gv_callVi C mc_yX7_ofTrain ⟨mi_yX7_ofTrain, me_yX7_ofTrain⟩ (by decide) mkX7_61 gi_7 ⟨_, rfl⟩ rfl rfl (kX7_ofTrain _ _ _ _ _ hq3) rfl rfl (Nat.le_of_ble_eq_true rfl) dX7_offer_13 16 rfl ?_
    refine gv_if_ne C dX7_offer_16 27 (by decide) 19 rfl (fun c4 => ?_) (fun c4 => ?_)
    · replace h := gm_ip c4 h
      refine gv_aload_n C rfl 0 rfl dX7_offer_19 20 rfl ?_
      refine gv_iload_n C rfl 1 rfl dX7_offer_20 21 rfl ?_
      obtain ⟨q5, hq5, h⟩ := gm_bd h
      refine gv_callVi C mc_yX7_nextSection ⟨mi_yX7_nextSection, me_yX7_nextSection⟩ (by decide) mkX7_92 gi_7 ⟨_, rfl⟩ rfl rfl (kX7_nextSection _ _ _ _ hq5) rfl rfl (Nat.le_of_ble_eq_true rfl) dX7_offer_21 24 rfl ?_
      refine gv_goto C dX7_offer_24 29 (by decide) ?_
      refine gv_istore_n C rfl [(2, _), (0, _), (1, _)] (by decide) rfl dX7_offer_29 30 rfl ?_
      refine gv_aload_n C rfl 1 rfl dX7_offer_30 31 rfl ?_
      refine gv_iload_n C rfl 2 rfl dX7_offer_31 32 rfl ?_
      refine gv_iconst C 1 rfl dX7_offer_32 33 rfl ?_
      obtain ⟨q6, hq6, h⟩ := gm_bd h
      refine gv_callVi C mc_yX7_ofTrain ⟨mi_yX7_ofTrain, me_yX7_ofTrain⟩ (by decide) mkX7_61 gi_7 ⟨_, rfl⟩ rfl rfl (kX7_ofTrain _ _ _ _ _ hq6) rfl rfl (Nat.le_of_ble_eq_true rfl) dX7_offer_33 36 rfl ?_
      refine gv_istore_n C rfl [(3, _), (2, _), (0, _), (1, _)] (by decide) rfl dX7_offer_36 37 rfl ?_
      refine gv_iload_n C rfl 1 rfl dX7_offer_37 38 rfl ?_
      refine gv_if_lt C dX7_offer_38 61 (by decide) 41 rfl (fun c7 => ?_) (fun c7 => ?_)
      · replace h := gm_ip c7 h
        refine gv_bipush C (-5) rfl dX7_offer_61 63 rfl ?_
        obtain rfl := Option.some.inj h
        exact gv_iret C E rfl rfl dX7_offer_63
      · replace h := gm_iq c7 h
        refine gv_aload_n C rfl 2 rfl dX7_offer_41 42 rfl ?_
        refine gv_iload_n C rfl 1 rfl dX7_offer_42 43 rfl ?_
        refine gv_iload_n C rfl 0 rfl dX7_offer_43 44 rfl ?_
        refine gv_iconst C 0 rfl dX7_offer_44 45 rfl ?_
        obtain ⟨q8, hq8, h⟩ := gm_bd h
        refine gv_callVi C mc_yX7_ofBlock ⟨mi_yX7_ofBlock, me_yX7_ofBlock⟩ (by decide) mkX7_55 gi_7 ⟨_, rfl⟩ rfl rfl (kX7_ofBlock _ _ _ _ _ _ hq8) rfl rfl (Nat.le_of_ble_eq_true rfl) dX7_offer_45 48 rfl ?_
        refine gv_if_ne C dX7_offer_48 61 (by decide) 51 rfl (fun c9 => ?_) (fun c9 => ?_)
        · replace h := gm_ip c9 h
          refine gv_aload_n C rfl 2 rfl dX7_offer_51 52 rfl ?_
          refine gv_iload_n C rfl 1 rfl dX7_offer_52 53 rfl ?_
          refine gv_iload_n C rfl 0 rfl dX7_offer_53 54 rfl ?_
          refine gv_iconst C 1 rfl dX7_offer_54 55 rfl ?_
          obtain ⟨q10, hq10, h⟩ := gm_bd h
          refine gv_callVi C mc_yX7_ofBlock ⟨mi_yX7_ofBlock, me_yX7_ofBlock⟩ (by decide) mkX7_55 gi_7 ⟨_, rfl⟩ rfl rfl (kX7_ofBlock _ _ _ _ _ _ hq10) rfl rfl (Nat.le_of_ble_eq_true rfl) dX7_offer_55 58 rfl ?_
          refine gv_if_lt C dX7_offer_58 64 (by decide) 61 rfl (fun c11 => ?_) (fun c11 => ?_)
          · replace h := gm_ip c11 h
            refine gv_aload_n C rfl 2 rfl dX7_offer_64 65 rfl ?_
            refine gf_7_0 C gi_7 lkX7_7 dX7_offer_65 68 rfl ?_
            refine gv_iload_n C rfl 1 rfl dX7_offer_68 69 rfl ?_
            refine gv_iload_n C rfl 0 rfl dX7_offer_69 70 rfl ?_
            refine gv_iconst C 1 rfl dX7_offer_70 71 rfl ?_
            obtain ⟨q12, hq12, h⟩ := gm_bd h
            refine gv_callSi C mc_yX7_place ms_yX7_place (by decide) mkX7_51 (kX7_place _ _ _ _ _ _ hq12) rfl rfl (Nat.le_of_ble_eq_true rfl) dX7_offer_71 74 rfl ?_
            refine gv_iload_n C rfl 3 rfl dX7_offer_74 75 rfl ?_
            obtain ⟨g13, h⟩ := gm_gis h
            refine gv_iast C (gi_85 (c := 0) (by decide)) rfl g13 dX7_offer_75 76 rfl ?_
            refine gv_aload_n C rfl 2 rfl dX7_offer_76 77 rfl ?_
            refine gv_iload_n C rfl 1 rfl dX7_offer_77 78 rfl ?_
            refine gv_iload_n C rfl 0 rfl dX7_offer_78 79 rfl ?_
            refine gv_iload_n C rfl 1 rfl dX7_offer_79 80 rfl ?_
            refine gv_iload_n C rfl 0 rfl dX7_offer_80 81 rfl ?_
            obtain ⟨q14, hq14, h⟩ := gm_bd h
            refine gv_callSi C mc_yX7_rear ms_yX7_rear (by decide) mkX7_107 (kX7_rear _ _ _ _ _ hq14) rfl rfl (Nat.le_of_ble_eq_true rfl) dX7_offer_81 84 rfl ?_
            refine gv_aload_n C rfl 2 rfl dX7_offer_84 85 rfl ?_
            refine gv_iload_n C rfl 3 rfl dX7_offer_85 86 rfl ?_
            refine gv_iconst C 0 rfl dX7_offer_86 87 rfl ?_
            obtain ⟨q15, hq15, h⟩ := gm_bd h
            refine gv_callVi C mc_yX7_ofTrain ⟨mi_yX7_ofTrain, me_yX7_ofTrain⟩ (by decide) mkX7_61 gi_7 ⟨_, rfl⟩ rfl rfl (kX7_ofTrain _ _ _ _ _ hq15) rfl rfl (Nat.le_of_ble_eq_true rfl) dX7_offer_87 90 rfl ?_
            obtain ⟨q16, hq16, h⟩ := gm_bd h
            refine gv_callSi C mc_yX7_codeOf ms_yX7_codeOf (by decide) mkX7_110 (kX7_codeOf _ _ _ _ hq16) rfl rfl (Nat.le_of_ble_eq_true rfl) dX7_offer_90 93 rfl ?_
            obtain ⟨q17, hq17, h⟩ := gm_bd h
            refine gv_callVi C mc_yX7_ring ⟨mi_yX7_ring, me_yX7_ring⟩ (by decide) mkX7_113 gi_7 ⟨_, rfl⟩ rfl rfl (kX7_ring _ _ _ _ _ _ _ hq17) rfl rfl (Nat.le_of_ble_eq_true rfl) dX7_offer_93 96 rfl ?_
            obtain rfl := Option.some.inj h
            exact gv_iret C E rfl rfl dX7_offer_96
          · replace h := gm_iq c11 h
            refine gv_bipush C (-5) rfl dX7_offer_61 63 rfl ?_
            obtain rfl := Option.some.inj h
            exact gv_iret C E rfl rfl dX7_offer_63
        · replace h := gm_iq c9 h
          refine gv_bipush C (-5) rfl dX7_offer_61 63 rfl ?_
          obtain rfl := Option.some.inj h
          exact gv_iret C E rfl rfl dX7_offer_63
    · replace h := gm_iq c4 h
      refine gv_bipush C (-6) rfl dX7_offer_27 29 rfl ?_
      refine gv_istore_n C rfl [(2, _), (0, _), (1, _)] (by decide) rfl dX7_offer_29 30 rfl ?_
      refine gv_aload_n C rfl 1 rfl dX7_offer_30 31 rfl ?_
      refine gv_iload_n C rfl 2 rfl dX7_offer_31 32 rfl ?_
      refine gv_iconst C 1 rfl dX7_offer_32 33 rfl ?_
      obtain ⟨q18, hq18, h⟩ := gm_bd h
      refine gv_callVi C mc_yX7_ofTrain ⟨mi_yX7_ofTrain, me_yX7_ofTrain⟩ (by decide) mkX7_61 gi_7 ⟨_, rfl⟩ rfl rfl (kX7_ofTrain _ _ _ _ _ hq18) rfl rfl (Nat.le_of_ble_eq_true rfl) dX7_offer_33 36 rfl ?_
      refine gv_istore_n C rfl [(3, _), (2, _), (0, _), (1, _)] (by decide) rfl dX7_offer_36 37 rfl ?_
      refine gv_iload_n C rfl 1 rfl dX7_offer_37 38 rfl ?_
      refine gv_if_lt C dX7_offer_38 61 (by decide) 41 rfl (fun c19 => ?_) (fun c19 => ?_)
      rotate_left
      · exact absurd (by decide) c19
      refine gv_bipush C (-5) rfl dX7_offer_61 63 rfl ?_
      obtain rfl := Option.some.inj h
      exact gv_iret C E rfl rfl dX7_offer_63
set_option maxRecDepth 100000 in
set_option maxHeartbeats 4000000 in
theorem kX7_tokensAt (w : gm_Wd) (a0 a1 : Int32) (G : Gm) (q : Int32) (h : fX7_tokensAt a0 a1 = some q) : gm_C w yX7_tokensAt cX7_tokensAt 2 (some .int) 0 [.int a0, .int a1] G (some (.int q)) G := by
  refine gm_start (by decide) (Nat.le_of_ble_eq_true rfl) ?_
  intro x hw C E
  subst hw
  have C : gm_X x cX7_tokensAt 2 RX7 (some .int) 0 := C
  unfold fX7_tokensAt at h
  refine gm_lv (lv' := [(0, _), (1, _)]) rfl ?_
  refine gv_bipush C 8 rfl dX7_tokensAt_0 2 rfl ?_
  refine gv_iconst C 2 rfl dX7_tokensAt_2 3 rfl ?_
  refine gv_iload_n C rfl 0 rfl dX7_tokensAt_3 4 rfl ?_
  refine gv_imul C dX7_tokensAt_4 5 rfl ?_
  refine gv_iadd C dX7_tokensAt_5 6 rfl ?_
  refine gv_iload_n C rfl 1 rfl dX7_tokensAt_6 7 rfl ?_
  refine gv_iload_n C rfl 0 rfl dX7_tokensAt_7 8 rfl ?_
  refine gv_isub C dX7_tokensAt_8 9 rfl ?_
  refine gv_iadd C dX7_tokensAt_9 10 rfl ?_
  obtain rfl := Option.some.inj h
  exact gv_iret C E rfl rfl dX7_tokensAt_10
set_option maxRecDepth 100000 in
set_option maxHeartbeats 4000000 in
theorem kX7_ahead (w : gm_Wd) (a0 a1 : Int32) (G : Gm) (q : Int32) (h : fX7_ahead a0 a1 = some q) : gm_C w yX7_ahead cX7_ahead 2 (some .int) 0 [.int a0, .int a1] G (some (.int q)) G := by
  refine gm_start (by decide) (Nat.le_of_ble_eq_true rfl) ?_
  intro x hw C E
  subst hw
  have C : gm_X x cX7_ahead 2 RX7 (some .int) 0 := C
  unfold fX7_ahead at h
  refine gm_lv (lv' := [(0, _), (1, _)]) rfl ?_
  refine gv_iload_n C rfl 0 rfl dX7_ahead_0 1 rfl ?_
  refine gv_iconst C 1 rfl dX7_ahead_1 2 rfl ?_
  refine gv_iadd C dX7_ahead_2 3 rfl ?_
  refine gv_iload_n C rfl 1 rfl dX7_ahead_3 4 rfl ?_
  refine gv_isub C dX7_ahead_4 5 rfl ?_
  obtain rfl := Option.some.inj h
  exact gv_iret C E rfl rfl dX7_ahead_5
set_option maxRecDepth 100000 in
set_option maxHeartbeats 4000000 in
theorem kX7_canAccept (w : gm_Wd) (a1 a2 : Int32) (G : Gm) (q : Int32) (h : fX7_canAccept a1 a2 G = some q) : gm_C w yX7_canAccept cX7_canAccept 4 (some .boolean) 3 [.ref (gm_ad w 7 5 0), .int a1, .int a2] G (some (.int q)) G := by
  refine gm_start (by decide) (Nat.le_of_ble_eq_true rfl) ?_
  intro x hw C E
  subst hw
  have C : gm_X x cX7_canAccept 4 RX7 (some .boolean) 3 := C
  unfold fX7_canAccept at h
  refine gm_lv (lv' := [(0, _), (1, _), (2, _)]) rfl ?_
  refine gv_aload_n C rfl 0 rfl dX7_canAccept_0 1 rfl ?_
  refine gv_iload_n C rfl 1 rfl dX7_canAccept_1 2 rfl ?_
  obtain ⟨q1, hq1, h⟩ := gm_bd h
  refine gv_callVi C mc_yX7_isSingle ⟨mi_yX7_isSingle, me_yX7_isSingle⟩ (by decide) mkX7_58 gi_7 ⟨_, rfl⟩ rfl rfl (kX7_isSingle _ _ _ _ hq1) rfl rfl (Nat.le_of_ble_eq_true rfl) dX7_canAccept_2 5 rfl ?_
  refine gv_if_eq C dX7_canAccept_5 45 (by decide) 8 rfl (fun c2 => ?_) (fun c2 => ?_)
  · replace h := gm_ip c2 h
    refine gv_iconst C 1 rfl dX7_canAccept_45 46 rfl ?_
    refine gv_goto C dX7_canAccept_46 50 (by decide) ?_
    refine gv_istore_n C rfl [(3, _), (0, _), (1, _), (2, _)] (by decide) rfl dX7_canAccept_50 51 rfl ?_
    refine gv_aload_n C rfl 1 rfl dX7_canAccept_51 52 rfl ?_
    refine gv_iload_n C rfl 2 rfl dX7_canAccept_52 53 rfl ?_
    refine gv_iload_n C rfl 3 rfl dX7_canAccept_53 54 rfl ?_
    obtain ⟨q3, hq3, h⟩ := gm_bd h
    refine gv_callSi C mc_yX7_ahead ms_yX7_ahead (by decide) mkX7_120 (kX7_ahead _ _ _ _ _ hq3) rfl rfl (Nat.le_of_ble_eq_true rfl) dX7_canAccept_54 57 rfl ?_
    refine gv_iload_n C rfl 3 rfl dX7_canAccept_57 58 rfl ?_
    obtain ⟨q4, hq4, h⟩ := gm_bd h
    refine gv_callVi C mc_yX7_isFree ⟨mi_yX7_isFree, me_yX7_isFree⟩ (by decide) mkX7_83 gi_7 ⟨_, rfl⟩ rfl rfl (kX7_isFree _ _ _ _ _ hq4) rfl rfl (Nat.le_of_ble_eq_true rfl) dX7_canAccept_58 61 rfl ?_
    refine gv_if_eq C dX7_canAccept_61 72 (by decide) 64 rfl (fun c5 => ?_) (fun c5 => ?_)
    · replace h := gm_ip c5 h
      refine gv_iconst C 0 rfl dX7_canAccept_72 73 rfl ?_
      obtain rfl := Option.some.inj h
      exact gv_zret C E (Or.inl rfl) rfl rfl dX7_canAccept_73
    · replace h := gm_iq c5 h
      refine gv_iload_n C rfl 0 rfl dX7_canAccept_64 65 rfl ?_
      refine gv_if_eq C dX7_canAccept_65 72 (by decide) 68 rfl (fun c6 => ?_) (fun c6 => ?_)
      · exact absurd c6 (by decide)
      refine gv_iconst C 1 rfl dX7_canAccept_68 69 rfl ?_
      refine gv_goto C dX7_canAccept_69 73 (by decide) ?_
      obtain rfl := Option.some.inj h
      exact gv_zret C E (Or.inr rfl) rfl rfl dX7_canAccept_73
  · replace h := gm_iq c2 h
    refine gv_aload_n C rfl 0 rfl dX7_canAccept_8 9 rfl ?_
    refine gv_iload_n C rfl 1 rfl dX7_canAccept_9 10 rfl ?_
    refine gv_iconst C 1 rfl dX7_canAccept_10 11 rfl ?_
    refine gv_iload_n C rfl 2 rfl dX7_canAccept_11 12 rfl ?_
    refine gv_isub C dX7_canAccept_12 13 rfl ?_
    refine gv_iconst C 0 rfl dX7_canAccept_13 14 rfl ?_
    obtain ⟨q7, hq7, h⟩ := gm_bd h
    refine gv_callVi C mc_yX7_ofBlock ⟨mi_yX7_ofBlock, me_yX7_ofBlock⟩ (by decide) mkX7_55 gi_7 ⟨_, rfl⟩ rfl rfl (kX7_ofBlock _ _ _ _ _ _ hq7) rfl rfl (Nat.le_of_ble_eq_true rfl) dX7_canAccept_14 17 rfl ?_
    refine gv_if_ne C dX7_canAccept_17 49 (by decide) 20 rfl (fun c8 => ?_) (fun c8 => ?_)
    · replace h := gm_ip c8 h
      refine gv_aload_n C rfl 0 rfl dX7_canAccept_20 21 rfl ?_
      refine gv_iload_n C rfl 1 rfl dX7_canAccept_21 22 rfl ?_
      obtain ⟨q9, hq9, h⟩ := gm_bd h
      refine gv_callVi C mc_yX7_isTokenOut ⟨mi_yX7_isTokenOut, me_yX7_isTokenOut⟩ (by decide) mkX7_68 gi_7 ⟨_, rfl⟩ rfl rfl (kX7_isTokenOut _ _ _ _ hq9) rfl rfl (Nat.le_of_ble_eq_true rfl) dX7_canAccept_22 25 rfl ?_
      refine gv_if_ne C dX7_canAccept_25 49 (by decide) 28 rfl (fun c10 => ?_) (fun c10 => ?_)
      · replace h := gm_ip c10 h
        refine gv_aload_n C rfl 0 rfl dX7_canAccept_28 29 rfl ?_
        refine gf_7_0 C gi_7 lkX7_7 dX7_canAccept_29 32 rfl ?_
        refine gv_iload_n C rfl 1 rfl dX7_canAccept_32 33 rfl ?_
        refine gv_iload_n C rfl 1 rfl dX7_canAccept_33 34 rfl ?_
        refine gv_iload_n C rfl 2 rfl dX7_canAccept_34 35 rfl ?_
        obtain ⟨q11, hq11, h⟩ := gm_bd h
        refine gv_callSi C mc_yX7_rear ms_yX7_rear (by decide) mkX7_107 (kX7_rear _ _ _ _ _ hq11) rfl rfl (Nat.le_of_ble_eq_true rfl) dX7_canAccept_35 38 rfl ?_
        obtain ⟨q12, hq12, h⟩ := gm_bd h
        refine gv_callSi C mc_yX7_tokensAt ms_yX7_tokensAt (by decide) mkX7_117 (kX7_tokensAt _ _ _ _ _ hq12) rfl rfl (Nat.le_of_ble_eq_true rfl) dX7_canAccept_38 41 rfl ?_
        obtain ⟨g13, h⟩ := gm_gis h
        refine gv_iald C (gi_85 (c := 0) (by decide)) rfl g13 dX7_canAccept_41 42 rfl ?_
        refine gv_if_le C dX7_canAccept_42 49 (by decide) 45 rfl (fun c14 => ?_) (fun c14 => ?_)
        · replace h := gm_ip c14 h
          refine gv_iconst C 0 rfl dX7_canAccept_49 50 rfl ?_
          refine gv_istore_n C rfl [(3, _), (0, _), (1, _), (2, _)] (by decide) rfl dX7_canAccept_50 51 rfl ?_
          refine gv_aload_n C rfl 1 rfl dX7_canAccept_51 52 rfl ?_
          refine gv_iload_n C rfl 2 rfl dX7_canAccept_52 53 rfl ?_
          refine gv_iload_n C rfl 3 rfl dX7_canAccept_53 54 rfl ?_
          obtain ⟨q15, hq15, h⟩ := gm_bd h
          refine gv_callSi C mc_yX7_ahead ms_yX7_ahead (by decide) mkX7_120 (kX7_ahead _ _ _ _ _ hq15) rfl rfl (Nat.le_of_ble_eq_true rfl) dX7_canAccept_54 57 rfl ?_
          refine gv_iload_n C rfl 3 rfl dX7_canAccept_57 58 rfl ?_
          obtain ⟨q16, hq16, h⟩ := gm_bd h
          refine gv_callVi C mc_yX7_isFree ⟨mi_yX7_isFree, me_yX7_isFree⟩ (by decide) mkX7_83 gi_7 ⟨_, rfl⟩ rfl rfl (kX7_isFree _ _ _ _ _ hq16) rfl rfl (Nat.le_of_ble_eq_true rfl) dX7_canAccept_58 61 rfl ?_
          refine gv_if_eq C dX7_canAccept_61 72 (by decide) 64 rfl (fun c17 => ?_) (fun c17 => ?_)
          · replace h := gm_ip c17 h
            refine gv_iconst C 0 rfl dX7_canAccept_72 73 rfl ?_
            obtain rfl := Option.some.inj h
            exact gv_zret C E (Or.inl rfl) rfl rfl dX7_canAccept_73
          · replace h := gm_iq c17 h
            refine gv_iload_n C rfl 0 rfl dX7_canAccept_64 65 rfl ?_
            refine gv_if_eq C dX7_canAccept_65 72 (by decide) 68 rfl (fun c18 => ?_) (fun c18 => ?_)
            rotate_left
            · exact absurd (by decide) c18
            refine gv_iconst C 0 rfl dX7_canAccept_72 73 rfl ?_
            obtain rfl := Option.some.inj h
            exact gv_zret C E (Or.inl rfl) rfl rfl dX7_canAccept_73
        · replace h := gm_iq c14 h
          refine gv_iconst C 1 rfl dX7_canAccept_45 46 rfl ?_
          refine gv_goto C dX7_canAccept_46 50 (by decide) ?_
          refine gv_istore_n C rfl [(3, _), (0, _), (1, _), (2, _)] (by decide) rfl dX7_canAccept_50 51 rfl ?_
          refine gv_aload_n C rfl 1 rfl dX7_canAccept_51 52 rfl ?_
          refine gv_iload_n C rfl 2 rfl dX7_canAccept_52 53 rfl ?_
          refine gv_iload_n C rfl 3 rfl dX7_canAccept_53 54 rfl ?_
          obtain ⟨q19, hq19, h⟩ := gm_bd h
          refine gv_callSi C mc_yX7_ahead ms_yX7_ahead (by decide) mkX7_120 (kX7_ahead _ _ _ _ _ hq19) rfl rfl (Nat.le_of_ble_eq_true rfl) dX7_canAccept_54 57 rfl ?_
          refine gv_iload_n C rfl 3 rfl dX7_canAccept_57 58 rfl ?_
          obtain ⟨q20, hq20, h⟩ := gm_bd h
          refine gv_callVi C mc_yX7_isFree ⟨mi_yX7_isFree, me_yX7_isFree⟩ (by decide) mkX7_83 gi_7 ⟨_, rfl⟩ rfl rfl (kX7_isFree _ _ _ _ _ hq20) rfl rfl (Nat.le_of_ble_eq_true rfl) dX7_canAccept_58 61 rfl ?_
          refine gv_if_eq C dX7_canAccept_61 72 (by decide) 64 rfl (fun c21 => ?_) (fun c21 => ?_)
          · replace h := gm_ip c21 h
            refine gv_iconst C 0 rfl dX7_canAccept_72 73 rfl ?_
            obtain rfl := Option.some.inj h
            exact gv_zret C E (Or.inl rfl) rfl rfl dX7_canAccept_73
          · replace h := gm_iq c21 h
            refine gv_iload_n C rfl 0 rfl dX7_canAccept_64 65 rfl ?_
            refine gv_if_eq C dX7_canAccept_65 72 (by decide) 68 rfl (fun c22 => ?_) (fun c22 => ?_)
            · exact absurd c22 (by decide)
            refine gv_iconst C 1 rfl dX7_canAccept_68 69 rfl ?_
            refine gv_goto C dX7_canAccept_69 73 (by decide) ?_
            obtain rfl := Option.some.inj h
            exact gv_zret C E (Or.inr rfl) rfl rfl dX7_canAccept_73
      · replace h := gm_iq c10 h
        refine gv_iconst C 0 rfl dX7_canAccept_49 50 rfl ?_
        refine gv_istore_n C rfl [(3, _), (0, _), (1, _), (2, _)] (by decide) rfl dX7_canAccept_50 51 rfl ?_
        refine gv_aload_n C rfl 1 rfl dX7_canAccept_51 52 rfl ?_
        refine gv_iload_n C rfl 2 rfl dX7_canAccept_52 53 rfl ?_
        refine gv_iload_n C rfl 3 rfl dX7_canAccept_53 54 rfl ?_
        obtain ⟨q23, hq23, h⟩ := gm_bd h
        refine gv_callSi C mc_yX7_ahead ms_yX7_ahead (by decide) mkX7_120 (kX7_ahead _ _ _ _ _ hq23) rfl rfl (Nat.le_of_ble_eq_true rfl) dX7_canAccept_54 57 rfl ?_
        refine gv_iload_n C rfl 3 rfl dX7_canAccept_57 58 rfl ?_
        obtain ⟨q24, hq24, h⟩ := gm_bd h
        refine gv_callVi C mc_yX7_isFree ⟨mi_yX7_isFree, me_yX7_isFree⟩ (by decide) mkX7_83 gi_7 ⟨_, rfl⟩ rfl rfl (kX7_isFree _ _ _ _ _ hq24) rfl rfl (Nat.le_of_ble_eq_true rfl) dX7_canAccept_58 61 rfl ?_
        refine gv_if_eq C dX7_canAccept_61 72 (by decide) 64 rfl (fun c25 => ?_) (fun c25 => ?_)
        · replace h := gm_ip c25 h
          refine gv_iconst C 0 rfl dX7_canAccept_72 73 rfl ?_
          obtain rfl := Option.some.inj h
          exact gv_zret C E (Or.inl rfl) rfl rfl dX7_canAccept_73
        · replace h := gm_iq c25 h
          refine gv_iload_n C rfl 0 rfl dX7_canAccept_64 65 rfl ?_
          refine gv_if_eq C dX7_canAccept_65 72 (by decide) 68 rfl (fun c26 => ?_) (fun c26 => ?_)
          rotate_left
          · exact absurd (by decide) c26
          refine gv_iconst C 0 rfl dX7_canAccept_72 73 rfl ?_
          obtain rfl := Option.some.inj h
          exact gv_zret C E (Or.inl rfl) rfl rfl dX7_canAccept_73
    · replace h := gm_iq c8 h
      refine gv_iconst C 0 rfl dX7_canAccept_49 50 rfl ?_
      refine gv_istore_n C rfl [(3, _), (0, _), (1, _), (2, _)] (by decide) rfl dX7_canAccept_50 51 rfl ?_
      refine gv_aload_n C rfl 1 rfl dX7_canAccept_51 52 rfl ?_
      refine gv_iload_n C rfl 2 rfl dX7_canAccept_52 53 rfl ?_
      refine gv_iload_n C rfl 3 rfl dX7_canAccept_53 54 rfl ?_
      obtain ⟨q27, hq27, h⟩ := gm_bd h
      refine gv_callSi C mc_yX7_ahead ms_yX7_ahead (by decide) mkX7_120 (kX7_ahead _ _ _ _ _ hq27) rfl rfl (Nat.le_of_ble_eq_true rfl) dX7_canAccept_54 57 rfl ?_
      refine gv_iload_n C rfl 3 rfl dX7_canAccept_57 58 rfl ?_
      obtain ⟨q28, hq28, h⟩ := gm_bd h
      refine gv_callVi C mc_yX7_isFree ⟨mi_yX7_isFree, me_yX7_isFree⟩ (by decide) mkX7_83 gi_7 ⟨_, rfl⟩ rfl rfl (kX7_isFree _ _ _ _ _ hq28) rfl rfl (Nat.le_of_ble_eq_true rfl) dX7_canAccept_58 61 rfl ?_
      refine gv_if_eq C dX7_canAccept_61 72 (by decide) 64 rfl (fun c29 => ?_) (fun c29 => ?_)
      · replace h := gm_ip c29 h
        refine gv_iconst C 0 rfl dX7_canAccept_72 73 rfl ?_
        obtain rfl := Option.some.inj h
        exact gv_zret C E (Or.inl rfl) rfl rfl dX7_canAccept_73
      · replace h := gm_iq c29 h
        refine gv_iload_n C rfl 0 rfl dX7_canAccept_64 65 rfl ?_
        refine gv_if_eq C dX7_canAccept_65 72 (by decide) 68 rfl (fun c30 => ?_) (fun c30 => ?_)
        rotate_left
        · exact absurd (by decide) c30
        refine gv_iconst C 0 rfl dX7_canAccept_72 73 rfl ?_
        obtain rfl := Option.some.inj h
        exact gv_zret C E (Or.inl rfl) rfl rfl dX7_canAccept_73
