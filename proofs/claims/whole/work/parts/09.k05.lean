set_option maxRecDepth 100000 in
set_option maxHeartbeats 4000000 in
theorem kX6_moveTokens (w : gm_Wd) (a1 a2 : Int32) (G : Gm) (q : Int32 × Gm) (h : fX6_moveTokens a1 a2 G = some q) : gm_C w yX6_moveTokens cX6_moveTokens 4 (some .int) 1 [.ref (gm_ad w 6 4 0), .int a1, .int a2] G (some (.int q.1)) q.2 := by
  refine gm_start (by decide) (Nat.le_of_ble_eq_true rfl) ?_
  intro x hw C E
  subst hw
  have C : gm_X x cX6_moveTokens 4 RX6 (some .int) 1 := C
  unfold fX6_moveTokens at h
  refine gm_lv (lv' := [(0, _), (1, _), (2, _)]) rfl ?_
  refine gv_aload_n C rfl 0 rfl dX6_moveTokens_0 1 rfl ?_
  refine gf_6_0 C gi_6 lkX6_12 dX6_moveTokens_1 4 rfl ?_
  refine gv_iload_n C rfl 1 rfl dX6_moveTokens_4 5 rfl ?_
  obtain ⟨q1, hq1, h⟩ := gm_bd h
  rcases gm_oc h with ⟨eq1, h⟩ | ⟨t2, eq1, h⟩
  · replace hq1 := hq1.trans (congrArg some eq1)
    refine gv_callVn C mc_yX1_sectionAt ⟨mi_yX1_sectionAt, me_yX1_sectionAt⟩ (by decide) mkX6_42 (gi_1 (by decide)) ⟨_, rfl⟩ rfl rfl (kX1_sectionAt _ _ (by decide) _ _ _ hq1) rfl rfl (Nat.le_of_ble_eq_true rfl) dX6_moveTokens_5 8 rfl ?_
    refine gv_astore_nN C rfl [(3, _), (0, _), (1, _), (2, _)] (by decide) rfl dX6_moveTokens_8 9 rfl ?_
    refine gv_aload_nN C rfl 0 rfl dX6_moveTokens_9 10 rfl ?_
    refine gv_ifnonnullN C dX6_moveTokens_10 13 rfl ?_
    refine gv_iconst C (-1) rfl dX6_moveTokens_13 14 rfl ?_
    obtain rfl := Option.some.inj h
    exact gv_iret C E rfl rfl dX6_moveTokens_14
  · replace hq1 := hq1.trans (congrArg some eq1)
    refine gv_callVa C mc_yX1_sectionAt ⟨mi_yX1_sectionAt, me_yX1_sectionAt⟩ (by decide) mkX6_42 (gi_1 (by decide)) ⟨_, rfl⟩ rfl rfl (kX1_sectionAt _ _ (by decide) _ _ _ hq1) rfl rfl (Nat.le_of_ble_eq_true rfl) dX6_moveTokens_5 8 rfl ?_
    refine gv_astore_n C rfl [(3, _), (0, _), (1, _), (2, _)] (by decide) rfl dX6_moveTokens_8 9 rfl ?_
    refine gv_aload_n C rfl 0 rfl dX6_moveTokens_9 10 rfl ?_
    refine gv_ifnonnull C dX6_moveTokens_10 15 (by decide) ?_
    refine gv_iload_n C rfl 3 rfl dX6_moveTokens_15 16 rfl ?_
    refine gv_bipush C (-10) rfl dX6_moveTokens_16 18 rfl ?_
    refine gv_icmp_lt C dX6_moveTokens_18 27 (by decide) 21 rfl (fun c3 => ?_) (fun c3 => ?_)
    · replace h := gm_ip c3 h
      refine gv_bipush C (-2) rfl dX6_moveTokens_27 29 rfl ?_
      obtain rfl := Option.some.inj h
      exact gv_iret C E rfl rfl dX6_moveTokens_29
    · replace h := gm_iq c3 h
      refine gv_iload_n C rfl 3 rfl dX6_moveTokens_21 22 rfl ?_
      refine gv_bipush C 10 rfl dX6_moveTokens_22 24 rfl ?_
      refine gv_icmp_le C dX6_moveTokens_24 30 (by decide) 27 rfl (fun c4 => ?_) (fun c4 => ?_)
      · replace h := gm_ip c4 h
        refine gv_aload_n C rfl 0 rfl dX6_moveTokens_30 31 rfl ?_
        refine gv_iload_n C rfl 3 rfl dX6_moveTokens_31 32 rfl ?_
        obtain ⟨q5, hq5, h⟩ := gm_bd h
        refine gv_callVi C mc_yX4_moveUp ⟨mi_yX4_moveUp, me_yX4_moveUp⟩ (by decide) mkX6_62 (gi_4 (by decide) (bX1_sectionAt _ (by decide) _ _ _ hq1)) ⟨_, rfl⟩ rfl rfl (kX4_moveUp _ _ _ (by decide) (bX1_sectionAt _ (by decide) _ _ _ hq1) _ _ _ hq5) rfl rfl (Nat.le_of_ble_eq_true rfl) dX6_moveTokens_32 35 rfl ?_
        obtain rfl := Option.some.inj h
        exact gv_iret C E rfl rfl dX6_moveTokens_35
      · replace h := gm_iq c4 h
        refine gv_bipush C (-2) rfl dX6_moveTokens_27 29 rfl ?_
        obtain rfl := Option.some.inj h
        exact gv_iret C E rfl rfl dX6_moveTokens_29
set_option maxRecDepth 100000 in
set_option maxHeartbeats 4000000 in
theorem kX6_section (w : gm_Wd) (a1 a2 : Int32) (G : Gm) (q : Int32) (h : fX6_section a1 a2 G = some q) : gm_C w yX6_section cX6_section 4 (some .int) 1 [.ref (gm_ad w 6 4 0), .int a1, .int a2] G (some (.int q)) G := by
  refine gm_start (by decide) (Nat.le_of_ble_eq_true rfl) ?_
  intro x hw C E
  subst hw
  have C : gm_X x cX6_section 4 RX6 (some .int) 1 := C
  unfold fX6_section at h
  refine gm_lv (lv' := [(0, _), (1, _), (2, _)]) rfl ?_
  refine gv_aload_n C rfl 0 rfl dX6_section_0 1 rfl ?_
  refine gf_6_0 C gi_6 lkX6_12 dX6_section_1 4 rfl ?_
  refine gv_iload_n C rfl 1 rfl dX6_section_4 5 rfl ?_
  obtain ⟨q1, hq1, h⟩ := gm_bd h
  rcases gm_oc h with ⟨eq1, h⟩ | ⟨t2, eq1, h⟩
  · replace hq1 := hq1.trans (congrArg some eq1)
    refine gv_callVn C mc_yX1_sectionAt ⟨mi_yX1_sectionAt, me_yX1_sectionAt⟩ (by decide) mkX6_42 (gi_1 (by decide)) ⟨_, rfl⟩ rfl rfl (kX1_sectionAt _ _ (by decide) _ _ _ hq1) rfl rfl (Nat.le_of_ble_eq_true rfl) dX6_section_5 8 rfl ?_
    refine gv_astore_nN C rfl [(3, _), (0, _), (1, _), (2, _)] (by decide) rfl dX6_section_8 9 rfl ?_
    refine gv_aload_nN C rfl 0 rfl dX6_section_9 10 rfl ?_
    refine gv_ifnonnullN C dX6_section_10 13 rfl ?_
    refine gv_iconst C (-1) rfl dX6_section_13 14 rfl ?_
    refine gv_goto C dX6_section_14 22 (by decide) ?_
    obtain rfl := Option.some.inj h
    exact gv_iret C E rfl rfl dX6_section_22
  · replace hq1 := hq1.trans (congrArg some eq1)
    refine gv_callVa C mc_yX1_sectionAt ⟨mi_yX1_sectionAt, me_yX1_sectionAt⟩ (by decide) mkX6_42 (gi_1 (by decide)) ⟨_, rfl⟩ rfl rfl (kX1_sectionAt _ _ (by decide) _ _ _ hq1) rfl rfl (Nat.le_of_ble_eq_true rfl) dX6_section_5 8 rfl ?_
    refine gv_astore_n C rfl [(3, _), (0, _), (1, _), (2, _)] (by decide) rfl dX6_section_8 9 rfl ?_
    refine gv_aload_n C rfl 0 rfl dX6_section_9 10 rfl ?_
    refine gv_ifnonnull C dX6_section_10 17 (by decide) ?_
    refine gv_aload_n C rfl 0 rfl dX6_section_17 18 rfl ?_
    refine gv_iload_n C rfl 3 rfl dX6_section_18 19 rfl ?_
    obtain ⟨q3, hq3, h⟩ := gm_bd h
    refine gv_callVi C mc_yX4_property ⟨mi_yX4_property, me_yX4_property⟩ (by decide) mkX6_66 (gi_4 (by decide) (bX1_sectionAt _ (by decide) _ _ _ hq1)) ⟨_, rfl⟩ rfl rfl (kX4_property _ _ _ (by decide) (bX1_sectionAt _ (by decide) _ _ _ hq1) _ _ _ hq3) rfl rfl (Nat.le_of_ble_eq_true rfl) dX6_section_19 22 rfl ?_
    obtain rfl := Option.some.inj h
    exact gv_iret C E rfl rfl dX6_section_22
set_option maxRecDepth 100000 in
set_option maxHeartbeats 4000000 in
theorem kX6_block (w : gm_Wd) (a1 a2 a3 : Int32) (G : Gm) (q : Int32) (h : fX6_block a1 a2 a3 G = some q) : gm_C w yX6_block cX6_block 5 (some .int) 1 [.ref (gm_ad w 6 4 0), .int a1, .int a2, .int a3] G (some (.int q)) G := by
  refine gm_start (by decide) (Nat.le_of_ble_eq_true rfl) ?_
  intro x hw C E
  subst hw
  have C : gm_X x cX6_block 5 RX6 (some .int) 1 := C
  unfold fX6_block at h
  refine gm_lv (lv' := [(0, _), (1, _), (2, _), (3, _)]) rfl ?_
  refine gv_aload_n C rfl 0 rfl dX6_block_0 1 rfl ?_
  refine gf_6_0 C gi_6 lkX6_12 dX6_block_1 4 rfl ?_
  refine gv_iload_n C rfl 1 rfl dX6_block_4 5 rfl ?_
  refine gv_iload_n C rfl 2 rfl dX6_block_5 6 rfl ?_
  obtain ⟨q1, hq1, h⟩ := gm_bd h
  rcases gm_oc h with ⟨eq1, h⟩ | ⟨t2, eq1, h⟩
  · replace hq1 := hq1.trans (congrArg some eq1)
    refine gv_callVn C mc_yX1_blockAt ⟨mi_yX1_blockAt, me_yX1_blockAt⟩ (by decide) mkX6_69 (gi_1 (by decide)) ⟨_, rfl⟩ rfl rfl (kX1_blockAt _ _ (by decide) _ _ _ _ hq1) rfl rfl (Nat.le_of_ble_eq_true rfl) dX6_block_6 9 rfl ?_
    refine gv_astoreN C [(4, _), (0, _), (1, _), (2, _), (3, _)] (by decide) rfl dX6_block_9 11 rfl ?_
    refine gv_aloadN C 0 rfl dX6_block_11 13 rfl ?_
    refine gv_ifnonnullN C dX6_block_13 16 rfl ?_
    refine gv_iconst C (-1) rfl dX6_block_16 17 rfl ?_
    refine gv_goto C dX6_block_17 26 (by decide) ?_
    obtain rfl := Option.some.inj h
    exact gv_iret C E rfl rfl dX6_block_26
  · replace hq1 := hq1.trans (congrArg some eq1)
    refine gv_callVa C mc_yX1_blockAt ⟨mi_yX1_blockAt, me_yX1_blockAt⟩ (by decide) mkX6_69 (gi_1 (by decide)) ⟨_, rfl⟩ rfl rfl (kX1_blockAt _ _ (by decide) _ _ _ _ hq1) rfl rfl (Nat.le_of_ble_eq_true rfl) dX6_block_6 9 rfl ?_
    refine gv_astore C [(4, _), (0, _), (1, _), (2, _), (3, _)] (by decide) rfl dX6_block_9 11 rfl ?_
    refine gv_aload C 0 rfl dX6_block_11 13 rfl ?_
    refine gv_ifnonnull C dX6_block_13 20 (by decide) ?_
    refine gv_aload C 0 rfl dX6_block_20 22 rfl ?_
    refine gv_iload_n C rfl 4 rfl dX6_block_22 23 rfl ?_
    obtain ⟨q3, hq3, h⟩ := gm_bd h
    refine gv_callVi C mc_yX0_property ⟨mi_yX0_property, me_yX0_property⟩ (by decide) mkX6_73 (gi_0 (by decide) (bX1_blockAt _ (by decide) _ _ _ _ hq1)) ⟨_, rfl⟩ rfl rfl (kX0_property _ _ _ (by decide) (bX1_blockAt _ (by decide) _ _ _ _ hq1) _ _ _ hq3) rfl rfl (Nat.le_of_ble_eq_true rfl) dX6_block_23 26 rfl ?_
    obtain rfl := Option.some.inj h
    exact gv_iret C E rfl rfl dX6_block_26
set_option maxRecDepth 100000 in
set_option maxHeartbeats 4000000 in
theorem kX6_isKind (w : gm_Wd) (a0 : Int32) (G : Gm) (q : Int32) (h : fX6_isKind a0 = some q) : gm_C w yX6_isKind cX6_isKind 1 (some .boolean) 0 [.int a0] G (some (.int q)) G := by
  refine gm_start (by decide) (Nat.le_of_ble_eq_true rfl) ?_
  intro x hw C E
  subst hw
  have C : gm_X x cX6_isKind 1 RX6 (some .boolean) 0 := C
  unfold fX6_isKind at h
  refine gm_lv (lv' := [(0, _)]) rfl ?_
  refine gv_iload_n C rfl 0 rfl dX6_isKind_0 1 rfl ?_
  refine gv_iconst C 1 rfl dX6_isKind_1 2 rfl ?_
  refine gv_icmp_lt C dX6_isKind_2 14 (by decide) 5 rfl (fun c1 => ?_) (fun c1 => ?_)
  · replace h := gm_ip c1 h
    refine gv_iconst C 0 rfl dX6_isKind_14 15 rfl ?_
    obtain rfl := Option.some.inj h
    exact gv_zret C E (Or.inl rfl) rfl rfl dX6_isKind_15
  · replace h := gm_iq c1 h
    refine gv_iload_n C rfl 0 rfl dX6_isKind_5 6 rfl ?_
    refine gv_iconst C 5 rfl dX6_isKind_6 7 rfl ?_
    refine gv_icmp_gt C dX6_isKind_7 14 (by decide) 10 rfl (fun c2 => ?_) (fun c2 => ?_)
    · replace h := gm_ip c2 h
      refine gv_iconst C 0 rfl dX6_isKind_14 15 rfl ?_
      obtain rfl := Option.some.inj h
      exact gv_zret C E (Or.inl rfl) rfl rfl dX6_isKind_15
    · replace h := gm_iq c2 h
      refine gv_iconst C 1 rfl dX6_isKind_10 11 rfl ?_
      refine gv_goto C dX6_isKind_11 15 (by decide) ?_
      obtain rfl := Option.some.inj h
      exact gv_zret C E (Or.inr rfl) rfl rfl dX6_isKind_15
set_option maxRecDepth 100000 in
set_option maxHeartbeats 4000000 in
theorem kX6_appear (w : gm_Wd) (a1 a2 : Int32) (G : Gm) (q : Int32 × Gm) (h : fX6_appear a1 a2 G = some q) : gm_C w yX6_appear cX6_appear 3 (some .int) 4 [.ref (gm_ad w 6 4 0), .int a1, .int a2] G (some (.int q.1)) q.2 := by
  refine gm_start (by decide) (Nat.le_of_ble_eq_true rfl) ?_
  intro x hw C E
  subst hw
  have C : gm_X x cX6_appear 3 RX6 (some .int) 4 := C
  unfold fX6_appear at h
  refine gm_lv (lv' := [(0, _), (1, _), (2, _)]) rfl ?_
  refine gv_iload_n C rfl 1 rfl dX6_appear_0 1 rfl ?_
  obtain ⟨q1, hq1, h⟩ := gm_bd h
  refine gv_callSi C mc_yX6_isKind ms_yX6_isKind (by decide) mkX6_76 (kX6_isKind _ _ _ _ hq1) rfl rfl (Nat.le_of_ble_eq_true rfl) dX6_appear_1 4 rfl ?_
  refine gv_if_eq C dX6_appear_4 14 (by decide) 7 rfl (fun c2 => ?_) (fun c2 => ?_)
  · replace h := gm_ip c2 h
    refine gv_bipush C (-2) rfl dX6_appear_14 16 rfl ?_
    obtain rfl := Option.some.inj h
    exact gv_iret C E rfl rfl dX6_appear_16
  · replace h := gm_iq c2 h
    refine gv_iload_n C rfl 2 rfl dX6_appear_7 8 rfl ?_
    obtain ⟨q3, hq3, h⟩ := gm_bd h
    refine gv_callSi C mc_yX6_isDirection ms_yX6_isDirection (by decide) mkX6_55 (kX6_isDirection _ _ _ _ hq3) rfl rfl (Nat.le_of_ble_eq_true rfl) dX6_appear_8 11 rfl ?_
    refine gv_if_ne C dX6_appear_11 17 (by decide) 14 rfl (fun c4 => ?_) (fun c4 => ?_)
    · replace h := gm_ip c4 h
      refine gv_bipush C (-2) rfl dX6_appear_14 16 rfl ?_
      obtain rfl := Option.some.inj h
      exact gv_iret C E rfl rfl dX6_appear_16
    · replace h := gm_iq c4 h
      refine gv_aload_n C rfl 0 rfl dX6_appear_17 18 rfl ?_
      refine gf_6_0 C gi_6 lkX6_12 dX6_appear_18 21 rfl ?_
      refine gf_1_6 C (gi_1 (by decide)) lkX6_34 dX6_appear_21 24 rfl ?_
      refine gv_bipush C 12 rfl dX6_appear_24 26 rfl ?_
      refine gv_icmp_lt C dX6_appear_26 32 (by decide) 29 rfl (fun c5 => ?_) (fun c5 => ?_)
      · replace h := gm_ip c5 h
        refine gv_aload_n C rfl 0 rfl dX6_appear_32 33 rfl ?_
        refine gf_6_0 C gi_6 lkX6_12 dX6_appear_33 36 rfl ?_
        refine gv_iload_n C rfl 1 rfl dX6_appear_36 37 rfl ?_
        refine gv_iload_n C rfl 2 rfl dX6_appear_37 38 rfl ?_
        obtain ⟨q6, hq6, h⟩ := gm_bd h
        refine gv_callVi C mc_yX1_bringNew ⟨mi_yX1_bringNew, me_yX1_bringNew⟩ (by decide) mkX6_79 (gi_1 (by decide)) ⟨_, rfl⟩ rfl rfl (kX1_bringNew _ _ (by decide) _ _ _ _ hq6) rfl rfl (Nat.le_of_ble_eq_true rfl) dX6_appear_38 41 rfl ?_
        obtain rfl := Option.some.inj h
        exact gv_iret C E rfl rfl dX6_appear_41
      · replace h := gm_iq c5 h
        refine gv_bipush C (-4) rfl dX6_appear_29 31 rfl ?_
        obtain rfl := Option.some.inj h
        exact gv_iret C E rfl rfl dX6_appear_31
set_option maxRecDepth 100000 in
set_option maxHeartbeats 4000000 in
theorem kX6_train (w : gm_Wd) (a1 a2 : Int32) (G : Gm) (q : Int32) (h : fX6_train a1 a2 G = some q) : gm_C w yX6_train cX6_train 4 (some .int) 1 [.ref (gm_ad w 6 4 0), .int a1, .int a2] G (some (.int q)) G := by
  refine gm_start (by decide) (Nat.le_of_ble_eq_true rfl) ?_
  intro x hw C E
  subst hw
  have C : gm_X x cX6_train 4 RX6 (some .int) 1 := C
  unfold fX6_train at h
  refine gm_lv (lv' := [(0, _), (1, _), (2, _)]) rfl ?_
  refine gv_aload_n C rfl 0 rfl dX6_train_0 1 rfl ?_
  refine gf_6_0 C gi_6 lkX6_12 dX6_train_1 4 rfl ?_
  refine gv_iload_n C rfl 1 rfl dX6_train_4 5 rfl ?_
  obtain ⟨q1, hq1, h⟩ := gm_bd h
  rcases gm_oc h with ⟨eq1, h⟩ | ⟨t2, eq1, h⟩
  · replace hq1 := hq1.trans (congrArg some eq1)
    refine gv_callVn C mc_yX1_trainAt ⟨mi_yX1_trainAt, me_yX1_trainAt⟩ (by decide) mkX6_83 (gi_1 (by decide)) ⟨_, rfl⟩ rfl rfl (kX1_trainAt _ _ (by decide) _ _ _ hq1) rfl rfl (Nat.le_of_ble_eq_true rfl) dX6_train_5 8 rfl ?_
    refine gv_astore_nN C rfl [(3, _), (0, _), (1, _), (2, _)] (by decide) rfl dX6_train_8 9 rfl ?_
    refine gv_aload_nN C rfl 0 rfl dX6_train_9 10 rfl ?_
    refine gv_ifnonnullN C dX6_train_10 13 rfl ?_
    refine gv_iconst C (-1) rfl dX6_train_13 14 rfl ?_
    refine gv_goto C dX6_train_14 22 (by decide) ?_
    obtain rfl := Option.some.inj h
    exact gv_iret C E rfl rfl dX6_train_22
  · replace hq1 := hq1.trans (congrArg some eq1)
    refine gv_callVa C mc_yX1_trainAt ⟨mi_yX1_trainAt, me_yX1_trainAt⟩ (by decide) mkX6_83 (gi_1 (by decide)) ⟨_, rfl⟩ rfl rfl (kX1_trainAt _ _ (by decide) _ _ _ hq1) rfl rfl (Nat.le_of_ble_eq_true rfl) dX6_train_5 8 rfl ?_
    refine gv_astore_n C rfl [(3, _), (0, _), (1, _), (2, _)] (by decide) rfl dX6_train_8 9 rfl ?_
    refine gv_aload_n C rfl 0 rfl dX6_train_9 10 rfl ?_
    refine gv_ifnonnull C dX6_train_10 17 (by decide) ?_
    refine gv_aload_n C rfl 0 rfl dX6_train_17 18 rfl ?_
    refine gv_iload_n C rfl 3 rfl dX6_train_18 19 rfl ?_
    obtain ⟨q3, hq3, h⟩ := gm_bd h
    refine gv_callVi C mc_yX5_property ⟨mi_yX5_property, me_yX5_property⟩ (by decide) mkX6_87 (gi_5 (by decide) (bX1_trainAt _ (by decide) _ _ _ hq1)) ⟨_, rfl⟩ rfl rfl (kX5_property _ _ _ (by decide) (bX1_trainAt _ (by decide) _ _ _ hq1) _ _ _ hq3) rfl rfl (Nat.le_of_ble_eq_true rfl) dX6_train_19 22 rfl ?_
    obtain rfl := Option.some.inj h
    exact gv_iret C E rfl rfl dX6_train_22
set_option maxRecDepth 100000 in
set_option maxHeartbeats 4000000 in
theorem kX6_shunt (w : gm_Wd) (a1 : Int32) (G : Gm) (q : Int32 × Gm) (h : fX6_shunt a1 G = some q) : gm_C w yX6_shunt cX6_shunt 3 (some .int) 5 [.ref (gm_ad w 6 4 0), .int a1] G (some (.int q.1)) q.2 := by
  refine gm_start (by decide) (Nat.le_of_ble_eq_true rfl) ?_
  intro x hw C E
  subst hw
  have C : gm_X x cX6_shunt 3 RX6 (some .int) 5 := C
  unfold fX6_shunt at h
  refine gm_lv (lv' := [(0, _), (1, _)]) rfl ?_
  refine gv_aload_n C rfl 0 rfl dX6_shunt_0 1 rfl ?_
  refine gf_6_0 C gi_6 lkX6_12 dX6_shunt_1 4 rfl ?_
  refine gv_iload_n C rfl 1 rfl dX6_shunt_4 5 rfl ?_
  obtain ⟨q1, hq1, h⟩ := gm_bd h
  rcases gm_oc h with ⟨eq1, h⟩ | ⟨t2, eq1, h⟩
  · replace hq1 := hq1.trans (congrArg some eq1)
    refine gv_callVn C mc_yX1_trainAt ⟨mi_yX1_trainAt, me_yX1_trainAt⟩ (by decide) mkX6_83 (gi_1 (by decide)) ⟨_, rfl⟩ rfl rfl (kX1_trainAt _ _ (by decide) _ _ _ hq1) rfl rfl (Nat.le_of_ble_eq_true rfl) dX6_shunt_5 8 rfl ?_
    refine gv_astore_nN C rfl [(2, _), (0, _), (1, _)] (by decide) rfl dX6_shunt_8 9 rfl ?_
    refine gv_aload_nN C rfl 0 rfl dX6_shunt_9 10 rfl ?_
    refine gv_ifnonnullN C dX6_shunt_10 13 rfl ?_
    refine gv_iconst C (-1) rfl dX6_shunt_13 14 rfl ?_
    refine gv_goto C dX6_shunt_14 25 (by decide) ?_
    obtain rfl := Option.some.inj h
    exact gv_iret C E rfl rfl dX6_shunt_25
  · replace hq1 := hq1.trans (congrArg some eq1)
    refine gv_callVa C mc_yX1_trainAt ⟨mi_yX1_trainAt, me_yX1_trainAt⟩ (by decide) mkX6_83 (gi_1 (by decide)) ⟨_, rfl⟩ rfl rfl (kX1_trainAt _ _ (by decide) _ _ _ hq1) rfl rfl (Nat.le_of_ble_eq_true rfl) dX6_shunt_5 8 rfl ?_
    refine gv_astore_n C rfl [(2, _), (0, _), (1, _)] (by decide) rfl dX6_shunt_8 9 rfl ?_
    refine gv_aload_n C rfl 0 rfl dX6_shunt_9 10 rfl ?_
    refine gv_ifnonnull C dX6_shunt_10 17 (by decide) ?_
    refine gv_aload_n C rfl 1 rfl dX6_shunt_17 18 rfl ?_
    refine gf_6_0 C gi_6 lkX6_12 dX6_shunt_18 21 rfl ?_
    refine gv_aload_n C rfl 0 rfl dX6_shunt_21 22 rfl ?_
    obtain ⟨q3, hq3, h⟩ := gm_bd h
    refine gv_callVi C mc_yX1_shuntTrain ⟨mi_yX1_shuntTrain, me_yX1_shuntTrain⟩ (by decide) mkX6_90 (gi_1 (by decide)) ⟨_, rfl⟩ rfl rfl (kX1_shuntTrain _ _ _ (by decide) (bX1_trainAt _ (by decide) _ _ _ hq1) _ _ hq3) rfl rfl (Nat.le_of_ble_eq_true rfl) dX6_shunt_22 25 rfl ?_
    obtain rfl := Option.some.inj h
    exact gv_iret C E rfl rfl dX6_shunt_25
set_option maxRecDepth 100000 in
set_option maxHeartbeats 4000000 in
theorem kX6_leave (w : gm_Wd) (a1 : Int32) (G : Gm) (q : Int32 × Gm) (h : fX6_leave a1 G = some q) : gm_C w yX6_leave cX6_leave 3 (some .int) 3 [.ref (gm_ad w 6 4 0), .int a1] G (some (.int q.1)) q.2 := by
  refine gm_start (by decide) (Nat.le_of_ble_eq_true rfl) ?_
  intro x hw C E
  subst hw
  have C : gm_X x cX6_leave 3 RX6 (some .int) 3 := C
  unfold fX6_leave at h
  refine gm_lv (lv' := [(0, _), (1, _)]) rfl ?_
  refine gv_aload_n C rfl 0 rfl dX6_leave_0 1 rfl ?_
  refine gf_6_0 C gi_6 lkX6_12 dX6_leave_1 4 rfl ?_
  refine gv_iload_n C rfl 1 rfl dX6_leave_4 5 rfl ?_
  obtain ⟨q1, hq1, h⟩ := gm_bd h
  rcases gm_oc h with ⟨eq1, h⟩ | ⟨t2, eq1, h⟩
  · replace hq1 := hq1.trans (congrArg some eq1)
    refine gv_callVn C mc_yX1_trainAt ⟨mi_yX1_trainAt, me_yX1_trainAt⟩ (by decide) mkX6_83 (gi_1 (by decide)) ⟨_, rfl⟩ rfl rfl (kX1_trainAt _ _ (by decide) _ _ _ hq1) rfl rfl (Nat.le_of_ble_eq_true rfl) dX6_leave_5 8 rfl ?_
    refine gv_astore_nN C rfl [(2, _), (0, _), (1, _)] (by decide) rfl dX6_leave_8 9 rfl ?_
    refine gv_aload_nN C rfl 0 rfl dX6_leave_9 10 rfl ?_
    refine gv_ifnonnullN C dX6_leave_10 13 rfl ?_
    refine gv_iconst C (-1) rfl dX6_leave_13 14 rfl ?_
    refine gv_goto C dX6_leave_14 25 (by decide) ?_
    obtain rfl := Option.some.inj h
    exact gv_iret C E rfl rfl dX6_leave_25
  · replace hq1 := hq1.trans (congrArg some eq1)
    refine gv_callVa C mc_yX1_trainAt ⟨mi_yX1_trainAt, me_yX1_trainAt⟩ (by decide) mkX6_83 (gi_1 (by decide)) ⟨_, rfl⟩ rfl rfl (kX1_trainAt _ _ (by decide) _ _ _ hq1) rfl rfl (Nat.le_of_ble_eq_true rfl) dX6_leave_5 8 rfl ?_
    refine gv_astore_n C rfl [(2, _), (0, _), (1, _)] (by decide) rfl dX6_leave_8 9 rfl ?_
    refine gv_aload_n C rfl 0 rfl dX6_leave_9 10 rfl ?_
    refine gv_ifnonnull C dX6_leave_10 17 (by decide) ?_
    refine gv_aload_n C rfl 1 rfl dX6_leave_17 18 rfl ?_
    refine gf_6_0 C gi_6 lkX6_12 dX6_leave_18 21 rfl ?_
    refine gv_aload_n C rfl 0 rfl dX6_leave_21 22 rfl ?_
    obtain ⟨q3, hq3, h⟩ := gm_bd h
    refine gv_callVi C mc_yX1_letLeave ⟨mi_yX1_letLeave, me_yX1_letLeave⟩ (by decide) mkX6_94 (gi_1 (by decide)) ⟨_, rfl⟩ rfl rfl (kX1_letLeave _ _ _ (by decide) (bX1_trainAt _ (by decide) _ _ _ hq1) _ _ hq3) rfl rfl (Nat.le_of_ble_eq_true rfl) dX6_leave_22 25 rfl ?_
    obtain rfl := Option.some.inj h
    exact gv_iret C E rfl rfl dX6_leave_25
set_option maxRecDepth 100000 in
set_option maxHeartbeats 4000000 in
theorem kX6_divide (w : gm_Wd) (a1 : Int32) (G : Gm) (q : Int32 × Gm) (h : fX6_divide a1 G = some q) : gm_C w yX6_divide cX6_divide 3 (some .int) 2 [.ref (gm_ad w 6 4 0), .int a1] G (some (.int q.1)) q.2 := by
  refine gm_start (by decide) (Nat.le_of_ble_eq_true rfl) ?_
  intro x hw C E
  subst hw
  have C : gm_X x cX6_divide 3 RX6 (some .int) 2 := C
  unfold fX6_divide at h
  refine gm_lv (lv' := [(0, _), (1, _)]) rfl ?_
  refine gv_aload_n C rfl 0 rfl dX6_divide_0 1 rfl ?_
  refine gf_6_0 C gi_6 lkX6_12 dX6_divide_1 4 rfl ?_
  refine gv_iload_n C rfl 1 rfl dX6_divide_4 5 rfl ?_
  obtain ⟨q1, hq1, h⟩ := gm_bd h
  rcases gm_oc h with ⟨eq1, h⟩ | ⟨t2, eq1, h⟩
  · replace hq1 := hq1.trans (congrArg some eq1)
    refine gv_callVn C mc_yX1_trainAt ⟨mi_yX1_trainAt, me_yX1_trainAt⟩ (by decide) mkX6_83 (gi_1 (by decide)) ⟨_, rfl⟩ rfl rfl (kX1_trainAt _ _ (by decide) _ _ _ hq1) rfl rfl (Nat.le_of_ble_eq_true rfl) dX6_divide_5 8 rfl ?_
    refine gv_astore_nN C rfl [(2, _), (0, _), (1, _)] (by decide) rfl dX6_divide_8 9 rfl ?_
    refine gv_aload_nN C rfl 0 rfl dX6_divide_9 10 rfl ?_
    refine gv_ifnonnullN C dX6_divide_10 13 rfl ?_
    refine gv_iconst C (-1) rfl dX6_divide_13 14 rfl ?_
    refine gv_goto C dX6_divide_14 25 (by decide) ?_
    obtain rfl := Option.some.inj h
    exact gv_iret C E rfl rfl dX6_divide_25
  · replace hq1 := hq1.trans (congrArg some eq1)
    refine gv_callVa C mc_yX1_trainAt ⟨mi_yX1_trainAt, me_yX1_trainAt⟩ (by decide) mkX6_83 (gi_1 (by decide)) ⟨_, rfl⟩ rfl rfl (kX1_trainAt _ _ (by decide) _ _ _ hq1) rfl rfl (Nat.le_of_ble_eq_true rfl) dX6_divide_5 8 rfl ?_
    refine gv_astore_n C rfl [(2, _), (0, _), (1, _)] (by decide) rfl dX6_divide_8 9 rfl ?_
    refine gv_aload_n C rfl 0 rfl dX6_divide_9 10 rfl ?_
    refine gv_ifnonnull C dX6_divide_10 17 (by decide) ?_
    refine gv_aload_n C rfl 1 rfl dX6_divide_17 18 rfl ?_
    refine gf_6_0 C gi_6 lkX6_12 dX6_divide_18 21 rfl ?_
    refine gv_aload_n C rfl 0 rfl dX6_divide_21 22 rfl ?_
    obtain ⟨q3, hq3, h⟩ := gm_bd h
    refine gv_callVi C mc_yX1_divideTrain ⟨mi_yX1_divideTrain, me_yX1_divideTrain⟩ (by decide) mkX6_97 (gi_1 (by decide)) ⟨_, rfl⟩ rfl rfl (kX1_divideTrain _ _ _ (by decide) (bX1_trainAt _ (by decide) _ _ _ hq1) _ _ hq3) rfl rfl (Nat.le_of_ble_eq_true rfl) dX6_divide_22 25 rfl ?_
    obtain rfl := Option.some.inj h
    exact gv_iret C E rfl rfl dX6_divide_25
set_option maxRecDepth 100000 in
set_option maxHeartbeats 4000000 in
theorem kX6_offer (w : gm_Wd) (a1 : Int32) (G : Gm) (q : Int32 × Gm) (h : fX6_offer a1 G = some q) : gm_C w yX6_offer cX6_offer 3 (some .int) 4 [.ref (gm_ad w 6 4 0), .int a1] G (some (.int q.1)) q.2 := by
  refine gm_start (by decide) (Nat.le_of_ble_eq_true rfl) ?_
  intro x hw C E
  subst hw
  have C : gm_X x cX6_offer 3 RX6 (some .int) 4 := C
  unfold fX6_offer at h
  refine gm_lv (lv' := [(0, _), (1, _)]) rfl ?_
  refine gv_aload_n C rfl 0 rfl dX6_offer_0 1 rfl ?_
  refine gf_6_0 C gi_6 lkX6_12 dX6_offer_1 4 rfl ?_
  refine gv_iload_n C rfl 1 rfl dX6_offer_4 5 rfl ?_
  obtain ⟨q1, hq1, h⟩ := gm_bd h
  rcases gm_oc h with ⟨eq1, h⟩ | ⟨t2, eq1, h⟩
  · replace hq1 := hq1.trans (congrArg some eq1)
    refine gv_callVn C mc_yX1_trainAt ⟨mi_yX1_trainAt, me_yX1_trainAt⟩ (by decide) mkX6_83 (gi_1 (by decide)) ⟨_, rfl⟩ rfl rfl (kX1_trainAt _ _ (by decide) _ _ _ hq1) rfl rfl (Nat.le_of_ble_eq_true rfl) dX6_offer_5 8 rfl ?_
    refine gv_astore_nN C rfl [(2, _), (0, _), (1, _)] (by decide) rfl dX6_offer_8 9 rfl ?_
    refine gv_aload_nN C rfl 0 rfl dX6_offer_9 10 rfl ?_
    refine gv_ifnonnullN C dX6_offer_10 13 rfl ?_
    refine gv_iconst C (-1) rfl dX6_offer_13 14 rfl ?_
    refine gv_goto C dX6_offer_14 25 (by decide) ?_
    obtain rfl := Option.some.inj h
    exact gv_iret C E rfl rfl dX6_offer_25
  · replace hq1 := hq1.trans (congrArg some eq1)
    refine gv_callVa C mc_yX1_trainAt ⟨mi_yX1_trainAt, me_yX1_trainAt⟩ (by decide) mkX6_83 (gi_1 (by decide)) ⟨_, rfl⟩ rfl rfl (kX1_trainAt _ _ (by decide) _ _ _ hq1) rfl rfl (Nat.le_of_ble_eq_true rfl) dX6_offer_5 8 rfl ?_
    refine gv_astore_n C rfl [(2, _), (0, _), (1, _)] (by decide) rfl dX6_offer_8 9 rfl ?_
    refine gv_aload_n C rfl 0 rfl dX6_offer_9 10 rfl ?_
    refine gv_ifnonnull C dX6_offer_10 17 (by decide) ?_
    refine gv_aload_n C rfl 1 rfl dX6_offer_17 18 rfl ?_
    refine gf_6_0 C gi_6 lkX6_12 dX6_offer_18 21 rfl ?_
    refine gv_aload_n C rfl 0 rfl dX6_offer_21 22 rfl ?_
    obtain ⟨q3, hq3, h⟩ := gm_bd h
    refine gv_callVi C mc_yX1_offerTrain ⟨mi_yX1_offerTrain, me_yX1_offerTrain⟩ (by decide) mkX6_100 (gi_1 (by decide)) ⟨_, rfl⟩ rfl rfl (kX1_offerTrain _ _ _ (by decide) (bX1_trainAt _ (by decide) _ _ _ hq1) _ _ hq3) rfl rfl (Nat.le_of_ble_eq_true rfl) dX6_offer_22 25 rfl ?_
    obtain rfl := Option.some.inj h
    exact gv_iret C E rfl rfl dX6_offer_25
set_option maxRecDepth 100000 in
set_option maxHeartbeats 4000000 in
theorem kX6_answer (w : gm_Wd) (a1 a2 a3 : Int32) (G : Gm) (q : Int32 × Gm) (h : fX6_answer a1 a2 a3 G = some q) : gm_C w yX6_answer cX6_answer 5 (some .int) 4 [.ref (gm_ad w 6 4 0), .int a1, .int a2, .int a3] G (some (.int q.1)) q.2 := by
  refine gm_start (by decide) (Nat.le_of_ble_eq_true rfl) ?_
  intro x hw C E
  subst hw
  have C : gm_X x cX6_answer 5 RX6 (some .int) 4 := C
  unfold fX6_answer at h
  refine gm_lv (lv' := [(0, _), (1, _), (2, _), (3, _)]) rfl ?_
  refine gv_aload_n C rfl 0 rfl dX6_answer_0 1 rfl ?_
  refine gf_6_0 C gi_6 lkX6_12 dX6_answer_1 4 rfl ?_
  refine gv_iload_n C rfl 1 rfl dX6_answer_4 5 rfl ?_
  refine gv_iload_n C rfl 2 rfl dX6_answer_5 6 rfl ?_
  obtain ⟨q1, hq1, h⟩ := gm_bd h
  rcases gm_oc h with ⟨eq1, h⟩ | ⟨t2, eq1, h⟩
  · replace hq1 := hq1.trans (congrArg some eq1)
    refine gv_callVn C mc_yX1_blockAt ⟨mi_yX1_blockAt, me_yX1_blockAt⟩ (by decide) mkX6_69 (gi_1 (by decide)) ⟨_, rfl⟩ rfl rfl (kX1_blockAt _ _ (by decide) _ _ _ _ hq1) rfl rfl (Nat.le_of_ble_eq_true rfl) dX6_answer_6 9 rfl ?_
    refine gv_astoreN C [(4, _), (0, _), (1, _), (2, _), (3, _)] (by decide) rfl dX6_answer_9 11 rfl ?_
    refine gv_aloadN C 0 rfl dX6_answer_11 13 rfl ?_
    refine gv_ifnonnullN C dX6_answer_13 16 rfl ?_
    refine gv_iconst C (-1) rfl dX6_answer_16 17 rfl ?_
    obtain rfl := Option.some.inj h
    exact gv_iret C E rfl rfl dX6_answer_17
  · replace hq1 := hq1.trans (congrArg some eq1)
    refine gv_callVa C mc_yX1_blockAt ⟨mi_yX1_blockAt, me_yX1_blockAt⟩ (by decide) mkX6_69 (gi_1 (by decide)) ⟨_, rfl⟩ rfl rfl (kX1_blockAt _ _ (by decide) _ _ _ _ hq1) rfl rfl (Nat.le_of_ble_eq_true rfl) dX6_answer_6 9 rfl ?_
    refine gv_astore C [(4, _), (0, _), (1, _), (2, _), (3, _)] (by decide) rfl dX6_answer_9 11 rfl ?_
    refine gv_aload C 0 rfl dX6_answer_11 13 rfl ?_
    refine gv_ifnonnull C dX6_answer_13 18 (by decide) ?_
    refine gv_iload_n C rfl 4 rfl dX6_answer_18 19 rfl ?_
    refine gv_if_eq C dX6_answer_19 34 (by decide) 22 rfl (fun c3 => ?_) (fun c3 => ?_)
    · replace h := gm_ip c3 h
      refine gv_aload_n C rfl 1 rfl dX6_answer_34 35 rfl ?_
      refine gf_6_0 C gi_6 lkX6_12 dX6_answer_35 38 rfl ?_
      refine gv_aload C 0 rfl dX6_answer_38 40 rfl ?_
      obtain ⟨q4, hq4, h⟩ := gm_bd h
      refine gv_callVi C mc_yX1_refuse ⟨mi_yX1_refuse, me_yX1_refuse⟩ (by decide) mkX6_107 (gi_1 (by decide)) ⟨_, rfl⟩ rfl rfl (kX1_refuse _ _ _ (by decide) (bX1_blockAt _ (by decide) _ _ _ _ hq1) _ _ hq4) rfl rfl (Nat.le_of_ble_eq_true rfl) dX6_answer_40 43 rfl ?_
      obtain rfl := Option.some.inj h
      exact gv_iret C E rfl rfl dX6_answer_43
    · replace h := gm_iq c3 h
      refine gv_aload_n C rfl 1 rfl dX6_answer_22 23 rfl ?_
      refine gf_6_0 C gi_6 lkX6_12 dX6_answer_23 26 rfl ?_
      refine gv_aload C 0 rfl dX6_answer_26 28 rfl ?_
      obtain ⟨q5, hq5, h⟩ := gm_bd h
      refine gv_callVi C mc_yX1_accept ⟨mi_yX1_accept, me_yX1_accept⟩ (by decide) mkX6_103 (gi_1 (by decide)) ⟨_, rfl⟩ rfl rfl (kX1_accept _ _ _ (by decide) (bX1_blockAt _ (by decide) _ _ _ _ hq1) _ _ hq5) rfl rfl (Nat.le_of_ble_eq_true rfl) dX6_answer_28 31 rfl ?_
      refine gv_goto C dX6_answer_31 43 (by decide) ?_
      obtain rfl := Option.some.inj h
      exact gv_iret C E rfl rfl dX6_answer_43
set_option maxRecDepth 100000 in
set_option maxHeartbeats 4000000 in
theorem kX6_cancel (w : gm_Wd) (a1 a2 : Int32) (G : Gm) (q : Int32 × Gm) (h : fX6_cancel a1 a2 G = some q) : gm_C w yX6_cancel cX6_cancel 4 (some .int) 4 [.ref (gm_ad w 6 4 0), .int a1, .int a2] G (some (.int q.1)) q.2 := by
  refine gm_start (by decide) (Nat.le_of_ble_eq_true rfl) ?_
  intro x hw C E
  subst hw
  have C : gm_X x cX6_cancel 4 RX6 (some .int) 4 := C
  unfold fX6_cancel at h
  refine gm_lv (lv' := [(0, _), (1, _), (2, _)]) rfl ?_
  refine gv_aload_n C rfl 0 rfl dX6_cancel_0 1 rfl ?_
  refine gf_6_0 C gi_6 lkX6_12 dX6_cancel_1 4 rfl ?_
  refine gv_iload_n C rfl 1 rfl dX6_cancel_4 5 rfl ?_
  refine gv_iload_n C rfl 2 rfl dX6_cancel_5 6 rfl ?_
  obtain ⟨q1, hq1, h⟩ := gm_bd h
  rcases gm_oc h with ⟨eq1, h⟩ | ⟨t2, eq1, h⟩
  · replace hq1 := hq1.trans (congrArg some eq1)
    refine gv_callVn C mc_yX1_blockAt ⟨mi_yX1_blockAt, me_yX1_blockAt⟩ (by decide) mkX6_69 (gi_1 (by decide)) ⟨_, rfl⟩ rfl rfl (kX1_blockAt _ _ (by decide) _ _ _ _ hq1) rfl rfl (Nat.le_of_ble_eq_true rfl) dX6_cancel_6 9 rfl ?_
    refine gv_astore_nN C rfl [(3, _), (0, _), (1, _), (2, _)] (by decide) rfl dX6_cancel_9 10 rfl ?_
    refine gv_aload_nN C rfl 0 rfl dX6_cancel_10 11 rfl ?_
    refine gv_ifnonnullN C dX6_cancel_11 14 rfl ?_
    refine gv_iconst C (-1) rfl dX6_cancel_14 15 rfl ?_
    refine gv_goto C dX6_cancel_15 26 (by decide) ?_
    obtain rfl := Option.some.inj h
    exact gv_iret C E rfl rfl dX6_cancel_26
  · replace hq1 := hq1.trans (congrArg some eq1)
    refine gv_callVa C mc_yX1_blockAt ⟨mi_yX1_blockAt, me_yX1_blockAt⟩ (by decide) mkX6_69 (gi_1 (by decide)) ⟨_, rfl⟩ rfl rfl (kX1_blockAt _ _ (by decide) _ _ _ _ hq1) rfl rfl (Nat.le_of_ble_eq_true rfl) dX6_cancel_6 9 rfl ?_
    refine gv_astore_n C rfl [(3, _), (0, _), (1, _), (2, _)] (by decide) rfl dX6_cancel_9 10 rfl ?_
    refine gv_aload_n C rfl 0 rfl dX6_cancel_10 11 rfl ?_
    refine gv_ifnonnull C dX6_cancel_11 18 (by decide) ?_
    refine gv_aload_n C rfl 1 rfl dX6_cancel_18 19 rfl ?_
    refine gf_6_0 C gi_6 lkX6_12 dX6_cancel_19 22 rfl ?_
    refine gv_aload_n C rfl 0 rfl dX6_cancel_22 23 rfl ?_
    obtain ⟨q3, hq3, h⟩ := gm_bd h
    refine gv_callVi C mc_yX1_cancelBlock ⟨mi_yX1_cancelBlock, me_yX1_cancelBlock⟩ (by decide) mkX6_110 (gi_1 (by decide)) ⟨_, rfl⟩ rfl rfl (kX1_cancelBlock _ _ _ (by decide) (bX1_blockAt _ (by decide) _ _ _ _ hq1) _ _ hq3) rfl rfl (Nat.le_of_ble_eq_true rfl) dX6_cancel_23 26 rfl ?_
    obtain rfl := Option.some.inj h
    exact gv_iret C E rfl rfl dX6_cancel_26
set_option maxRecDepth 100000 in
set_option maxHeartbeats 4000000 in
theorem kX6_depart (w : gm_Wd) (a1 : Int32) (G : Gm) (q : Int32 × Gm) (h : fX6_depart a1 G = some q) : gm_C w yX6_depart cX6_depart 3 (some .int) 4 [.ref (gm_ad w 6 4 0), .int a1] G (some (.int q.1)) q.2 := by
  refine gm_start (by decide) (Nat.le_of_ble_eq_true rfl) ?_
  intro x hw C E
  subst hw
  have C : gm_X x cX6_depart 3 RX6 (some .int) 4 := C
  unfold fX6_depart at h
  refine gm_lv (lv' := [(0, _), (1, _)]) rfl ?_
  refine gv_aload_n C rfl 0 rfl dX6_depart_0 1 rfl ?_
  refine gf_6_0 C gi_6 lkX6_12 dX6_depart_1 4 rfl ?_
  refine gv_iload_n C rfl 1 rfl dX6_depart_4 5 rfl ?_
  obtain ⟨q1, hq1, h⟩ := gm_bd h
  rcases gm_oc h with ⟨eq1, h⟩ | ⟨t2, eq1, h⟩
  · replace hq1 := hq1.trans (congrArg some eq1)
    refine gv_callVn C mc_yX1_trainAt ⟨mi_yX1_trainAt, me_yX1_trainAt⟩ (by decide) mkX6_83 (gi_1 (by decide)) ⟨_, rfl⟩ rfl rfl (kX1_trainAt _ _ (by decide) _ _ _ hq1) rfl rfl (Nat.le_of_ble_eq_true rfl) dX6_depart_5 8 rfl ?_
    refine gv_astore_nN C rfl [(2, _), (0, _), (1, _)] (by decide) rfl dX6_depart_8 9 rfl ?_
    refine gv_aload_nN C rfl 0 rfl dX6_depart_9 10 rfl ?_
    refine gv_ifnonnullN C dX6_depart_10 13 rfl ?_
    refine gv_iconst C (-1) rfl dX6_depart_13 14 rfl ?_
    refine gv_goto C dX6_depart_14 25 (by decide) ?_
    obtain rfl := Option.some.inj h
    exact gv_iret C E rfl rfl dX6_depart_25
  · replace hq1 := hq1.trans (congrArg some eq1)
    refine gv_callVa C mc_yX1_trainAt ⟨mi_yX1_trainAt, me_yX1_trainAt⟩ (by decide) mkX6_83 (gi_1 (by decide)) ⟨_, rfl⟩ rfl rfl (kX1_trainAt _ _ (by decide) _ _ _ hq1) rfl rfl (Nat.le_of_ble_eq_true rfl) dX6_depart_5 8 rfl ?_
    refine gv_astore_n C rfl [(2, _), (0, _), (1, _)] (by decide) rfl dX6_depart_8 9 rfl ?_
    refine gv_aload_n C rfl 0 rfl dX6_depart_9 10 rfl ?_
    refine gv_ifnonnull C dX6_depart_10 17 (by decide) ?_
    refine gv_aload_n C rfl 1 rfl dX6_depart_17 18 rfl ?_
    refine gf_6_0 C gi_6 lkX6_12 dX6_depart_18 21 rfl ?_
    refine gv_aload_n C rfl 0 rfl dX6_depart_21 22 rfl ?_
    obtain ⟨q3, hq3, h⟩ := gm_bd h
    refine gv_callVi C mc_yX1_letDepart ⟨mi_yX1_letDepart, me_yX1_letDepart⟩ (by decide) mkX6_113 (gi_1 (by decide)) ⟨_, rfl⟩ rfl rfl (kX1_letDepart _ _ _ (by decide) (bX1_trainAt _ (by decide) _ _ _ hq1) _ _ hq3) rfl rfl (Nat.le_of_ble_eq_true rfl) dX6_depart_22 25 rfl ?_
    obtain rfl := Option.some.inj h
    exact gv_iret C E rfl rfl dX6_depart_25
set_option maxRecDepth 100000 in
set_option maxHeartbeats 4000000 in
theorem kX6_admit (w : gm_Wd) (a1 a2 : Int32) (G : Gm) (q : Int32 × Gm) (h : fX6_admit a1 a2 G = some q) : gm_C w yX6_admit cX6_admit 4 (some .int) 4 [.ref (gm_ad w 6 4 0), .int a1, .int a2] G (some (.int q.1)) q.2 := by
  refine gm_start (by decide) (Nat.le_of_ble_eq_true rfl) ?_
  intro x hw C E
  subst hw
  have C : gm_X x cX6_admit 4 RX6 (some .int) 4 := C
  unfold fX6_admit at h
  refine gm_lv (lv' := [(0, _), (1, _), (2, _)]) rfl ?_
  refine gv_aload_n C rfl 0 rfl dX6_admit_0 1 rfl ?_
  refine gf_6_0 C gi_6 lkX6_12 dX6_admit_1 4 rfl ?_
  refine gv_iload_n C rfl 1 rfl dX6_admit_4 5 rfl ?_
  refine gv_iload_n C rfl 2 rfl dX6_admit_5 6 rfl ?_
  obtain ⟨q1, hq1, h⟩ := gm_bd h
  rcases gm_oc h with ⟨eq1, h⟩ | ⟨t2, eq1, h⟩
  · replace hq1 := hq1.trans (congrArg some eq1)
    refine gv_callVn C mc_yX1_blockAt ⟨mi_yX1_blockAt, me_yX1_blockAt⟩ (by decide) mkX6_69 (gi_1 (by decide)) ⟨_, rfl⟩ rfl rfl (kX1_blockAt _ _ (by decide) _ _ _ _ hq1) rfl rfl (Nat.le_of_ble_eq_true rfl) dX6_admit_6 9 rfl ?_
    refine gv_astore_nN C rfl [(3, _), (0, _), (1, _), (2, _)] (by decide) rfl dX6_admit_9 10 rfl ?_
    refine gv_aload_nN C rfl 0 rfl dX6_admit_10 11 rfl ?_
    refine gv_ifnonnullN C dX6_admit_11 14 rfl ?_
    refine gv_iconst C (-1) rfl dX6_admit_14 15 rfl ?_
    refine gv_goto C dX6_admit_15 26 (by decide) ?_
    obtain rfl := Option.some.inj h
    exact gv_iret C E rfl rfl dX6_admit_26
  · replace hq1 := hq1.trans (congrArg some eq1)
    refine gv_callVa C mc_yX1_blockAt ⟨mi_yX1_blockAt, me_yX1_blockAt⟩ (by decide) mkX6_69 (gi_1 (by decide)) ⟨_, rfl⟩ rfl rfl (kX1_blockAt _ _ (by decide) _ _ _ _ hq1) rfl rfl (Nat.le_of_ble_eq_true rfl) dX6_admit_6 9 rfl ?_
    refine gv_astore_n C rfl [(3, _), (0, _), (1, _), (2, _)] (by decide) rfl dX6_admit_9 10 rfl ?_
    refine gv_aload_n C rfl 0 rfl dX6_admit_10 11 rfl ?_
    refine gv_ifnonnull C dX6_admit_11 18 (by decide) ?_
    refine gv_aload_n C rfl 1 rfl dX6_admit_18 19 rfl ?_
    refine gf_6_0 C gi_6 lkX6_12 dX6_admit_19 22 rfl ?_
    refine gv_aload_n C rfl 0 rfl dX6_admit_22 23 rfl ?_
    obtain ⟨q3, hq3, h⟩ := gm_bd h
    refine gv_callVi C mc_yX1_admitTrain ⟨mi_yX1_admitTrain, me_yX1_admitTrain⟩ (by decide) mkX6_116 (gi_1 (by decide)) ⟨_, rfl⟩ rfl rfl (kX1_admitTrain _ _ _ (by decide) (bX1_blockAt _ (by decide) _ _ _ _ hq1) _ _ hq3) rfl rfl (Nat.le_of_ble_eq_true rfl) dX6_admit_23 26 rfl ?_
    obtain rfl := Option.some.inj h
    exact gv_iret C E rfl rfl dX6_admit_26
set_option maxRecDepth 100000 in
set_option maxHeartbeats 4000000 in
theorem kX6_out (w : gm_Wd) (a1 a2 : Int32) (G : Gm) (q : Int32 × Gm) (h : fX6_out a1 a2 G = some q) : gm_C w yX6_out cX6_out 4 (some .int) 4 [.ref (gm_ad w 6 4 0), .int a1, .int a2] G (some (.int q.1)) q.2 := by
  refine gm_start (by decide) (Nat.le_of_ble_eq_true rfl) ?_
  intro x hw C E
  subst hw
  have C : gm_X x cX6_out 4 RX6 (some .int) 4 := C
  unfold fX6_out at h
  refine gm_lv (lv' := [(0, _), (1, _), (2, _)]) rfl ?_
  refine gv_aload_n C rfl 0 rfl dX6_out_0 1 rfl ?_
  refine gf_6_0 C gi_6 lkX6_12 dX6_out_1 4 rfl ?_
  refine gv_iload_n C rfl 1 rfl dX6_out_4 5 rfl ?_
  refine gv_iload_n C rfl 2 rfl dX6_out_5 6 rfl ?_
  obtain ⟨q1, hq1, h⟩ := gm_bd h
  rcases gm_oc h with ⟨eq1, h⟩ | ⟨t2, eq1, h⟩
  · replace hq1 := hq1.trans (congrArg some eq1)
    refine gv_callVn C mc_yX1_blockAt ⟨mi_yX1_blockAt, me_yX1_blockAt⟩ (by decide) mkX6_69 (gi_1 (by decide)) ⟨_, rfl⟩ rfl rfl (kX1_blockAt _ _ (by decide) _ _ _ _ hq1) rfl rfl (Nat.le_of_ble_eq_true rfl) dX6_out_6 9 rfl ?_
    refine gv_astore_nN C rfl [(3, _), (0, _), (1, _), (2, _)] (by decide) rfl dX6_out_9 10 rfl ?_
    refine gv_aload_nN C rfl 0 rfl dX6_out_10 11 rfl ?_
    refine gv_ifnonnullN C dX6_out_11 14 rfl ?_
    refine gv_iconst C (-1) rfl dX6_out_14 15 rfl ?_
    refine gv_goto C dX6_out_15 26 (by decide) ?_
    obtain rfl := Option.some.inj h
    exact gv_iret C E rfl rfl dX6_out_26
  · replace hq1 := hq1.trans (congrArg some eq1)
    refine gv_callVa C mc_yX1_blockAt ⟨mi_yX1_blockAt, me_yX1_blockAt⟩ (by decide) mkX6_69 (gi_1 (by decide)) ⟨_, rfl⟩ rfl rfl (kX1_blockAt _ _ (by decide) _ _ _ _ hq1) rfl rfl (Nat.le_of_ble_eq_true rfl) dX6_out_6 9 rfl ?_
    refine gv_astore_n C rfl [(3, _), (0, _), (1, _), (2, _)] (by decide) rfl dX6_out_9 10 rfl ?_
    refine gv_aload_n C rfl 0 rfl dX6_out_10 11 rfl ?_
    refine gv_ifnonnull C dX6_out_11 18 (by decide) ?_
    refine gv_aload_n C rfl 1 rfl dX6_out_18 19 rfl ?_
    refine gf_6_0 C gi_6 lkX6_12 dX6_out_19 22 rfl ?_
    refine gv_aload_n C rfl 0 rfl dX6_out_22 23 rfl ?_
    obtain ⟨q3, hq3, h⟩ := gm_bd h
    refine gv_callVi C mc_yX1_reportOut ⟨mi_yX1_reportOut, me_yX1_reportOut⟩ (by decide) mkX6_119 (gi_1 (by decide)) ⟨_, rfl⟩ rfl rfl (kX1_reportOut _ _ _ (by decide) (bX1_blockAt _ (by decide) _ _ _ _ hq1) _ _ hq3) rfl rfl (Nat.le_of_ble_eq_true rfl) dX6_out_23 26 rfl ?_
    obtain rfl := Option.some.inj h
    exact gv_iret C E rfl rfl dX6_out_26
set_option maxRecDepth 100000 in
set_option maxHeartbeats 4000000 in
theorem kX6_assist (w : gm_Wd) (a1 a2 : Int32) (G : Gm) (q : Int32 × Gm) (h : fX6_assist a1 a2 G = some q) : gm_C w yX6_assist cX6_assist 4 (some .int) 4 [.ref (gm_ad w 6 4 0), .int a1, .int a2] G (some (.int q.1)) q.2 := by
  refine gm_start (by decide) (Nat.le_of_ble_eq_true rfl) ?_
  intro x hw C E
  subst hw
  have C : gm_X x cX6_assist 4 RX6 (some .int) 4 := C
  unfold fX6_assist at h
  refine gm_lv (lv' := [(0, _), (1, _), (2, _)]) rfl ?_
  refine gv_aload_n C rfl 0 rfl dX6_assist_0 1 rfl ?_
  refine gf_6_0 C gi_6 lkX6_12 dX6_assist_1 4 rfl ?_
  refine gv_iload_n C rfl 1 rfl dX6_assist_4 5 rfl ?_
  refine gv_iload_n C rfl 2 rfl dX6_assist_5 6 rfl ?_
  obtain ⟨q1, hq1, h⟩ := gm_bd h
  rcases gm_oc h with ⟨eq1, h⟩ | ⟨t2, eq1, h⟩
  · replace hq1 := hq1.trans (congrArg some eq1)
    refine gv_callVn C mc_yX1_blockAt ⟨mi_yX1_blockAt, me_yX1_blockAt⟩ (by decide) mkX6_69 (gi_1 (by decide)) ⟨_, rfl⟩ rfl rfl (kX1_blockAt _ _ (by decide) _ _ _ _ hq1) rfl rfl (Nat.le_of_ble_eq_true rfl) dX6_assist_6 9 rfl ?_
    refine gv_astore_nN C rfl [(3, _), (0, _), (1, _), (2, _)] (by decide) rfl dX6_assist_9 10 rfl ?_
    refine gv_aload_nN C rfl 0 rfl dX6_assist_10 11 rfl ?_
    refine gv_ifnonnullN C dX6_assist_11 14 rfl ?_
    refine gv_iconst C (-1) rfl dX6_assist_14 15 rfl ?_
    refine gv_goto C dX6_assist_15 26 (by decide) ?_
    obtain rfl := Option.some.inj h
    exact gv_iret C E rfl rfl dX6_assist_26
  · replace hq1 := hq1.trans (congrArg some eq1)
    refine gv_callVa C mc_yX1_blockAt ⟨mi_yX1_blockAt, me_yX1_blockAt⟩ (by decide) mkX6_69 (gi_1 (by decide)) ⟨_, rfl⟩ rfl rfl (kX1_blockAt _ _ (by decide) _ _ _ _ hq1) rfl rfl (Nat.le_of_ble_eq_true rfl) dX6_assist_6 9 rfl ?_
    refine gv_astore_n C rfl [(3, _), (0, _), (1, _), (2, _)] (by decide) rfl dX6_assist_9 10 rfl ?_
    refine gv_aload_n C rfl 0 rfl dX6_assist_10 11 rfl ?_
    refine gv_ifnonnull C dX6_assist_11 18 (by decide) ?_
    refine gv_aload_n C rfl 1 rfl dX6_assist_18 19 rfl ?_
    refine gf_6_0 C gi_6 lkX6_12 dX6_assist_19 22 rfl ?_
    refine gv_aload_n C rfl 0 rfl dX6_assist_22 23 rfl ?_
    obtain ⟨q3, hq3, h⟩ := gm_bd h
    refine gv_callVi C mc_yX1_sendEngine ⟨mi_yX1_sendEngine, me_yX1_sendEngine⟩ (by decide) mkX6_122 (gi_1 (by decide)) ⟨_, rfl⟩ rfl rfl (kX1_sendEngine _ _ _ (by decide) (bX1_blockAt _ (by decide) _ _ _ _ hq1) _ _ hq3) rfl rfl (Nat.le_of_ble_eq_true rfl) dX6_assist_23 26 rfl ?_
    obtain rfl := Option.some.inj h
    exact gv_iret C E rfl rfl dX6_assist_26
set_option maxRecDepth 100000 in
set_option maxHeartbeats 4000000 in
theorem kX6_obstruct (w : gm_Wd) (a1 a2 : Int32) (G : Gm) (q : Int32 × Gm) (h : fX6_obstruct a1 a2 G = some q) : gm_C w yX6_obstruct cX6_obstruct 4 (some .int) 4 [.ref (gm_ad w 6 4 0), .int a1, .int a2] G (some (.int q.1)) q.2 := by
  refine gm_start (by decide) (Nat.le_of_ble_eq_true rfl) ?_
  intro x hw C E
  subst hw
  have C : gm_X x cX6_obstruct 4 RX6 (some .int) 4 := C
  unfold fX6_obstruct at h
  refine gm_lv (lv' := [(0, _), (1, _), (2, _)]) rfl ?_
  refine gv_aload_n C rfl 0 rfl dX6_obstruct_0 1 rfl ?_
  refine gf_6_0 C gi_6 lkX6_12 dX6_obstruct_1 4 rfl ?_
  refine gv_iload_n C rfl 1 rfl dX6_obstruct_4 5 rfl ?_
  refine gv_iload_n C rfl 2 rfl dX6_obstruct_5 6 rfl ?_
  obtain ⟨q1, hq1, h⟩ := gm_bd h
  rcases gm_oc h with ⟨eq1, h⟩ | ⟨t2, eq1, h⟩
  · replace hq1 := hq1.trans (congrArg some eq1)
    refine gv_callVn C mc_yX1_blockAt ⟨mi_yX1_blockAt, me_yX1_blockAt⟩ (by decide) mkX6_69 (gi_1 (by decide)) ⟨_, rfl⟩ rfl rfl (kX1_blockAt _ _ (by decide) _ _ _ _ hq1) rfl rfl (Nat.le_of_ble_eq_true rfl) dX6_obstruct_6 9 rfl ?_
    refine gv_astore_nN C rfl [(3, _), (0, _), (1, _), (2, _)] (by decide) rfl dX6_obstruct_9 10 rfl ?_
    refine gv_aload_nN C rfl 0 rfl dX6_obstruct_10 11 rfl ?_
    refine gv_ifnonnullN C dX6_obstruct_11 14 rfl ?_
    refine gv_iconst C (-1) rfl dX6_obstruct_14 15 rfl ?_
    refine gv_goto C dX6_obstruct_15 26 (by decide) ?_
    obtain rfl := Option.some.inj h
    exact gv_iret C E rfl rfl dX6_obstruct_26
  · replace hq1 := hq1.trans (congrArg some eq1)
    refine gv_callVa C mc_yX1_blockAt ⟨mi_yX1_blockAt, me_yX1_blockAt⟩ (by decide) mkX6_69 (gi_1 (by decide)) ⟨_, rfl⟩ rfl rfl (kX1_blockAt _ _ (by decide) _ _ _ _ hq1) rfl rfl (Nat.le_of_ble_eq_true rfl) dX6_obstruct_6 9 rfl ?_
    refine gv_astore_n C rfl [(3, _), (0, _), (1, _), (2, _)] (by decide) rfl dX6_obstruct_9 10 rfl ?_
    refine gv_aload_n C rfl 0 rfl dX6_obstruct_10 11 rfl ?_
    refine gv_ifnonnull C dX6_obstruct_11 18 (by decide) ?_
    refine gv_aload_n C rfl 1 rfl dX6_obstruct_18 19 rfl ?_
    refine gf_6_0 C gi_6 lkX6_12 dX6_obstruct_19 22 rfl ?_
    refine gv_aload_n C rfl 0 rfl dX6_obstruct_22 23 rfl ?_
    obtain ⟨q3, hq3, h⟩ := gm_bd h
    refine gv_callVi C mc_yX1_obstructBlock ⟨mi_yX1_obstructBlock, me_yX1_obstructBlock⟩ (by decide) mkX6_125 (gi_1 (by decide)) ⟨_, rfl⟩ rfl rfl (kX1_obstructBlock _ _ _ (by decide) (bX1_blockAt _ (by decide) _ _ _ _ hq1) _ _ hq3) rfl rfl (Nat.le_of_ble_eq_true rfl) dX6_obstruct_23 26 rfl ?_
    obtain rfl := Option.some.inj h
    exact gv_iret C E rfl rfl dX6_obstruct_26
set_option maxRecDepth 100000 in
set_option maxHeartbeats 4000000 in
theorem kX6_lift (w : gm_Wd) (a1 a2 : Int32) (G : Gm) (q : Int32 × Gm) (h : fX6_lift a1 a2 G = some q) : gm_C w yX6_lift cX6_lift 4 (some .int) 4 [.ref (gm_ad w 6 4 0), .int a1, .int a2] G (some (.int q.1)) q.2 := by
  refine gm_start (by decide) (Nat.le_of_ble_eq_true rfl) ?_
  intro x hw C E
  subst hw
  have C : gm_X x cX6_lift 4 RX6 (some .int) 4 := C
  unfold fX6_lift at h
  refine gm_lv (lv' := [(0, _), (1, _), (2, _)]) rfl ?_
  refine gv_aload_n C rfl 0 rfl dX6_lift_0 1 rfl ?_
  refine gf_6_0 C gi_6 lkX6_12 dX6_lift_1 4 rfl ?_
  refine gv_iload_n C rfl 1 rfl dX6_lift_4 5 rfl ?_
  refine gv_iload_n C rfl 2 rfl dX6_lift_5 6 rfl ?_
  obtain ⟨q1, hq1, h⟩ := gm_bd h
  rcases gm_oc h with ⟨eq1, h⟩ | ⟨t2, eq1, h⟩
  · replace hq1 := hq1.trans (congrArg some eq1)
    refine gv_callVn C mc_yX1_blockAt ⟨mi_yX1_blockAt, me_yX1_blockAt⟩ (by decide) mkX6_69 (gi_1 (by decide)) ⟨_, rfl⟩ rfl rfl (kX1_blockAt _ _ (by decide) _ _ _ _ hq1) rfl rfl (Nat.le_of_ble_eq_true rfl) dX6_lift_6 9 rfl ?_
    refine gv_astore_nN C rfl [(3, _), (0, _), (1, _), (2, _)] (by decide) rfl dX6_lift_9 10 rfl ?_
    refine gv_aload_nN C rfl 0 rfl dX6_lift_10 11 rfl ?_
    refine gv_ifnonnullN C dX6_lift_11 14 rfl ?_
    refine gv_iconst C (-1) rfl dX6_lift_14 15 rfl ?_
    refine gv_goto C dX6_lift_15 26 (by decide) ?_
    obtain rfl := Option.some.inj h
    exact gv_iret C E rfl rfl dX6_lift_26
  · replace hq1 := hq1.trans (congrArg some eq1)
    refine gv_callVa C mc_yX1_blockAt ⟨mi_yX1_blockAt, me_yX1_blockAt⟩ (by decide) mkX6_69 (gi_1 (by decide)) ⟨_, rfl⟩ rfl rfl (kX1_blockAt _ _ (by decide) _ _ _ _ hq1) rfl rfl (Nat.le_of_ble_eq_true rfl) dX6_lift_6 9 rfl ?_
    refine gv_astore_n C rfl [(3, _), (0, _), (1, _), (2, _)] (by decide) rfl dX6_lift_9 10 rfl ?_
    refine gv_aload_n C rfl 0 rfl dX6_lift_10 11 rfl ?_
    refine gv_ifnonnull C dX6_lift_11 18 (by decide) ?_
    refine gv_aload_n C rfl 1 rfl dX6_lift_18 19 rfl ?_
    refine gf_6_0 C gi_6 lkX6_12 dX6_lift_19 22 rfl ?_
    refine gv_aload_n C rfl 0 rfl dX6_lift_22 23 rfl ?_
    obtain ⟨q3, hq3, h⟩ := gm_bd h
    refine gv_callVi C mc_yX1_liftBlock ⟨mi_yX1_liftBlock, me_yX1_liftBlock⟩ (by decide) mkX6_128 (gi_1 (by decide)) ⟨_, rfl⟩ rfl rfl (kX1_liftBlock _ _ _ (by decide) (bX1_blockAt _ (by decide) _ _ _ _ hq1) _ _ hq3) rfl rfl (Nat.le_of_ble_eq_true rfl) dX6_lift_23 26 rfl ?_
    obtain rfl := Option.some.inj h
    exact gv_iret C E rfl rfl dX6_lift_26
set_option maxRecDepth 100000 in
set_option maxHeartbeats 4000000 in
theorem kX6_pass (w : gm_Wd) (a1 : Int32) (G : Gm) (q : Int32 × Gm) (h : fX6_pass a1 G = some q) : gm_C w yX6_pass cX6_pass 2 (some .int) 3 [.ref (gm_ad w 6 4 0), .int a1] G (some (.int q.1)) q.2 := by
  refine gm_start (by decide) (Nat.le_of_ble_eq_true rfl) ?_
  intro x hw C E
  subst hw
  have C : gm_X x cX6_pass 2 RX6 (some .int) 3 := C
  unfold fX6_pass at h
  refine gm_lv (lv' := [(0, _), (1, _)]) rfl ?_
  refine gv_iload_n C rfl 1 rfl dX6_pass_0 1 rfl ?_
  refine gv_iconst C 1 rfl dX6_pass_1 2 rfl ?_
  refine gv_icmp_lt C dX6_pass_2 12 (by decide) 5 rfl (fun c1 => ?_) (fun c1 => ?_)
  · replace h := gm_ip c1 h
    refine gv_bipush C (-2) rfl dX6_pass_12 14 rfl ?_
    obtain rfl := Option.some.inj h
    exact gv_iret C E rfl rfl dX6_pass_14
  · replace h := gm_iq c1 h
    refine gv_iload_n C rfl 1 rfl dX6_pass_5 6 rfl ?_
    refine gv_sipush C 1000 rfl dX6_pass_6 9 rfl ?_
    refine gv_icmp_le C dX6_pass_9 15 (by decide) 12 rfl (fun c2 => ?_) (fun c2 => ?_)
    · replace h := gm_ip c2 h
      refine gv_aload_n C rfl 0 rfl dX6_pass_15 16 rfl ?_
      refine gf_6_0 C gi_6 lkX6_12 dX6_pass_16 19 rfl ?_
      refine gf_1_7 C (gi_1 (by decide)) lkX6_131 dX6_pass_19 22 rfl ?_
      refine gv_iload_n C rfl 1 rfl dX6_pass_22 23 rfl ?_
      refine gv_iadd C dX6_pass_23 24 rfl ?_
      refine gv_ldc C 1000000 knX6_134 dX6_pass_24 26 rfl ?_
      refine gv_icmp_le C dX6_pass_26 32 (by decide) 29 rfl (fun c3 => ?_) (fun c3 => ?_)
      · replace h := gm_ip c3 h
        refine gv_aload_n C rfl 0 rfl dX6_pass_32 33 rfl ?_
        refine gf_6_0 C gi_6 lkX6_12 dX6_pass_33 36 rfl ?_
        refine gv_iload_n C rfl 1 rfl dX6_pass_36 37 rfl ?_
        obtain ⟨q4, hq4, h⟩ := gm_bd h
        refine gv_callVv C mc_yX1_letPass ⟨mi_yX1_letPass, me_yX1_letPass⟩ (by decide) mkX6_135 (gi_1 (by decide)) ⟨_, rfl⟩ rfl rfl (kX1_letPass _ _ (by decide) _ _ _ hq4) rfl rfl (Nat.le_of_ble_eq_true rfl) dX6_pass_37 40 rfl ?_
        refine gv_aload_n C rfl 0 rfl dX6_pass_40 41 rfl ?_
        refine gf_6_0 C gi_6 lkX6_12 dX6_pass_41 44 rfl ?_
        refine gf_1_7 C (gi_1 (by decide)) lkX6_131 dX6_pass_44 47 rfl ?_
        obtain rfl := Option.some.inj h
        exact gv_iret C E rfl rfl dX6_pass_47
      · replace h := gm_iq c3 h
        refine gv_bipush C (-5) rfl dX6_pass_29 31 rfl ?_
        obtain rfl := Option.some.inj h
        exact gv_iret C E rfl rfl dX6_pass_31
    · replace h := gm_iq c2 h
      refine gv_bipush C (-2) rfl dX6_pass_12 14 rfl ?_
      obtain rfl := Option.some.inj h
      exact gv_iret C E rfl rfl dX6_pass_14
set_option maxRecDepth 100000 in
set_option maxHeartbeats 4000000 in
theorem kX6_signal (w : gm_Wd) (a1 a2 : Int32) (G : Gm) (q : Int32) (h : fX6_signal a1 a2 G = some q) : gm_C w yX6_signal cX6_signal 3 (some .int) 3 [.ref (gm_ad w 6 4 0), .int a1, .int a2] G (some (.int q)) G := by
  refine gm_start (by decide) (Nat.le_of_ble_eq_true rfl) ?_
  intro x hw C E
  subst hw
  have C : gm_X x cX6_signal 3 RX6 (some .int) 3 := C
  unfold fX6_signal at h
  refine gm_lv (lv' := [(0, _), (1, _), (2, _)]) rfl ?_
  refine gv_iload_n C rfl 2 rfl dX6_signal_0 1 rfl ?_
  refine gv_if_lt C dX6_signal_1 9 (by decide) 4 rfl (fun c1 => ?_) (fun c1 => ?_)
  · replace h := gm_ip c1 h
    refine gv_bipush C (-2) rfl dX6_signal_9 11 rfl ?_
    obtain rfl := Option.some.inj h
    exact gv_iret C E rfl rfl dX6_signal_11
  · replace h := gm_iq c1 h
    refine gv_iload_n C rfl 2 rfl dX6_signal_4 5 rfl ?_
    refine gv_iconst C 5 rfl dX6_signal_5 6 rfl ?_
    refine gv_icmp_lt C dX6_signal_6 12 (by decide) 9 rfl (fun c2 => ?_) (fun c2 => ?_)
    · replace h := gm_ip c2 h
      refine gv_aload_n C rfl 0 rfl dX6_signal_12 13 rfl ?_
      refine gf_6_0 C gi_6 lkX6_12 dX6_signal_13 16 rfl ?_
      refine gf_1_4 C (gi_1 (by decide)) lkX6_139 dX6_signal_16 19 rfl ?_
      refine gv_iload_n C rfl 1 rfl dX6_signal_19 20 rfl ?_
      refine gv_iload_n C rfl 2 rfl dX6_signal_20 21 rfl ?_
      obtain ⟨q3, hq3, h⟩ := gm_bd h
      refine gv_callVi C mc_yX3_property ⟨mi_yX3_property, me_yX3_property⟩ (by decide) mkX6_143 (gi_3 (by decide)) ⟨_, rfl⟩ rfl rfl (kX3_property _ _ (by decide) _ _ _ _ hq3) rfl rfl (Nat.le_of_ble_eq_true rfl) dX6_signal_21 24 rfl ?_
      obtain rfl := Option.some.inj h
      exact gv_iret C E rfl rfl dX6_signal_24
    · replace h := gm_iq c2 h
      refine gv_bipush C (-2) rfl dX6_signal_9 11 rfl ?_
      obtain rfl := Option.some.inj h
      exact gv_iret C E rfl rfl dX6_signal_11
set_option maxRecDepth 100000 in
set_option maxHeartbeats 4000000 in
theorem kX6_rung (w : gm_Wd) (a1 a2 : Int32) (G : Gm) (q : Int32) (h : fX6_rung a1 a2 G = some q) : gm_C w yX6_rung cX6_rung 3 (some .int) 3 [.ref (gm_ad w 6 4 0), .int a1, .int a2] G (some (.int q)) G := by
  refine gm_start (by decide) (Nat.le_of_ble_eq_true rfl) ?_
  intro x hw C E
  subst hw
  have C : gm_X x cX6_rung 3 RX6 (some .int) 3 := C
  unfold fX6_rung at h
  refine gm_lv (lv' := [(0, _), (1, _), (2, _)]) rfl ?_
  refine gv_iload_n C rfl 2 rfl dX6_rung_0 1 rfl ?_
  refine gv_iconst C (-1) rfl dX6_rung_1 2 rfl ?_
  refine gv_icmp_eq C dX6_rung_2 18 (by decide) 5 rfl (fun c1 => ?_) (fun c1 => ?_)
  · replace h := gm_ip c1 h
    refine gv_aload_n C rfl 0 rfl dX6_rung_18 19 rfl ?_
    refine gf_6_0 C gi_6 lkX6_12 dX6_rung_19 22 rfl ?_
    refine gf_1_4 C (gi_1 (by decide)) lkX6_139 dX6_rung_22 25 rfl ?_
    refine gv_iload_n C rfl 1 rfl dX6_rung_25 26 rfl ?_
    refine gv_iload_n C rfl 2 rfl dX6_rung_26 27 rfl ?_
    obtain ⟨q2, hq2, h⟩ := gm_bd h
    refine gv_callVi C mc_yX3_countOf ⟨mi_yX3_countOf, me_yX3_countOf⟩ (by decide) mkX6_147 (gi_3 (by decide)) ⟨_, rfl⟩ rfl rfl (kX3_countOf _ _ (by decide) _ _ _ _ hq2) rfl rfl (Nat.le_of_ble_eq_true rfl) dX6_rung_27 30 rfl ?_
    obtain rfl := Option.some.inj h
    exact gv_iret C E rfl rfl dX6_rung_30
  · replace h := gm_iq c1 h
    refine gv_aload_n C rfl 0 rfl dX6_rung_5 6 rfl ?_
    refine gf_6_0 C gi_6 lkX6_12 dX6_rung_6 9 rfl ?_
    refine gv_iload_n C rfl 2 rfl dX6_rung_9 10 rfl ?_
    obtain ⟨q3, hq3, h⟩ := gm_bd h
    rcases gm_oc h with ⟨eq3, h⟩ | ⟨t4, eq3, h⟩
    · replace hq3 := hq3.trans (congrArg some eq3)
      refine gv_callVn C mc_yX1_sectionAt ⟨mi_yX1_sectionAt, me_yX1_sectionAt⟩ (by decide) mkX6_42 (gi_1 (by decide)) ⟨_, rfl⟩ rfl rfl (kX1_sectionAt _ _ (by decide) _ _ _ hq3) rfl rfl (Nat.le_of_ble_eq_true rfl) dX6_rung_10 13 rfl ?_
      refine gv_ifnonnullN C dX6_rung_13 16 rfl ?_
      refine gv_iconst C (-1) rfl dX6_rung_16 17 rfl ?_
      obtain rfl := Option.some.inj h
      exact gv_iret C E rfl rfl dX6_rung_17
    · replace hq3 := hq3.trans (congrArg some eq3)
      refine gv_callVa C mc_yX1_sectionAt ⟨mi_yX1_sectionAt, me_yX1_sectionAt⟩ (by decide) mkX6_42 (gi_1 (by decide)) ⟨_, rfl⟩ rfl rfl (kX1_sectionAt _ _ (by decide) _ _ _ hq3) rfl rfl (Nat.le_of_ble_eq_true rfl) dX6_rung_10 13 rfl ?_
      refine gv_ifnonnull C dX6_rung_13 18 (by decide) ?_
      refine gv_aload_n C rfl 0 rfl dX6_rung_18 19 rfl ?_
      refine gf_6_0 C gi_6 lkX6_12 dX6_rung_19 22 rfl ?_
      refine gf_1_4 C (gi_1 (by decide)) lkX6_139 dX6_rung_22 25 rfl ?_
      refine gv_iload_n C rfl 1 rfl dX6_rung_25 26 rfl ?_
      refine gv_iload_n C rfl 2 rfl dX6_rung_26 27 rfl ?_
      obtain ⟨q5, hq5, h⟩ := gm_bd h
      refine gv_callVi C mc_yX3_countOf ⟨mi_yX3_countOf, me_yX3_countOf⟩ (by decide) mkX6_147 (gi_3 (by decide)) ⟨_, rfl⟩ rfl rfl (kX3_countOf _ _ (by decide) _ _ _ _ hq5) rfl rfl (Nat.le_of_ble_eq_true rfl) dX6_rung_27 30 rfl ?_
      obtain rfl := Option.some.inj h
      exact gv_iret C E rfl rfl dX6_rung_30
set_option maxRecDepth 100000 in
set_option maxHeartbeats 4000000 in
theorem kX6_work (w : gm_Wd) (a1 : Int32) (G : Gm) (q : Int32 × Gm) (h : fX6_work a1 G = some q) : gm_C w yX6_work cX6_work 4 (some .int) 6 [.ref (gm_ad w 6 4 0), .int a1] G (some (.int q.1)) q.2 := by
  refine gm_start (by decide) (Nat.le_of_ble_eq_true rfl) ?_
  intro x hw C E
  subst hw
  have C : gm_X x cX6_work 4 RX6 (some .int) 6 := C
  unfold fX6_work at h
  have L36 : ∀ (n36 : Nat) (v2 v3 : Int32) (G : Gm), fX6_work_h36 a1 n36 v2 v3 G = some q → gm_V x G 36 [(0, .ref (gm_ad (cx_w x) 6 4 0)), (1, .int a1), (2, .int v2), (3, .int v3)] [] := by
    intro n36
    induction n36 with
    | zero => intro v2 v3 G h; cases h
    | succ n36 ih36 =>
      intro v2 v3 G h
      rw [fX6_work_h36.eq_2] at h
      refine gv_iload_n C rfl 3 rfl dX6_work_36 37 rfl ?_
      refine gv_iload_n C rfl 1 rfl dX6_work_37 38 rfl ?_
      refine gv_icmp_ge C dX6_work_38 57 (by decide) 41 rfl (fun c4 => ?_) (fun c4 => ?_)
      · replace h := gm_ip c4 h
        refine gv_iload_n C rfl 2 rfl dX6_work_57 58 rfl ?_
        obtain rfl := Option.some.inj h
        exact gv_iret C E rfl rfl dX6_work_58
      · replace h := gm_iq c4 h
        refine gv_iload_n C rfl 2 rfl dX6_work_41 42 rfl ?_
        refine gv_aload_n C rfl 0 rfl dX6_work_42 43 rfl ?_
        refine gf_6_0 C gi_6 lkX6_12 dX6_work_43 46 rfl ?_
        obtain ⟨q5, hq5, h⟩ := gm_bd h
        refine gv_callVi C mc_yX1_workTick ⟨mi_yX1_workTick, me_yX1_workTick⟩ (by decide) mkX6_150 (gi_1 (by decide)) ⟨_, rfl⟩ rfl rfl (kX1_workTick _ _ (by decide) _ _ hq5) rfl rfl (Nat.le_of_ble_eq_true rfl) dX6_work_46 49 rfl ?_
        refine gv_iadd C dX6_work_49 50 rfl ?_
        refine gv_istore_n C rfl [(2, _), (0, _), (1, _), (3, _)] (by decide) rfl dX6_work_50 51 rfl ?_
        refine gv_iinc C 3 rfl rfl [(3, _), (2, _), (0, _), (1, _)] (by decide) rfl dX6_work_51 54 rfl ?_
        refine gv_goto C dX6_work_54 36 (by decide) ?_
        refine gm_ls [2, 3, 1, 0] rfl ?_
        exact ih36 _ _ _ h
  refine gm_lv (lv' := [(0, _), (1, _)]) rfl ?_
  refine gv_iload_n C rfl 1 rfl dX6_work_0 1 rfl ?_
  refine gv_iconst C 1 rfl dX6_work_1 2 rfl ?_
  refine gv_icmp_lt C dX6_work_2 12 (by decide) 5 rfl (fun c1 => ?_) (fun c1 => ?_)
  · replace h := gm_ip c1 h
    refine gv_bipush C (-2) rfl dX6_work_12 14 rfl ?_
    obtain rfl := Option.some.inj h
    exact gv_iret C E rfl rfl dX6_work_14
  · replace h := gm_iq c1 h
    refine gv_iload_n C rfl 1 rfl dX6_work_5 6 rfl ?_
    refine gv_sipush C 300 rfl dX6_work_6 9 rfl ?_
    refine gv_icmp_le C dX6_work_9 15 (by decide) 12 rfl (fun c2 => ?_) (fun c2 => ?_)
    · replace h := gm_ip c2 h
      refine gv_aload_n C rfl 0 rfl dX6_work_15 16 rfl ?_
      refine gf_6_0 C gi_6 lkX6_12 dX6_work_16 19 rfl ?_
      refine gf_1_7 C (gi_1 (by decide)) lkX6_131 dX6_work_19 22 rfl ?_
      refine gv_iload_n C rfl 1 rfl dX6_work_22 23 rfl ?_
      refine gv_iadd C dX6_work_23 24 rfl ?_
      refine gv_ldc C 1000000 knX6_134 dX6_work_24 26 rfl ?_
      refine gv_icmp_le C dX6_work_26 32 (by decide) 29 rfl (fun c3 => ?_) (fun c3 => ?_)
      · replace h := gm_ip c3 h
        refine gv_iconst C 0 rfl dX6_work_32 33 rfl ?_
        refine gv_istore_n C rfl [(2, _), (0, _), (1, _)] (by decide) rfl dX6_work_33 34 rfl ?_
        refine gv_iconst C 0 rfl dX6_work_34 35 rfl ?_
        refine gv_istore_n C rfl [(3, _), (2, _), (0, _), (1, _)] (by decide) rfl dX6_work_35 36 rfl ?_
        refine gm_ls [2, 3, 1, 0] rfl ?_
        exact L36 _ _ _ _ h
      · replace h := gm_iq c3 h
        refine gv_bipush C (-5) rfl dX6_work_29 31 rfl ?_
        obtain rfl := Option.some.inj h
        exact gv_iret C E rfl rfl dX6_work_31
    · replace h := gm_iq c2 h
      refine gv_bipush C (-2) rfl dX6_work_12 14 rfl ?_
      obtain rfl := Option.some.inj h
      exact gv_iret C E rfl rfl dX6_work_14
set_option maxRecDepth 100000 in
set_option maxHeartbeats 4000000 in
theorem kX6_forecast (w : gm_Wd) (a1 a2 : Int32) (G : Gm) (q : Int32 × Gm) (h : fX6_forecast a1 a2 G = some q) : gm_C w yX6_forecast cX6_forecast 4 (some .int) 6 [.ref (gm_ad w 6 4 0), .int a1, .int a2] G (some (.int q.1)) q.2 := by
  refine gm_start (by decide) (Nat.le_of_ble_eq_true rfl) ?_
  intro x hw C E
  subst hw
  have C : gm_X x cX6_forecast 4 RX6 (some .int) 6 := C
  unfold fX6_forecast at h
  have L41 : ∀ (n41 : Nat) (v3 : Int32) (G : Gm), fX6_forecast_h41 a1 a2 n41 v3 G = some q → gm_V x G 41 [(0, .ref (gm_ad (cx_w x) 6 4 0)), (1, .int a1), (2, .int a2), (3, .int v3)] [] := by
    intro n41
    induction n41 with
    | zero => intro v3 G h; cases h
    | succ n41 ih41 =>
      intro v3 G h
      rw [fX6_forecast_h41.eq_2] at h
      refine gv_iload_n C rfl 3 rfl dX6_forecast_41 42 rfl ?_
      refine gv_iload_n C rfl 2 rfl dX6_forecast_42 43 rfl ?_
      refine gv_icmp_ge C dX6_forecast_43 73 (by decide) 46 rfl (fun c6 => ?_) (fun c6 => ?_)
      · replace h := gm_ip c6 h
        refine gv_aload_n C rfl 0 rfl dX6_forecast_73 74 rfl ?_
        refine gf_6_1 C gi_6 lkX6_16 dX6_forecast_74 77 rfl ?_
        refine gv_iload_n C rfl 1 rfl dX6_forecast_77 78 rfl ?_
        obtain ⟨q7, hq7, h⟩ := gm_bd h
        refine gv_callVi C mc_yX1_isGone ⟨mi_yX1_isGone, me_yX1_isGone⟩ (by decide) mkX6_158 (gi_1 (by decide)) ⟨_, rfl⟩ rfl rfl (kX1_isGone _ _ (by decide) _ _ _ hq7) rfl rfl (Nat.le_of_ble_eq_true rfl) dX6_forecast_78 81 rfl ?_
        refine gv_if_eq C dX6_forecast_81 88 (by decide) 84 rfl (fun c8 => ?_) (fun c8 => ?_)
        · replace h := gm_ip c8 h
          refine gv_bipush C (-6) rfl dX6_forecast_88 90 rfl ?_
          obtain rfl := Option.some.inj h
          exact gv_iret C E rfl rfl dX6_forecast_90
        · replace h := gm_iq c8 h
          refine gv_iload_n C rfl 2 rfl dX6_forecast_84 85 rfl ?_
          refine gv_goto C dX6_forecast_85 90 (by decide) ?_
          obtain rfl := Option.some.inj h
          exact gv_iret C E rfl rfl dX6_forecast_90
      · replace h := gm_iq c6 h
        refine gv_aload_n C rfl 0 rfl dX6_forecast_46 47 rfl ?_
        refine gf_6_1 C gi_6 lkX6_16 dX6_forecast_47 50 rfl ?_
        refine gv_iload_n C rfl 1 rfl dX6_forecast_50 51 rfl ?_
        obtain ⟨q9, hq9, h⟩ := gm_bd h
        refine gv_callVi C mc_yX1_isGone ⟨mi_yX1_isGone, me_yX1_isGone⟩ (by decide) mkX6_158 (gi_1 (by decide)) ⟨_, rfl⟩ rfl rfl (kX1_isGone _ _ (by decide) _ _ _ hq9) rfl rfl (Nat.le_of_ble_eq_true rfl) dX6_forecast_51 54 rfl ?_
        refine gv_if_eq C dX6_forecast_54 59 (by decide) 57 rfl (fun c10 => ?_) (fun c10 => ?_)
        · replace h := gm_ip c10 h
          refine gv_aload_n C rfl 0 rfl dX6_forecast_59 60 rfl ?_
          refine gf_6_1 C gi_6 lkX6_16 dX6_forecast_60 63 rfl ?_
          obtain ⟨q11, hq11, h⟩ := gm_bd h
          refine gv_callVi C mc_yX1_workTick ⟨mi_yX1_workTick, me_yX1_workTick⟩ (by decide) mkX6_150 (gi_1 (by decide)) ⟨_, rfl⟩ rfl rfl (kX1_workTick _ _ (by decide) _ _ hq11) rfl rfl (Nat.le_of_ble_eq_true rfl) dX6_forecast_63 66 rfl ?_
          refine gv_pop C rfl dX6_forecast_66 67 rfl ?_
          refine gv_iinc C 3 rfl rfl [(3, _), (0, _), (1, _), (2, _)] (by decide) rfl dX6_forecast_67 70 rfl ?_
          refine gv_goto C dX6_forecast_70 41 (by decide) ?_
          refine gm_ls [1, 2, 3, 0] rfl ?_
          exact ih41 _ _ h
        · replace h := gm_iq c10 h
          refine gv_iload_n C rfl 3 rfl dX6_forecast_57 58 rfl ?_
          obtain rfl := Option.some.inj h
          exact gv_iret C E rfl rfl dX6_forecast_58
  refine gm_lv (lv' := [(0, _), (1, _), (2, _)]) rfl ?_
  refine gv_aload_n C rfl 0 rfl dX6_forecast_0 1 rfl ?_
  refine gf_6_0 C gi_6 lkX6_12 dX6_forecast_1 4 rfl ?_
  refine gv_iload_n C rfl 1 rfl dX6_forecast_4 5 rfl ?_
  obtain ⟨q1, hq1, h⟩ := gm_bd h
  rcases gm_oc h with ⟨eq1, h⟩ | ⟨t2, eq1, h⟩
  · replace hq1 := hq1.trans (congrArg some eq1)
    refine gv_callVn C mc_yX1_trainAt ⟨mi_yX1_trainAt, me_yX1_trainAt⟩ (by decide) mkX6_83 (gi_1 (by decide)) ⟨_, rfl⟩ rfl rfl (kX1_trainAt _ _ (by decide) _ _ _ hq1) rfl rfl (Nat.le_of_ble_eq_true rfl) dX6_forecast_5 8 rfl ?_
    refine gv_ifnonnullN C dX6_forecast_8 11 rfl ?_
    refine gv_iconst C (-1) rfl dX6_forecast_11 12 rfl ?_
    obtain rfl := Option.some.inj h
    exact gv_iret C E rfl rfl dX6_forecast_12
  · replace hq1 := hq1.trans (congrArg some eq1)
    refine gv_callVa C mc_yX1_trainAt ⟨mi_yX1_trainAt, me_yX1_trainAt⟩ (by decide) mkX6_83 (gi_1 (by decide)) ⟨_, rfl⟩ rfl rfl (kX1_trainAt _ _ (by decide) _ _ _ hq1) rfl rfl (Nat.le_of_ble_eq_true rfl) dX6_forecast_5 8 rfl ?_
    refine gv_ifnonnull C dX6_forecast_8 13 (by decide) ?_
    refine gv_iload_n C rfl 2 rfl dX6_forecast_13 14 rfl ?_
    refine gv_iconst C 1 rfl dX6_forecast_14 15 rfl ?_
    refine gv_icmp_lt C dX6_forecast_15 25 (by decide) 18 rfl (fun c3 => ?_) (fun c3 => ?_)
    · replace h := gm_ip c3 h
      refine gv_bipush C (-2) rfl dX6_forecast_25 27 rfl ?_
      obtain rfl := Option.some.inj h
      exact gv_iret C E rfl rfl dX6_forecast_27
    · replace h := gm_iq c3 h
      refine gv_iload_n C rfl 2 rfl dX6_forecast_18 19 rfl ?_
      refine gv_sipush C 500 rfl dX6_forecast_19 22 rfl ?_
      refine gv_icmp_le C dX6_forecast_22 28 (by decide) 25 rfl (fun c4 => ?_) (fun c4 => ?_)
      · replace h := gm_ip c4 h
        refine gv_aload_n C rfl 0 rfl dX6_forecast_28 29 rfl ?_
        refine gf_6_1 C gi_6 lkX6_16 dX6_forecast_29 32 rfl ?_
        refine gv_aload_n C rfl 0 rfl dX6_forecast_32 33 rfl ?_
        refine gf_6_0 C gi_6 lkX6_12 dX6_forecast_33 36 rfl ?_
        obtain ⟨q5, hq5, h⟩ := gm_bd h
        refine gv_callVv C mc_yX1_copyFrom ⟨mi_yX1_copyFrom, me_yX1_copyFrom⟩ (by decide) mkX6_154 (gi_1 (by decide)) ⟨_, rfl⟩ rfl rfl (kX1_copyFrom _ _ _ (by decide) (by decide) _ _ hq5) rfl rfl (Nat.le_of_ble_eq_true rfl) dX6_forecast_36 39 rfl ?_
        refine gv_iconst C 0 rfl dX6_forecast_39 40 rfl ?_
        refine gv_istore_n C rfl [(3, _), (0, _), (1, _), (2, _)] (by decide) rfl dX6_forecast_40 41 rfl ?_
        refine gm_ls [1, 2, 3, 0] rfl ?_
        exact L41 _ _ _ h
      · replace h := gm_iq c4 h
        refine gv_bipush C (-2) rfl dX6_forecast_25 27 rfl ?_
        obtain rfl := Option.some.inj h
        exact gv_iret C E rfl rfl dX6_forecast_27
