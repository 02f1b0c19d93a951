set_option maxRecDepth 100000 in
set_option maxHeartbeats 4000000 in
theorem kX4_layOut (w : gm_Wd) (l j : Nat) (hl : l < 4) (hj : j < 5) (a1 : Int32) (G : Gm) (q : Gm) (h : fX4_layOut l j a1 G = some q) : gm_C w yX4_layOut cX4_layOut 2 none 0 [.ref (gm_ad w 4 l j), .int a1] G none q := by
  refine gm_start (by decide) (Nat.le_of_ble_eq_true rfl) ?_
  intro x hw C E
  subst hw
  have C : gm_X x cX4_layOut 2 RX4 none 0 := C
  unfold fX4_layOut at h
  refine gm_lv (lv' := [(0, _), (1, _)]) rfl ?_
  refine gv_aload_n C rfl 0 rfl dX4_layOut_0 1 rfl ?_
  refine gv_iload_n C rfl 1 rfl dX4_layOut_1 2 rfl ?_
  obtain ⟨g1, h⟩ := gm_gp h
  refine pf_4_1 C (gi_4 hl hj) g1 lkX4_15 dX4_layOut_2 5 rfl ?_
  refine gv_aload_n C rfl 0 rfl dX4_layOut_5 6 rfl ?_
  refine gv_iconst C 5 rfl dX4_layOut_6 7 rfl ?_
  refine pf_4_2 C (gi_4 hl hj) lkX4_19 dX4_layOut_7 10 rfl ?_
  refine gv_aload_n C rfl 0 rfl dX4_layOut_10 11 rfl ?_
  refine gv_iload_n C rfl 1 rfl dX4_layOut_11 12 rfl ?_
  refine gv_if_eq C dX4_layOut_12 19 (by decide) 15 rfl (fun c2 => ?_) (fun c2 => ?_)
  · replace h := gm_ip c2 h
    refine gv_iconst C 0 rfl dX4_layOut_19 20 rfl ?_
    refine pf_4_3 C (gi_4 hl hj) lkX4_22 dX4_layOut_20 23 rfl ?_
    refine gv_aload_n C rfl 0 rfl dX4_layOut_23 24 rfl ?_
    refine gv_aload_n C rfl 0 rfl dX4_layOut_24 25 rfl ?_
    refine gf_4_3 C (gi_4 hl hj) lkX4_22 dX4_layOut_25 28 rfl ?_
    refine pf_4_4 C (gi_4 hl hj) lkX4_25 dX4_layOut_28 31 rfl ?_
    obtain rfl := Option.some.inj h
    exact gv_vret C E rfl rfl dX4_layOut_31
  · replace h := gm_iq c2 h
    refine gv_iconst C 5 rfl dX4_layOut_15 16 rfl ?_
    refine gv_goto C dX4_layOut_16 20 (by decide) ?_
    refine pf_4_3 C (gi_4 hl hj) lkX4_22 dX4_layOut_20 23 rfl ?_
    refine gv_aload_n C rfl 0 rfl dX4_layOut_23 24 rfl ?_
    refine gv_aload_n C rfl 0 rfl dX4_layOut_24 25 rfl ?_
    refine gf_4_3 C (gi_4 hl hj) lkX4_22 dX4_layOut_25 28 rfl ?_
    refine pf_4_4 C (gi_4 hl hj) lkX4_25 dX4_layOut_28 31 rfl ?_
    obtain rfl := Option.some.inj h
    exact gv_vret C E rfl rfl dX4_layOut_31
set_option maxRecDepth 100000 in
set_option maxHeartbeats 4000000 in
theorem kX4_moveUp (w : gm_Wd) (l j : Nat) (hl : l < 4) (hj : j < 5) (a1 : Int32) (G : Gm) (q : Int32 × Gm) (h : fX4_moveUp l j a1 G = some q) : gm_C w yX4_moveUp cX4_moveUp 2 (some .int) 0 [.ref (gm_ad w 4 l j), .int a1] G (some (.int q.1)) q.2 := by
  refine gm_start (by decide) (Nat.le_of_ble_eq_true rfl) ?_
  intro x hw C E
  subst hw
  have C : gm_X x cX4_moveUp 2 RX4 (some .int) 0 := C
  unfold fX4_moveUp at h
  refine gm_lv (lv' := [(0, _), (1, _)]) rfl ?_
  refine gv_aload_n C rfl 0 rfl dX4_moveUp_0 1 rfl ?_
  refine gf_4_1 C (gi_4 hl hj) lkX4_15 dX4_moveUp_1 4 rfl ?_
  refine gv_if_eq C dX4_moveUp_4 25 (by decide) 7 rfl (fun c1 => ?_) (fun c1 => ?_)
  · replace h := gm_ip c1 h
    refine gv_bipush C (-5) rfl dX4_moveUp_25 27 rfl ?_
    obtain rfl := Option.some.inj h
    exact gv_iret C E rfl rfl dX4_moveUp_27
  · replace h := gm_iq c1 h
    refine gv_aload_n C rfl 0 rfl dX4_moveUp_7 8 rfl ?_
    refine gf_4_3 C (gi_4 hl hj) lkX4_22 dX4_moveUp_8 11 rfl ?_
    refine gv_iload_n C rfl 1 rfl dX4_moveUp_11 12 rfl ?_
    refine gv_isub C dX4_moveUp_12 13 rfl ?_
    refine gv_if_lt C dX4_moveUp_13 25 (by decide) 16 rfl (fun c2 => ?_) (fun c2 => ?_)
    · replace h := gm_ip c2 h
      refine gv_bipush C (-5) rfl dX4_moveUp_25 27 rfl ?_
      obtain rfl := Option.some.inj h
      exact gv_iret C E rfl rfl dX4_moveUp_27
    · replace h := gm_iq c2 h
      refine gv_aload_n C rfl 0 rfl dX4_moveUp_16 17 rfl ?_
      refine gf_4_4 C (gi_4 hl hj) lkX4_25 dX4_moveUp_17 20 rfl ?_
      refine gv_iload_n C rfl 1 rfl dX4_moveUp_20 21 rfl ?_
      refine gv_iadd C dX4_moveUp_21 22 rfl ?_
      refine gv_if_ge C dX4_moveUp_22 28 (by decide) 25 rfl (fun c3 => ?_) (fun c3 => ?_)
      · replace h := gm_ip c3 h
        refine gv_aload_n C rfl 0 rfl dX4_moveUp_28 29 rfl ?_
        refine gv_dup C rfl dX4_moveUp_29 30 rfl ?_
        refine gf_4_3 C (gi_4 hl hj) lkX4_22 dX4_moveUp_30 33 rfl ?_
        refine gv_iload_n C rfl 1 rfl dX4_moveUp_33 34 rfl ?_
        refine gv_isub C dX4_moveUp_34 35 rfl ?_
        refine pf_4_3 C (gi_4 hl hj) lkX4_22 dX4_moveUp_35 38 rfl ?_
        refine gv_aload_n C rfl 0 rfl dX4_moveUp_38 39 rfl ?_
        refine gv_dup C rfl dX4_moveUp_39 40 rfl ?_
        refine gf_4_4 C (gi_4 hl hj) lkX4_25 dX4_moveUp_40 43 rfl ?_
        refine gv_iload_n C rfl 1 rfl dX4_moveUp_43 44 rfl ?_
        refine gv_iadd C dX4_moveUp_44 45 rfl ?_
        refine pf_4_4 C (gi_4 hl hj) lkX4_25 dX4_moveUp_45 48 rfl ?_
        refine gv_aload_n C rfl 0 rfl dX4_moveUp_48 49 rfl ?_
        refine gf_4_3 C (gi_4 hl hj) lkX4_22 dX4_moveUp_49 52 rfl ?_
        obtain rfl := Option.some.inj h
        exact gv_iret C E rfl rfl dX4_moveUp_52
      · replace h := gm_iq c3 h
        refine gv_bipush C (-5) rfl dX4_moveUp_25 27 rfl ?_
        obtain rfl := Option.some.inj h
        exact gv_iret C E rfl rfl dX4_moveUp_27
set_option maxRecDepth 100000 in
set_option maxHeartbeats 4000000 in
theorem kX4_property (w : gm_Wd) (l j : Nat) (hl : l < 4) (hj : j < 5) (a1 : Int32) (G : Gm) (q : Int32) (h : fX4_property l j a1 G = some q) : gm_C w yX4_property cX4_property 2 (some .int) 0 [.ref (gm_ad w 4 l j), .int a1] G (some (.int q)) G := by
  refine gm_start (by decide) (Nat.le_of_ble_eq_true rfl) ?_
  intro x hw C E
  subst hw
  have C : gm_X x cX4_property 2 RX4 (some .int) 0 := C
  unfold fX4_property at h
  refine gm_lv (lv' := [(0, _), (1, _)]) rfl ?_
  refine gv_iload_n C rfl 1 rfl dX4_property_0 1 rfl ?_
  by_cases c1 : a1 = 0
  · replace h := gm_ip c1 h
    refine gv_tableIn C 0 c1 dX4_property_1 (by decide) (by decide) (o := 35) (by decide) 36 (by decide) ?_
    refine gv_aload_n C rfl 0 rfl dX4_property_36 37 rfl ?_
    refine gf_4_1 C (gi_4 hl hj) lkX4_15 dX4_property_37 40 rfl ?_
    refine gv_if_eq C dX4_property_40 47 (by decide) 43 rfl (fun c7 => ?_) (fun c7 => ?_)
    · replace h := gm_ip c7 h
      refine gv_iconst C 0 rfl dX4_property_47 48 rfl ?_
      obtain rfl := Option.some.inj h
      exact gv_iret C E rfl rfl dX4_property_48
    · replace h := gm_iq c7 h
      refine gv_iconst C 1 rfl dX4_property_43 44 rfl ?_
      refine gv_goto C dX4_property_44 48 (by decide) ?_
      obtain rfl := Option.some.inj h
      exact gv_iret C E rfl rfl dX4_property_48
  · replace h := gm_iq c1 h
    by_cases c2 : a1 = 1
    · replace h := gm_ip c2 h
      refine gv_tableIn C 1 c2 dX4_property_1 (by decide) (by decide) (o := 48) (by decide) 49 (by decide) ?_
      refine gv_aload_n C rfl 0 rfl dX4_property_49 50 rfl ?_
      refine gf_4_2 C (gi_4 hl hj) lkX4_19 dX4_property_50 53 rfl ?_
      obtain rfl := Option.some.inj h
      exact gv_iret C E rfl rfl dX4_property_53
    · replace h := gm_iq c2 h
      by_cases c3 : a1 = 2
      · replace h := gm_ip c3 h
        refine gv_tableIn C 2 c3 dX4_property_1 (by decide) (by decide) (o := 53) (by decide) 54 (by decide) ?_
        refine gv_aload_n C rfl 0 rfl dX4_property_54 55 rfl ?_
        refine gf_4_3 C (gi_4 hl hj) lkX4_22 dX4_property_55 58 rfl ?_
        obtain rfl := Option.some.inj h
        exact gv_iret C E rfl rfl dX4_property_58
      · replace h := gm_iq c3 h
        by_cases c4 : a1 = 3
        · replace h := gm_ip c4 h
          refine gv_tableIn C 3 c4 dX4_property_1 (by decide) (by decide) (o := 58) (by decide) 59 (by decide) ?_
          refine gv_aload_n C rfl 0 rfl dX4_property_59 60 rfl ?_
          refine gf_4_4 C (gi_4 hl hj) lkX4_25 dX4_property_60 63 rfl ?_
          obtain rfl := Option.some.inj h
          exact gv_iret C E rfl rfl dX4_property_63
        · replace h := gm_iq c4 h
          by_cases c5 : a1 = 4
          · replace h := gm_ip c5 h
            refine gv_tableIn C 4 c5 dX4_property_1 (by decide) (by decide) (o := 63) (by decide) 64 (by decide) ?_
            refine gv_aload_n C rfl 0 rfl dX4_property_64 65 rfl ?_
            refine gf_4_5 C (gi_4 hl hj) lkX4_28 dX4_property_65 68 rfl ?_
            refine gv_if_eq C dX4_property_68 75 (by decide) 71 rfl (fun c6 => ?_) (fun c6 => ?_)
            · replace h := gm_ip c6 h
              refine gv_iconst C 0 rfl dX4_property_75 76 rfl ?_
              obtain rfl := Option.some.inj h
              exact gv_iret C E rfl rfl dX4_property_76
            · replace h := gm_iq c6 h
              refine gv_iconst C 1 rfl dX4_property_71 72 rfl ?_
              refine gv_goto C dX4_property_72 76 (by decide) ?_
              obtain rfl := Option.some.inj h
              exact gv_iret C E rfl rfl dX4_property_76
          · replace h := gm_iq c5 h
            refine gv_tableD C dX4_property_1 [0, 1, 2, 3, 4] (by decide) (by decide) (List.forall_mem_cons.mpr ⟨lv_neT c1 rfl, (List.forall_mem_cons.mpr ⟨lv_neT c2 rfl, (List.forall_mem_cons.mpr ⟨lv_neT c3 rfl, (List.forall_mem_cons.mpr ⟨lv_neT c4 rfl, (List.forall_mem_cons.mpr ⟨lv_neT c5 rfl, (fun _ h => absurd h List.not_mem_nil)⟩)⟩)⟩)⟩)⟩) 77 (by decide) ?_
            refine gv_bipush C (-2) rfl dX4_property_77 79 rfl ?_
            obtain rfl := Option.some.inj h
            exact gv_iret C E rfl rfl dX4_property_79
set_option maxRecDepth 100000 in
set_option maxHeartbeats 4000000 in
theorem kX4_hasToken (w : gm_Wd) (l j : Nat) (hl : l < 4) (hj : j < 5) (a1 : Int32) (G : Gm) (q : Int32) (h : fX4_hasToken l j a1 G = some q) : gm_C w yX4_hasToken cX4_hasToken 2 (some .boolean) 0 [.ref (gm_ad w 4 l j), .int a1] G (some (.int q)) G := by
  refine gm_start (by decide) (Nat.le_of_ble_eq_true rfl) ?_
  intro x hw C E
  subst hw
  have C : gm_X x cX4_hasToken 2 RX4 (some .boolean) 0 := C
  unfold fX4_hasToken at h
  refine gm_lv (lv' := [(0, _), (1, _)]) rfl ?_
  refine gv_iload_n C rfl 1 rfl dX4_hasToken_0 1 rfl ?_
  refine gv_if_ne C dX4_hasToken_1 11 (by decide) 4 rfl (fun c1 => ?_) (fun c1 => ?_)
  · replace h := gm_ip c1 h
    refine gv_aload_n C rfl 0 rfl dX4_hasToken_4 5 rfl ?_
    refine gf_4_3 C (gi_4 hl hj) lkX4_22 dX4_hasToken_5 8 rfl ?_
    refine gv_goto C dX4_hasToken_8 15 (by decide) ?_
    refine gv_if_le C dX4_hasToken_15 22 (by decide) 18 rfl (fun c2 => ?_) (fun c2 => ?_)
    · replace h := gm_ip c2 h
      refine gv_iconst C 0 rfl dX4_hasToken_22 23 rfl ?_
      obtain rfl := Option.some.inj h
      exact gv_zret C E (Or.inl rfl) rfl rfl dX4_hasToken_23
    · replace h := gm_iq c2 h
      refine gv_iconst C 1 rfl dX4_hasToken_18 19 rfl ?_
      refine gv_goto C dX4_hasToken_19 23 (by decide) ?_
      obtain rfl := Option.some.inj h
      exact gv_zret C E (Or.inr rfl) rfl rfl dX4_hasToken_23
  · replace h := gm_iq c1 h
    refine gv_aload_n C rfl 0 rfl dX4_hasToken_11 12 rfl ?_
    refine gf_4_4 C (gi_4 hl hj) lkX4_25 dX4_hasToken_12 15 rfl ?_
    refine gv_if_le C dX4_hasToken_15 22 (by decide) 18 rfl (fun c3 => ?_) (fun c3 => ?_)
    · replace h := gm_ip c3 h
      refine gv_iconst C 0 rfl dX4_hasToken_22 23 rfl ?_
      obtain rfl := Option.some.inj h
      exact gv_zret C E (Or.inl rfl) rfl rfl dX4_hasToken_23
    · replace h := gm_iq c3 h
      refine gv_iconst C 1 rfl dX4_hasToken_18 19 rfl ?_
      refine gv_goto C dX4_hasToken_19 23 (by decide) ?_
      obtain rfl := Option.some.inj h
      exact gv_zret C E (Or.inr rfl) rfl rfl dX4_hasToken_23
set_option maxRecDepth 100000 in
set_option maxHeartbeats 4000000 in
theorem kX4_addTokens (w : gm_Wd) (l j : Nat) (hl : l < 4) (hj : j < 5) (a1 a2 : Int32) (G : Gm) (q : Gm) (h : fX4_addTokens l j a1 a2 G = some q) : gm_C w yX4_addTokens cX4_addTokens 3 none 0 [.ref (gm_ad w 4 l j), .int a1, .int a2] G none q := by
  refine gm_start (by decide) (Nat.le_of_ble_eq_true rfl) ?_
  intro x hw C E
  subst hw
  have C : gm_X x cX4_addTokens 3 RX4 none 0 := C
  unfold fX4_addTokens at h
  refine gm_lv (lv' := [(0, _), (1, _), (2, _)]) rfl ?_
  refine gv_iload_n C rfl 1 rfl dX4_addTokens_0 1 rfl ?_
  refine gv_if_ne C dX4_addTokens_1 17 (by decide) 4 rfl (fun c1 => ?_) (fun c1 => ?_)
  · replace h := gm_ip c1 h
    refine gv_aload_n C rfl 0 rfl dX4_addTokens_4 5 rfl ?_
    refine gv_dup C rfl dX4_addTokens_5 6 rfl ?_
    refine gf_4_3 C (gi_4 hl hj) lkX4_22 dX4_addTokens_6 9 rfl ?_
    refine gv_iload_n C rfl 2 rfl dX4_addTokens_9 10 rfl ?_
    refine gv_iadd C dX4_addTokens_10 11 rfl ?_
    refine pf_4_3 C (gi_4 hl hj) lkX4_22 dX4_addTokens_11 14 rfl ?_
    refine gv_goto C dX4_addTokens_14 27 (by decide) ?_
    obtain rfl := Option.some.inj h
    exact gv_vret C E rfl rfl dX4_addTokens_27
  · replace h := gm_iq c1 h
    refine gv_aload_n C rfl 0 rfl dX4_addTokens_17 18 rfl ?_
    refine gv_dup C rfl dX4_addTokens_18 19 rfl ?_
    refine gf_4_4 C (gi_4 hl hj) lkX4_25 dX4_addTokens_19 22 rfl ?_
    refine gv_iload_n C rfl 2 rfl dX4_addTokens_22 23 rfl ?_
    refine gv_iadd C dX4_addTokens_23 24 rfl ?_
    refine pf_4_4 C (gi_4 hl hj) lkX4_25 dX4_addTokens_24 27 rfl ?_
    obtain rfl := Option.some.inj h
    exact gv_vret C E rfl rfl dX4_addTokens_27
set_option maxRecDepth 100000 in
set_option maxHeartbeats 4000000 in
theorem kX4_takeToken (w : gm_Wd) (l j : Nat) (hl : l < 4) (hj : j < 5) (a1 : Int32) (G : Gm) (q : Gm) (h : fX4_takeToken l j a1 G = some q) : gm_C w yX4_takeToken cX4_takeToken 2 none 1 [.ref (gm_ad w 4 l j), .int a1] G none q := by
  refine gm_start (by decide) (Nat.le_of_ble_eq_true rfl) ?_
  intro x hw C E
  subst hw
  have C : gm_X x cX4_takeToken 2 RX4 none 1 := C
  unfold fX4_takeToken at h
  refine gm_lv (lv' := [(0, _), (1, _)]) rfl ?_
  refine gv_aload_n C rfl 0 rfl dX4_takeToken_0 1 rfl ?_
  refine gf_4_1 C (gi_4 hl hj) lkX4_15 dX4_takeToken_1 4 rfl ?_
  refine gv_if_eq C dX4_takeToken_4 18 (by decide) 7 rfl (fun c1 => ?_) (fun c1 => ?_)
  · replace h := gm_ip c1 h
    obtain rfl := Option.some.inj h
    exact gv_vret C E rfl rfl dX4_takeToken_18
  · replace h := gm_iq c1 h
    refine gv_aload_n C rfl 0 rfl dX4_takeToken_7 8 rfl ?_
    refine gv_iload_n C rfl 1 rfl dX4_takeToken_8 9 rfl ?_
    refine gv_iconst C (-1) rfl dX4_takeToken_9 10 rfl ?_
    obtain ⟨q2, hq2, h⟩ := gm_bd h
    refine gv_callVv C mc_yX4_addTokens ⟨mi_yX4_addTokens, me_yX4_addTokens⟩ (by decide) mkX4_31 (gi_4 hl hj) ⟨_, rfl⟩ rfl rfl (kX4_addTokens _ _ _ hl hj _ _ _ _ hq2) rfl rfl (Nat.le_of_ble_eq_true rfl) dX4_takeToken_10 13 rfl ?_
    refine gv_aload_n C rfl 0 rfl dX4_takeToken_13 14 rfl ?_
    refine gv_iconst C 1 rfl dX4_takeToken_14 15 rfl ?_
    refine pf_4_5 C (gi_4 hl hj) (Or.inr rfl) lkX4_28 dX4_takeToken_15 18 rfl ?_
    obtain rfl := Option.some.inj h
    exact gv_vret C E rfl rfl dX4_takeToken_18
set_option maxRecDepth 100000 in
set_option maxHeartbeats 4000000 in
theorem kX4_putToken (w : gm_Wd) (l j : Nat) (hl : l < 4) (hj : j < 5) (a1 : Int32) (G : Gm) (q : Gm) (h : fX4_putToken l j a1 G = some q) : gm_C w yX4_putToken cX4_putToken 2 none 1 [.ref (gm_ad w 4 l j), .int a1] G none q := by
  refine gm_start (by decide) (Nat.le_of_ble_eq_true rfl) ?_
  intro x hw C E
  subst hw
  have C : gm_X x cX4_putToken 2 RX4 none 1 := C
  unfold fX4_putToken at h
  refine gm_lv (lv' := [(0, _), (1, _)]) rfl ?_
  refine gv_aload_n C rfl 0 rfl dX4_putToken_0 1 rfl ?_
  refine gf_4_1 C (gi_4 hl hj) lkX4_15 dX4_putToken_1 4 rfl ?_
  refine gv_if_eq C dX4_putToken_4 18 (by decide) 7 rfl (fun c1 => ?_) (fun c1 => ?_)
  · replace h := gm_ip c1 h
    obtain rfl := Option.some.inj h
    exact gv_vret C E rfl rfl dX4_putToken_18
  · replace h := gm_iq c1 h
    refine gv_aload_n C rfl 0 rfl dX4_putToken_7 8 rfl ?_
    refine gv_iload_n C rfl 1 rfl dX4_putToken_8 9 rfl ?_
    refine gv_iconst C 1 rfl dX4_putToken_9 10 rfl ?_
    obtain ⟨q2, hq2, h⟩ := gm_bd h
    refine gv_callVv C mc_yX4_addTokens ⟨mi_yX4_addTokens, me_yX4_addTokens⟩ (by decide) mkX4_31 (gi_4 hl hj) ⟨_, rfl⟩ rfl rfl (kX4_addTokens _ _ _ hl hj _ _ _ _ hq2) rfl rfl (Nat.le_of_ble_eq_true rfl) dX4_putToken_10 13 rfl ?_
    refine gv_aload_n C rfl 0 rfl dX4_putToken_13 14 rfl ?_
    refine gv_iconst C 0 rfl dX4_putToken_14 15 rfl ?_
    refine pf_4_5 C (gi_4 hl hj) (Or.inl rfl) lkX4_28 dX4_putToken_15 18 rfl ?_
    obtain rfl := Option.some.inj h
    exact gv_vret C E rfl rfl dX4_putToken_18
set_option maxRecDepth 100000 in
set_option maxHeartbeats 4000000 in
theorem kX4_copyFrom (w : gm_Wd) (l j m1 p1 : Nat) (hl : l < 4) (hj : j < 5) (hm1 : m1 < 4) (hp1 : p1 < 5) (G : Gm) (q : Gm) (h : fX4_copyFrom l j m1 p1 G = some q) : gm_C w yX4_copyFrom cX4_copyFrom 2 none 0 [.ref (gm_ad w 4 l j), .ref (gm_ad w 4 m1 p1)] G none q := by
  refine gm_start (by decide) (Nat.le_of_ble_eq_true rfl) ?_
  intro x hw C E
  subst hw
  have C : gm_X x cX4_copyFrom 2 RX4 none 0 := C
  unfold fX4_copyFrom at h
  refine gm_lv (lv' := [(0, _), (1, _)]) rfl ?_
  refine gv_aload_n C rfl 0 rfl dX4_copyFrom_0 1 rfl ?_
  refine gv_aload_n C rfl 1 rfl dX4_copyFrom_1 2 rfl ?_
  refine gf_4_1 C (gi_4 hm1 hp1) lkX4_15 dX4_copyFrom_2 5 rfl ?_
  obtain ⟨g1, h⟩ := gm_gp h
  refine pf_4_1 C (gi_4 hl hj) g1 lkX4_15 dX4_copyFrom_5 8 rfl ?_
  refine gv_aload_n C rfl 0 rfl dX4_copyFrom_8 9 rfl ?_
  refine gv_aload_n C rfl 1 rfl dX4_copyFrom_9 10 rfl ?_
  refine gf_4_2 C (gi_4 hm1 hp1) lkX4_19 dX4_copyFrom_10 13 rfl ?_
  refine pf_4_2 C (gi_4 hl hj) lkX4_19 dX4_copyFrom_13 16 rfl ?_
  refine gv_aload_n C rfl 0 rfl dX4_copyFrom_16 17 rfl ?_
  refine gv_aload_n C rfl 1 rfl dX4_copyFrom_17 18 rfl ?_
  refine gf_4_3 C (gi_4 hm1 hp1) lkX4_22 dX4_copyFrom_18 21 rfl ?_
  refine pf_4_3 C (gi_4 hl hj) lkX4_22 dX4_copyFrom_21 24 rfl ?_
  refine gv_aload_n C rfl 0 rfl dX4_copyFrom_24 25 rfl ?_
  refine gv_aload_n C rfl 1 rfl dX4_copyFrom_25 26 rfl ?_
  refine gf_4_4 C (gi_4 hm1 hp1) lkX4_25 dX4_copyFrom_26 29 rfl ?_
  refine pf_4_4 C (gi_4 hl hj) lkX4_25 dX4_copyFrom_29 32 rfl ?_
  refine gv_aload_n C rfl 0 rfl dX4_copyFrom_32 33 rfl ?_
  refine gv_aload_n C rfl 1 rfl dX4_copyFrom_33 34 rfl ?_
  refine gf_4_5 C (gi_4 hm1 hp1) lkX4_28 dX4_copyFrom_34 37 rfl ?_
  obtain ⟨g2, h⟩ := gm_gp h
  refine pf_4_5 C (gi_4 hl hj) g2 lkX4_28 dX4_copyFrom_37 40 rfl ?_
  obtain rfl := Option.some.inj h
  exact gv_vret C E rfl rfl dX4_copyFrom_40
set_option maxRecDepth 100000 in
set_option maxHeartbeats 4000000 in
theorem kX5_stands (w : gm_Wd) (l j : Nat) (hl : l < 4) (hj : j < 12) (a1 a2 a3 : Int32) (G : Gm) (q : Int32) (h : fX5_stands l j a1 a2 a3 G = some q) : gm_C w yX5_stands cX5_stands 4 (some .boolean) 0 [.ref (gm_ad w 5 l j), .int a1, .int a2, .int a3] G (some (.int q)) G := by
  refine gm_start (by decide) (Nat.le_of_ble_eq_true rfl) ?_
  intro x hw C E
  subst hw
  have C : gm_X x cX5_stands 4 RX5 (some .boolean) 0 := C
  unfold fX5_stands at h
  refine gm_lv (lv' := [(0, _), (1, _), (2, _), (3, _)]) rfl ?_
  refine gv_aload_n C rfl 0 rfl dX5_stands_0 1 rfl ?_
  refine gf_5_3 C (gi_5 hl hj) lkX5_38 dX5_stands_1 4 rfl ?_
  refine gv_iload_n C rfl 1 rfl dX5_stands_4 5 rfl ?_
  refine gv_icmp_ne C dX5_stands_5 28 (by decide) 8 rfl (fun c1 => ?_) (fun c1 => ?_)
  · replace h := gm_ip c1 h
    refine gv_aload_n C rfl 0 rfl dX5_stands_8 9 rfl ?_
    refine gf_5_4 C (gi_5 hl hj) lkX5_41 dX5_stands_9 12 rfl ?_
    refine gv_iload_n C rfl 2 rfl dX5_stands_12 13 rfl ?_
    refine gv_icmp_ne C dX5_stands_13 28 (by decide) 16 rfl (fun c2 => ?_) (fun c2 => ?_)
    · replace h := gm_ip c2 h
      refine gv_aload_n C rfl 0 rfl dX5_stands_16 17 rfl ?_
      refine gf_5_2 C (gi_5 hl hj) lkX5_18 dX5_stands_17 20 rfl ?_
      refine gv_iload_n C rfl 3 rfl dX5_stands_20 21 rfl ?_
      refine gv_icmp_ne C dX5_stands_21 28 (by decide) 24 rfl (fun c3 => ?_) (fun c3 => ?_)
      · replace h := gm_ip c3 h
        refine gv_iconst C 1 rfl dX5_stands_24 25 rfl ?_
        refine gv_goto C dX5_stands_25 29 (by decide) ?_
        obtain rfl := Option.some.inj h
        exact gv_zret C E (Or.inr rfl) rfl rfl dX5_stands_29
      · replace h := gm_iq c3 h
        refine gv_iconst C 0 rfl dX5_stands_28 29 rfl ?_
        obtain rfl := Option.some.inj h
        exact gv_zret C E (Or.inl rfl) rfl rfl dX5_stands_29
    · replace h := gm_iq c2 h
      refine gv_iconst C 0 rfl dX5_stands_28 29 rfl ?_
      obtain rfl := Option.some.inj h
      exact gv_zret C E (Or.inl rfl) rfl rfl dX5_stands_29
  · replace h := gm_iq c1 h
    refine gv_iconst C 0 rfl dX5_stands_28 29 rfl ?_
    obtain rfl := Option.some.inj h
    exact gv_zret C E (Or.inl rfl) rfl rfl dX5_stands_29
set_option maxRecDepth 100000 in
set_option maxHeartbeats 4000000 in
theorem kX5_standAt (w : gm_Wd) (l j : Nat) (hl : l < 4) (hj : j < 12) (a1 a2 : Int32) (G : Gm) (q : Gm) (h : fX5_standAt l j a1 a2 G = some q) : gm_C w yX5_standAt cX5_standAt 3 none 0 [.ref (gm_ad w 5 l j), .int a1, .int a2] G none q := by
  refine gm_start (by decide) (Nat.le_of_ble_eq_true rfl) ?_
  intro x hw C E
  subst hw
  have C : gm_X x cX5_standAt 3 RX5 none 0 := C
  unfold fX5_standAt at h
  refine gm_lv (lv' := [(0, _), (1, _), (2, _)]) rfl ?_
  refine gv_aload_n C rfl 0 rfl dX5_standAt_0 1 rfl ?_
  refine gv_iload_n C rfl 1 rfl dX5_standAt_1 2 rfl ?_
  refine pf_5_3 C (gi_5 hl hj) lkX5_38 dX5_standAt_2 5 rfl ?_
  refine gv_aload_n C rfl 0 rfl dX5_standAt_5 6 rfl ?_
  refine gv_iload_n C rfl 2 rfl dX5_standAt_6 7 rfl ?_
  refine pf_5_4 C (gi_5 hl hj) lkX5_41 dX5_standAt_7 10 rfl ?_
  obtain rfl := Option.some.inj h
  exact gv_vret C E rfl rfl dX5_standAt_10
set_option maxRecDepth 100000 in
set_option maxHeartbeats 4000000 in
theorem kX5_start (w : gm_Wd) (l j : Nat) (hl : l < 4) (hj : j < 12) (a1 a2 a3 a4 : Int32) (G : Gm) (q : Gm) (h : fX5_start l j a1 a2 a3 a4 G = some q) : gm_C w yX5_start cX5_start 5 none 1 [.ref (gm_ad w 5 l j), .int a1, .int a2, .int a3, .int a4] G none q := by
  refine gm_start (by decide) (Nat.le_of_ble_eq_true rfl) ?_
  intro x hw C E
  subst hw
  have C : gm_X x cX5_start 5 RX5 none 1 := C
  unfold fX5_start at h
  refine gm_lv (lv' := [(0, _), (1, _), (2, _), (3, _), (4, _)]) rfl ?_
  refine gv_aload_n C rfl 0 rfl dX5_start_0 1 rfl ?_
  refine gv_iload_n C rfl 1 rfl dX5_start_1 2 rfl ?_
  refine pf_5_1 C (gi_5 hl hj) lkX5_15 dX5_start_2 5 rfl ?_
  refine gv_aload_n C rfl 0 rfl dX5_start_5 6 rfl ?_
  refine gv_iload_n C rfl 2 rfl dX5_start_6 7 rfl ?_
  refine pf_5_2 C (gi_5 hl hj) lkX5_18 dX5_start_7 10 rfl ?_
  refine gv_aload_n C rfl 0 rfl dX5_start_10 11 rfl ?_
  refine gv_iconst C 0 rfl dX5_start_11 12 rfl ?_
  refine gv_iload_n C rfl 3 rfl dX5_start_12 13 rfl ?_
  obtain ⟨q1, hq1, h⟩ := gm_bd h
  refine gv_callVv C mc_yX5_standAt ⟨mi_yX5_standAt, me_yX5_standAt⟩ (by decide) mkX5_21 (gi_5 hl hj) ⟨_, rfl⟩ rfl rfl (kX5_standAt _ _ _ hl hj _ _ _ _ hq1) rfl rfl (Nat.le_of_ble_eq_true rfl) dX5_start_13 16 rfl ?_
  refine gv_aload_n C rfl 0 rfl dX5_start_16 17 rfl ?_
  refine gv_iconst C 0 rfl dX5_start_17 18 rfl ?_
  refine pf_5_5 C (gi_5 hl hj) lkX5_25 dX5_start_18 21 rfl ?_
  refine gv_aload_n C rfl 0 rfl dX5_start_21 22 rfl ?_
  refine gv_iconst C 1 rfl dX5_start_22 23 rfl ?_
  refine pf_5_6 C (gi_5 hl hj) (Or.inr rfl) lkX5_28 dX5_start_23 26 rfl ?_
  refine gv_aload_n C rfl 0 rfl dX5_start_26 27 rfl ?_
  refine gv_iload C 4 rfl dX5_start_27 29 rfl ?_
  refine pf_5_7 C (gi_5 hl hj) lkX5_32 dX5_start_29 32 rfl ?_
  refine gv_aload_n C rfl 0 rfl dX5_start_32 33 rfl ?_
  refine gv_bipush C (-6) rfl dX5_start_33 35 rfl ?_
  refine pf_5_8 C (gi_5 hl hj) lkX5_35 dX5_start_35 38 rfl ?_
  obtain rfl := Option.some.inj h
  exact gv_vret C E rfl rfl dX5_start_38
set_option maxRecDepth 100000 in
set_option maxHeartbeats 4000000 in
theorem kX5_property (w : gm_Wd) (l j : Nat) (hl : l < 4) (hj : j < 12) (a1 : Int32) (G : Gm) (q : Int32) (h : fX5_property l j a1 G = some q) : gm_C w yX5_property cX5_property 2 (some .int) 0 [.ref (gm_ad w 5 l j), .int a1] G (some (.int q)) G := by
  refine gm_start (by decide) (Nat.le_of_ble_eq_true rfl) ?_
  intro x hw C E
  subst hw
  have C : gm_X x cX5_property 2 RX5 (some .int) 0 := C
  unfold fX5_property at h
  refine gm_lv (lv' := [(0, _), (1, _)]) rfl ?_
  refine gv_iload_n C rfl 1 rfl dX5_property_0 1 rfl ?_
  by_cases c1 : a1 = 0
  · replace h := gm_ip c1 h
    refine gv_tableIn C 0 c1 dX5_property_1 (by decide) (by decide) (o := 47) (by decide) 48 (by decide) ?_
    refine gv_aload_n C rfl 0 rfl dX5_property_48 49 rfl ?_
    refine gf_5_1 C (gi_5 hl hj) lkX5_15 dX5_property_49 52 rfl ?_
    obtain rfl := Option.some.inj h
    exact gv_iret C E rfl rfl dX5_property_52
  · replace h := gm_iq c1 h
    by_cases c2 : a1 = 1
    · replace h := gm_ip c2 h
      refine gv_tableIn C 1 c2 dX5_property_1 (by decide) (by decide) (o := 52) (by decide) 53 (by decide) ?_
      refine gv_aload_n C rfl 0 rfl dX5_property_53 54 rfl ?_
      refine gf_5_2 C (gi_5 hl hj) lkX5_18 dX5_property_54 57 rfl ?_
      obtain rfl := Option.some.inj h
      exact gv_iret C E rfl rfl dX5_property_57
    · replace h := gm_iq c2 h
      by_cases c3 : a1 = 2
      · replace h := gm_ip c3 h
        refine gv_tableIn C 2 c3 dX5_property_1 (by decide) (by decide) (o := 57) (by decide) 58 (by decide) ?_
        refine gv_aload_n C rfl 0 rfl dX5_property_58 59 rfl ?_
        refine gf_5_3 C (gi_5 hl hj) lkX5_38 dX5_property_59 62 rfl ?_
        obtain rfl := Option.some.inj h
        exact gv_iret C E rfl rfl dX5_property_62
      · replace h := gm_iq c3 h
        by_cases c4 : a1 = 3
        · replace h := gm_ip c4 h
          refine gv_tableIn C 3 c4 dX5_property_1 (by decide) (by decide) (o := 62) (by decide) 63 (by decide) ?_
          refine gv_aload_n C rfl 0 rfl dX5_property_63 64 rfl ?_
          refine gf_5_4 C (gi_5 hl hj) lkX5_41 dX5_property_64 67 rfl ?_
          obtain rfl := Option.some.inj h
          exact gv_iret C E rfl rfl dX5_property_67
        · replace h := gm_iq c4 h
          by_cases c5 : a1 = 4
          · replace h := gm_ip c5 h
            refine gv_tableIn C 4 c5 dX5_property_1 (by decide) (by decide) (o := 67) (by decide) 68 (by decide) ?_
            refine gv_aload_n C rfl 0 rfl dX5_property_68 69 rfl ?_
            refine gf_5_5 C (gi_5 hl hj) lkX5_25 dX5_property_69 72 rfl ?_
            obtain rfl := Option.some.inj h
            exact gv_iret C E rfl rfl dX5_property_72
          · replace h := gm_iq c5 h
            by_cases c6 : a1 = 5
            · replace h := gm_ip c6 h
              refine gv_tableIn C 5 c6 dX5_property_1 (by decide) (by decide) (o := 72) (by decide) 73 (by decide) ?_
              refine gv_aload_n C rfl 0 rfl dX5_property_73 74 rfl ?_
              refine gf_5_6 C (gi_5 hl hj) lkX5_28 dX5_property_74 77 rfl ?_
              refine gv_if_eq C dX5_property_77 84 (by decide) 80 rfl (fun c9 => ?_) (fun c9 => ?_)
              · replace h := gm_ip c9 h
                refine gv_iconst C 0 rfl dX5_property_84 85 rfl ?_
                obtain rfl := Option.some.inj h
                exact gv_iret C E rfl rfl dX5_property_85
              · replace h := gm_iq c9 h
                refine gv_iconst C 1 rfl dX5_property_80 81 rfl ?_
                refine gv_goto C dX5_property_81 85 (by decide) ?_
                obtain rfl := Option.some.inj h
                exact gv_iret C E rfl rfl dX5_property_85
            · replace h := gm_iq c6 h
              by_cases c7 : a1 = 6
              · replace h := gm_ip c7 h
                refine gv_tableIn C 6 c7 dX5_property_1 (by decide) (by decide) (o := 85) (by decide) 86 (by decide) ?_
                refine gv_aload_n C rfl 0 rfl dX5_property_86 87 rfl ?_
                refine gf_5_7 C (gi_5 hl hj) lkX5_32 dX5_property_87 90 rfl ?_
                obtain rfl := Option.some.inj h
                exact gv_iret C E rfl rfl dX5_property_90
              · replace h := gm_iq c7 h
                by_cases c8 : a1 = 7
                · replace h := gm_ip c8 h
                  refine gv_tableIn C 7 c8 dX5_property_1 (by decide) (by decide) (o := 90) (by decide) 91 (by decide) ?_
                  refine gv_aload_n C rfl 0 rfl dX5_property_91 92 rfl ?_
                  refine gf_5_8 C (gi_5 hl hj) lkX5_35 dX5_property_92 95 rfl ?_
                  obtain rfl := Option.some.inj h
                  exact gv_iret C E rfl rfl dX5_property_95
                · replace h := gm_iq c8 h
                  refine gv_tableD C dX5_property_1 [0, 1, 2, 3, 4, 5, 6, 7] (by decide) (by decide) (List.forall_mem_cons.mpr ⟨lv_neT c1 rfl, (List.forall_mem_cons.mpr ⟨lv_neT c2 rfl, (List.forall_mem_cons.mpr ⟨lv_neT c3 rfl, (List.forall_mem_cons.mpr ⟨lv_neT c4 rfl, (List.forall_mem_cons.mpr ⟨lv_neT c5 rfl, (List.forall_mem_cons.mpr ⟨lv_neT c6 rfl, (List.forall_mem_cons.mpr ⟨lv_neT c7 rfl, (List.forall_mem_cons.mpr ⟨lv_neT c8 rfl, (fun _ h => absurd h List.not_mem_nil)⟩)⟩)⟩)⟩)⟩)⟩)⟩)⟩) 96 (by decide) ?_
                  refine gv_bipush C (-2) rfl dX5_property_96 98 rfl ?_
                  obtain rfl := Option.some.inj h
                  exact gv_iret C E rfl rfl dX5_property_98
set_option maxRecDepth 100000 in
set_option maxHeartbeats 4000000 in
theorem kX5_go (w : gm_Wd) (l j : Nat) (hl : l < 4) (hj : j < 12) (a1 : Int32) (G : Gm) (q : Gm) (h : fX5_go l j a1 G = some q) : gm_C w yX5_go cX5_go 2 none 0 [.ref (gm_ad w 5 l j), .int a1] G none q := by
  refine gm_start (by decide) (Nat.le_of_ble_eq_true rfl) ?_
  intro x hw C E
  subst hw
  have C : gm_X x cX5_go 2 RX5 none 0 := C
  unfold fX5_go at h
  refine gm_lv (lv' := [(0, _), (1, _)]) rfl ?_
  refine gv_aload_n C rfl 0 rfl dX5_go_0 1 rfl ?_
  refine gv_iconst C 3 rfl dX5_go_1 2 rfl ?_
  refine pf_5_3 C (gi_5 hl hj) lkX5_38 dX5_go_2 5 rfl ?_
  refine gv_aload_n C rfl 0 rfl dX5_go_5 6 rfl ?_
  refine gv_bipush C (-6) rfl dX5_go_6 8 rfl ?_
  refine pf_5_4 C (gi_5 hl hj) lkX5_41 dX5_go_8 11 rfl ?_
  refine gv_aload_n C rfl 0 rfl dX5_go_11 12 rfl ?_
  refine gv_iload_n C rfl 1 rfl dX5_go_12 13 rfl ?_
  refine pf_5_8 C (gi_5 hl hj) lkX5_35 dX5_go_13 16 rfl ?_
  obtain rfl := Option.some.inj h
  exact gv_vret C E rfl rfl dX5_go_16
set_option maxRecDepth 100000 in
set_option maxHeartbeats 4000000 in
theorem kX5_enter (w : gm_Wd) (l j p1 : Nat) (hl : l < 4) (hj : j < 12) (hp1 : p1 < 5) (G : Gm) (q : Gm) (h : fX5_enter l j p1 G = some q) : gm_C w yX5_enter cX5_enter 2 none 0 [.ref (gm_ad w 5 l j), .ref (gm_ad w 4 l p1)] G none q := by
  refine gm_start (by decide) (Nat.le_of_ble_eq_true rfl) ?_
  intro x hw C E
  subst hw
  have C : gm_X x cX5_enter 2 RX5 none 0 := C
  unfold fX5_enter at h
  refine gm_lv (lv' := [(0, _), (1, _)]) rfl ?_
  refine gv_aload_n C rfl 0 rfl dX5_enter_0 1 rfl ?_
  refine gv_iconst C 2 rfl dX5_enter_1 2 rfl ?_
  refine pf_5_3 C (gi_5 hl hj) lkX5_38 dX5_enter_2 5 rfl ?_
  refine gv_aload_n C rfl 0 rfl dX5_enter_5 6 rfl ?_
  refine gv_aload_n C rfl 1 rfl dX5_enter_6 7 rfl ?_
  refine gf_4_0 C (gi_4 hl hp1) lkX5_44 dX5_enter_7 10 rfl ?_
  refine pf_5_4 C (gi_5 hl hj) lkX5_41 dX5_enter_10 13 rfl ?_
  refine gv_aload_n C rfl 0 rfl dX5_enter_13 14 rfl ?_
  refine gv_aload_n C rfl 1 rfl dX5_enter_14 15 rfl ?_
  refine gf_4_2 C (gi_4 hl hp1) lkX5_47 dX5_enter_15 18 rfl ?_
  refine gv_aload_n C rfl 0 rfl dX5_enter_18 19 rfl ?_
  refine gf_5_1 C (gi_5 hl hj) lkX5_15 dX5_enter_19 22 rfl ?_
  refine gv_iadd C dX5_enter_22 23 rfl ?_
  refine gv_iconst C 1 rfl dX5_enter_23 24 rfl ?_
  refine gv_isub C dX5_enter_24 25 rfl ?_
  refine pf_5_5 C (gi_5 hl hj) lkX5_25 dX5_enter_25 28 rfl ?_
  obtain rfl := Option.some.inj h
  exact gv_vret C E rfl rfl dX5_enter_28
set_option maxRecDepth 100000 in
set_option maxHeartbeats 4000000 in
theorem kX5_letPass (w : gm_Wd) (l j : Nat) (hl : l < 4) (hj : j < 12) (a1 : Int32) (G : Gm) (q : Gm) (h : fX5_letPass l j a1 G = some q) : gm_C w yX5_letPass cX5_letPass 2 none 1 [.ref (gm_ad w 5 l j), .int a1] G none q := by
  refine gm_start (by decide) (Nat.le_of_ble_eq_true rfl) ?_
  intro x hw C E
  subst hw
  have C : gm_X x cX5_letPass 2 RX5 none 1 := C
  unfold fX5_letPass at h
  refine gm_lv (lv' := [(0, _), (1, _)]) rfl ?_
  refine gv_aload_n C rfl 0 rfl dX5_letPass_0 1 rfl ?_
  refine gf_5_3 C (gi_5 hl hj) lkX5_38 dX5_letPass_1 4 rfl ?_
  refine gv_iconst C 2 rfl dX5_letPass_4 5 rfl ?_
  refine gv_icmp_ne C dX5_letPass_5 22 (by decide) 8 rfl (fun c1 => ?_) (fun c1 => ?_)
  · replace h := gm_ip c1 h
    refine gv_aload_n C rfl 0 rfl dX5_letPass_8 9 rfl ?_
    refine gv_iconst C 0 rfl dX5_letPass_9 10 rfl ?_
    refine gv_aload_n C rfl 0 rfl dX5_letPass_10 11 rfl ?_
    refine gf_5_5 C (gi_5 hl hj) lkX5_25 dX5_letPass_11 14 rfl ?_
    refine gv_iload_n C rfl 1 rfl dX5_letPass_14 15 rfl ?_
    refine gv_isub C dX5_letPass_15 16 rfl ?_
    refine gv_max C mkX5_50 ms_Lib_Math_max_name in_java_lang_Math mcx_Lib_Math_max_name (by decide) (Nat.le_of_ble_eq_true rfl) dX5_letPass_16 19 rfl ?_
    refine pf_5_5 C (gi_5 hl hj) lkX5_25 dX5_letPass_19 22 rfl ?_
    obtain rfl := Option.some.inj h
    exact gv_vret C E rfl rfl dX5_letPass_22
  · replace h := gm_iq c1 h
    obtain rfl := Option.some.inj h
    exact gv_vret C E rfl rfl dX5_letPass_22
set_option maxRecDepth 100000 in
set_option maxHeartbeats 4000000 in
theorem kX5_copyFrom (w : gm_Wd) (l j m1 p1 : Nat) (hl : l < 4) (hj : j < 12) (hm1 : m1 < 4) (hp1 : p1 < 12) (G : Gm) (q : Gm) (h : fX5_copyFrom l j m1 p1 G = some q) : gm_C w yX5_copyFrom cX5_copyFrom 2 none 0 [.ref (gm_ad w 5 l j), .ref (gm_ad w 5 m1 p1)] G none q := by
  refine gm_start (by decide) (Nat.le_of_ble_eq_true rfl) ?_
  intro x hw C E
  subst hw
  have C : gm_X x cX5_copyFrom 2 RX5 none 0 := C
  unfold fX5_copyFrom at h
  refine gm_lv (lv' := [(0, _), (1, _)]) rfl ?_
  refine gv_aload_n C rfl 0 rfl dX5_copyFrom_0 1 rfl ?_
  refine gv_aload_n C rfl 1 rfl dX5_copyFrom_1 2 rfl ?_
  refine gf_5_1 C (gi_5 hm1 hp1) lkX5_15 dX5_copyFrom_2 5 rfl ?_
  refine pf_5_1 C (gi_5 hl hj) lkX5_15 dX5_copyFrom_5 8 rfl ?_
  refine gv_aload_n C rfl 0 rfl dX5_copyFrom_8 9 rfl ?_
  refine gv_aload_n C rfl 1 rfl dX5_copyFrom_9 10 rfl ?_
  refine gf_5_2 C (gi_5 hm1 hp1) lkX5_18 dX5_copyFrom_10 13 rfl ?_
  refine pf_5_2 C (gi_5 hl hj) lkX5_18 dX5_copyFrom_13 16 rfl ?_
  refine gv_aload_n C rfl 0 rfl dX5_copyFrom_16 17 rfl ?_
  refine gv_aload_n C rfl 1 rfl dX5_copyFrom_17 18 rfl ?_
  refine gf_5_3 C (gi_5 hm1 hp1) lkX5_38 dX5_copyFrom_18 21 rfl ?_
  refine pf_5_3 C (gi_5 hl hj) lkX5_38 dX5_copyFrom_21 24 rfl ?_
  refine gv_aload_n C rfl 0 rfl dX5_copyFrom_24 25 rfl ?_
  refine gv_aload_n C rfl 1 rfl dX5_copyFrom_25 26 rfl ?_
  refine gf_5_4 C (gi_5 hm1 hp1) lkX5_41 dX5_copyFrom_26 29 rfl ?_
  refine pf_5_4 C (gi_5 hl hj) lkX5_41 dX5_copyFrom_29 32 rfl ?_
  refine gv_aload_n C rfl 0 rfl dX5_copyFrom_32 33 rfl ?_
  refine gv_aload_n C rfl 1 rfl dX5_copyFrom_33 34 rfl ?_
  refine gf_5_5 C (gi_5 hm1 hp1) lkX5_25 dX5_copyFrom_34 37 rfl ?_
  refine pf_5_5 C (gi_5 hl hj) lkX5_25 dX5_copyFrom_37 40 rfl ?_
  refine gv_aload_n C rfl 0 rfl dX5_copyFrom_40 41 rfl ?_
  refine gv_aload_n C rfl 1 rfl dX5_copyFrom_41 42 rfl ?_
  refine gf_5_6 C (gi_5 hm1 hp1) lkX5_28 dX5_copyFrom_42 45 rfl ?_
  obtain ⟨g1, h⟩ := gm_gp h
  refine pf_5_6 C (gi_5 hl hj) g1 lkX5_28 dX5_copyFrom_45 48 rfl ?_
  refine gv_aload_n C rfl 0 rfl dX5_copyFrom_48 49 rfl ?_
  refine gv_aload_n C rfl 1 rfl dX5_copyFrom_49 50 rfl ?_
  refine gf_5_7 C (gi_5 hm1 hp1) lkX5_32 dX5_copyFrom_50 53 rfl ?_
  refine pf_5_7 C (gi_5 hl hj) lkX5_32 dX5_copyFrom_53 56 rfl ?_
  refine gv_aload_n C rfl 0 rfl dX5_copyFrom_56 57 rfl ?_
  refine gv_aload_n C rfl 1 rfl dX5_copyFrom_57 58 rfl ?_
  refine gf_5_8 C (gi_5 hm1 hp1) lkX5_35 dX5_copyFrom_58 61 rfl ?_
  refine pf_5_8 C (gi_5 hl hj) lkX5_35 dX5_copyFrom_61 64 rfl ?_
  obtain rfl := Option.some.inj h
  exact gv_vret C E rfl rfl dX5_copyFrom_64
set_option maxRecDepth 100000 in
set_option maxHeartbeats 4000000 in
theorem kX0_reset (w : gm_Wd) (l j : Nat) (hl : l < 4) (hj : j < 10) (G : Gm) (q : Gm) (h : fX0_reset l j G = some q) : gm_C w yX0_reset cX0_reset 1 none 0 [.ref (gm_ad w 0 l j)] G none q := by
  refine gm_start (by decide) (Nat.le_of_ble_eq_true rfl) ?_
  intro x hw C E
  subst hw
  have C : gm_X x cX0_reset 1 RX0 none 0 := C
  unfold fX0_reset at h
  refine gm_lv (lv' := [(0, _)]) rfl ?_
  refine gv_aload_n C rfl 0 rfl dX0_reset_0 1 rfl ?_
  refine gv_iconst C 0 rfl dX0_reset_1 2 rfl ?_
  refine pf_0_2 C (gi_0 hl hj) lkX0_19 dX0_reset_2 5 rfl ?_
  refine gv_aload_n C rfl 0 rfl dX0_reset_5 6 rfl ?_
  refine gv_bipush C (-6) rfl dX0_reset_6 8 rfl ?_
  refine pf_0_3 C (gi_0 hl hj) lkX0_22 dX0_reset_8 11 rfl ?_
  refine gv_aload_n C rfl 0 rfl dX0_reset_11 12 rfl ?_
  refine gv_bipush C (-6) rfl dX0_reset_12 14 rfl ?_
  refine pf_0_4 C (gi_0 hl hj) lkX0_25 dX0_reset_14 17 rfl ?_
  refine gv_aload_n C rfl 0 rfl dX0_reset_17 18 rfl ?_
  refine gv_iconst C 0 rfl dX0_reset_18 19 rfl ?_
  refine pf_0_5 C (gi_0 hl hj) (Or.inl rfl) lkX0_28 dX0_reset_19 22 rfl ?_
  refine gv_aload_n C rfl 0 rfl dX0_reset_22 23 rfl ?_
  refine gv_iconst C 0 rfl dX0_reset_23 24 rfl ?_
  refine pf_0_6 C (gi_0 hl hj) lkX0_32 dX0_reset_24 27 rfl ?_
  obtain rfl := Option.some.inj h
  exact gv_vret C E rfl rfl dX0_reset_27
set_option maxRecDepth 100000 in
set_option maxHeartbeats 4000000 in
theorem kX0_property (w : gm_Wd) (l j : Nat) (hl : l < 4) (hj : j < 10) (a1 : Int32) (G : Gm) (q : Int32) (h : fX0_property l j a1 G = some q) : gm_C w yX0_property cX0_property 2 (some .int) 0 [.ref (gm_ad w 0 l j), .int a1] G (some (.int q)) G := by
  refine gm_start (by decide) (Nat.le_of_ble_eq_true rfl) ?_
  intro x hw C E
  subst hw
  have C : gm_X x cX0_property 2 RX0 (some .int) 0 := C
  unfold fX0_property at h
  refine gm_lv (lv' := [(0, _), (1, _)]) rfl ?_
  refine gv_iload_n C rfl 1 rfl dX0_property_0 1 rfl ?_
  by_cases c1 : a1 = 0
  · replace h := gm_ip c1 h
    refine gv_tableIn C 0 c1 dX0_property_1 (by decide) (by decide) (o := 35) (by decide) 36 (by decide) ?_
    refine gv_aload_n C rfl 0 rfl dX0_property_36 37 rfl ?_
    refine gf_0_2 C (gi_0 hl hj) lkX0_19 dX0_property_37 40 rfl ?_
    obtain rfl := Option.some.inj h
    exact gv_iret C E rfl rfl dX0_property_40
  · replace h := gm_iq c1 h
    by_cases c2 : a1 = 1
    · replace h := gm_ip c2 h
      refine gv_tableIn C 1 c2 dX0_property_1 (by decide) (by decide) (o := 40) (by decide) 41 (by decide) ?_
      refine gv_aload_n C rfl 0 rfl dX0_property_41 42 rfl ?_
      refine gf_0_3 C (gi_0 hl hj) lkX0_22 dX0_property_42 45 rfl ?_
      obtain rfl := Option.some.inj h
      exact gv_iret C E rfl rfl dX0_property_45
    · replace h := gm_iq c2 h
      by_cases c3 : a1 = 2
      · replace h := gm_ip c3 h
        refine gv_tableIn C 2 c3 dX0_property_1 (by decide) (by decide) (o := 45) (by decide) 46 (by decide) ?_
        refine gv_aload_n C rfl 0 rfl dX0_property_46 47 rfl ?_
        refine gf_0_4 C (gi_0 hl hj) lkX0_25 dX0_property_47 50 rfl ?_
        obtain rfl := Option.some.inj h
        exact gv_iret C E rfl rfl dX0_property_50
      · replace h := gm_iq c3 h
        by_cases c4 : a1 = 3
        · replace h := gm_ip c4 h
          refine gv_tableIn C 3 c4 dX0_property_1 (by decide) (by decide) (o := 50) (by decide) 51 (by decide) ?_
          refine gv_aload_n C rfl 0 rfl dX0_property_51 52 rfl ?_
          refine gf_0_5 C (gi_0 hl hj) lkX0_28 dX0_property_52 55 rfl ?_
          refine gv_if_eq C dX0_property_55 62 (by decide) 58 rfl (fun c6 => ?_) (fun c6 => ?_)
          · replace h := gm_ip c6 h
            refine gv_iconst C 0 rfl dX0_property_62 63 rfl ?_
            obtain rfl := Option.some.inj h
            exact gv_iret C E rfl rfl dX0_property_63
          · replace h := gm_iq c6 h
            refine gv_iconst C 1 rfl dX0_property_58 59 rfl ?_
            refine gv_goto C dX0_property_59 63 (by decide) ?_
            obtain rfl := Option.some.inj h
            exact gv_iret C E rfl rfl dX0_property_63
        · replace h := gm_iq c4 h
          by_cases c5 : a1 = 4
          · replace h := gm_ip c5 h
            refine gv_tableIn C 4 c5 dX0_property_1 (by decide) (by decide) (o := 63) (by decide) 64 (by decide) ?_
            refine gv_aload_n C rfl 0 rfl dX0_property_64 65 rfl ?_
            refine gf_0_6 C (gi_0 hl hj) lkX0_32 dX0_property_65 68 rfl ?_
            obtain rfl := Option.some.inj h
            exact gv_iret C E rfl rfl dX0_property_68
          · replace h := gm_iq c5 h
            refine gv_tableD C dX0_property_1 [0, 1, 2, 3, 4] (by decide) (by decide) (List.forall_mem_cons.mpr ⟨lv_neT c1 rfl, (List.forall_mem_cons.mpr ⟨lv_neT c2 rfl, (List.forall_mem_cons.mpr ⟨lv_neT c3 rfl, (List.forall_mem_cons.mpr ⟨lv_neT c4 rfl, (List.forall_mem_cons.mpr ⟨lv_neT c5 rfl, (fun _ h => absurd h List.not_mem_nil)⟩)⟩)⟩)⟩)⟩) 69 (by decide) ?_
            refine gv_bipush C (-2) rfl dX0_property_69 71 rfl ?_
            obtain rfl := Option.some.inj h
            exact gv_iret C E rfl rfl dX0_property_71
set_option maxRecDepth 100000 in
set_option maxHeartbeats 4000000 in
theorem kX0_rearBox (w : gm_Wd) (l j : Nat) (hl : l < 4) (hj : j < 10) (G : Gm) (q : Int32) (h : fX0_rearBox l j G = some q) : gm_C w yX0_rearBox cX0_rearBox 1 (some .int) 0 [.ref (gm_ad w 0 l j)] G (some (.int q)) G := by
  refine gm_start (by decide) (Nat.le_of_ble_eq_true rfl) ?_
  intro x hw C E
  subst hw
  have C : gm_X x cX0_rearBox 1 RX0 (some .int) 0 := C
  unfold fX0_rearBox at h
  refine gm_lv (lv' := [(0, _)]) rfl ?_
  refine gv_aload_n C rfl 0 rfl dX0_rearBox_0 1 rfl ?_
  refine gf_0_0 C (gi_0 hl hj) lkX0_9 dX0_rearBox_1 4 rfl ?_
  refine gf_4_0 C (gi_4 hl (gm_h2 hj)) lkX0_35 dX0_rearBox_4 7 rfl ?_
  refine gv_aload_n C rfl 0 rfl dX0_rearBox_7 8 rfl ?_
  refine gf_0_1 C (gi_0 hl hj) lkX0_15 dX0_rearBox_8 11 rfl ?_
  refine gv_iadd C dX0_rearBox_11 12 rfl ?_
  obtain rfl := Option.some.inj h
  exact gv_iret C E rfl rfl dX0_rearBox_12
set_option maxRecDepth 100000 in
set_option maxHeartbeats 4000000 in
theorem kX0_boxAhead (w : gm_Wd) (l j : Nat) (hl : l < 4) (hj : j < 10) (G : Gm) (q : Int32) (h : fX0_boxAhead l j G = some q) : gm_C w yX0_boxAhead cX0_boxAhead 1 (some .int) 0 [.ref (gm_ad w 0 l j)] G (some (.int q)) G := by
  refine gm_start (by decide) (Nat.le_of_ble_eq_true rfl) ?_
  intro x hw C E
  subst hw
  have C : gm_X x cX0_boxAhead 1 RX0 (some .int) 0 := C
  unfold fX0_boxAhead at h
  refine gm_lv (lv' := [(0, _)]) rfl ?_
  refine gv_aload_n C rfl 0 rfl dX0_boxAhead_0 1 rfl ?_
  refine gf_0_0 C (gi_0 hl hj) lkX0_9 dX0_boxAhead_1 4 rfl ?_
  refine gf_4_0 C (gi_4 hl (gm_h2 hj)) lkX0_35 dX0_boxAhead_4 7 rfl ?_
  refine gv_iconst C 1 rfl dX0_boxAhead_7 8 rfl ?_
  refine gv_iadd C dX0_boxAhead_8 9 rfl ?_
  refine gv_aload_n C rfl 0 rfl dX0_boxAhead_9 10 rfl ?_
  refine gf_0_1 C (gi_0 hl hj) lkX0_15 dX0_boxAhead_10 13 rfl ?_
  refine gv_isub C dX0_boxAhead_13 14 rfl ?_
  obtain rfl := Option.some.inj h
  exact gv_iret C E rfl rfl dX0_boxAhead_14
set_option maxRecDepth 100000 in
set_option maxHeartbeats 4000000 in
theorem kX0_rearEnd (w : gm_Wd) (l j : Nat) (hl : l < 4) (hj : j < 10) (G : Gm) (q : Int32) (h : fX0_rearEnd l j G = some q) : gm_C w yX0_rearEnd cX0_rearEnd 1 (some .int) 0 [.ref (gm_ad w 0 l j)] G (some (.int q)) G := by
  refine gm_start (by decide) (Nat.le_of_ble_eq_true rfl) ?_
  intro x hw C E
  subst hw
  have C : gm_X x cX0_rearEnd 1 RX0 (some .int) 0 := C
  unfold fX0_rearEnd at h
  refine gm_lv (lv' := [(0, _)]) rfl ?_
  refine gv_aload_n C rfl 0 rfl dX0_rearEnd_0 1 rfl ?_
  refine gf_0_1 C (gi_0 hl hj) lkX0_15 dX0_rearEnd_1 4 rfl ?_
  obtain rfl := Option.some.inj h
  exact gv_iret C E rfl rfl dX0_rearEnd_4
set_option maxRecDepth 100000 in
set_option maxHeartbeats 4000000 in
theorem kX0_makeClear (w : gm_Wd) (l j : Nat) (hl : l < 4) (hj : j < 10) (G : Gm) (q : Gm) (h : fX0_makeClear l j G = some q) : gm_C w yX0_makeClear cX0_makeClear 1 none 2 [.ref (gm_ad w 0 l j)] G none q := by
  refine gm_start (by decide) (Nat.le_of_ble_eq_true rfl) ?_
  intro x hw C E
  subst hw
  have C : gm_X x cX0_makeClear 1 RX0 none 2 := C
  unfold fX0_makeClear at h
  refine gm_lv (lv' := [(0, _)]) rfl ?_
  refine gv_aload_n C rfl 0 rfl dX0_makeClear_0 1 rfl ?_
  refine gv_iconst C 1 rfl dX0_makeClear_1 2 rfl ?_
  refine pf_0_2 C (gi_0 hl hj) lkX0_19 dX0_makeClear_2 5 rfl ?_
  refine gv_aload_n C rfl 0 rfl dX0_makeClear_5 6 rfl ?_
  refine gv_aload_n C rfl 0 rfl dX0_makeClear_6 7 rfl ?_
  refine gf_0_3 C (gi_0 hl hj) lkX0_22 dX0_makeClear_7 10 rfl ?_
  refine pf_0_4 C (gi_0 hl hj) lkX0_25 dX0_makeClear_10 13 rfl ?_
  refine gv_aload_n C rfl 0 rfl dX0_makeClear_13 14 rfl ?_
  refine gv_bipush C (-6) rfl dX0_makeClear_14 16 rfl ?_
  refine pf_0_3 C (gi_0 hl hj) lkX0_22 dX0_makeClear_16 19 rfl ?_
  refine gv_aload_n C rfl 0 rfl dX0_makeClear_19 20 rfl ?_
  refine gf_0_0 C (gi_0 hl hj) lkX0_9 dX0_makeClear_20 23 rfl ?_
  refine gv_aload_n C rfl 0 rfl dX0_makeClear_23 24 rfl ?_
  obtain ⟨q1, hq1, h⟩ := gm_bd h
  refine gv_callVi C mc_yX0_rearEnd ⟨mi_yX0_rearEnd, me_yX0_rearEnd⟩ (by decide) mkX0_40 (gi_0 hl hj) ⟨_, rfl⟩ rfl rfl (kX0_rearEnd _ _ _ hl hj _ _ hq1) rfl rfl (Nat.le_of_ble_eq_true rfl) dX0_makeClear_24 27 rfl ?_
  obtain ⟨q2, hq2, h⟩ := gm_bd h
  refine gv_callVv C mc_yX4_takeToken ⟨mi_yX4_takeToken, me_yX4_takeToken⟩ (by decide) mkX0_44 (gi_4 hl (gm_h2 hj)) ⟨_, rfl⟩ rfl rfl (kX4_takeToken _ _ _ hl (gm_h2 hj) _ _ _ hq2) rfl rfl (Nat.le_of_ble_eq_true rfl) dX0_makeClear_27 30 rfl ?_
  obtain rfl := Option.some.inj h
  exact gv_vret C E rfl rfl dX0_makeClear_30
set_option maxRecDepth 100000 in
set_option maxHeartbeats 4000000 in
theorem kX0_takeBack (w : gm_Wd) (l j : Nat) (hl : l < 4) (hj : j < 10) (a1 : Int32) (G : Gm) (q : Gm) (h : fX0_takeBack l j a1 G = some q) : gm_C w yX0_takeBack cX0_takeBack 2 none 2 [.ref (gm_ad w 0 l j), .int a1] G none q := by
  refine gm_start (by decide) (Nat.le_of_ble_eq_true rfl) ?_
  intro x hw C E
  subst hw
  have C : gm_X x cX0_takeBack 2 RX0 none 2 := C
  unfold fX0_takeBack at h
  refine gm_lv (lv' := [(0, _), (1, _)]) rfl ?_
  refine gv_aload_n C rfl 0 rfl dX0_takeBack_0 1 rfl ?_
  refine gf_0_2 C (gi_0 hl hj) lkX0_19 dX0_takeBack_1 4 rfl ?_
  refine gv_iconst C 1 rfl dX0_takeBack_4 5 rfl ?_
  refine gv_icmp_ne C dX0_takeBack_5 19 (by decide) 8 rfl (fun c1 => ?_) (fun c1 => ?_)
  · replace h := gm_ip c1 h
    refine gv_aload_n C rfl 0 rfl dX0_takeBack_8 9 rfl ?_
    refine gf_0_0 C (gi_0 hl hj) lkX0_9 dX0_takeBack_9 12 rfl ?_
    refine gv_aload_n C rfl 0 rfl dX0_takeBack_12 13 rfl ?_
    obtain ⟨q2, hq2, h⟩ := gm_bd h
    refine gv_callVi C mc_yX0_rearEnd ⟨mi_yX0_rearEnd, me_yX0_rearEnd⟩ (by decide) mkX0_40 (gi_0 hl hj) ⟨_, rfl⟩ rfl rfl (kX0_rearEnd _ _ _ hl hj _ _ hq2) rfl rfl (Nat.le_of_ble_eq_true rfl) dX0_takeBack_13 16 rfl ?_
    obtain ⟨q3, hq3, h⟩ := gm_bd h
    refine gv_callVv C mc_yX4_putToken ⟨mi_yX4_putToken, me_yX4_putToken⟩ (by decide) mkX0_48 (gi_4 hl (gm_h2 hj)) ⟨_, rfl⟩ rfl rfl (kX4_putToken _ _ _ hl (gm_h2 hj) _ _ _ hq3) rfl rfl (Nat.le_of_ble_eq_true rfl) dX0_takeBack_16 19 rfl ?_
    refine gv_aload_n C rfl 0 rfl dX0_takeBack_19 20 rfl ?_
    refine gv_iload_n C rfl 1 rfl dX0_takeBack_20 21 rfl ?_
    refine pf_0_2 C (gi_0 hl hj) lkX0_19 dX0_takeBack_21 24 rfl ?_
    refine gv_aload_n C rfl 0 rfl dX0_takeBack_24 25 rfl ?_
    refine gv_bipush C (-6) rfl dX0_takeBack_25 27 rfl ?_
    refine pf_0_3 C (gi_0 hl hj) lkX0_22 dX0_takeBack_27 30 rfl ?_
    refine gv_aload_n C rfl 0 rfl dX0_takeBack_30 31 rfl ?_
    refine gv_bipush C (-6) rfl dX0_takeBack_31 33 rfl ?_
    refine pf_0_4 C (gi_0 hl hj) lkX0_25 dX0_takeBack_33 36 rfl ?_
    obtain rfl := Option.some.inj h
    exact gv_vret C E rfl rfl dX0_takeBack_36
  · replace h := gm_iq c1 h
    refine gv_aload_n C rfl 0 rfl dX0_takeBack_19 20 rfl ?_
    refine gv_iload_n C rfl 1 rfl dX0_takeBack_20 21 rfl ?_
    refine pf_0_2 C (gi_0 hl hj) lkX0_19 dX0_takeBack_21 24 rfl ?_
    refine gv_aload_n C rfl 0 rfl dX0_takeBack_24 25 rfl ?_
    refine gv_bipush C (-6) rfl dX0_takeBack_25 27 rfl ?_
    refine pf_0_3 C (gi_0 hl hj) lkX0_22 dX0_takeBack_27 30 rfl ?_
    refine gv_aload_n C rfl 0 rfl dX0_takeBack_30 31 rfl ?_
    refine gv_bipush C (-6) rfl dX0_takeBack_31 33 rfl ?_
    refine pf_0_4 C (gi_0 hl hj) lkX0_25 dX0_takeBack_33 36 rfl ?_
    obtain rfl := Option.some.inj h
    exact gv_vret C E rfl rfl dX0_takeBack_36
set_option maxRecDepth 100000 in
set_option maxHeartbeats 4000000 in
theorem kX0_endAhead (w : gm_Wd) (l j : Nat) (hl : l < 4) (hj : j < 10) (G : Gm) (q : Int32) (h : fX0_endAhead l j G = some q) : gm_C w yX0_endAhead cX0_endAhead 1 (some .int) 0 [.ref (gm_ad w 0 l j)] G (some (.int q)) G := by
  refine gm_start (by decide) (Nat.le_of_ble_eq_true rfl) ?_
  intro x hw C E
  subst hw
  have C : gm_X x cX0_endAhead 1 RX0 (some .int) 0 := C
  unfold fX0_endAhead at h
  refine gm_lv (lv' := [(0, _)]) rfl ?_
  refine gv_iconst C 1 rfl dX0_endAhead_0 1 rfl ?_
  refine gv_aload_n C rfl 0 rfl dX0_endAhead_1 2 rfl ?_
  refine gf_0_1 C (gi_0 hl hj) lkX0_15 dX0_endAhead_2 5 rfl ?_
  refine gv_isub C dX0_endAhead_5 6 rfl ?_
  obtain rfl := Option.some.inj h
  exact gv_iret C E rfl rfl dX0_endAhead_6
set_option maxRecDepth 100000 in
set_option maxHeartbeats 4000000 in
theorem kX0_makeFree (w : gm_Wd) (l j : Nat) (hl : l < 4) (hj : j < 10) (G : Gm) (q : Gm) (h : fX0_makeFree l j G = some q) : gm_C w yX0_makeFree cX0_makeFree 1 none 2 [.ref (gm_ad w 0 l j)] G none q := by
  refine gm_start (by decide) (Nat.le_of_ble_eq_true rfl) ?_
  intro x hw C E
  subst hw
  have C : gm_X x cX0_makeFree 1 RX0 none 2 := C
  unfold fX0_makeFree at h
  refine gm_lv (lv' := [(0, _)]) rfl ?_
  refine gv_aload_n C rfl 0 rfl dX0_makeFree_0 1 rfl ?_
  refine gv_iconst C 0 rfl dX0_makeFree_1 2 rfl ?_
  refine pf_0_2 C (gi_0 hl hj) lkX0_19 dX0_makeFree_2 5 rfl ?_
  refine gv_aload_n C rfl 0 rfl dX0_makeFree_5 6 rfl ?_
  refine gv_bipush C (-6) rfl dX0_makeFree_6 8 rfl ?_
  refine pf_0_4 C (gi_0 hl hj) lkX0_25 dX0_makeFree_8 11 rfl ?_
  refine gv_aload_n C rfl 0 rfl dX0_makeFree_11 12 rfl ?_
  refine gf_0_0 C (gi_0 hl hj) lkX0_9 dX0_makeFree_12 15 rfl ?_
  refine gv_aload_n C rfl 0 rfl dX0_makeFree_15 16 rfl ?_
  obtain ⟨q1, hq1, h⟩ := gm_bd h
  refine gv_callVi C mc_yX0_endAhead ⟨mi_yX0_endAhead, me_yX0_endAhead⟩ (by decide) mkX0_51 (gi_0 hl hj) ⟨_, rfl⟩ rfl rfl (kX0_endAhead _ _ _ hl hj _ _ hq1) rfl rfl (Nat.le_of_ble_eq_true rfl) dX0_makeFree_16 19 rfl ?_
  obtain ⟨q2, hq2, h⟩ := gm_bd h
  refine gv_callVv C mc_yX4_putToken ⟨mi_yX4_putToken, me_yX4_putToken⟩ (by decide) mkX0_48 (gi_4 hl (gm_h2 hj)) ⟨_, rfl⟩ rfl rfl (kX4_putToken _ _ _ hl (gm_h2 hj) _ _ _ hq2) rfl rfl (Nat.le_of_ble_eq_true rfl) dX0_makeFree_19 22 rfl ?_
  obtain rfl := Option.some.inj h
  exact gv_vret C E rfl rfl dX0_makeFree_22
set_option maxRecDepth 100000 in
set_option maxHeartbeats 4000000 in
theorem kX0_letPass (w : gm_Wd) (l j : Nat) (hl : l < 4) (hj : j < 10) (a1 : Int32) (G : Gm) (q : Gm) (h : fX0_letPass l j a1 G = some q) : gm_C w yX0_letPass cX0_letPass 2 none 1 [.ref (gm_ad w 0 l j), .int a1] G none q := by
  refine gm_start (by decide) (Nat.le_of_ble_eq_true rfl) ?_
  intro x hw C E
  subst hw
  have C : gm_X x cX0_letPass 2 RX0 none 1 := C
  unfold fX0_letPass at h
  refine gm_lv (lv' := [(0, _), (1, _)]) rfl ?_
  refine gv_aload_n C rfl 0 rfl dX0_letPass_0 1 rfl ?_
  refine gf_0_6 C (gi_0 hl hj) lkX0_32 dX0_letPass_1 4 rfl ?_
  refine gv_if_ne C dX0_letPass_4 8 (by decide) 7 rfl (fun c1 => ?_) (fun c1 => ?_)
  · replace h := gm_ip c1 h
    obtain rfl := Option.some.inj h
    exact gv_vret C E rfl rfl dX0_letPass_7
  · replace h := gm_iq c1 h
    refine gv_aload_n C rfl 0 rfl dX0_letPass_8 9 rfl ?_
    refine gv_iconst C 0 rfl dX0_letPass_9 10 rfl ?_
    refine gv_aload_n C rfl 0 rfl dX0_letPass_10 11 rfl ?_
    refine gf_0_6 C (gi_0 hl hj) lkX0_32 dX0_letPass_11 14 rfl ?_
    refine gv_iload_n C rfl 1 rfl dX0_letPass_14 15 rfl ?_
    refine gv_isub C dX0_letPass_15 16 rfl ?_
    refine gv_max C mkX0_54 ms_Lib_Math_max_name in_java_lang_Math mcx_Lib_Math_max_name (by decide) (Nat.le_of_ble_eq_true rfl) dX0_letPass_16 19 rfl ?_
    refine pf_0_6 C (gi_0 hl hj) lkX0_32 dX0_letPass_19 22 rfl ?_
    refine gv_aload_n C rfl 0 rfl dX0_letPass_22 23 rfl ?_
    refine gf_0_6 C (gi_0 hl hj) lkX0_32 dX0_letPass_23 26 rfl ?_
    refine gv_if_ne C dX0_letPass_26 34 (by decide) 29 rfl (fun c2 => ?_) (fun c2 => ?_)
    · replace h := gm_ip c2 h
      refine gv_aload_n C rfl 0 rfl dX0_letPass_29 30 rfl ?_
      refine gv_iconst C 0 rfl dX0_letPass_30 31 rfl ?_
      refine pf_0_5 C (gi_0 hl hj) (Or.inl rfl) lkX0_28 dX0_letPass_31 34 rfl ?_
      obtain rfl := Option.some.inj h
      exact gv_vret C E rfl rfl dX0_letPass_34
    · replace h := gm_iq c2 h
      obtain rfl := Option.some.inj h
      exact gv_vret C E rfl rfl dX0_letPass_34
set_option maxRecDepth 100000 in
set_option maxHeartbeats 4000000 in
theorem kX0_copyFrom (w : gm_Wd) (l j m1 p1 : Nat) (hl : l < 4) (hj : j < 10) (hm1 : m1 < 4) (hp1 : p1 < 10) (G : Gm) (q : Gm) (h : fX0_copyFrom l j m1 p1 G = some q) : gm_C w yX0_copyFrom cX0_copyFrom 2 none 0 [.ref (gm_ad w 0 l j), .ref (gm_ad w 0 m1 p1)] G none q := by
  refine gm_start (by decide) (Nat.le_of_ble_eq_true rfl) ?_
  intro x hw C E
  subst hw
  have C : gm_X x cX0_copyFrom 2 RX0 none 0 := C
  unfold fX0_copyFrom at h
  refine gm_lv (lv' := [(0, _), (1, _)]) rfl ?_
  refine gv_aload_n C rfl 0 rfl dX0_copyFrom_0 1 rfl ?_
  refine gv_aload_n C rfl 1 rfl dX0_copyFrom_1 2 rfl ?_
  refine gf_0_2 C (gi_0 hm1 hp1) lkX0_19 dX0_copyFrom_2 5 rfl ?_
  refine pf_0_2 C (gi_0 hl hj) lkX0_19 dX0_copyFrom_5 8 rfl ?_
  refine gv_aload_n C rfl 0 rfl dX0_copyFrom_8 9 rfl ?_
  refine gv_aload_n C rfl 1 rfl dX0_copyFrom_9 10 rfl ?_
  refine gf_0_3 C (gi_0 hm1 hp1) lkX0_22 dX0_copyFrom_10 13 rfl ?_
  refine pf_0_3 C (gi_0 hl hj) lkX0_22 dX0_copyFrom_13 16 rfl ?_
  refine gv_aload_n C rfl 0 rfl dX0_copyFrom_16 17 rfl ?_
  refine gv_aload_n C rfl 1 rfl dX0_copyFrom_17 18 rfl ?_
  refine gf_0_4 C (gi_0 hm1 hp1) lkX0_25 dX0_copyFrom_18 21 rfl ?_
  refine pf_0_4 C (gi_0 hl hj) lkX0_25 dX0_copyFrom_21 24 rfl ?_
  refine gv_aload_n C rfl 0 rfl dX0_copyFrom_24 25 rfl ?_
  refine gv_aload_n C rfl 1 rfl dX0_copyFrom_25 26 rfl ?_
  refine gf_0_5 C (gi_0 hm1 hp1) lkX0_28 dX0_copyFrom_26 29 rfl ?_
  obtain ⟨g1, h⟩ := gm_gp h
  refine pf_0_5 C (gi_0 hl hj) g1 lkX0_28 dX0_copyFrom_29 32 rfl ?_
  refine gv_aload_n C rfl 0 rfl dX0_copyFrom_32 33 rfl ?_
  refine gv_aload_n C rfl 1 rfl dX0_copyFrom_33 34 rfl ?_
  refine gf_0_6 C (gi_0 hm1 hp1) lkX0_32 dX0_copyFrom_34 37 rfl ?_
  refine pf_0_6 C (gi_0 hl hj) lkX0_32 dX0_copyFrom_37 40 rfl ?_
  obtain rfl := Option.some.inj h
  exact gv_vret C E rfl rfl dX0_copyFrom_40
