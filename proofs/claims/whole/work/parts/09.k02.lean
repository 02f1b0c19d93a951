set_option maxRecDepth 100000 in
set_option maxHeartbeats 4000000 in
theorem kX1_layOut (w : gm_Wd) (l : Nat) (hl : l < 4) (a1 a2 : Int32) (G : Gm) (q : Gm) (h : fX1_layOut l a1 a2 G = some q) : gm_C w yX1_layOut cX1_layOut 4 none 2 [.ref (gm_ad w 1 l 0), .int a1, .int a2] G none q := by
  refine gm_start (by decide) (Nat.le_of_ble_eq_true rfl) ?_
  intro x hw C E
  subst hw
  have C : gm_X x cX1_layOut 4 RX1 none 2 := C
  unfold fX1_layOut at h
  have L43 : ∀ (n43 : Nat) (v3 : Int32) (G : Gm), fX1_layOut_h43 l a1 a2 n43 v3 G = some q → gm_V x G 43 [(0, .ref (gm_ad (cx_w x) 1 l 0)), (1, .int a1), (2, .int a2), (3, .int v3)] [] := by
    intro n43
    induction n43 with
    | zero => intro v3 G h; cases h
    | succ n43 ih43 =>
      intro v3 G h
      rw [fX1_layOut_h43.eq_2] at h
      refine gv_iload_n C rfl 3 rfl dX1_layOut_43 44 rfl ?_
      refine gv_bipush C 12 rfl dX1_layOut_44 46 rfl ?_
      refine gv_icmp_ge C dX1_layOut_46 62 (by decide) 49 rfl (fun c2 => ?_) (fun c2 => ?_)
      · replace h := gm_ip c2 h
        refine gv_aload_n C rfl 0 rfl dX1_layOut_62 63 rfl ?_
        obtain ⟨q3, hq3, h⟩ := gm_bd h
        refine gv_callVv C mc_yX1_clearTraffic ⟨mi_yX1_clearTraffic, me_yX1_clearTraffic⟩ (by decide) mkX1_58 (gi_1 hl) ⟨_, rfl⟩ rfl rfl (kX1_clearTraffic _ _ hl _ _ hq3) rfl rfl (Nat.le_of_ble_eq_true rfl) dX1_layOut_63 66 rfl ?_
        refine gv_aload_n C rfl 0 rfl dX1_layOut_66 67 rfl ?_
        refine gv_iconst C 0 rfl dX1_layOut_67 68 rfl ?_
        refine pf_1_7 C (gi_1 hl) lkX1_61 dX1_layOut_68 71 rfl ?_
        refine gv_aload_n C rfl 0 rfl dX1_layOut_71 72 rfl ?_
        refine gf_1_4 C (gi_1 hl) lkX1_43 dX1_layOut_72 75 rfl ?_
        refine gv_iconst C 0 rfl dX1_layOut_75 76 rfl ?_
        refine pf_3_1 C (gi_3 hl) lkX1_64 dX1_layOut_76 79 rfl ?_
        obtain rfl := Option.some.inj h
        exact gv_vret C E rfl rfl dX1_layOut_79
      · replace h := gm_iq c2 h
        refine gv_aload_n C rfl 0 rfl dX1_layOut_49 50 rfl ?_
        refine gf_1_3 C (gi_1 hl) lkX1_36 dX1_layOut_50 53 rfl ?_
        refine gv_iload_n C rfl 3 rfl dX1_layOut_53 54 rfl ?_
        refine gv_iconst C 1 rfl dX1_layOut_54 55 rfl ?_
        obtain ⟨g4, h⟩ := gm_gis h
        refine gv_iast C (gi_8 hl (by decide)) (gm_l0 hl) g4 dX1_layOut_55 56 rfl ?_
        refine gv_iinc C 3 rfl rfl [(3, _), (0, _), (1, _), (2, _)] (by decide) rfl dX1_layOut_56 59 rfl ?_
        refine gv_goto C dX1_layOut_59 43 (by decide) ?_
        refine gm_ls [1, 2, 3, 0] rfl ?_
        exact ih43 _ _ h
  have L7 : ∀ (n7 : Nat) (v3 : Int32) (G : Gm), fX1_layOut_h7 l a1 a2 n7 v3 G = some q → gm_V x G 7 [(0, .ref (gm_ad (cx_w x) 1 l 0)), (1, .int a1), (2, .int a2), (3, .int v3)] [] := by
    intro n7
    induction n7 with
    | zero => intro v3 G h; cases h
    | succ n7 ih7 =>
      intro v3 G h
      rw [fX1_layOut_h7.eq_2] at h
      refine gv_iload_n C rfl 3 rfl dX1_layOut_7 8 rfl ?_
      refine gv_iconst C 5 rfl dX1_layOut_8 9 rfl ?_
      refine gv_icmp_ge C dX1_layOut_9 41 (by decide) 12 rfl (fun c1 => ?_) (fun c1 => ?_)
      · replace h := gm_ip c1 h
        refine gv_iconst C 0 rfl dX1_layOut_41 42 rfl ?_
        refine gv_istore_n C rfl [(3, _), (0, _), (1, _), (2, _)] (by decide) rfl dX1_layOut_42 43 rfl ?_
        refine gm_ls [1, 2, 3, 0] rfl ?_
        exact L43 _ _ _ h
      · replace h := gm_iq c1 h
        refine gv_aload_n C rfl 0 rfl dX1_layOut_12 13 rfl ?_
        refine gf_1_0 C (gi_1 hl) lkX1_11 dX1_layOut_13 16 rfl ?_
        refine gv_iload_n C rfl 3 rfl dX1_layOut_16 17 rfl ?_
        obtain ⟨g5, h⟩ := gm_gis h
        refine gv_aald12 C (gi_12 hl) g5 dX1_layOut_17 18 rfl ?_
        refine gv_iload_n C rfl 2 rfl dX1_layOut_18 19 rfl ?_
        refine gv_iload_n C rfl 3 rfl dX1_layOut_19 20 rfl ?_
        refine gv_ishr C dX1_layOut_20 21 rfl ?_
        refine gv_iconst C 1 rfl dX1_layOut_21 22 rfl ?_
        refine gv_iand C dX1_layOut_22 23 rfl ?_
        refine gv_iconst C 1 rfl dX1_layOut_23 24 rfl ?_
        refine gv_icmp_ne C dX1_layOut_24 31 (by decide) 27 rfl (fun c6 => ?_) (fun c6 => ?_)
        · replace h := gm_ip c6 h
          refine gv_iconst C 1 rfl dX1_layOut_27 28 rfl ?_
          refine gv_goto C dX1_layOut_28 32 (by decide) ?_
          obtain ⟨q7, hq7, h⟩ := gm_bd h
          refine gv_callVv C mc_yX4_layOut ⟨mi_yX4_layOut, me_yX4_layOut⟩ (by decide) mkX1_55 (gi_4 hl (gm_lt g5)) ⟨_, rfl⟩ rfl rfl (kX4_layOut _ _ _ hl (gm_lt g5) _ _ _ hq7) rfl rfl (Nat.le_of_ble_eq_true rfl) dX1_layOut_32 35 rfl ?_
          refine gv_iinc C 3 rfl rfl [(3, _), (0, _), (1, _), (2, _)] (by decide) rfl dX1_layOut_35 38 rfl ?_
          refine gv_goto C dX1_layOut_38 7 (by decide) ?_
          refine gm_ls [1, 2, 3, 0] rfl ?_
          exact ih7 _ _ h
        · replace h := gm_iq c6 h
          refine gv_iconst C 0 rfl dX1_layOut_31 32 rfl ?_
          obtain ⟨q8, hq8, h⟩ := gm_bd h
          refine gv_callVv C mc_yX4_layOut ⟨mi_yX4_layOut, me_yX4_layOut⟩ (by decide) mkX1_55 (gi_4 hl (gm_lt g5)) ⟨_, rfl⟩ rfl rfl (kX4_layOut _ _ _ hl (gm_lt g5) _ _ _ hq8) rfl rfl (Nat.le_of_ble_eq_true rfl) dX1_layOut_32 35 rfl ?_
          refine gv_iinc C 3 rfl rfl [(3, _), (0, _), (1, _), (2, _)] (by decide) rfl dX1_layOut_35 38 rfl ?_
          refine gv_goto C dX1_layOut_38 7 (by decide) ?_
          refine gm_ls [1, 2, 3, 0] rfl ?_
          exact ih7 _ _ h
  refine gm_lv (lv' := [(0, _), (1, _), (2, _)]) rfl ?_
  refine gv_aload_n C rfl 0 rfl dX1_layOut_0 1 rfl ?_
  refine gv_iload_n C rfl 1 rfl dX1_layOut_1 2 rfl ?_
  refine pf_1_5 C (gi_1 hl) lkX1_51 dX1_layOut_2 5 rfl ?_
  refine gv_iconst C 0 rfl dX1_layOut_5 6 rfl ?_
  refine gv_istore_n C rfl [(3, _), (0, _), (1, _), (2, _)] (by decide) rfl dX1_layOut_6 7 rfl ?_
  refine gm_ls [1, 2, 3, 0] rfl ?_
  exact L7 _ _ _ h
theorem bX1_sectionAt (l : Nat) (hl : l < 4) (a1 : Int32) (G : Gm) (t : Nat) (h : fX1_sectionAt l a1 G = some (some t)) : t < 5 := by
  unfold fX1_sectionAt at h
  by_cases c1 : a1 < 0
  · replace h := gm_ip c1 h
    cases h
  · replace h := gm_iq c1 h
    by_cases c2 : ((G 1 l 0 5) - 1) ≤ a1
    · replace h := gm_ip c2 h
      cases h
    · replace h := gm_iq c2 h
      obtain ⟨g3, h⟩ := gm_gis h
      obtain rfl := Option.some.inj (Option.some.inj h)
      exact (gm_lt g3)
set_option maxRecDepth 100000 in
set_option maxHeartbeats 4000000 in
theorem kX1_sectionAt (w : gm_Wd) (l : Nat) (hl : l < 4) (a1 : Int32) (G : Gm) (q : Option Nat) (h : fX1_sectionAt l a1 G = some q) : gm_C w yX1_sectionAt cX1_sectionAt 2 (some (.object "BlockBells$Section")) 0 [.ref (gm_ad w 1 l 0), .int a1] G (some (va_rf (q.map fun t => gm_ad w 4 l t))) G := by
  refine gm_start (by decide) (Nat.le_of_ble_eq_true rfl) ?_
  intro x hw C E
  subst hw
  have C : gm_X x cX1_sectionAt 2 RX1 (some (.object "BlockBells$Section")) 0 := C
  unfold fX1_sectionAt at h
  refine gm_lv (lv' := [(0, _), (1, _)]) rfl ?_
  refine gv_iload_n C rfl 1 rfl dX1_sectionAt_0 1 rfl ?_
  refine gv_if_lt C dX1_sectionAt_1 23 (by decide) 4 rfl (fun c1 => ?_) (fun c1 => ?_)
  · replace h := gm_ip c1 h
    refine gv_null C dX1_sectionAt_23 24 rfl ?_
    obtain rfl := Option.some.inj h
    exact gv_aret C E (Or.inl rfl) rfl rfl dX1_sectionAt_24
  · replace h := gm_iq c1 h
    refine gv_iload_n C rfl 1 rfl dX1_sectionAt_4 5 rfl ?_
    refine gv_aload_n C rfl 0 rfl dX1_sectionAt_5 6 rfl ?_
    refine gf_1_5 C (gi_1 hl) lkX1_51 dX1_sectionAt_6 9 rfl ?_
    refine gv_iconst C 1 rfl dX1_sectionAt_9 10 rfl ?_
    refine gv_isub C dX1_sectionAt_10 11 rfl ?_
    refine gv_icmp_ge C dX1_sectionAt_11 23 (by decide) 14 rfl (fun c2 => ?_) (fun c2 => ?_)
    · replace h := gm_ip c2 h
      refine gv_null C dX1_sectionAt_23 24 rfl ?_
      obtain rfl := Option.some.inj h
      exact gv_aret C E (Or.inl rfl) rfl rfl dX1_sectionAt_24
    · replace h := gm_iq c2 h
      refine gv_aload_n C rfl 0 rfl dX1_sectionAt_14 15 rfl ?_
      refine gf_1_0 C (gi_1 hl) lkX1_11 dX1_sectionAt_15 18 rfl ?_
      refine gv_iload_n C rfl 1 rfl dX1_sectionAt_18 19 rfl ?_
      obtain ⟨g3, h⟩ := gm_gis h
      refine gv_aald12 C (gi_12 hl) g3 dX1_sectionAt_19 20 rfl ?_
      refine gv_goto C dX1_sectionAt_20 24 (by decide) ?_
      obtain rfl := Option.some.inj h
      exact gv_aret C E (Or.inr ⟨_, rfl⟩) rfl rfl dX1_sectionAt_24
set_option maxRecDepth 100000 in
set_option maxHeartbeats 4000000 in
theorem kX1_hasBox (w : gm_Wd) (l : Nat) (hl : l < 4) (a1 : Int32) (G : Gm) (q : Int32) (h : fX1_hasBox l a1 G = some q) : gm_C w yX1_hasBox cX1_hasBox 2 (some .boolean) 0 [.ref (gm_ad w 1 l 0), .int a1] G (some (.int q)) G := by
  refine gm_start (by decide) (Nat.le_of_ble_eq_true rfl) ?_
  intro x hw C E
  subst hw
  have C : gm_X x cX1_hasBox 2 RX1 (some .boolean) 0 := C
  unfold fX1_hasBox at h
  refine gm_lv (lv' := [(0, _), (1, _)]) rfl ?_
  refine gv_iload_n C rfl 1 rfl dX1_hasBox_0 1 rfl ?_
  refine gv_if_lt C dX1_hasBox_1 16 (by decide) 4 rfl (fun c1 => ?_) (fun c1 => ?_)
  · replace h := gm_ip c1 h
    refine gv_iconst C 0 rfl dX1_hasBox_16 17 rfl ?_
    obtain rfl := Option.some.inj h
    exact gv_zret C E (Or.inl rfl) rfl rfl dX1_hasBox_17
  · replace h := gm_iq c1 h
    refine gv_iload_n C rfl 1 rfl dX1_hasBox_4 5 rfl ?_
    refine gv_aload_n C rfl 0 rfl dX1_hasBox_5 6 rfl ?_
    refine gf_1_5 C (gi_1 hl) lkX1_51 dX1_hasBox_6 9 rfl ?_
    refine gv_icmp_ge C dX1_hasBox_9 16 (by decide) 12 rfl (fun c2 => ?_) (fun c2 => ?_)
    · replace h := gm_ip c2 h
      refine gv_iconst C 0 rfl dX1_hasBox_16 17 rfl ?_
      obtain rfl := Option.some.inj h
      exact gv_zret C E (Or.inl rfl) rfl rfl dX1_hasBox_17
    · replace h := gm_iq c2 h
      refine gv_iconst C 1 rfl dX1_hasBox_12 13 rfl ?_
      refine gv_goto C dX1_hasBox_13 17 (by decide) ?_
      obtain rfl := Option.some.inj h
      exact gv_zret C E (Or.inr rfl) rfl rfl dX1_hasBox_17
set_option maxRecDepth 100000 in
set_option maxHeartbeats 4000000 in
theorem kX1_trainsStanding (w : gm_Wd) (l : Nat) (hl : l < 4) (a1 a2 a3 : Int32) (G : Gm) (q : Int32) (h : fX1_trainsStanding l a1 a2 a3 G = some q) : gm_C w yX1_trainsStanding cX1_trainsStanding 6 (some .int) 1 [.ref (gm_ad w 1 l 0), .int a1, .int a2, .int a3] G (some (.int q)) G := by
  refine gm_start (by decide) (Nat.le_of_ble_eq_true rfl) ?_
  intro x hw C E
  subst hw
  have C : gm_X x cX1_trainsStanding 6 RX1 (some .int) 1 := C
  unfold fX1_trainsStanding at h
  have L6 : ∀ (n6 : Nat) (v4 v5 : Int32), fX1_trainsStanding_h6 l a1 a2 a3 G n6 v4 v5 = some q → gm_V x G 6 [(0, .ref (gm_ad (cx_w x) 1 l 0)), (1, .int a1), (2, .int a2), (3, .int a3), (4, .int v4), (5, .int v5)] [] := by
    intro n6
    induction n6 with
    | zero => intro v4 v5 h; cases h
    | succ n6 ih6 =>
      intro v4 v5 h
      rw [fX1_trainsStanding_h6.eq_2] at h
      refine gv_iload C 5 rfl dX1_trainsStanding_6 8 rfl ?_
      refine gv_aload_n C rfl 0 rfl dX1_trainsStanding_8 9 rfl ?_
      refine gf_1_6 C (gi_1 hl) lkX1_67 dX1_trainsStanding_9 12 rfl ?_
      refine gv_icmp_ge C dX1_trainsStanding_12 40 (by decide) 15 rfl (fun c1 => ?_) (fun c1 => ?_)
      · replace h := gm_ip c1 h
        refine gv_iload C 4 rfl dX1_trainsStanding_40 42 rfl ?_
        obtain rfl := Option.some.inj h
        exact gv_iret C E rfl rfl dX1_trainsStanding_42
      · replace h := gm_iq c1 h
        refine gv_aload_n C rfl 0 rfl dX1_trainsStanding_15 16 rfl ?_
        refine gf_1_2 C (gi_1 hl) lkX1_31 dX1_trainsStanding_16 19 rfl ?_
        refine gv_iload C 5 rfl dX1_trainsStanding_19 21 rfl ?_
        obtain ⟨g2, h⟩ := gm_gis h
        refine gv_aald13 C (gi_13 hl) g2 dX1_trainsStanding_21 22 rfl ?_
        refine gv_iload_n C rfl 1 rfl dX1_trainsStanding_22 23 rfl ?_
        refine gv_iload_n C rfl 2 rfl dX1_trainsStanding_23 24 rfl ?_
        refine gv_iload_n C rfl 3 rfl dX1_trainsStanding_24 25 rfl ?_
        obtain ⟨q3, hq3, h⟩ := gm_bd h
        refine gv_callVi C mc_yX5_stands ⟨mi_yX5_stands, me_yX5_stands⟩ (by decide) mkX1_111 (gi_5 hl (gm_lt g2)) ⟨_, rfl⟩ rfl rfl (kX5_stands _ _ _ hl (gm_lt g2) _ _ _ _ _ hq3) rfl rfl (Nat.le_of_ble_eq_true rfl) dX1_trainsStanding_25 28 rfl ?_
        refine gv_if_eq C dX1_trainsStanding_28 34 (by decide) 31 rfl (fun c4 => ?_) (fun c4 => ?_)
        · replace h := gm_ip c4 h
          refine gv_iinc C 5 rfl rfl [(5, _), (0, _), (1, _), (2, _), (3, _), (4, _)] (by decide) rfl dX1_trainsStanding_34 37 rfl ?_
          refine gv_goto C dX1_trainsStanding_37 6 (by decide) ?_
          refine gm_ls [1, 2, 3, 4, 5, 0] rfl ?_
          exact ih6 _ _ h
        · replace h := gm_iq c4 h
          refine gv_iinc C 4 rfl rfl [(4, _), (0, _), (1, _), (2, _), (3, _), (5, _)] (by decide) rfl dX1_trainsStanding_31 34 rfl ?_
          refine gv_iinc C 5 rfl rfl [(5, _), (4, _), (0, _), (1, _), (2, _), (3, _)] (by decide) rfl dX1_trainsStanding_34 37 rfl ?_
          refine gv_goto C dX1_trainsStanding_37 6 (by decide) ?_
          refine gm_ls [2, 3, 4, 5, 1, 0] rfl ?_
          exact ih6 _ _ h
  refine gm_lv (lv' := [(0, _), (1, _), (2, _), (3, _)]) rfl ?_
  refine gv_iconst C 0 rfl dX1_trainsStanding_0 1 rfl ?_
  refine gv_istore C [(4, _), (0, _), (1, _), (2, _), (3, _)] (by decide) rfl dX1_trainsStanding_1 3 rfl ?_
  refine gv_iconst C 0 rfl dX1_trainsStanding_3 4 rfl ?_
  refine gv_istore C [(5, _), (4, _), (0, _), (1, _), (2, _), (3, _)] (by decide) rfl dX1_trainsStanding_4 6 rfl ?_
  refine gm_ls [2, 3, 4, 5, 1, 0] rfl ?_
  exact L6 _ _ _ h
set_option maxRecDepth 100000 in
set_option maxHeartbeats 4000000 in
theorem kX1_changeLoops (w : gm_Wd) (l : Nat) (hl : l < 4) (a1 a2 a3 : Int32) (G : Gm) (q : Int32 × Gm) (h : fX1_changeLoops l a1 a2 a3 G = some q) : gm_C w yX1_changeLoops cX1_changeLoops 5 (some .int) 2 [.ref (gm_ad w 1 l 0), .int a1, .int a2, .int a3] G (some (.int q.1)) q.2 := by
  refine gm_start (by decide) (Nat.le_of_ble_eq_true rfl) ?_
  intro x hw C E
  subst hw
  have C : gm_X x cX1_changeLoops 5 RX1 (some .int) 2 := C
  unfold fX1_changeLoops at h
  refine gm_lv (lv' := [(0, _), (1, _), (2, _), (3, _)]) rfl ?_
  refine gv_aload_n C rfl 0 rfl dX1_changeLoops_0 1 rfl ?_
  refine gv_iconst C 1 rfl dX1_changeLoops_1 2 rfl ?_
  refine gv_iload_n C rfl 1 rfl dX1_changeLoops_2 3 rfl ?_
  refine gv_iload_n C rfl 2 rfl dX1_changeLoops_3 4 rfl ?_
  obtain ⟨q1, hq1, h⟩ := gm_bd h
  refine gv_callVi C mc_yX1_trainsStanding ⟨mi_yX1_trainsStanding, me_yX1_trainsStanding⟩ (by decide) mkX1_107 (gi_1 hl) ⟨_, rfl⟩ rfl rfl (kX1_trainsStanding _ _ hl _ _ _ _ _ hq1) rfl rfl (Nat.le_of_ble_eq_true rfl) dX1_changeLoops_4 7 rfl ?_
  refine gv_iload_n C rfl 3 rfl dX1_changeLoops_7 8 rfl ?_
  refine gv_icmp_le C dX1_changeLoops_8 14 (by decide) 11 rfl (fun c2 => ?_) (fun c2 => ?_)
  · replace h := gm_ip c2 h
    refine gv_aload_n C rfl 0 rfl dX1_changeLoops_14 15 rfl ?_
    refine gf_1_3 C (gi_1 hl) lkX1_36 dX1_changeLoops_15 18 rfl ?_
    refine gv_iconst C 2 rfl dX1_changeLoops_18 19 rfl ?_
    refine gv_iload_n C rfl 1 rfl dX1_changeLoops_19 20 rfl ?_
    refine gv_imul C dX1_changeLoops_20 21 rfl ?_
    refine gv_iload_n C rfl 2 rfl dX1_changeLoops_21 22 rfl ?_
    refine gv_iadd C dX1_changeLoops_22 23 rfl ?_
    obtain ⟨g3, h⟩ := gm_gis h
    refine gv_iald C (gi_8 hl (by decide)) (gm_l0 hl) g3 dX1_changeLoops_23 24 rfl ?_
    refine gv_istore C [(4, _), (0, _), (1, _), (2, _), (3, _)] (by decide) rfl dX1_changeLoops_24 26 rfl ?_
    refine gv_aload_n C rfl 1 rfl dX1_changeLoops_26 27 rfl ?_
    refine gf_1_3 C (gi_1 hl) lkX1_36 dX1_changeLoops_27 30 rfl ?_
    refine gv_iconst C 2 rfl dX1_changeLoops_30 31 rfl ?_
    refine gv_iload_n C rfl 2 rfl dX1_changeLoops_31 32 rfl ?_
    refine gv_imul C dX1_changeLoops_32 33 rfl ?_
    refine gv_iload_n C rfl 3 rfl dX1_changeLoops_33 34 rfl ?_
    refine gv_iadd C dX1_changeLoops_34 35 rfl ?_
    refine gv_iload_n C rfl 4 rfl dX1_changeLoops_35 36 rfl ?_
    obtain ⟨g4, h⟩ := gm_gis h
    refine gv_iast C (gi_8 hl (by decide)) (gm_l0 hl) g4 dX1_changeLoops_36 37 rfl ?_
    refine gv_iload C 0 rfl dX1_changeLoops_37 39 rfl ?_
    obtain rfl := Option.some.inj h
    exact gv_iret C E rfl rfl dX1_changeLoops_39
  · replace h := gm_iq c2 h
    refine gv_bipush C (-5) rfl dX1_changeLoops_11 13 rfl ?_
    obtain rfl := Option.some.inj h
    exact gv_iret C E rfl rfl dX1_changeLoops_13
theorem bX1_blockAt (l : Nat) (hl : l < 4) (a1 a2 : Int32) (G : Gm) (t : Nat) (h : fX1_blockAt l a1 a2 G = some (some t)) : t < 10 := by
  unfold fX1_blockAt at h
  by_cases c1 : a1 < 0
  · replace h := gm_ip c1 h
    cases h
  · replace h := gm_iq c1 h
    by_cases c2 : ((G 1 l 0 5) - 1) ≤ a1
    · replace h := gm_ip c2 h
      cases h
    · replace h := gm_iq c2 h
      by_cases c3 : a2 < 0
      · replace h := gm_ip c3 h
        cases h
      · replace h := gm_iq c3 h
        by_cases c4 : a2 ≤ 1
        · replace h := gm_ip c4 h
          obtain ⟨g5, h⟩ := gm_gis h
          obtain rfl := Option.some.inj (Option.some.inj h)
          exact (gm_lt g5)
        · replace h := gm_iq c4 h
          cases h
set_option maxRecDepth 100000 in
set_option maxHeartbeats 4000000 in
theorem kX1_blockAt (w : gm_Wd) (l : Nat) (hl : l < 4) (a1 a2 : Int32) (G : Gm) (q : Option Nat) (h : fX1_blockAt l a1 a2 G = some q) : gm_C w yX1_blockAt cX1_blockAt 3 (some (.object "BlockBells$Block")) 0 [.ref (gm_ad w 1 l 0), .int a1, .int a2] G (some (va_rf (q.map fun t => gm_ad w 0 l t))) G := by
  refine gm_start (by decide) (Nat.le_of_ble_eq_true rfl) ?_
  intro x hw C E
  subst hw
  have C : gm_X x cX1_blockAt 3 RX1 (some (.object "BlockBells$Block")) 0 := C
  unfold fX1_blockAt at h
  refine gm_lv (lv' := [(0, _), (1, _), (2, _)]) rfl ?_
  refine gv_iload_n C rfl 1 rfl dX1_blockAt_0 1 rfl ?_
  refine gv_if_lt C dX1_blockAt_1 23 (by decide) 4 rfl (fun c1 => ?_) (fun c1 => ?_)
  · replace h := gm_ip c1 h
    refine gv_null C dX1_blockAt_23 24 rfl ?_
    obtain rfl := Option.some.inj h
    exact gv_aret C E (Or.inl rfl) rfl rfl dX1_blockAt_24
  · replace h := gm_iq c1 h
    refine gv_iload_n C rfl 1 rfl dX1_blockAt_4 5 rfl ?_
    refine gv_aload_n C rfl 0 rfl dX1_blockAt_5 6 rfl ?_
    refine gf_1_5 C (gi_1 hl) lkX1_51 dX1_blockAt_6 9 rfl ?_
    refine gv_iconst C 1 rfl dX1_blockAt_9 10 rfl ?_
    refine gv_isub C dX1_blockAt_10 11 rfl ?_
    refine gv_icmp_ge C dX1_blockAt_11 23 (by decide) 14 rfl (fun c2 => ?_) (fun c2 => ?_)
    · replace h := gm_ip c2 h
      refine gv_null C dX1_blockAt_23 24 rfl ?_
      obtain rfl := Option.some.inj h
      exact gv_aret C E (Or.inl rfl) rfl rfl dX1_blockAt_24
    · replace h := gm_iq c2 h
      refine gv_iload_n C rfl 2 rfl dX1_blockAt_14 15 rfl ?_
      refine gv_if_lt C dX1_blockAt_15 23 (by decide) 18 rfl (fun c3 => ?_) (fun c3 => ?_)
      · replace h := gm_ip c3 h
        refine gv_null C dX1_blockAt_23 24 rfl ?_
        obtain rfl := Option.some.inj h
        exact gv_aret C E (Or.inl rfl) rfl rfl dX1_blockAt_24
      · replace h := gm_iq c3 h
        refine gv_iload_n C rfl 2 rfl dX1_blockAt_18 19 rfl ?_
        refine gv_iconst C 1 rfl dX1_blockAt_19 20 rfl ?_
        refine gv_icmp_le C dX1_blockAt_20 25 (by decide) 23 rfl (fun c4 => ?_) (fun c4 => ?_)
        · replace h := gm_ip c4 h
          refine gv_aload_n C rfl 0 rfl dX1_blockAt_25 26 rfl ?_
          refine gf_1_1 C (gi_1 hl) lkX1_19 dX1_blockAt_26 29 rfl ?_
          refine gv_iconst C 2 rfl dX1_blockAt_29 30 rfl ?_
          refine gv_iload_n C rfl 1 rfl dX1_blockAt_30 31 rfl ?_
          refine gv_imul C dX1_blockAt_31 32 rfl ?_
          refine gv_iload_n C rfl 2 rfl dX1_blockAt_32 33 rfl ?_
          refine gv_iadd C dX1_blockAt_33 34 rfl ?_
          obtain ⟨g5, h⟩ := gm_gis h
          refine gv_aald10 C (gi_10 hl) g5 dX1_blockAt_34 35 rfl ?_
          obtain rfl := Option.some.inj h
          exact gv_aret C E (Or.inr ⟨_, rfl⟩) rfl rfl dX1_blockAt_35
        · replace h := gm_iq c4 h
          refine gv_null C dX1_blockAt_23 24 rfl ?_
          obtain rfl := Option.some.inj h
          exact gv_aret C E (Or.inl rfl) rfl rfl dX1_blockAt_24
set_option maxRecDepth 100000 in
set_option maxHeartbeats 4000000 in
theorem kX1_firstBox (w : gm_Wd) (l : Nat) (hl : l < 4) (a1 : Int32) (G : Gm) (q : Int32) (h : fX1_firstBox l a1 G = some q) : gm_C w yX1_firstBox cX1_firstBox 2 (some .int) 0 [.ref (gm_ad w 1 l 0), .int a1] G (some (.int q)) G := by
  refine gm_start (by decide) (Nat.le_of_ble_eq_true rfl) ?_
  intro x hw C E
  subst hw
  have C : gm_X x cX1_firstBox 2 RX1 (some .int) 0 := C
  unfold fX1_firstBox at h
  refine gm_lv (lv' := [(0, _), (1, _)]) rfl ?_
  refine gv_iload_n C rfl 1 rfl dX1_firstBox_0 1 rfl ?_
  refine gv_if_ne C dX1_firstBox_1 8 (by decide) 4 rfl (fun c1 => ?_) (fun c1 => ?_)
  · replace h := gm_ip c1 h
    refine gv_iconst C 0 rfl dX1_firstBox_4 5 rfl ?_
    refine gv_goto C dX1_firstBox_5 14 (by decide) ?_
    obtain rfl := Option.some.inj h
    exact gv_iret C E rfl rfl dX1_firstBox_14
  · replace h := gm_iq c1 h
    refine gv_aload_n C rfl 0 rfl dX1_firstBox_8 9 rfl ?_
    refine gf_1_5 C (gi_1 hl) lkX1_51 dX1_firstBox_9 12 rfl ?_
    refine gv_iconst C 1 rfl dX1_firstBox_12 13 rfl ?_
    refine gv_isub C dX1_firstBox_13 14 rfl ?_
    obtain rfl := Option.some.inj h
    exact gv_iret C E rfl rfl dX1_firstBox_14
set_option maxRecDepth 100000 in
set_option maxHeartbeats 4000000 in
theorem kX1_isLineFree (w : gm_Wd) (l : Nat) (hl : l < 4) (a1 a2 : Int32) (G : Gm) (q : Int32) (h : fX1_isLineFree l a1 a2 G = some q) : gm_C w yX1_isLineFree cX1_isLineFree 3 (some .boolean) 2 [.ref (gm_ad w 1 l 0), .int a1, .int a2] G (some (.int q)) G := by
  refine gm_start (by decide) (Nat.le_of_ble_eq_true rfl) ?_
  intro x hw C E
  subst hw
  have C : gm_X x cX1_isLineFree 3 RX1 (some .boolean) 2 := C
  unfold fX1_isLineFree at h
  refine gm_lv (lv' := [(0, _), (1, _), (2, _)]) rfl ?_
  refine gv_aload_n C rfl 0 rfl dX1_isLineFree_0 1 rfl ?_
  refine gv_iconst C 0 rfl dX1_isLineFree_1 2 rfl ?_
  refine gv_iload_n C rfl 1 rfl dX1_isLineFree_2 3 rfl ?_
  refine gv_iload_n C rfl 2 rfl dX1_isLineFree_3 4 rfl ?_
  obtain ⟨q1, hq1, h⟩ := gm_bd h
  refine gv_callVi C mc_yX1_trainsStanding ⟨mi_yX1_trainsStanding, me_yX1_trainsStanding⟩ (by decide) mkX1_107 (gi_1 hl) ⟨_, rfl⟩ rfl rfl (kX1_trainsStanding _ _ hl _ _ _ _ _ hq1) rfl rfl (Nat.le_of_ble_eq_true rfl) dX1_isLineFree_4 7 rfl ?_
  refine gv_if_ne C dX1_isLineFree_7 14 (by decide) 10 rfl (fun c2 => ?_) (fun c2 => ?_)
  · replace h := gm_ip c2 h
    refine gv_iconst C 1 rfl dX1_isLineFree_10 11 rfl ?_
    refine gv_goto C dX1_isLineFree_11 15 (by decide) ?_
    obtain rfl := Option.some.inj h
    exact gv_zret C E (Or.inr rfl) rfl rfl dX1_isLineFree_15
  · replace h := gm_iq c2 h
    refine gv_iconst C 0 rfl dX1_isLineFree_14 15 rfl ?_
    obtain rfl := Option.some.inj h
    exact gv_zret C E (Or.inl rfl) rfl rfl dX1_isLineFree_15
set_option maxRecDepth 100000 in
set_option maxHeartbeats 4000000 in
theorem kX1_bringNew (w : gm_Wd) (l : Nat) (hl : l < 4) (a1 a2 : Int32) (G : Gm) (q : Int32 × Gm) (h : fX1_bringNew l a1 a2 G = some q) : gm_C w yX1_bringNew cX1_bringNew 5 (some .int) 3 [.ref (gm_ad w 1 l 0), .int a1, .int a2] G (some (.int q.1)) q.2 := by
  refine gm_start (by decide) (Nat.le_of_ble_eq_true rfl) ?_
  intro x hw C E
  subst hw
  have C : gm_X x cX1_bringNew 5 RX1 (some .int) 3 := C
  unfold fX1_bringNew at h
  refine gm_lv (lv' := [(0, _), (1, _), (2, _)]) rfl ?_
  refine gv_aload_n C rfl 0 rfl dX1_bringNew_0 1 rfl ?_
  refine gv_iload_n C rfl 2 rfl dX1_bringNew_1 2 rfl ?_
  obtain ⟨q1, hq1, h⟩ := gm_bd h
  refine gv_callVi C mc_yX1_firstBox ⟨mi_yX1_firstBox, me_yX1_firstBox⟩ (by decide) mkX1_103 (gi_1 hl) ⟨_, rfl⟩ rfl rfl (kX1_firstBox _ _ hl _ _ _ hq1) rfl rfl (Nat.le_of_ble_eq_true rfl) dX1_bringNew_2 5 rfl ?_
  refine gv_istore_n C rfl [(3, _), (0, _), (1, _), (2, _)] (by decide) rfl dX1_bringNew_5 6 rfl ?_
  refine gv_aload_n C rfl 1 rfl dX1_bringNew_6 7 rfl ?_
  refine gf_1_6 C (gi_1 hl) lkX1_67 dX1_bringNew_7 10 rfl ?_
  refine gv_bipush C 12 rfl dX1_bringNew_10 12 rfl ?_
  refine gv_icmp_ge C dX1_bringNew_12 24 (by decide) 15 rfl (fun c2 => ?_) (fun c2 => ?_)
  · replace h := gm_ip c2 h
    refine gv_bipush C (-5) rfl dX1_bringNew_24 26 rfl ?_
    obtain rfl := Option.some.inj h
    exact gv_iret C E rfl rfl dX1_bringNew_26
  · replace h := gm_iq c2 h
    refine gv_aload_n C rfl 1 rfl dX1_bringNew_15 16 rfl ?_
    refine gv_iload_n C rfl 0 rfl dX1_bringNew_16 17 rfl ?_
    refine gv_iload_n C rfl 3 rfl dX1_bringNew_17 18 rfl ?_
    obtain ⟨q3, hq3, h⟩ := gm_bd h
    refine gv_callVi C mc_yX1_isLineFree ⟨mi_yX1_isLineFree, me_yX1_isLineFree⟩ (by decide) mkX1_145 (gi_1 hl) ⟨_, rfl⟩ rfl rfl (kX1_isLineFree _ _ hl _ _ _ _ hq3) rfl rfl (Nat.le_of_ble_eq_true rfl) dX1_bringNew_18 21 rfl ?_
    refine gv_if_ne C dX1_bringNew_21 27 (by decide) 24 rfl (fun c4 => ?_) (fun c4 => ?_)
    · replace h := gm_ip c4 h
      refine gv_bipush C (-5) rfl dX1_bringNew_24 26 rfl ?_
      obtain rfl := Option.some.inj h
      exact gv_iret C E rfl rfl dX1_bringNew_26
    · replace h := gm_iq c4 h
      refine gv_aload_n C rfl 1 rfl dX1_bringNew_27 28 rfl ?_
      refine gf_1_2 C (gi_1 hl) lkX1_31 dX1_bringNew_28 31 rfl ?_
      refine gv_aload_n C rfl 1 rfl dX1_bringNew_31 32 rfl ?_
      refine gf_1_6 C (gi_1 hl) lkX1_67 dX1_bringNew_32 35 rfl ?_
      obtain ⟨g5, h⟩ := gm_gis h
      refine gv_aald13 C (gi_13 hl) g5 dX1_bringNew_35 36 rfl ?_
      refine gv_astore C [(4, _), (3, _), (0, _), (1, _), (2, _)] (by decide) rfl dX1_bringNew_36 38 rfl ?_
      refine gv_aload C 0 rfl dX1_bringNew_38 40 rfl ?_
      refine gv_iload_n C rfl 3 rfl dX1_bringNew_40 41 rfl ?_
      refine gv_iload_n C rfl 4 rfl dX1_bringNew_41 42 rfl ?_
      refine gv_iload_n C rfl 1 rfl dX1_bringNew_42 43 rfl ?_
      refine gv_aload_n C rfl 2 rfl dX1_bringNew_43 44 rfl ?_
      refine gf_1_7 C (gi_1 hl) lkX1_61 dX1_bringNew_44 47 rfl ?_
      obtain ⟨q6, hq6, h⟩ := gm_bd h
      refine gv_callVv C mc_yX5_start ⟨mi_yX5_start, me_yX5_start⟩ (by decide) mkX1_149 (gi_5 hl (gm_lt g5)) ⟨_, rfl⟩ rfl rfl (kX5_start _ _ _ hl (gm_lt g5) _ _ _ _ _ _ hq6) rfl rfl (Nat.le_of_ble_eq_true rfl) dX1_bringNew_47 50 rfl ?_
      refine gv_aload_n C rfl 2 rfl dX1_bringNew_50 51 rfl ?_
      refine gv_dup C rfl dX1_bringNew_51 52 rfl ?_
      refine gf_1_6 C (gi_1 hl) lkX1_67 dX1_bringNew_52 55 rfl ?_
      refine gv_iconst C 1 rfl dX1_bringNew_55 56 rfl ?_
      refine gv_iadd C dX1_bringNew_56 57 rfl ?_
      refine pf_1_6 C (gi_1 hl) lkX1_67 dX1_bringNew_57 60 rfl ?_
      refine gv_aload C 0 rfl dX1_bringNew_60 62 rfl ?_
      refine gf_5_0 C (gi_5 hl (gm_lt g5)) lkX1_153 dX1_bringNew_62 65 rfl ?_
      obtain rfl := Option.some.inj h
      exact gv_iret C E rfl rfl dX1_bringNew_65
theorem bX1_trainAt (l : Nat) (hl : l < 4) (a1 : Int32) (G : Gm) (t : Nat) (h : fX1_trainAt l a1 G = some (some t)) : t < 12 := by
  unfold fX1_trainAt at h
  by_cases c1 : a1 < 0
  · replace h := gm_ip c1 h
    cases h
  · replace h := gm_iq c1 h
    by_cases c2 : (G 1 l 0 6) ≤ a1
    · replace h := gm_ip c2 h
      cases h
    · replace h := gm_iq c2 h
      obtain ⟨g3, h⟩ := gm_gis h
      obtain rfl := Option.some.inj (Option.some.inj h)
      exact (gm_lt g3)
set_option maxRecDepth 100000 in
set_option maxHeartbeats 4000000 in
theorem kX1_trainAt (w : gm_Wd) (l : Nat) (hl : l < 4) (a1 : Int32) (G : Gm) (q : Option Nat) (h : fX1_trainAt l a1 G = some q) : gm_C w yX1_trainAt cX1_trainAt 2 (some (.object "BlockBells$Train")) 0 [.ref (gm_ad w 1 l 0), .int a1] G (some (va_rf (q.map fun t => gm_ad w 5 l t))) G := by
  refine gm_start (by decide) (Nat.le_of_ble_eq_true rfl) ?_
  intro x hw C E
  subst hw
  have C : gm_X x cX1_trainAt 2 RX1 (some (.object "BlockBells$Train")) 0 := C
  unfold fX1_trainAt at h
  refine gm_lv (lv' := [(0, _), (1, _)]) rfl ?_
  refine gv_iload_n C rfl 1 rfl dX1_trainAt_0 1 rfl ?_
  refine gv_if_lt C dX1_trainAt_1 21 (by decide) 4 rfl (fun c1 => ?_) (fun c1 => ?_)
  · replace h := gm_ip c1 h
    refine gv_null C dX1_trainAt_21 22 rfl ?_
    obtain rfl := Option.some.inj h
    exact gv_aret C E (Or.inl rfl) rfl rfl dX1_trainAt_22
  · replace h := gm_iq c1 h
    refine gv_iload_n C rfl 1 rfl dX1_trainAt_4 5 rfl ?_
    refine gv_aload_n C rfl 0 rfl dX1_trainAt_5 6 rfl ?_
    refine gf_1_6 C (gi_1 hl) lkX1_67 dX1_trainAt_6 9 rfl ?_
    refine gv_icmp_ge C dX1_trainAt_9 21 (by decide) 12 rfl (fun c2 => ?_) (fun c2 => ?_)
    · replace h := gm_ip c2 h
      refine gv_null C dX1_trainAt_21 22 rfl ?_
      obtain rfl := Option.some.inj h
      exact gv_aret C E (Or.inl rfl) rfl rfl dX1_trainAt_22
    · replace h := gm_iq c2 h
      refine gv_aload_n C rfl 0 rfl dX1_trainAt_12 13 rfl ?_
      refine gf_1_2 C (gi_1 hl) lkX1_31 dX1_trainAt_13 16 rfl ?_
      refine gv_iload_n C rfl 1 rfl dX1_trainAt_16 17 rfl ?_
      obtain ⟨g3, h⟩ := gm_gis h
      refine gv_aald13 C (gi_13 hl) g3 dX1_trainAt_17 18 rfl ?_
      refine gv_goto C dX1_trainAt_18 22 (by decide) ?_
      obtain rfl := Option.some.inj h
      exact gv_aret C E (Or.inr ⟨_, rfl⟩) rfl rfl dX1_trainAt_22
theorem bX1_nextBlock (l p1 : Nat) (hl : l < 4) (hp1 : p1 < 12) (G : Gm) (t : Nat) (h : fX1_nextBlock l p1 G = some (some t)) : t < 10 := by
  unfold fX1_nextBlock at h
  by_cases c1 : (G 5 l p1 3) = 0
  · replace h := gm_ip c1 h
    obtain ⟨q2, hq2, h⟩ := gm_bd h
    rcases gm_oc h with ⟨eq2, h⟩ | ⟨t3, eq2, h⟩
    · replace hq2 := hq2.trans (congrArg some eq2)
      cases h
    · replace hq2 := hq2.trans (congrArg some eq2)
      obtain rfl := Option.some.inj (Option.some.inj h)
      exact (bX1_blockAt _ hl _ _ _ _ hq2)
  · replace h := gm_iq c1 h
    cases h
set_option maxRecDepth 100000 in
set_option maxHeartbeats 4000000 in
theorem kX1_nextBlock (w : gm_Wd) (l p1 : Nat) (hl : l < 4) (hp1 : p1 < 12) (G : Gm) (q : Option Nat) (h : fX1_nextBlock l p1 G = some q) : gm_C w yX1_nextBlock cX1_nextBlock 2 (some (.object "BlockBells$Block")) 1 [.ref (gm_ad w 1 l 0), .ref (gm_ad w 5 l p1)] G (some (va_rf (q.map fun t => gm_ad w 0 l t))) G := by
  refine gm_start (by decide) (Nat.le_of_ble_eq_true rfl) ?_
  intro x hw C E
  subst hw
  have C : gm_X x cX1_nextBlock 2 RX1 (some (.object "BlockBells$Block")) 1 := C
  unfold fX1_nextBlock at h
  refine gm_lv (lv' := [(0, _), (1, _)]) rfl ?_
  refine gv_aload_n C rfl 1 rfl dX1_nextBlock_0 1 rfl ?_
  refine gf_5_3 C (gi_5 hl hp1) lkX1_100 dX1_nextBlock_1 4 rfl ?_
  refine gv_if_ne C dX1_nextBlock_4 27 (by decide) 7 rfl (fun c1 => ?_) (fun c1 => ?_)
  · replace h := gm_ip c1 h
    refine gv_aload_n C rfl 0 rfl dX1_nextBlock_7 8 rfl ?_
    refine gv_aload_n C rfl 1 rfl dX1_nextBlock_8 9 rfl ?_
    refine gf_5_4 C (gi_5 hl hp1) lkX1_115 dX1_nextBlock_9 12 rfl ?_
    refine gv_aload_n C rfl 1 rfl dX1_nextBlock_12 13 rfl ?_
    refine gf_5_2 C (gi_5 hl hp1) lkX1_118 dX1_nextBlock_13 16 rfl ?_
    refine gv_isub C dX1_nextBlock_16 17 rfl ?_
    refine gv_aload_n C rfl 1 rfl dX1_nextBlock_17 18 rfl ?_
    refine gf_5_2 C (gi_5 hl hp1) lkX1_118 dX1_nextBlock_18 21 rfl ?_
    obtain ⟨q2, hq2, h⟩ := gm_bd h
    rcases gm_oc h with ⟨eq2, h⟩ | ⟨t3, eq2, h⟩
    · replace hq2 := hq2.trans (congrArg some eq2)
      refine gv_callVn C mc_yX1_blockAt ⟨mi_yX1_blockAt, me_yX1_blockAt⟩ (by decide) mkX1_121 (gi_1 hl) ⟨_, rfl⟩ rfl rfl (kX1_blockAt _ _ hl _ _ _ _ hq2) rfl rfl (Nat.le_of_ble_eq_true rfl) dX1_nextBlock_21 24 rfl ?_
      refine gv_goto C dX1_nextBlock_24 28 (by decide) ?_
      obtain rfl := Option.some.inj h
      exact gv_aret C E (Or.inl rfl) rfl rfl dX1_nextBlock_28
    · replace hq2 := hq2.trans (congrArg some eq2)
      refine gv_callVa C mc_yX1_blockAt ⟨mi_yX1_blockAt, me_yX1_blockAt⟩ (by decide) mkX1_121 (gi_1 hl) ⟨_, rfl⟩ rfl rfl (kX1_blockAt _ _ hl _ _ _ _ hq2) rfl rfl (Nat.le_of_ble_eq_true rfl) dX1_nextBlock_21 24 rfl ?_
      refine gv_goto C dX1_nextBlock_24 28 (by decide) ?_
      obtain rfl := Option.some.inj h
      exact gv_aret C E (Or.inr ⟨_, rfl⟩) rfl rfl dX1_nextBlock_28
  · replace h := gm_iq c1 h
    refine gv_null C dX1_nextBlock_27 28 rfl ?_
    obtain rfl := Option.some.inj h
    exact gv_aret C E (Or.inl rfl) rfl rfl dX1_nextBlock_28
set_option maxRecDepth 100000 in
set_option maxHeartbeats 4000000 in
theorem kX6_isDirection (w : gm_Wd) (a0 : Int32) (G : Gm) (q : Int32) (h : fX6_isDirection a0 = some q) : gm_C w yX6_isDirection cX6_isDirection 1 (some .boolean) 0 [.int a0] G (some (.int q)) G := by
  refine gm_start (by decide) (Nat.le_of_ble_eq_true rfl) ?_
  intro x hw C E
  subst hw
  have C : gm_X x cX6_isDirection 1 RX6 (some .boolean) 0 := C
  unfold fX6_isDirection at h
  refine gm_lv (lv' := [(0, _)]) rfl ?_
  refine gv_iload_n C rfl 0 rfl dX6_isDirection_0 1 rfl ?_
  refine gv_if_eq C dX6_isDirection_1 9 (by decide) 4 rfl (fun c1 => ?_) (fun c1 => ?_)
  · replace h := gm_ip c1 h
    refine gv_iconst C 1 rfl dX6_isDirection_9 10 rfl ?_
    refine gv_goto C dX6_isDirection_10 14 (by decide) ?_
    obtain rfl := Option.some.inj h
    exact gv_zret C E (Or.inr rfl) rfl rfl dX6_isDirection_14
  · replace h := gm_iq c1 h
    refine gv_iload_n C rfl 0 rfl dX6_isDirection_4 5 rfl ?_
    refine gv_iconst C 1 rfl dX6_isDirection_5 6 rfl ?_
    refine gv_icmp_ne C dX6_isDirection_6 13 (by decide) 9 rfl (fun c2 => ?_) (fun c2 => ?_)
    · replace h := gm_ip c2 h
      refine gv_iconst C 1 rfl dX6_isDirection_9 10 rfl ?_
      refine gv_goto C dX6_isDirection_10 14 (by decide) ?_
      obtain rfl := Option.some.inj h
      exact gv_zret C E (Or.inr rfl) rfl rfl dX6_isDirection_14
    · replace h := gm_iq c2 h
      refine gv_iconst C 0 rfl dX6_isDirection_13 14 rfl ?_
      obtain rfl := Option.some.inj h
      exact gv_zret C E (Or.inl rfl) rfl rfl dX6_isDirection_14
set_option maxRecDepth 100000 in
set_option maxHeartbeats 4000000 in
theorem kX1_shuntToLoop (w : gm_Wd) (l p1 : Nat) (hl : l < 4) (hp1 : p1 < 12) (G : Gm) (q : Int32 × Gm) (h : fX1_shuntToLoop l p1 G = some q) : gm_C w yX1_shuntToLoop cX1_shuntToLoop 4 (some .int) 2 [.ref (gm_ad w 1 l 0), .ref (gm_ad w 5 l p1)] G (some (.int q.1)) q.2 := by
  refine gm_start (by decide) (Nat.le_of_ble_eq_true rfl) ?_
  intro x hw C E
  subst hw
  have C : gm_X x cX1_shuntToLoop 4 RX1 (some .int) 2 := C
  unfold fX1_shuntToLoop at h
  refine gm_lv (lv' := [(0, _), (1, _)]) rfl ?_
  refine gv_aload_n C rfl 0 rfl dX1_shuntToLoop_0 1 rfl ?_
  refine gv_aload_n C rfl 1 rfl dX1_shuntToLoop_1 2 rfl ?_
  obtain ⟨q1, hq1, h⟩ := gm_bd h
  rcases gm_oc h with ⟨eq1, h⟩ | ⟨t2, eq1, h⟩
  · replace hq1 := hq1.trans (congrArg some eq1)
    refine gv_callVn C mc_yX1_nextBlock ⟨mi_yX1_nextBlock, me_yX1_nextBlock⟩ (by decide) mkX1_165 (gi_1 hl) ⟨_, rfl⟩ rfl rfl (kX1_nextBlock _ _ _ hl hp1 _ _ hq1) rfl rfl (Nat.le_of_ble_eq_true rfl) dX1_shuntToLoop_2 5 rfl ?_
    refine gv_astore_nN C rfl [(2, _), (0, _), (1, _)] (by decide) rfl dX1_shuntToLoop_5 6 rfl ?_
    refine gv_aload_nN C rfl 0 rfl dX1_shuntToLoop_6 7 rfl ?_
    refine gv_ifnullN C dX1_shuntToLoop_7 43 (by decide) ?_
    refine gv_aload_n C rfl 1 rfl dX1_shuntToLoop_43 44 rfl ?_
    refine gv_aload_n C rfl 2 rfl dX1_shuntToLoop_44 45 rfl ?_
    refine gf_5_4 C (gi_5 hl hp1) lkX1_115 dX1_shuntToLoop_45 48 rfl ?_
    obtain ⟨q3, hq3, h⟩ := gm_bd h
    refine gv_callVi C mc_yX1_hasBox ⟨mi_yX1_hasBox, me_yX1_hasBox⟩ (by decide) mkX1_172 (gi_1 hl) ⟨_, rfl⟩ rfl rfl (kX1_hasBox _ _ hl _ _ _ hq3) rfl rfl (Nat.le_of_ble_eq_true rfl) dX1_shuntToLoop_48 51 rfl ?_
    refine gv_if_eq C dX1_shuntToLoop_51 64 (by decide) 54 rfl (fun c4 => ?_) (fun c4 => ?_)
    · replace h := gm_ip c4 h
      refine gv_bipush C (-5) rfl dX1_shuntToLoop_64 66 rfl ?_
      obtain rfl := Option.some.inj h
      exact gv_iret C E rfl rfl dX1_shuntToLoop_66
    · replace h := gm_iq c4 h
      refine gv_aload_n C rfl 2 rfl dX1_shuntToLoop_54 55 rfl ?_
      refine gf_5_2 C (gi_5 hl hp1) lkX1_118 dX1_shuntToLoop_55 58 rfl ?_
      obtain ⟨q5, hq5, h⟩ := gm_bd h
      refine gv_callNi C mc_yX6_isDirection ms_yX6_isDirection (by decide) C.2.2.2.2.2.1.2.1 (kX6_isDirection _ _ _ _ hq5) rfl rfl (Nat.le_of_ble_eq_true rfl) dX1_shuntToLoop_58 61 rfl ?_
      refine gv_if_ne C dX1_shuntToLoop_61 67 (by decide) 64 rfl (fun c6 => ?_) (fun c6 => ?_)
      · replace h := gm_ip c6 h
        refine gv_bipush C (-5) rfl dX1_shuntToLoop_64 66 rfl ?_
        obtain rfl := Option.some.inj h
        exact gv_iret C E rfl rfl dX1_shuntToLoop_66
      · replace h := gm_iq c6 h
        refine gv_aload_n C rfl 1 rfl dX1_shuntToLoop_67 68 rfl ?_
        refine gf_1_3 C (gi_1 hl) lkX1_36 dX1_shuntToLoop_68 71 rfl ?_
        refine gv_iconst C 2 rfl dX1_shuntToLoop_71 72 rfl ?_
        refine gv_aload_n C rfl 2 rfl dX1_shuntToLoop_72 73 rfl ?_
        refine gf_5_4 C (gi_5 hl hp1) lkX1_115 dX1_shuntToLoop_73 76 rfl ?_
        refine gv_imul C dX1_shuntToLoop_76 77 rfl ?_
        refine gv_aload_n C rfl 2 rfl dX1_shuntToLoop_77 78 rfl ?_
        refine gf_5_2 C (gi_5 hl hp1) lkX1_118 dX1_shuntToLoop_78 81 rfl ?_
        refine gv_iadd C dX1_shuntToLoop_81 82 rfl ?_
        obtain ⟨g7, h⟩ := gm_gis h
        refine gv_iald C (gi_8 hl (by decide)) (gm_l0 hl) g7 dX1_shuntToLoop_82 83 rfl ?_
        refine gv_istore_n C rfl [(3, _), (2, _), (0, _), (1, _)] (by decide) rfl dX1_shuntToLoop_83 84 rfl ?_
        refine gv_aload_n C rfl 2 rfl dX1_shuntToLoop_84 85 rfl ?_
        refine gv_iconst C 1 rfl dX1_shuntToLoop_85 86 rfl ?_
        refine gv_aload_n C rfl 3 rfl dX1_shuntToLoop_86 87 rfl ?_
        refine gf_5_4 C (gi_5 hl hp1) lkX1_115 dX1_shuntToLoop_87 90 rfl ?_
        refine gv_aload_n C rfl 3 rfl dX1_shuntToLoop_90 91 rfl ?_
        refine gf_5_2 C (gi_5 hl hp1) lkX1_118 dX1_shuntToLoop_91 94 rfl ?_
        obtain ⟨q8, hq8, h⟩ := gm_bd h
        refine gv_callVi C mc_yX1_trainsStanding ⟨mi_yX1_trainsStanding, me_yX1_trainsStanding⟩ (by decide) mkX1_107 (gi_1 hl) ⟨_, rfl⟩ rfl rfl (kX1_trainsStanding _ _ hl _ _ _ _ _ hq8) rfl rfl (Nat.le_of_ble_eq_true rfl) dX1_shuntToLoop_94 97 rfl ?_
        refine gv_iload_n C rfl 0 rfl dX1_shuntToLoop_97 98 rfl ?_
        refine gv_icmp_lt C dX1_shuntToLoop_98 104 (by decide) 101 rfl (fun c9 => ?_) (fun c9 => ?_)
        · replace h := gm_ip c9 h
          refine gv_aload_n C rfl 3 rfl dX1_shuntToLoop_104 105 rfl ?_
          refine gv_iconst C 1 rfl dX1_shuntToLoop_105 106 rfl ?_
          refine gv_aload_n C rfl 3 rfl dX1_shuntToLoop_106 107 rfl ?_
          refine gf_5_4 C (gi_5 hl hp1) lkX1_115 dX1_shuntToLoop_107 110 rfl ?_
          obtain ⟨q10, hq10, h⟩ := gm_bd h
          refine gv_callVv C mc_yX5_standAt ⟨mi_yX5_standAt, me_yX5_standAt⟩ (by decide) mkX1_179 (gi_5 hl hp1) ⟨_, rfl⟩ rfl rfl (kX5_standAt _ _ _ hl hp1 _ _ _ _ hq10) rfl rfl (Nat.le_of_ble_eq_true rfl) dX1_shuntToLoop_110 113 rfl ?_
          refine gv_iconst C 1 rfl dX1_shuntToLoop_113 114 rfl ?_
          obtain rfl := Option.some.inj h
          exact gv_iret C E rfl rfl dX1_shuntToLoop_114
        · replace h := gm_iq c9 h
          refine gv_bipush C (-5) rfl dX1_shuntToLoop_101 103 rfl ?_
          obtain rfl := Option.some.inj h
          exact gv_iret C E rfl rfl dX1_shuntToLoop_103
  · replace hq1 := hq1.trans (congrArg some eq1)
    refine gv_callVa C mc_yX1_nextBlock ⟨mi_yX1_nextBlock, me_yX1_nextBlock⟩ (by decide) mkX1_165 (gi_1 hl) ⟨_, rfl⟩ rfl rfl (kX1_nextBlock _ _ _ hl hp1 _ _ hq1) rfl rfl (Nat.le_of_ble_eq_true rfl) dX1_shuntToLoop_2 5 rfl ?_
    refine gv_astore_n C rfl [(2, _), (0, _), (1, _)] (by decide) rfl dX1_shuntToLoop_5 6 rfl ?_
    refine gv_aload_n C rfl 0 rfl dX1_shuntToLoop_6 7 rfl ?_
    refine gv_ifnull C dX1_shuntToLoop_7 10 rfl ?_
    refine gv_aload_n C rfl 0 rfl dX1_shuntToLoop_10 11 rfl ?_
    refine gf_0_3 C (gi_0 hl (bX1_nextBlock _ _ hl hp1 _ _ hq1)) lkX1_169 dX1_shuntToLoop_11 14 rfl ?_
    refine gv_aload_n C rfl 2 rfl dX1_shuntToLoop_14 15 rfl ?_
    refine gf_5_0 C (gi_5 hl hp1) lkX1_153 dX1_shuntToLoop_15 18 rfl ?_
    refine gv_icmp_eq C dX1_shuntToLoop_18 40 (by decide) 21 rfl (fun c11 => ?_) (fun c11 => ?_)
    · replace h := gm_ip c11 h
      refine gv_bipush C (-5) rfl dX1_shuntToLoop_40 42 rfl ?_
      obtain rfl := Option.some.inj h
      exact gv_iret C E rfl rfl dX1_shuntToLoop_42
    · replace h := gm_iq c11 h
      refine gv_aload_n C rfl 0 rfl dX1_shuntToLoop_21 22 rfl ?_
      refine gf_0_2 C (gi_0 hl (bX1_nextBlock _ _ hl hp1 _ _ hq1)) lkX1_125 dX1_shuntToLoop_22 25 rfl ?_
      refine gv_iconst C 1 rfl dX1_shuntToLoop_25 26 rfl ?_
      refine gv_icmp_ne C dX1_shuntToLoop_26 43 (by decide) 29 rfl (fun c12 => ?_) (fun c12 => ?_)
      · replace h := gm_ip c12 h
        refine gv_aload_n C rfl 0 rfl dX1_shuntToLoop_29 30 rfl ?_
        refine gf_0_4 C (gi_0 hl (bX1_nextBlock _ _ hl hp1 _ _ hq1)) lkX1_128 dX1_shuntToLoop_30 33 rfl ?_
        refine gv_aload_n C rfl 2 rfl dX1_shuntToLoop_33 34 rfl ?_
        refine gf_5_0 C (gi_5 hl hp1) lkX1_153 dX1_shuntToLoop_34 37 rfl ?_
        refine gv_icmp_ne C dX1_shuntToLoop_37 43 (by decide) 40 rfl (fun c13 => ?_) (fun c13 => ?_)
        · replace h := gm_ip c13 h
          refine gv_bipush C (-5) rfl dX1_shuntToLoop_40 42 rfl ?_
          obtain rfl := Option.some.inj h
          exact gv_iret C E rfl rfl dX1_shuntToLoop_42
        · replace h := gm_iq c13 h
          refine gv_aload_n C rfl 1 rfl dX1_shuntToLoop_43 44 rfl ?_
          refine gv_aload_n C rfl 2 rfl dX1_shuntToLoop_44 45 rfl ?_
          refine gf_5_4 C (gi_5 hl hp1) lkX1_115 dX1_shuntToLoop_45 48 rfl ?_
          obtain ⟨q14, hq14, h⟩ := gm_bd h
          refine gv_callVi C mc_yX1_hasBox ⟨mi_yX1_hasBox, me_yX1_hasBox⟩ (by decide) mkX1_172 (gi_1 hl) ⟨_, rfl⟩ rfl rfl (kX1_hasBox _ _ hl _ _ _ hq14) rfl rfl (Nat.le_of_ble_eq_true rfl) dX1_shuntToLoop_48 51 rfl ?_
          refine gv_if_eq C dX1_shuntToLoop_51 64 (by decide) 54 rfl (fun c15 => ?_) (fun c15 => ?_)
          · replace h := gm_ip c15 h
            refine gv_bipush C (-5) rfl dX1_shuntToLoop_64 66 rfl ?_
            obtain rfl := Option.some.inj h
            exact gv_iret C E rfl rfl dX1_shuntToLoop_66
          · replace h := gm_iq c15 h
            refine gv_aload_n C rfl 2 rfl dX1_shuntToLoop_54 55 rfl ?_
            refine gf_5_2 C (gi_5 hl hp1) lkX1_118 dX1_shuntToLoop_55 58 rfl ?_
            obtain ⟨q16, hq16, h⟩ := gm_bd h
            refine gv_callNi C mc_yX6_isDirection ms_yX6_isDirection (by decide) C.2.2.2.2.2.1.2.1 (kX6_isDirection _ _ _ _ hq16) rfl rfl (Nat.le_of_ble_eq_true rfl) dX1_shuntToLoop_58 61 rfl ?_
            refine gv_if_ne C dX1_shuntToLoop_61 67 (by decide) 64 rfl (fun c17 => ?_) (fun c17 => ?_)
            · replace h := gm_ip c17 h
              refine gv_bipush C (-5) rfl dX1_shuntToLoop_64 66 rfl ?_
              obtain rfl := Option.some.inj h
              exact gv_iret C E rfl rfl dX1_shuntToLoop_66
            · replace h := gm_iq c17 h
              refine gv_aload_n C rfl 1 rfl dX1_shuntToLoop_67 68 rfl ?_
              refine gf_1_3 C (gi_1 hl) lkX1_36 dX1_shuntToLoop_68 71 rfl ?_
              refine gv_iconst C 2 rfl dX1_shuntToLoop_71 72 rfl ?_
              refine gv_aload_n C rfl 2 rfl dX1_shuntToLoop_72 73 rfl ?_
              refine gf_5_4 C (gi_5 hl hp1) lkX1_115 dX1_shuntToLoop_73 76 rfl ?_
              refine gv_imul C dX1_shuntToLoop_76 77 rfl ?_
              refine gv_aload_n C rfl 2 rfl dX1_shuntToLoop_77 78 rfl ?_
              refine gf_5_2 C (gi_5 hl hp1) lkX1_118 dX1_shuntToLoop_78 81 rfl ?_
              refine gv_iadd C dX1_shuntToLoop_81 82 rfl ?_
              obtain ⟨g18, h⟩ := gm_gis h
              refine gv_iald C (gi_8 hl (by decide)) (gm_l0 hl) g18 dX1_shuntToLoop_82 83 rfl ?_
              refine gv_istore_n C rfl [(3, _), (2, _), (0, _), (1, _)] (by decide) rfl dX1_shuntToLoop_83 84 rfl ?_
              refine gv_aload_n C rfl 2 rfl dX1_shuntToLoop_84 85 rfl ?_
              refine gv_iconst C 1 rfl dX1_shuntToLoop_85 86 rfl ?_
              refine gv_aload_n C rfl 3 rfl dX1_shuntToLoop_86 87 rfl ?_
              refine gf_5_4 C (gi_5 hl hp1) lkX1_115 dX1_shuntToLoop_87 90 rfl ?_
              refine gv_aload_n C rfl 3 rfl dX1_shuntToLoop_90 91 rfl ?_
              refine gf_5_2 C (gi_5 hl hp1) lkX1_118 dX1_shuntToLoop_91 94 rfl ?_
              obtain ⟨q19, hq19, h⟩ := gm_bd h
              refine gv_callVi C mc_yX1_trainsStanding ⟨mi_yX1_trainsStanding, me_yX1_trainsStanding⟩ (by decide) mkX1_107 (gi_1 hl) ⟨_, rfl⟩ rfl rfl (kX1_trainsStanding _ _ hl _ _ _ _ _ hq19) rfl rfl (Nat.le_of_ble_eq_true rfl) dX1_shuntToLoop_94 97 rfl ?_
              refine gv_iload_n C rfl 0 rfl dX1_shuntToLoop_97 98 rfl ?_
              refine gv_icmp_lt C dX1_shuntToLoop_98 104 (by decide) 101 rfl (fun c20 => ?_) (fun c20 => ?_)
              · replace h := gm_ip c20 h
                refine gv_aload_n C rfl 3 rfl dX1_shuntToLoop_104 105 rfl ?_
                refine gv_iconst C 1 rfl dX1_shuntToLoop_105 106 rfl ?_
                refine gv_aload_n C rfl 3 rfl dX1_shuntToLoop_106 107 rfl ?_
                refine gf_5_4 C (gi_5 hl hp1) lkX1_115 dX1_shuntToLoop_107 110 rfl ?_
                obtain ⟨q21, hq21, h⟩ := gm_bd h
                refine gv_callVv C mc_yX5_standAt ⟨mi_yX5_standAt, me_yX5_standAt⟩ (by decide) mkX1_179 (gi_5 hl hp1) ⟨_, rfl⟩ rfl rfl (kX5_standAt _ _ _ hl hp1 _ _ _ _ hq21) rfl rfl (Nat.le_of_ble_eq_true rfl) dX1_shuntToLoop_110 113 rfl ?_
                refine gv_iconst C 1 rfl dX1_shuntToLoop_113 114 rfl ?_
                obtain rfl := Option.some.inj h
                exact gv_iret C E rfl rfl dX1_shuntToLoop_114
              · replace h := gm_iq c20 h
                refine gv_bipush C (-5) rfl dX1_shuntToLoop_101 103 rfl ?_
                obtain rfl := Option.some.inj h
                exact gv_iret C E rfl rfl dX1_shuntToLoop_103
      · replace h := gm_iq c12 h
        refine gv_aload_n C rfl 1 rfl dX1_shuntToLoop_43 44 rfl ?_
        refine gv_aload_n C rfl 2 rfl dX1_shuntToLoop_44 45 rfl ?_
        refine gf_5_4 C (gi_5 hl hp1) lkX1_115 dX1_shuntToLoop_45 48 rfl ?_
        obtain ⟨q22, hq22, h⟩ := gm_bd h
        refine gv_callVi C mc_yX1_hasBox ⟨mi_yX1_hasBox, me_yX1_hasBox⟩ (by decide) mkX1_172 (gi_1 hl) ⟨_, rfl⟩ rfl rfl (kX1_hasBox _ _ hl _ _ _ hq22) rfl rfl (Nat.le_of_ble_eq_true rfl) dX1_shuntToLoop_48 51 rfl ?_
        refine gv_if_eq C dX1_shuntToLoop_51 64 (by decide) 54 rfl (fun c23 => ?_) (fun c23 => ?_)
        · replace h := gm_ip c23 h
          refine gv_bipush C (-5) rfl dX1_shuntToLoop_64 66 rfl ?_
          obtain rfl := Option.some.inj h
          exact gv_iret C E rfl rfl dX1_shuntToLoop_66
        · replace h := gm_iq c23 h
          refine gv_aload_n C rfl 2 rfl dX1_shuntToLoop_54 55 rfl ?_
          refine gf_5_2 C (gi_5 hl hp1) lkX1_118 dX1_shuntToLoop_55 58 rfl ?_
          obtain ⟨q24, hq24, h⟩ := gm_bd h
          refine gv_callNi C mc_yX6_isDirection ms_yX6_isDirection (by decide) C.2.2.2.2.2.1.2.1 (kX6_isDirection _ _ _ _ hq24) rfl rfl (Nat.le_of_ble_eq_true rfl) dX1_shuntToLoop_58 61 rfl ?_
          refine gv_if_ne C dX1_shuntToLoop_61 67 (by decide) 64 rfl (fun c25 => ?_) (fun c25 => ?_)
          · replace h := gm_ip c25 h
            refine gv_bipush C (-5) rfl dX1_shuntToLoop_64 66 rfl ?_
            obtain rfl := Option.some.inj h
            exact gv_iret C E rfl rfl dX1_shuntToLoop_66
          · replace h := gm_iq c25 h
            refine gv_aload_n C rfl 1 rfl dX1_shuntToLoop_67 68 rfl ?_
            refine gf_1_3 C (gi_1 hl) lkX1_36 dX1_shuntToLoop_68 71 rfl ?_
            refine gv_iconst C 2 rfl dX1_shuntToLoop_71 72 rfl ?_
            refine gv_aload_n C rfl 2 rfl dX1_shuntToLoop_72 73 rfl ?_
            refine gf_5_4 C (gi_5 hl hp1) lkX1_115 dX1_shuntToLoop_73 76 rfl ?_
            refine gv_imul C dX1_shuntToLoop_76 77 rfl ?_
            refine gv_aload_n C rfl 2 rfl dX1_shuntToLoop_77 78 rfl ?_
            refine gf_5_2 C (gi_5 hl hp1) lkX1_118 dX1_shuntToLoop_78 81 rfl ?_
            refine gv_iadd C dX1_shuntToLoop_81 82 rfl ?_
            obtain ⟨g26, h⟩ := gm_gis h
            refine gv_iald C (gi_8 hl (by decide)) (gm_l0 hl) g26 dX1_shuntToLoop_82 83 rfl ?_
            refine gv_istore_n C rfl [(3, _), (2, _), (0, _), (1, _)] (by decide) rfl dX1_shuntToLoop_83 84 rfl ?_
            refine gv_aload_n C rfl 2 rfl dX1_shuntToLoop_84 85 rfl ?_
            refine gv_iconst C 1 rfl dX1_shuntToLoop_85 86 rfl ?_
            refine gv_aload_n C rfl 3 rfl dX1_shuntToLoop_86 87 rfl ?_
            refine gf_5_4 C (gi_5 hl hp1) lkX1_115 dX1_shuntToLoop_87 90 rfl ?_
            refine gv_aload_n C rfl 3 rfl dX1_shuntToLoop_90 91 rfl ?_
            refine gf_5_2 C (gi_5 hl hp1) lkX1_118 dX1_shuntToLoop_91 94 rfl ?_
            obtain ⟨q27, hq27, h⟩ := gm_bd h
            refine gv_callVi C mc_yX1_trainsStanding ⟨mi_yX1_trainsStanding, me_yX1_trainsStanding⟩ (by decide) mkX1_107 (gi_1 hl) ⟨_, rfl⟩ rfl rfl (kX1_trainsStanding _ _ hl _ _ _ _ _ hq27) rfl rfl (Nat.le_of_ble_eq_true rfl) dX1_shuntToLoop_94 97 rfl ?_
            refine gv_iload_n C rfl 0 rfl dX1_shuntToLoop_97 98 rfl ?_
            refine gv_icmp_lt C dX1_shuntToLoop_98 104 (by decide) 101 rfl (fun c28 => ?_) (fun c28 => ?_)
            · replace h := gm_ip c28 h
              refine gv_aload_n C rfl 3 rfl dX1_shuntToLoop_104 105 rfl ?_
              refine gv_iconst C 1 rfl dX1_shuntToLoop_105 106 rfl ?_
              refine gv_aload_n C rfl 3 rfl dX1_shuntToLoop_106 107 rfl ?_
              refine gf_5_4 C (gi_5 hl hp1) lkX1_115 dX1_shuntToLoop_107 110 rfl ?_
              obtain ⟨q29, hq29, h⟩ := gm_bd h
              refine gv_callVv C mc_yX5_standAt ⟨mi_yX5_standAt, me_yX5_standAt⟩ (by decide) mkX1_179 (gi_5 hl hp1) ⟨_, rfl⟩ rfl rfl (kX5_standAt _ _ _ hl hp1 _ _ _ _ hq29) rfl rfl (Nat.le_of_ble_eq_true rfl) dX1_shuntToLoop_110 113 rfl ?_
              refine gv_iconst C 1 rfl dX1_shuntToLoop_113 114 rfl ?_
              obtain rfl := Option.some.inj h
              exact gv_iret C E rfl rfl dX1_shuntToLoop_114
            · replace h := gm_iq c28 h
              refine gv_bipush C (-5) rfl dX1_shuntToLoop_101 103 rfl ?_
              obtain rfl := Option.some.inj h
              exact gv_iret C E rfl rfl dX1_shuntToLoop_103
theorem bX1_blockTo (l : Nat) (hl : l < 4) (a1 a2 : Int32) (G : Gm) (t : Nat) (h : fX1_blockTo l a1 a2 G = some (some t)) : t < 10 := by
  unfold fX1_blockTo at h
  obtain ⟨q1, hq1, h⟩ := gm_bd h
  rcases gm_oc h with ⟨eq1, h⟩ | ⟨t2, eq1, h⟩
  · replace hq1 := hq1.trans (congrArg some eq1)
    cases h
  · replace hq1 := hq1.trans (congrArg some eq1)
    obtain rfl := Option.some.inj (Option.some.inj h)
    exact (bX1_blockAt _ hl _ _ _ _ hq1)
set_option maxRecDepth 100000 in
set_option maxHeartbeats 4000000 in
theorem kX1_blockTo (w : gm_Wd) (l : Nat) (hl : l < 4) (a1 a2 : Int32) (G : Gm) (q : Option Nat) (h : fX1_blockTo l a1 a2 G = some q) : gm_C w yX1_blockTo cX1_blockTo 3 (some (.object "BlockBells$Block")) 1 [.ref (gm_ad w 1 l 0), .int a1, .int a2] G (some (va_rf (q.map fun t => gm_ad w 0 l t))) G := by
  refine gm_start (by decide) (Nat.le_of_ble_eq_true rfl) ?_
  intro x hw C E
  subst hw
  have C : gm_X x cX1_blockTo 3 RX1 (some (.object "BlockBells$Block")) 1 := C
  unfold fX1_blockTo at h
  refine gm_lv (lv' := [(0, _), (1, _), (2, _)]) rfl ?_
  refine gv_aload_n C rfl 0 rfl dX1_blockTo_0 1 rfl ?_
  refine gv_iload_n C rfl 1 rfl dX1_blockTo_1 2 rfl ?_
  refine gv_iconst C 1 rfl dX1_blockTo_2 3 rfl ?_
  refine gv_isub C dX1_blockTo_3 4 rfl ?_
  refine gv_iload_n C rfl 2 rfl dX1_blockTo_4 5 rfl ?_
  refine gv_iadd C dX1_blockTo_5 6 rfl ?_
  refine gv_iload_n C rfl 2 rfl dX1_blockTo_6 7 rfl ?_
  obtain ⟨q1, hq1, h⟩ := gm_bd h
  rcases gm_oc h with ⟨eq1, h⟩ | ⟨t2, eq1, h⟩
  · replace hq1 := hq1.trans (congrArg some eq1)
    refine gv_callVn C mc_yX1_blockAt ⟨mi_yX1_blockAt, me_yX1_blockAt⟩ (by decide) mkX1_121 (gi_1 hl) ⟨_, rfl⟩ rfl rfl (kX1_blockAt _ _ hl _ _ _ _ hq1) rfl rfl (Nat.le_of_ble_eq_true rfl) dX1_blockTo_7 10 rfl ?_
    obtain rfl := Option.some.inj h
    exact gv_aret C E (Or.inl rfl) rfl rfl dX1_blockTo_10
  · replace hq1 := hq1.trans (congrArg some eq1)
    refine gv_callVa C mc_yX1_blockAt ⟨mi_yX1_blockAt, me_yX1_blockAt⟩ (by decide) mkX1_121 (gi_1 hl) ⟨_, rfl⟩ rfl rfl (kX1_blockAt _ _ hl _ _ _ _ hq1) rfl rfl (Nat.le_of_ble_eq_true rfl) dX1_blockTo_7 10 rfl ?_
    obtain rfl := Option.some.inj h
    exact gv_aret C E (Or.inr ⟨_, rfl⟩) rfl rfl dX1_blockTo_10
set_option maxRecDepth 100000 in
set_option maxHeartbeats 4000000 in
theorem kX1_shuntBack (w : gm_Wd) (l p1 : Nat) (hl : l < 4) (hp1 : p1 < 12) (G : Gm) (q : Int32 × Gm) (h : fX1_shuntBack l p1 G = some q) : gm_C w yX1_shuntBack cX1_shuntBack 4 (some .int) 3 [.ref (gm_ad w 1 l 0), .ref (gm_ad w 5 l p1)] G (some (.int q.1)) q.2 := by
  refine gm_start (by decide) (Nat.le_of_ble_eq_true rfl) ?_
  intro x hw C E
  subst hw
  have C : gm_X x cX1_shuntBack 4 RX1 (some .int) 3 := C
  unfold fX1_shuntBack at h
  refine gm_lv (lv' := [(0, _), (1, _)]) rfl ?_
  refine gv_aload_n C rfl 0 rfl dX1_shuntBack_0 1 rfl ?_
  refine gv_aload_n C rfl 1 rfl dX1_shuntBack_1 2 rfl ?_
  refine gf_5_4 C (gi_5 hl hp1) lkX1_115 dX1_shuntBack_2 5 rfl ?_
  refine gv_aload_n C rfl 1 rfl dX1_shuntBack_5 6 rfl ?_
  refine gf_5_2 C (gi_5 hl hp1) lkX1_118 dX1_shuntBack_6 9 rfl ?_
  obtain ⟨q1, hq1, h⟩ := gm_bd h
  rcases gm_oc h with ⟨eq1, h⟩ | ⟨t2, eq1, h⟩
  · replace hq1 := hq1.trans (congrArg some eq1)
    refine gv_callVn C mc_yX1_blockTo ⟨mi_yX1_blockTo, me_yX1_blockTo⟩ (by decide) mkX1_182 (gi_1 hl) ⟨_, rfl⟩ rfl rfl (kX1_blockTo _ _ hl _ _ _ _ hq1) rfl rfl (Nat.le_of_ble_eq_true rfl) dX1_shuntBack_9 12 rfl ?_
    refine gv_astore_nN C rfl [(2, _), (0, _), (1, _)] (by decide) rfl dX1_shuntBack_12 13 rfl ?_
    refine gv_aload_nN C rfl 0 rfl dX1_shuntBack_13 14 rfl ?_
    refine gv_ifnullN C dX1_shuntBack_14 32 (by decide) ?_
    refine gv_iconst C 1 rfl dX1_shuntBack_32 33 rfl ?_
    refine gv_goto C dX1_shuntBack_33 37 (by decide) ?_
    refine gv_istore_n C rfl [(3, _), (2, _), (0, _), (1, _)] (by decide) rfl dX1_shuntBack_37 38 rfl ?_
    refine gv_iload_n C rfl 0 rfl dX1_shuntBack_38 39 rfl ?_
    refine gv_if_eq C dX1_shuntBack_39 57 (by decide) 42 rfl (fun c3 => ?_) (fun c3 => ?_)
    · exact absurd c3 (by decide)
    refine gv_aload_n C rfl 2 rfl dX1_shuntBack_42 43 rfl ?_
    refine gv_aload_n C rfl 3 rfl dX1_shuntBack_43 44 rfl ?_
    refine gf_5_4 C (gi_5 hl hp1) lkX1_115 dX1_shuntBack_44 47 rfl ?_
    refine gv_aload_n C rfl 3 rfl dX1_shuntBack_47 48 rfl ?_
    refine gf_5_2 C (gi_5 hl hp1) lkX1_118 dX1_shuntBack_48 51 rfl ?_
    obtain ⟨q4, hq4, h⟩ := gm_bd h
    refine gv_callVi C mc_yX1_isLineFree ⟨mi_yX1_isLineFree, me_yX1_isLineFree⟩ (by decide) mkX1_145 (gi_1 hl) ⟨_, rfl⟩ rfl rfl (kX1_isLineFree _ _ hl _ _ _ _ hq4) rfl rfl (Nat.le_of_ble_eq_true rfl) dX1_shuntBack_51 54 rfl ?_
    refine gv_if_ne C dX1_shuntBack_54 60 (by decide) 57 rfl (fun c5 => ?_) (fun c5 => ?_)
    · replace h := gm_ip c5 h
      refine gv_bipush C (-5) rfl dX1_shuntBack_57 59 rfl ?_
      obtain rfl := Option.some.inj h
      exact gv_iret C E rfl rfl dX1_shuntBack_59
    · replace h := gm_iq c5 h
      refine gv_aload_n C rfl 3 rfl dX1_shuntBack_60 61 rfl ?_
      refine gv_iconst C 0 rfl dX1_shuntBack_61 62 rfl ?_
      refine gv_aload_n C rfl 3 rfl dX1_shuntBack_62 63 rfl ?_
      refine gf_5_4 C (gi_5 hl hp1) lkX1_115 dX1_shuntBack_63 66 rfl ?_
      obtain ⟨q6, hq6, h⟩ := gm_bd h
      refine gv_callVv C mc_yX5_standAt ⟨mi_yX5_standAt, me_yX5_standAt⟩ (by decide) mkX1_179 (gi_5 hl hp1) ⟨_, rfl⟩ rfl rfl (kX5_standAt _ _ _ hl hp1 _ _ _ _ hq6) rfl rfl (Nat.le_of_ble_eq_true rfl) dX1_shuntBack_66 69 rfl ?_
      refine gv_iconst C 0 rfl dX1_shuntBack_69 70 rfl ?_
      obtain rfl := Option.some.inj h
      exact gv_iret C E rfl rfl dX1_shuntBack_70
  · replace hq1 := hq1.trans (congrArg some eq1)
    refine gv_callVa C mc_yX1_blockTo ⟨mi_yX1_blockTo, me_yX1_blockTo⟩ (by decide) mkX1_182 (gi_1 hl) ⟨_, rfl⟩ rfl rfl (kX1_blockTo _ _ hl _ _ _ _ hq1) rfl rfl (Nat.le_of_ble_eq_true rfl) dX1_shuntBack_9 12 rfl ?_
    refine gv_astore_n C rfl [(2, _), (0, _), (1, _)] (by decide) rfl dX1_shuntBack_12 13 rfl ?_
    refine gv_aload_n C rfl 0 rfl dX1_shuntBack_13 14 rfl ?_
    refine gv_ifnull C dX1_shuntBack_14 17 rfl ?_
    refine gv_aload_n C rfl 0 rfl dX1_shuntBack_17 18 rfl ?_
    refine gf_0_2 C (gi_0 hl (bX1_blockTo _ hl _ _ _ _ hq1)) lkX1_125 dX1_shuntBack_18 21 rfl ?_
    refine gv_if_eq C dX1_shuntBack_21 32 (by decide) 24 rfl (fun c7 => ?_) (fun c7 => ?_)
    · replace h := gm_ip c7 h
      refine gv_iconst C 1 rfl dX1_shuntBack_32 33 rfl ?_
      refine gv_goto C dX1_shuntBack_33 37 (by decide) ?_
      refine gv_istore_n C rfl [(3, _), (2, _), (0, _), (1, _)] (by decide) rfl dX1_shuntBack_37 38 rfl ?_
      refine gv_iload_n C rfl 0 rfl dX1_shuntBack_38 39 rfl ?_
      refine gv_if_eq C dX1_shuntBack_39 57 (by decide) 42 rfl (fun c8 => ?_) (fun c8 => ?_)
      · exact absurd c8 (by decide)
      refine gv_aload_n C rfl 2 rfl dX1_shuntBack_42 43 rfl ?_
      refine gv_aload_n C rfl 3 rfl dX1_shuntBack_43 44 rfl ?_
      refine gf_5_4 C (gi_5 hl hp1) lkX1_115 dX1_shuntBack_44 47 rfl ?_
      refine gv_aload_n C rfl 3 rfl dX1_shuntBack_47 48 rfl ?_
      refine gf_5_2 C (gi_5 hl hp1) lkX1_118 dX1_shuntBack_48 51 rfl ?_
      obtain ⟨q9, hq9, h⟩ := gm_bd h
      refine gv_callVi C mc_yX1_isLineFree ⟨mi_yX1_isLineFree, me_yX1_isLineFree⟩ (by decide) mkX1_145 (gi_1 hl) ⟨_, rfl⟩ rfl rfl (kX1_isLineFree _ _ hl _ _ _ _ hq9) rfl rfl (Nat.le_of_ble_eq_true rfl) dX1_shuntBack_51 54 rfl ?_
      refine gv_if_ne C dX1_shuntBack_54 60 (by decide) 57 rfl (fun c10 => ?_) (fun c10 => ?_)
      · replace h := gm_ip c10 h
        refine gv_bipush C (-5) rfl dX1_shuntBack_57 59 rfl ?_
        obtain rfl := Option.some.inj h
        exact gv_iret C E rfl rfl dX1_shuntBack_59
      · replace h := gm_iq c10 h
        refine gv_aload_n C rfl 3 rfl dX1_shuntBack_60 61 rfl ?_
        refine gv_iconst C 0 rfl dX1_shuntBack_61 62 rfl ?_
        refine gv_aload_n C rfl 3 rfl dX1_shuntBack_62 63 rfl ?_
        refine gf_5_4 C (gi_5 hl hp1) lkX1_115 dX1_shuntBack_63 66 rfl ?_
        obtain ⟨q11, hq11, h⟩ := gm_bd h
        refine gv_callVv C mc_yX5_standAt ⟨mi_yX5_standAt, me_yX5_standAt⟩ (by decide) mkX1_179 (gi_5 hl hp1) ⟨_, rfl⟩ rfl rfl (kX5_standAt _ _ _ hl hp1 _ _ _ _ hq11) rfl rfl (Nat.le_of_ble_eq_true rfl) dX1_shuntBack_66 69 rfl ?_
        refine gv_iconst C 0 rfl dX1_shuntBack_69 70 rfl ?_
        obtain rfl := Option.some.inj h
        exact gv_iret C E rfl rfl dX1_shuntBack_70
    · replace h := gm_iq c7 h
      refine gv_aload_n C rfl 0 rfl dX1_shuntBack_24 25 rfl ?_
      refine gf_0_2 C (gi_0 hl (bX1_blockTo _ hl _ _ _ _ hq1)) lkX1_125 dX1_shuntBack_25 28 rfl ?_
      refine gv_iconst C 3 rfl dX1_shuntBack_28 29 rfl ?_
      refine gv_icmp_ne C dX1_shuntBack_29 36 (by decide) 32 rfl (fun c12 => ?_) (fun c12 => ?_)
      · replace h := gm_ip c12 h
        refine gv_iconst C 1 rfl dX1_shuntBack_32 33 rfl ?_
        refine gv_goto C dX1_shuntBack_33 37 (by decide) ?_
        refine gv_istore_n C rfl [(3, _), (2, _), (0, _), (1, _)] (by decide) rfl dX1_shuntBack_37 38 rfl ?_
        refine gv_iload_n C rfl 0 rfl dX1_shuntBack_38 39 rfl ?_
        refine gv_if_eq C dX1_shuntBack_39 57 (by decide) 42 rfl (fun c13 => ?_) (fun c13 => ?_)
        · exact absurd c13 (by decide)
        refine gv_aload_n C rfl 2 rfl dX1_shuntBack_42 43 rfl ?_
        refine gv_aload_n C rfl 3 rfl dX1_shuntBack_43 44 rfl ?_
        refine gf_5_4 C (gi_5 hl hp1) lkX1_115 dX1_shuntBack_44 47 rfl ?_
        refine gv_aload_n C rfl 3 rfl dX1_shuntBack_47 48 rfl ?_
        refine gf_5_2 C (gi_5 hl hp1) lkX1_118 dX1_shuntBack_48 51 rfl ?_
        obtain ⟨q14, hq14, h⟩ := gm_bd h
        refine gv_callVi C mc_yX1_isLineFree ⟨mi_yX1_isLineFree, me_yX1_isLineFree⟩ (by decide) mkX1_145 (gi_1 hl) ⟨_, rfl⟩ rfl rfl (kX1_isLineFree _ _ hl _ _ _ _ hq14) rfl rfl (Nat.le_of_ble_eq_true rfl) dX1_shuntBack_51 54 rfl ?_
        refine gv_if_ne C dX1_shuntBack_54 60 (by decide) 57 rfl (fun c15 => ?_) (fun c15 => ?_)
        · replace h := gm_ip c15 h
          refine gv_bipush C (-5) rfl dX1_shuntBack_57 59 rfl ?_
          obtain rfl := Option.some.inj h
          exact gv_iret C E rfl rfl dX1_shuntBack_59
        · replace h := gm_iq c15 h
          refine gv_aload_n C rfl 3 rfl dX1_shuntBack_60 61 rfl ?_
          refine gv_iconst C 0 rfl dX1_shuntBack_61 62 rfl ?_
          refine gv_aload_n C rfl 3 rfl dX1_shuntBack_62 63 rfl ?_
          refine gf_5_4 C (gi_5 hl hp1) lkX1_115 dX1_shuntBack_63 66 rfl ?_
          obtain ⟨q16, hq16, h⟩ := gm_bd h
          refine gv_callVv C mc_yX5_standAt ⟨mi_yX5_standAt, me_yX5_standAt⟩ (by decide) mkX1_179 (gi_5 hl hp1) ⟨_, rfl⟩ rfl rfl (kX5_standAt _ _ _ hl hp1 _ _ _ _ hq16) rfl rfl (Nat.le_of_ble_eq_true rfl) dX1_shuntBack_66 69 rfl ?_
          refine gv_iconst C 0 rfl dX1_shuntBack_69 70 rfl ?_
          obtain rfl := Option.some.inj h
          exact gv_iret C E rfl rfl dX1_shuntBack_70
      · replace h := gm_iq c12 h
        refine gv_iconst C 0 rfl dX1_shuntBack_36 37 rfl ?_
        refine gv_istore_n C rfl [(3, _), (2, _), (0, _), (1, _)] (by decide) rfl dX1_shuntBack_37 38 rfl ?_
        refine gv_iload_n C rfl 0 rfl dX1_shuntBack_38 39 rfl ?_
        refine gv_if_eq C dX1_shuntBack_39 57 (by decide) 42 rfl (fun c17 => ?_) (fun c17 => ?_)
        rotate_left
        · exact absurd (by decide) c17
        refine gv_bipush C (-5) rfl dX1_shuntBack_57 59 rfl ?_
        obtain rfl := Option.some.inj h
        exact gv_iret C E rfl rfl dX1_shuntBack_59
