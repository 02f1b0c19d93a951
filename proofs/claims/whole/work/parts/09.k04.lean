set_option maxRecDepth 100000 in
set_option maxHeartbeats 4000000 in
theorem kX1_blockCount (w : gm_Wd) (l : Nat) (hl : l < 4) (G : Gm) (q : Int32) (h : fX1_blockCount l G = some q) : gm_C w yX1_blockCount cX1_blockCount 1 (some .int) 0 [.ref (gm_ad w 1 l 0)] G (some (.int q)) G := by
  refine gm_start (by decide) (Nat.le_of_ble_eq_true rfl) ?_
  intro x hw C E
  subst hw
  have C : gm_X x cX1_blockCount 1 RX1 (some .int) 0 := C
  unfold fX1_blockCount at h
  refine gm_lv (lv' := [(0, _)]) rfl ?_
  refine gv_iconst C 2 rfl dX1_blockCount_0 1 rfl ?_
  refine gv_aload_n C rfl 0 rfl dX1_blockCount_1 2 rfl ?_
  refine gf_1_5 C (gi_1 hl) lkX1_51 dX1_blockCount_2 5 rfl ?_
  refine gv_iconst C 1 rfl dX1_blockCount_5 6 rfl ?_
  refine gv_isub C dX1_blockCount_6 7 rfl ?_
  refine gv_imul C dX1_blockCount_7 8 rfl ?_
  obtain rfl := Option.some.inj h
  exact gv_iret C E rfl rfl dX1_blockCount_8
set_option maxRecDepth 100000 in
set_option maxHeartbeats 4000000 in
theorem kX1_letPass (w : gm_Wd) (l : Nat) (hl : l < 4) (a1 : Int32) (G : Gm) (q : Gm) (h : fX1_letPass l a1 G = some q) : gm_C w yX1_letPass cX1_letPass 3 none 2 [.ref (gm_ad w 1 l 0), .int a1] G none q := by
  refine gm_start (by decide) (Nat.le_of_ble_eq_true rfl) ?_
  intro x hw C E
  subst hw
  have C : gm_X x cX1_letPass 3 RX1 none 2 := C
  unfold fX1_letPass at h
  have L28 : ∀ (n28 : Nat) (v2 : Int32) (G : Gm), fX1_letPass_h28 l a1 n28 v2 G = some q → gm_V x G 28 [(0, .ref (gm_ad (cx_w x) 1 l 0)), (1, .int a1), (2, .int v2)] [] := by
    intro n28
    induction n28 with
    | zero => intro v2 G h; cases h
    | succ n28 ih28 =>
      intro v2 G h
      rw [fX1_letPass_h28.eq_2] at h
      refine gv_iload_n C rfl 2 rfl dX1_letPass_28 29 rfl ?_
      refine gv_aload_n C rfl 0 rfl dX1_letPass_29 30 rfl ?_
      obtain ⟨q2, hq2, h⟩ := gm_bd h
      refine gv_callVi C mc_yX1_blockCount ⟨mi_yX1_blockCount, me_yX1_blockCount⟩ (by decide) mkX1_138 (gi_1 hl) ⟨_, rfl⟩ rfl rfl (kX1_blockCount _ _ hl _ _ hq2) rfl rfl (Nat.le_of_ble_eq_true rfl) dX1_letPass_30 33 rfl ?_
      refine gv_icmp_ge C dX1_letPass_33 52 (by decide) 36 rfl (fun c3 => ?_) (fun c3 => ?_)
      · replace h := gm_ip c3 h
        refine gv_aload_n C rfl 0 rfl dX1_letPass_52 53 rfl ?_
        refine gv_dup C rfl dX1_letPass_53 54 rfl ?_
        refine gf_1_7 C (gi_1 hl) lkX1_61 dX1_letPass_54 57 rfl ?_
        refine gv_iload_n C rfl 1 rfl dX1_letPass_57 58 rfl ?_
        refine gv_iadd C dX1_letPass_58 59 rfl ?_
        refine pf_1_7 C (gi_1 hl) lkX1_61 dX1_letPass_59 62 rfl ?_
        obtain rfl := Option.some.inj h
        exact gv_vret C E rfl rfl dX1_letPass_62
      · replace h := gm_iq c3 h
        refine gv_aload_n C rfl 0 rfl dX1_letPass_36 37 rfl ?_
        refine gf_1_1 C (gi_1 hl) lkX1_19 dX1_letPass_37 40 rfl ?_
        refine gv_iload_n C rfl 2 rfl dX1_letPass_40 41 rfl ?_
        obtain ⟨g4, h⟩ := gm_gis h
        refine gv_aald10 C (gi_10 hl) g4 dX1_letPass_41 42 rfl ?_
        refine gv_iload_n C rfl 1 rfl dX1_letPass_42 43 rfl ?_
        obtain ⟨q5, hq5, h⟩ := gm_bd h
        refine gv_callVv C mc_yX0_letPass ⟨mi_yX0_letPass, me_yX0_letPass⟩ (by decide) mkX1_265 (gi_0 hl (gm_lt g4)) ⟨_, rfl⟩ rfl rfl (kX0_letPass _ _ _ hl (gm_lt g4) _ _ _ hq5) rfl rfl (Nat.le_of_ble_eq_true rfl) dX1_letPass_43 46 rfl ?_
        refine gv_iinc C 2 rfl rfl [(2, _), (0, _), (1, _)] (by decide) rfl dX1_letPass_46 49 rfl ?_
        refine gv_goto C dX1_letPass_49 28 (by decide) ?_
        refine gm_ls [1, 2, 0] rfl ?_
        exact ih28 _ _ h
  have L2 : ∀ (n2 : Nat) (v2 : Int32) (G : Gm), fX1_letPass_h2 l a1 n2 v2 G = some q → gm_V x G 2 [(0, .ref (gm_ad (cx_w x) 1 l 0)), (1, .int a1), (2, .int v2)] [] := by
    intro n2
    induction n2 with
    | zero => intro v2 G h; cases h
    | succ n2 ih2 =>
      intro v2 G h
      rw [fX1_letPass_h2.eq_2] at h
      refine gv_iload_n C rfl 2 rfl dX1_letPass_2 3 rfl ?_
      refine gv_aload_n C rfl 0 rfl dX1_letPass_3 4 rfl ?_
      refine gf_1_6 C (gi_1 hl) lkX1_67 dX1_letPass_4 7 rfl ?_
      refine gv_icmp_ge C dX1_letPass_7 26 (by decide) 10 rfl (fun c1 => ?_) (fun c1 => ?_)
      · replace h := gm_ip c1 h
        refine gv_iconst C 0 rfl dX1_letPass_26 27 rfl ?_
        refine gv_istore_n C rfl [(2, _), (0, _), (1, _)] (by decide) rfl dX1_letPass_27 28 rfl ?_
        refine gm_ls [1, 2, 0] rfl ?_
        exact L28 _ _ _ h
      · replace h := gm_iq c1 h
        refine gv_aload_n C rfl 0 rfl dX1_letPass_10 11 rfl ?_
        refine gf_1_2 C (gi_1 hl) lkX1_31 dX1_letPass_11 14 rfl ?_
        refine gv_iload_n C rfl 2 rfl dX1_letPass_14 15 rfl ?_
        obtain ⟨g6, h⟩ := gm_gis h
        refine gv_aald13 C (gi_13 hl) g6 dX1_letPass_15 16 rfl ?_
        refine gv_iload_n C rfl 1 rfl dX1_letPass_16 17 rfl ?_
        obtain ⟨q7, hq7, h⟩ := gm_bd h
        refine gv_callVv C mc_yX5_letPass ⟨mi_yX5_letPass, me_yX5_letPass⟩ (by decide) mkX1_262 (gi_5 hl (gm_lt g6)) ⟨_, rfl⟩ rfl rfl (kX5_letPass _ _ _ hl (gm_lt g6) _ _ _ hq7) rfl rfl (Nat.le_of_ble_eq_true rfl) dX1_letPass_17 20 rfl ?_
        refine gv_iinc C 2 rfl rfl [(2, _), (0, _), (1, _)] (by decide) rfl dX1_letPass_20 23 rfl ?_
        refine gv_goto C dX1_letPass_23 2 (by decide) ?_
        refine gm_ls [1, 2, 0] rfl ?_
        exact ih2 _ _ h
  refine gm_lv (lv' := [(0, _), (1, _)]) rfl ?_
  refine gv_iconst C 0 rfl dX1_letPass_0 1 rfl ?_
  refine gv_istore_n C rfl [(2, _), (0, _), (1, _)] (by decide) rfl dX1_letPass_1 2 rfl ?_
  refine gm_ls [1, 2, 0] rfl ?_
  exact L2 _ _ _ h
set_option maxRecDepth 100000 in
set_option maxHeartbeats 4000000 in
theorem kX1_clearSections (w : gm_Wd) (l : Nat) (hl : l < 4) (G : Gm) (q : Gm) (h : fX1_clearSections l G = some q) : gm_C w yX1_clearSections cX1_clearSections 3 none 4 [.ref (gm_ad w 1 l 0)] G none q := by
  refine gm_start (by decide) (Nat.le_of_ble_eq_true rfl) ?_
  intro x hw C E
  subst hw
  have C : gm_X x cX1_clearSections 3 RX1 none 4 := C
  unfold fX1_clearSections at h
  have L55 : ∀ (n55 : Nat) (v1 v2 : Int32) (G : Gm), fX1_clearSections_h55 l n55 v1 v2 G = some q → gm_V x G 55 [(0, .ref (gm_ad (cx_w x) 1 l 0)), (1, .int v1), (2, .int v2)] [] := by
    intro n55
    induction n55 with
    | zero => intro v1 v2 G h; cases h
    | succ n55 ih55 =>
      intro v1 v2 G h
      rw [fX1_clearSections_h55.eq_2] at h
      refine gv_iload_n C rfl 2 rfl dX1_clearSections_55 56 rfl ?_
      refine gv_iload_n C rfl 1 rfl dX1_clearSections_56 57 rfl ?_
      refine gv_icmp_ge C dX1_clearSections_57 77 (by decide) 60 rfl (fun c4 => ?_) (fun c4 => ?_)
      · replace h := gm_ip c4 h
        obtain rfl := Option.some.inj h
        exact gv_vret C E rfl rfl dX1_clearSections_77
      · replace h := gm_iq c4 h
        refine gv_aload_n C rfl 0 rfl dX1_clearSections_60 61 rfl ?_
        refine gv_aload_n C rfl 0 rfl dX1_clearSections_61 62 rfl ?_
        refine gf_1_1 C (gi_1 hl) lkX1_19 dX1_clearSections_62 65 rfl ?_
        refine gv_iload_n C rfl 2 rfl dX1_clearSections_65 66 rfl ?_
        obtain ⟨g5, h⟩ := gm_gis h
        refine gv_aald10 C (gi_10 hl) g5 dX1_clearSections_66 67 rfl ?_
        obtain ⟨q6, hq6, h⟩ := gm_bd h
        refine gv_callVi C mc_yX1_admitTrain ⟨mi_yX1_admitTrain, me_yX1_admitTrain⟩ (by decide) mkX1_289 (gi_1 hl) ⟨_, rfl⟩ rfl rfl (kX1_admitTrain _ _ _ hl (gm_lt g5) _ _ hq6) rfl rfl (Nat.le_of_ble_eq_true rfl) dX1_clearSections_67 70 rfl ?_
        refine gv_pop C rfl dX1_clearSections_70 71 rfl ?_
        refine gv_iinc C 2 rfl rfl [(2, _), (0, _), (1, _)] (by decide) rfl dX1_clearSections_71 74 rfl ?_
        refine gv_goto C dX1_clearSections_74 55 (by decide) ?_
        refine gm_ls [1, 2, 0] rfl ?_
        exact ih55 _ _ _ h
  have L31 : ∀ (n31 : Nat) (v1 v2 : Int32) (G : Gm), fX1_clearSections_h31 l n31 v1 v2 G = some q → gm_V x G 31 [(0, .ref (gm_ad (cx_w x) 1 l 0)), (1, .int v1), (2, .int v2)] [] := by
    intro n31
    induction n31 with
    | zero => intro v1 v2 G h; cases h
    | succ n31 ih31 =>
      intro v1 v2 G h
      rw [fX1_clearSections_h31.eq_2] at h
      refine gv_iload_n C rfl 2 rfl dX1_clearSections_31 32 rfl ?_
      refine gv_iload_n C rfl 1 rfl dX1_clearSections_32 33 rfl ?_
      refine gv_icmp_ge C dX1_clearSections_33 53 (by decide) 36 rfl (fun c3 => ?_) (fun c3 => ?_)
      · replace h := gm_ip c3 h
        refine gv_iconst C 0 rfl dX1_clearSections_53 54 rfl ?_
        refine gv_istore_n C rfl [(2, _), (0, _), (1, _)] (by decide) rfl dX1_clearSections_54 55 rfl ?_
        refine gm_ls [1, 2, 0] rfl ?_
        exact L55 _ _ _ _ h
      · replace h := gm_iq c3 h
        refine gv_aload_n C rfl 0 rfl dX1_clearSections_36 37 rfl ?_
        refine gv_aload_n C rfl 0 rfl dX1_clearSections_37 38 rfl ?_
        refine gf_1_1 C (gi_1 hl) lkX1_19 dX1_clearSections_38 41 rfl ?_
        refine gv_iload_n C rfl 2 rfl dX1_clearSections_41 42 rfl ?_
        obtain ⟨g7, h⟩ := gm_gis h
        refine gv_aald10 C (gi_10 hl) g7 dX1_clearSections_42 43 rfl ?_
        obtain ⟨q8, hq8, h⟩ := gm_bd h
        refine gv_callVi C mc_yX1_sendEngine ⟨mi_yX1_sendEngine, me_yX1_sendEngine⟩ (by decide) mkX1_286 (gi_1 hl) ⟨_, rfl⟩ rfl rfl (kX1_sendEngine _ _ _ hl (gm_lt g7) _ _ hq8) rfl rfl (Nat.le_of_ble_eq_true rfl) dX1_clearSections_43 46 rfl ?_
        refine gv_pop C rfl dX1_clearSections_46 47 rfl ?_
        refine gv_iinc C 2 rfl rfl [(2, _), (0, _), (1, _)] (by decide) rfl dX1_clearSections_47 50 rfl ?_
        refine gv_goto C dX1_clearSections_50 31 (by decide) ?_
        refine gm_ls [1, 2, 0] rfl ?_
        exact ih31 _ _ _ h
  have L7 : ∀ (n7 : Nat) (v1 v2 : Int32) (G : Gm), fX1_clearSections_h7 l n7 v1 v2 G = some q → gm_V x G 7 [(0, .ref (gm_ad (cx_w x) 1 l 0)), (1, .int v1), (2, .int v2)] [] := by
    intro n7
    induction n7 with
    | zero => intro v1 v2 G h; cases h
    | succ n7 ih7 =>
      intro v1 v2 G h
      rw [fX1_clearSections_h7.eq_2] at h
      refine gv_iload_n C rfl 2 rfl dX1_clearSections_7 8 rfl ?_
      refine gv_iload_n C rfl 1 rfl dX1_clearSections_8 9 rfl ?_
      refine gv_icmp_ge C dX1_clearSections_9 29 (by decide) 12 rfl (fun c2 => ?_) (fun c2 => ?_)
      · replace h := gm_ip c2 h
        refine gv_iconst C 0 rfl dX1_clearSections_29 30 rfl ?_
        refine gv_istore_n C rfl [(2, _), (0, _), (1, _)] (by decide) rfl dX1_clearSections_30 31 rfl ?_
        refine gm_ls [1, 2, 0] rfl ?_
        exact L31 _ _ _ _ h
      · replace h := gm_iq c2 h
        refine gv_aload_n C rfl 0 rfl dX1_clearSections_12 13 rfl ?_
        refine gv_aload_n C rfl 0 rfl dX1_clearSections_13 14 rfl ?_
        refine gf_1_1 C (gi_1 hl) lkX1_19 dX1_clearSections_14 17 rfl ?_
        refine gv_iload_n C rfl 2 rfl dX1_clearSections_17 18 rfl ?_
        obtain ⟨g9, h⟩ := gm_gis h
        refine gv_aald10 C (gi_10 hl) g9 dX1_clearSections_18 19 rfl ?_
        obtain ⟨q10, hq10, h⟩ := gm_bd h
        refine gv_callVi C mc_yX1_reportOut ⟨mi_yX1_reportOut, me_yX1_reportOut⟩ (by decide) mkX1_282 (gi_1 hl) ⟨_, rfl⟩ rfl rfl (kX1_reportOut _ _ _ hl (gm_lt g9) _ _ hq10) rfl rfl (Nat.le_of_ble_eq_true rfl) dX1_clearSections_19 22 rfl ?_
        refine gv_pop C rfl dX1_clearSections_22 23 rfl ?_
        refine gv_iinc C 2 rfl rfl [(2, _), (0, _), (1, _)] (by decide) rfl dX1_clearSections_23 26 rfl ?_
        refine gv_goto C dX1_clearSections_26 7 (by decide) ?_
        refine gm_ls [1, 2, 0] rfl ?_
        exact ih7 _ _ _ h
  refine gm_lv (lv' := [(0, _)]) rfl ?_
  refine gv_aload_n C rfl 0 rfl dX1_clearSections_0 1 rfl ?_
  obtain ⟨q1, hq1, h⟩ := gm_bd h
  refine gv_callVi C mc_yX1_blockCount ⟨mi_yX1_blockCount, me_yX1_blockCount⟩ (by decide) mkX1_138 (gi_1 hl) ⟨_, rfl⟩ rfl rfl (kX1_blockCount _ _ hl _ _ hq1) rfl rfl (Nat.le_of_ble_eq_true rfl) dX1_clearSections_1 4 rfl ?_
  refine gv_istore_n C rfl [(1, _), (0, _)] (by decide) rfl dX1_clearSections_4 5 rfl ?_
  refine gv_iconst C 0 rfl dX1_clearSections_5 6 rfl ?_
  refine gv_istore_n C rfl [(2, _), (1, _), (0, _)] (by decide) rfl dX1_clearSections_6 7 rfl ?_
  refine gm_ls [2, 1, 0] rfl ?_
  exact L7 _ _ _ _ h
set_option maxRecDepth 100000 in
set_option maxHeartbeats 4000000 in
theorem kX1_leaveAll (w : gm_Wd) (l : Nat) (hl : l < 4) (G : Gm) (q : Int32 × Gm) (h : fX1_leaveAll l G = some q) : gm_C w yX1_leaveAll cX1_leaveAll 3 (some .int) 3 [.ref (gm_ad w 1 l 0)] G (some (.int q.1)) q.2 := by
  refine gm_start (by decide) (Nat.le_of_ble_eq_true rfl) ?_
  intro x hw C E
  subst hw
  have C : gm_X x cX1_leaveAll 3 RX1 (some .int) 3 := C
  unfold fX1_leaveAll at h
  have L4 : ∀ (n4 : Nat) (v1 v2 : Int32) (G : Gm), fX1_leaveAll_h4 l n4 v1 v2 G = some q → gm_V x G 4 [(0, .ref (gm_ad (cx_w x) 1 l 0)), (1, .int v1), (2, .int v2)] [] := by
    intro n4
    induction n4 with
    | zero => intro v1 v2 G h; cases h
    | succ n4 ih4 =>
      intro v1 v2 G h
      rw [fX1_leaveAll_h4.eq_2] at h
      refine gv_iload_n C rfl 2 rfl dX1_leaveAll_4 5 rfl ?_
      refine gv_aload_n C rfl 0 rfl dX1_leaveAll_5 6 rfl ?_
      refine gf_1_6 C (gi_1 hl) lkX1_67 dX1_leaveAll_6 9 rfl ?_
      refine gv_icmp_ge C dX1_leaveAll_9 34 (by decide) 12 rfl (fun c1 => ?_) (fun c1 => ?_)
      · replace h := gm_ip c1 h
        refine gv_iload_n C rfl 1 rfl dX1_leaveAll_34 35 rfl ?_
        obtain rfl := Option.some.inj h
        exact gv_iret C E rfl rfl dX1_leaveAll_35
      · replace h := gm_iq c1 h
        refine gv_aload_n C rfl 0 rfl dX1_leaveAll_12 13 rfl ?_
        refine gv_aload_n C rfl 0 rfl dX1_leaveAll_13 14 rfl ?_
        refine gf_1_2 C (gi_1 hl) lkX1_31 dX1_leaveAll_14 17 rfl ?_
        refine gv_iload_n C rfl 2 rfl dX1_leaveAll_17 18 rfl ?_
        obtain ⟨g2, h⟩ := gm_gis h
        refine gv_aald13 C (gi_13 hl) g2 dX1_leaveAll_18 19 rfl ?_
        obtain ⟨q3, hq3, h⟩ := gm_bd h
        refine gv_callVi C mc_yX1_letLeave ⟨mi_yX1_letLeave, me_yX1_letLeave⟩ (by decide) mkX1_292 (gi_1 hl) ⟨_, rfl⟩ rfl rfl (kX1_letLeave _ _ _ hl (gm_lt g2) _ _ hq3) rfl rfl (Nat.le_of_ble_eq_true rfl) dX1_leaveAll_19 22 rfl ?_
        refine gv_if_lt C dX1_leaveAll_22 28 (by decide) 25 rfl (fun c4 => ?_) (fun c4 => ?_)
        · replace h := gm_ip c4 h
          refine gv_iinc C 2 rfl rfl [(2, _), (0, _), (1, _)] (by decide) rfl dX1_leaveAll_28 31 rfl ?_
          refine gv_goto C dX1_leaveAll_31 4 (by decide) ?_
          refine gm_ls [1, 2, 0] rfl ?_
          exact ih4 _ _ _ h
        · replace h := gm_iq c4 h
          refine gv_iinc C 1 rfl rfl [(1, _), (0, _), (2, _)] (by decide) rfl dX1_leaveAll_25 28 rfl ?_
          refine gv_iinc C 2 rfl rfl [(2, _), (1, _), (0, _)] (by decide) rfl dX1_leaveAll_28 31 rfl ?_
          refine gv_goto C dX1_leaveAll_31 4 (by decide) ?_
          refine gm_ls [2, 1, 0] rfl ?_
          exact ih4 _ _ _ h
  refine gm_lv (lv' := [(0, _)]) rfl ?_
  refine gv_iconst C 0 rfl dX1_leaveAll_0 1 rfl ?_
  refine gv_istore_n C rfl [(1, _), (0, _)] (by decide) rfl dX1_leaveAll_1 2 rfl ?_
  refine gv_iconst C 0 rfl dX1_leaveAll_2 3 rfl ?_
  refine gv_istore_n C rfl [(2, _), (1, _), (0, _)] (by decide) rfl dX1_leaveAll_3 4 rfl ?_
  refine gm_ls [2, 1, 0] rfl ?_
  exact L4 _ _ _ _ h
set_option maxRecDepth 100000 in
set_option maxHeartbeats 4000000 in
theorem kX1_offerAll (w : gm_Wd) (l : Nat) (hl : l < 4) (G : Gm) (q : Gm) (h : fX1_offerAll l G = some q) : gm_C w yX1_offerAll cX1_offerAll 2 none 4 [.ref (gm_ad w 1 l 0)] G none q := by
  refine gm_start (by decide) (Nat.le_of_ble_eq_true rfl) ?_
  intro x hw C E
  subst hw
  have C : gm_X x cX1_offerAll 2 RX1 none 4 := C
  unfold fX1_offerAll at h
  have L2 : ∀ (n2 : Nat) (v1 : Int32) (G : Gm), fX1_offerAll_h2 l n2 v1 G = some q → gm_V x G 2 [(0, .ref (gm_ad (cx_w x) 1 l 0)), (1, .int v1)] [] := by
    intro n2
    induction n2 with
    | zero => intro v1 G h; cases h
    | succ n2 ih2 =>
      intro v1 G h
      rw [fX1_offerAll_h2.eq_2] at h
      refine gv_iload_n C rfl 1 rfl dX1_offerAll_2 3 rfl ?_
      refine gv_aload_n C rfl 0 rfl dX1_offerAll_3 4 rfl ?_
      refine gf_1_6 C (gi_1 hl) lkX1_67 dX1_offerAll_4 7 rfl ?_
      refine gv_icmp_ge C dX1_offerAll_7 27 (by decide) 10 rfl (fun c1 => ?_) (fun c1 => ?_)
      · replace h := gm_ip c1 h
        obtain rfl := Option.some.inj h
        exact gv_vret C E rfl rfl dX1_offerAll_27
      · replace h := gm_iq c1 h
        refine gv_aload_n C rfl 0 rfl dX1_offerAll_10 11 rfl ?_
        refine gv_aload_n C rfl 0 rfl dX1_offerAll_11 12 rfl ?_
        refine gf_1_2 C (gi_1 hl) lkX1_31 dX1_offerAll_12 15 rfl ?_
        refine gv_iload_n C rfl 1 rfl dX1_offerAll_15 16 rfl ?_
        obtain ⟨g2, h⟩ := gm_gis h
        refine gv_aald13 C (gi_13 hl) g2 dX1_offerAll_16 17 rfl ?_
        obtain ⟨q3, hq3, h⟩ := gm_bd h
        refine gv_callVi C mc_yX1_offerTrain ⟨mi_yX1_offerTrain, me_yX1_offerTrain⟩ (by decide) mkX1_295 (gi_1 hl) ⟨_, rfl⟩ rfl rfl (kX1_offerTrain _ _ _ hl (gm_lt g2) _ _ hq3) rfl rfl (Nat.le_of_ble_eq_true rfl) dX1_offerAll_17 20 rfl ?_
        refine gv_pop C rfl dX1_offerAll_20 21 rfl ?_
        refine gv_iinc C 1 rfl rfl [(1, _), (0, _)] (by decide) rfl dX1_offerAll_21 24 rfl ?_
        refine gv_goto C dX1_offerAll_24 2 (by decide) ?_
        refine gm_ls [1, 0] rfl ?_
        exact ih2 _ _ h
  refine gm_lv (lv' := [(0, _)]) rfl ?_
  refine gv_iconst C 0 rfl dX1_offerAll_0 1 rfl ?_
  refine gv_istore_n C rfl [(1, _), (0, _)] (by decide) rfl dX1_offerAll_1 2 rfl ?_
  refine gm_ls [1, 0] rfl ?_
  exact L2 _ _ _ h
set_option maxRecDepth 100000 in
set_option maxHeartbeats 4000000 in
theorem kX1_answerAll (w : gm_Wd) (l : Nat) (hl : l < 4) (G : Gm) (q : Gm) (h : fX1_answerAll l G = some q) : gm_C w yX1_answerAll cX1_answerAll 2 none 4 [.ref (gm_ad w 1 l 0)] G none q := by
  refine gm_start (by decide) (Nat.le_of_ble_eq_true rfl) ?_
  intro x hw C E
  subst hw
  have C : gm_X x cX1_answerAll 2 RX1 none 4 := C
  unfold fX1_answerAll at h
  have L2 : ∀ (n2 : Nat) (v1 : Int32) (G : Gm), fX1_answerAll_h2 l n2 v1 G = some q → gm_V x G 2 [(0, .ref (gm_ad (cx_w x) 1 l 0)), (1, .int v1)] [] := by
    intro n2
    induction n2 with
    | zero => intro v1 G h; cases h
    | succ n2 ih2 =>
      intro v1 G h
      rw [fX1_answerAll_h2.eq_2] at h
      refine gv_iload_n C rfl 1 rfl dX1_answerAll_2 3 rfl ?_
      refine gv_aload_n C rfl 0 rfl dX1_answerAll_3 4 rfl ?_
      obtain ⟨q1, hq1, h⟩ := gm_bd h
      refine gv_callVi C mc_yX1_blockCount ⟨mi_yX1_blockCount, me_yX1_blockCount⟩ (by decide) mkX1_138 (gi_1 hl) ⟨_, rfl⟩ rfl rfl (kX1_blockCount _ _ hl _ _ hq1) rfl rfl (Nat.le_of_ble_eq_true rfl) dX1_answerAll_4 7 rfl ?_
      refine gv_icmp_ge C dX1_answerAll_7 40 (by decide) 10 rfl (fun c2 => ?_) (fun c2 => ?_)
      · replace h := gm_ip c2 h
        obtain rfl := Option.some.inj h
        exact gv_vret C E rfl rfl dX1_answerAll_40
      · replace h := gm_iq c2 h
        refine gv_aload_n C rfl 0 rfl dX1_answerAll_10 11 rfl ?_
        refine gv_aload_n C rfl 0 rfl dX1_answerAll_11 12 rfl ?_
        refine gf_1_1 C (gi_1 hl) lkX1_19 dX1_answerAll_12 15 rfl ?_
        refine gv_iload_n C rfl 1 rfl dX1_answerAll_15 16 rfl ?_
        obtain ⟨g3, h⟩ := gm_gis h
        refine gv_aald10 C (gi_10 hl) g3 dX1_answerAll_16 17 rfl ?_
        obtain ⟨q4, hq4, h⟩ := gm_bd h
        refine gv_callVi C mc_yX1_accept ⟨mi_yX1_accept, me_yX1_accept⟩ (by decide) mkX1_298 (gi_1 hl) ⟨_, rfl⟩ rfl rfl (kX1_accept _ _ _ hl (gm_lt g3) _ _ hq4) rfl rfl (Nat.le_of_ble_eq_true rfl) dX1_answerAll_17 20 rfl ?_
        refine gv_if_ge C dX1_answerAll_20 34 (by decide) 23 rfl (fun c5 => ?_) (fun c5 => ?_)
        · replace h := gm_ip c5 h
          refine gv_iinc C 1 rfl rfl [(1, _), (0, _)] (by decide) rfl dX1_answerAll_34 37 rfl ?_
          refine gv_goto C dX1_answerAll_37 2 (by decide) ?_
          refine gm_ls [1, 0] rfl ?_
          exact ih2 _ _ h
        · replace h := gm_iq c5 h
          refine gv_aload_n C rfl 0 rfl dX1_answerAll_23 24 rfl ?_
          refine gv_aload_n C rfl 0 rfl dX1_answerAll_24 25 rfl ?_
          refine gf_1_1 C (gi_1 hl) lkX1_19 dX1_answerAll_25 28 rfl ?_
          refine gv_iload_n C rfl 1 rfl dX1_answerAll_28 29 rfl ?_
          obtain ⟨g6, h⟩ := gm_gis h
          refine gv_aald10 C (gi_10 hl) g6 dX1_answerAll_29 30 rfl ?_
          obtain ⟨q7, hq7, h⟩ := gm_bd h
          refine gv_callVi C mc_yX1_refuse ⟨mi_yX1_refuse, me_yX1_refuse⟩ (by decide) mkX1_301 (gi_1 hl) ⟨_, rfl⟩ rfl rfl (kX1_refuse _ _ _ hl (gm_lt g6) _ _ hq7) rfl rfl (Nat.le_of_ble_eq_true rfl) dX1_answerAll_30 33 rfl ?_
          refine gv_pop C rfl dX1_answerAll_33 34 rfl ?_
          refine gv_iinc C 1 rfl rfl [(1, _), (0, _)] (by decide) rfl dX1_answerAll_34 37 rfl ?_
          refine gv_goto C dX1_answerAll_37 2 (by decide) ?_
          refine gm_ls [1, 0] rfl ?_
          exact ih2 _ _ h
  refine gm_lv (lv' := [(0, _)]) rfl ?_
  refine gv_iconst C 0 rfl dX1_answerAll_0 1 rfl ?_
  refine gv_istore_n C rfl [(1, _), (0, _)] (by decide) rfl dX1_answerAll_1 2 rfl ?_
  refine gm_ls [1, 0] rfl ?_
  exact L2 _ _ _ h
set_option maxRecDepth 100000 in
set_option maxHeartbeats 4000000 in
theorem kX1_departAll (w : gm_Wd) (l : Nat) (hl : l < 4) (G : Gm) (q : Gm) (h : fX1_departAll l G = some q) : gm_C w yX1_departAll cX1_departAll 2 none 4 [.ref (gm_ad w 1 l 0)] G none q := by
  refine gm_start (by decide) (Nat.le_of_ble_eq_true rfl) ?_
  intro x hw C E
  subst hw
  have C : gm_X x cX1_departAll 2 RX1 none 4 := C
  unfold fX1_departAll at h
  have L2 : ∀ (n2 : Nat) (v1 : Int32) (G : Gm), fX1_departAll_h2 l n2 v1 G = some q → gm_V x G 2 [(0, .ref (gm_ad (cx_w x) 1 l 0)), (1, .int v1)] [] := by
    intro n2
    induction n2 with
    | zero => intro v1 G h; cases h
    | succ n2 ih2 =>
      intro v1 G h
      rw [fX1_departAll_h2.eq_2] at h
      refine gv_iload_n C rfl 1 rfl dX1_departAll_2 3 rfl ?_
      refine gv_aload_n C rfl 0 rfl dX1_departAll_3 4 rfl ?_
      refine gf_1_6 C (gi_1 hl) lkX1_67 dX1_departAll_4 7 rfl ?_
      refine gv_icmp_ge C dX1_departAll_7 27 (by decide) 10 rfl (fun c1 => ?_) (fun c1 => ?_)
      · replace h := gm_ip c1 h
        obtain rfl := Option.some.inj h
        exact gv_vret C E rfl rfl dX1_departAll_27
      · replace h := gm_iq c1 h
        refine gv_aload_n C rfl 0 rfl dX1_departAll_10 11 rfl ?_
        refine gv_aload_n C rfl 0 rfl dX1_departAll_11 12 rfl ?_
        refine gf_1_2 C (gi_1 hl) lkX1_31 dX1_departAll_12 15 rfl ?_
        refine gv_iload_n C rfl 1 rfl dX1_departAll_15 16 rfl ?_
        obtain ⟨g2, h⟩ := gm_gis h
        refine gv_aald13 C (gi_13 hl) g2 dX1_departAll_16 17 rfl ?_
        obtain ⟨q3, hq3, h⟩ := gm_bd h
        refine gv_callVi C mc_yX1_letDepart ⟨mi_yX1_letDepart, me_yX1_letDepart⟩ (by decide) mkX1_304 (gi_1 hl) ⟨_, rfl⟩ rfl rfl (kX1_letDepart _ _ _ hl (gm_lt g2) _ _ hq3) rfl rfl (Nat.le_of_ble_eq_true rfl) dX1_departAll_17 20 rfl ?_
        refine gv_pop C rfl dX1_departAll_20 21 rfl ?_
        refine gv_iinc C 1 rfl rfl [(1, _), (0, _)] (by decide) rfl dX1_departAll_21 24 rfl ?_
        refine gv_goto C dX1_departAll_24 2 (by decide) ?_
        refine gm_ls [1, 0] rfl ?_
        exact ih2 _ _ h
  refine gm_lv (lv' := [(0, _)]) rfl ?_
  refine gv_iconst C 0 rfl dX1_departAll_0 1 rfl ?_
  refine gv_istore_n C rfl [(1, _), (0, _)] (by decide) rfl dX1_departAll_1 2 rfl ?_
  refine gm_ls [1, 0] rfl ?_
  exact L2 _ _ _ h
set_option maxRecDepth 100000 in
set_option maxHeartbeats 4000000 in
theorem kX1_workTick (w : gm_Wd) (l : Nat) (hl : l < 4) (G : Gm) (q : Int32 × Gm) (h : fX1_workTick l G = some q) : gm_C w yX1_workTick cX1_workTick 2 (some .int) 5 [.ref (gm_ad w 1 l 0)] G (some (.int q.1)) q.2 := by
  refine gm_start (by decide) (Nat.le_of_ble_eq_true rfl) ?_
  intro x hw C E
  subst hw
  have C : gm_X x cX1_workTick 2 RX1 (some .int) 5 := C
  unfold fX1_workTick at h
  refine gm_lv (lv' := [(0, _)]) rfl ?_
  refine gv_aload_n C rfl 0 rfl dX1_workTick_0 1 rfl ?_
  obtain ⟨q1, hq1, h⟩ := gm_bd h
  refine gv_callVv C mc_yX1_clearSections ⟨mi_yX1_clearSections, me_yX1_clearSections⟩ (by decide) mkX1_266 (gi_1 hl) ⟨_, rfl⟩ rfl rfl (kX1_clearSections _ _ hl _ _ hq1) rfl rfl (Nat.le_of_ble_eq_true rfl) dX1_workTick_1 4 rfl ?_
  refine gv_aload_n C rfl 0 rfl dX1_workTick_4 5 rfl ?_
  obtain ⟨q2, hq2, h⟩ := gm_bd h
  refine gv_callVi C mc_yX1_leaveAll ⟨mi_yX1_leaveAll, me_yX1_leaveAll⟩ (by decide) mkX1_269 (gi_1 hl) ⟨_, rfl⟩ rfl rfl (kX1_leaveAll _ _ hl _ _ hq2) rfl rfl (Nat.le_of_ble_eq_true rfl) dX1_workTick_5 8 rfl ?_
  refine gv_istore_n C rfl [(1, _), (0, _)] (by decide) rfl dX1_workTick_8 9 rfl ?_
  refine gv_aload_n C rfl 1 rfl dX1_workTick_9 10 rfl ?_
  obtain ⟨q3, hq3, h⟩ := gm_bd h
  refine gv_callVv C mc_yX1_offerAll ⟨mi_yX1_offerAll, me_yX1_offerAll⟩ (by decide) mkX1_272 (gi_1 hl) ⟨_, rfl⟩ rfl rfl (kX1_offerAll _ _ hl _ _ hq3) rfl rfl (Nat.le_of_ble_eq_true rfl) dX1_workTick_10 13 rfl ?_
  refine gv_aload_n C rfl 1 rfl dX1_workTick_13 14 rfl ?_
  obtain ⟨q4, hq4, h⟩ := gm_bd h
  refine gv_callVv C mc_yX1_answerAll ⟨mi_yX1_answerAll, me_yX1_answerAll⟩ (by decide) mkX1_275 (gi_1 hl) ⟨_, rfl⟩ rfl rfl (kX1_answerAll _ _ hl _ _ hq4) rfl rfl (Nat.le_of_ble_eq_true rfl) dX1_workTick_14 17 rfl ?_
  refine gv_aload_n C rfl 1 rfl dX1_workTick_17 18 rfl ?_
  obtain ⟨q5, hq5, h⟩ := gm_bd h
  refine gv_callVv C mc_yX1_departAll ⟨mi_yX1_departAll, me_yX1_departAll⟩ (by decide) mkX1_278 (gi_1 hl) ⟨_, rfl⟩ rfl rfl (kX1_departAll _ _ hl _ _ hq5) rfl rfl (Nat.le_of_ble_eq_true rfl) dX1_workTick_18 21 rfl ?_
  refine gv_aload_n C rfl 1 rfl dX1_workTick_21 22 rfl ?_
  refine gv_iconst C 1 rfl dX1_workTick_22 23 rfl ?_
  obtain ⟨q6, hq6, h⟩ := gm_bd h
  refine gv_callVv C mc_yX1_letPass ⟨mi_yX1_letPass, me_yX1_letPass⟩ (by decide) mkX1_281 (gi_1 hl) ⟨_, rfl⟩ rfl rfl (kX1_letPass _ _ hl _ _ _ hq6) rfl rfl (Nat.le_of_ble_eq_true rfl) dX1_workTick_23 26 rfl ?_
  refine gv_iload_n C rfl 0 rfl dX1_workTick_26 27 rfl ?_
  obtain rfl := Option.some.inj h
  exact gv_iret C E rfl rfl dX1_workTick_27
set_option maxRecDepth 100000 in
set_option maxHeartbeats 4000000 in
theorem kX1_copyFrom (w : gm_Wd) (l m1 : Nat) (hl : l < 4) (hm1 : m1 < 4) (G : Gm) (q : Gm) (h : fX1_copyFrom l m1 G = some q) : gm_C w yX1_copyFrom cX1_copyFrom 3 none 2 [.ref (gm_ad w 1 l 0), .ref (gm_ad w 1 m1 0)] G none q := by
  refine gm_start (by decide) (Nat.le_of_ble_eq_true rfl) ?_
  intro x hw C E
  subst hw
  have C : gm_X x cX1_copyFrom 3 RX1 none 2 := C
  unfold fX1_copyFrom at h
  have L83 : ∀ (n83 : Nat) (v2 : Int32) (G : Gm), fX1_copyFrom_h83 l m1 n83 v2 G = some q → gm_V x G 83 [(0, .ref (gm_ad (cx_w x) 1 l 0)), (1, .ref (gm_ad (cx_w x) 1 m1 0)), (2, .int v2)] [] := by
    intro n83
    induction n83 with
    | zero => intro v2 G h; cases h
    | succ n83 ih83 =>
      intro v2 G h
      rw [fX1_copyFrom_h83.eq_2] at h
      refine gv_iload_n C rfl 2 rfl dX1_copyFrom_83 84 rfl ?_
      refine gv_bipush C 12 rfl dX1_copyFrom_84 86 rfl ?_
      refine gv_icmp_ge C dX1_copyFrom_86 110 (by decide) 89 rfl (fun c3 => ?_) (fun c3 => ?_)
      · replace h := gm_ip c3 h
        refine gv_aload_n C rfl 1 rfl dX1_copyFrom_110 111 rfl ?_
        refine gf_1_3 C (gi_1 hm1) lkX1_36 dX1_copyFrom_111 114 rfl ?_
        refine gv_iconst C 0 rfl dX1_copyFrom_114 115 rfl ?_
        refine gv_aload_n C rfl 0 rfl dX1_copyFrom_115 116 rfl ?_
        refine gf_1_3 C (gi_1 hl) lkX1_36 dX1_copyFrom_116 119 rfl ?_
        refine gv_iconst C 0 rfl dX1_copyFrom_119 120 rfl ?_
        refine gv_bipush C 12 rfl dX1_copyFrom_120 122 rfl ?_
        refine gv_copy C 12 (by decide) (by decide) (gi_8 hm1 (by decide)) (gi_8 hl (by decide)) (by rw [(gm_l0 hm1)]; decide) (by rw [(gm_l0 hl)]; decide) mkX1_87 mn_arraycopyName ms_arraycopyName in_java_lang_System (by decide) (Nat.le_of_ble_eq_true rfl) dX1_copyFrom_122 125 rfl ?_
        refine gv_aload_n C rfl 0 rfl dX1_copyFrom_125 126 rfl ?_
        refine gf_1_4 C (gi_1 hl) lkX1_43 dX1_copyFrom_126 129 rfl ?_
        refine gv_aload_n C rfl 1 rfl dX1_copyFrom_129 130 rfl ?_
        refine gf_1_4 C (gi_1 hm1) lkX1_43 dX1_copyFrom_130 133 rfl ?_
        obtain ⟨q4, hq4, h⟩ := gm_bd h
        refine gv_callVv C mc_yX3_copyFrom ⟨mi_yX3_copyFrom, me_yX3_copyFrom⟩ (by decide) mkX1_93 (gi_3 hl) ⟨_, rfl⟩ rfl rfl (kX3_copyFrom _ _ _ hl hm1 _ _ hq4) rfl rfl (Nat.le_of_ble_eq_true rfl) dX1_copyFrom_133 136 rfl ?_
        obtain rfl := Option.some.inj h
        exact gv_vret C E rfl rfl dX1_copyFrom_136
      · replace h := gm_iq c3 h
        refine gv_aload_n C rfl 0 rfl dX1_copyFrom_89 90 rfl ?_
        refine gf_1_2 C (gi_1 hl) lkX1_31 dX1_copyFrom_90 93 rfl ?_
        refine gv_iload_n C rfl 2 rfl dX1_copyFrom_93 94 rfl ?_
        obtain ⟨g5, h⟩ := gm_gis h
        refine gv_aald13 C (gi_13 hl) g5 dX1_copyFrom_94 95 rfl ?_
        refine gv_aload_n C rfl 1 rfl dX1_copyFrom_95 96 rfl ?_
        refine gf_1_2 C (gi_1 hm1) lkX1_31 dX1_copyFrom_96 99 rfl ?_
        refine gv_iload_n C rfl 2 rfl dX1_copyFrom_99 100 rfl ?_
        obtain ⟨g6, h⟩ := gm_gis h
        refine gv_aald13 C (gi_13 hm1) g6 dX1_copyFrom_100 101 rfl ?_
        obtain ⟨q7, hq7, h⟩ := gm_bd h
        refine gv_callVv C mc_yX5_copyFrom ⟨mi_yX5_copyFrom, me_yX5_copyFrom⟩ (by decide) mkX1_84 (gi_5 hl (gm_lt g5)) ⟨_, rfl⟩ rfl rfl (kX5_copyFrom _ _ _ _ _ hl (gm_lt g5) hm1 (gm_lt g6) _ _ hq7) rfl rfl (Nat.le_of_ble_eq_true rfl) dX1_copyFrom_101 104 rfl ?_
        refine gv_iinc C 2 rfl rfl [(2, _), (0, _), (1, _)] (by decide) rfl dX1_copyFrom_104 107 rfl ?_
        refine gv_goto C dX1_copyFrom_107 83 (by decide) ?_
        refine gm_ls [1, 2, 0] rfl ?_
        exact ih83 _ _ h
  have L54 : ∀ (n54 : Nat) (v2 : Int32) (G : Gm), fX1_copyFrom_h54 l m1 n54 v2 G = some q → gm_V x G 54 [(0, .ref (gm_ad (cx_w x) 1 l 0)), (1, .ref (gm_ad (cx_w x) 1 m1 0)), (2, .int v2)] [] := by
    intro n54
    induction n54 with
    | zero => intro v2 G h; cases h
    | succ n54 ih54 =>
      intro v2 G h
      rw [fX1_copyFrom_h54.eq_2] at h
      refine gv_iload_n C rfl 2 rfl dX1_copyFrom_54 55 rfl ?_
      refine gv_bipush C 10 rfl dX1_copyFrom_55 57 rfl ?_
      refine gv_icmp_ge C dX1_copyFrom_57 81 (by decide) 60 rfl (fun c2 => ?_) (fun c2 => ?_)
      · replace h := gm_ip c2 h
        refine gv_iconst C 0 rfl dX1_copyFrom_81 82 rfl ?_
        refine gv_istore_n C rfl [(2, _), (0, _), (1, _)] (by decide) rfl dX1_copyFrom_82 83 rfl ?_
        refine gm_ls [1, 2, 0] rfl ?_
        exact L83 _ _ _ h
      · replace h := gm_iq c2 h
        refine gv_aload_n C rfl 0 rfl dX1_copyFrom_60 61 rfl ?_
        refine gf_1_1 C (gi_1 hl) lkX1_19 dX1_copyFrom_61 64 rfl ?_
        refine gv_iload_n C rfl 2 rfl dX1_copyFrom_64 65 rfl ?_
        obtain ⟨g8, h⟩ := gm_gis h
        refine gv_aald10 C (gi_10 hl) g8 dX1_copyFrom_65 66 rfl ?_
        refine gv_aload_n C rfl 1 rfl dX1_copyFrom_66 67 rfl ?_
        refine gf_1_1 C (gi_1 hm1) lkX1_19 dX1_copyFrom_67 70 rfl ?_
        refine gv_iload_n C rfl 2 rfl dX1_copyFrom_70 71 rfl ?_
        obtain ⟨g9, h⟩ := gm_gis h
        refine gv_aald10 C (gi_10 hm1) g9 dX1_copyFrom_71 72 rfl ?_
        obtain ⟨q10, hq10, h⟩ := gm_bd h
        refine gv_callVv C mc_yX0_copyFrom ⟨mi_yX0_copyFrom, me_yX0_copyFrom⟩ (by decide) mkX1_81 (gi_0 hl (gm_lt g8)) ⟨_, rfl⟩ rfl rfl (kX0_copyFrom _ _ _ _ _ hl (gm_lt g8) hm1 (gm_lt g9) _ _ hq10) rfl rfl (Nat.le_of_ble_eq_true rfl) dX1_copyFrom_72 75 rfl ?_
        refine gv_iinc C 2 rfl rfl [(2, _), (0, _), (1, _)] (by decide) rfl dX1_copyFrom_75 78 rfl ?_
        refine gv_goto C dX1_copyFrom_78 54 (by decide) ?_
        refine gm_ls [1, 2, 0] rfl ?_
        exact ih54 _ _ h
  have L26 : ∀ (n26 : Nat) (v2 : Int32) (G : Gm), fX1_copyFrom_h26 l m1 n26 v2 G = some q → gm_V x G 26 [(0, .ref (gm_ad (cx_w x) 1 l 0)), (1, .ref (gm_ad (cx_w x) 1 m1 0)), (2, .int v2)] [] := by
    intro n26
    induction n26 with
    | zero => intro v2 G h; cases h
    | succ n26 ih26 =>
      intro v2 G h
      rw [fX1_copyFrom_h26.eq_2] at h
      refine gv_iload_n C rfl 2 rfl dX1_copyFrom_26 27 rfl ?_
      refine gv_iconst C 5 rfl dX1_copyFrom_27 28 rfl ?_
      refine gv_icmp_ge C dX1_copyFrom_28 52 (by decide) 31 rfl (fun c1 => ?_) (fun c1 => ?_)
      · replace h := gm_ip c1 h
        refine gv_iconst C 0 rfl dX1_copyFrom_52 53 rfl ?_
        refine gv_istore_n C rfl [(2, _), (0, _), (1, _)] (by decide) rfl dX1_copyFrom_53 54 rfl ?_
        refine gm_ls [1, 2, 0] rfl ?_
        exact L54 _ _ _ h
      · replace h := gm_iq c1 h
        refine gv_aload_n C rfl 0 rfl dX1_copyFrom_31 32 rfl ?_
        refine gf_1_0 C (gi_1 hl) lkX1_11 dX1_copyFrom_32 35 rfl ?_
        refine gv_iload_n C rfl 2 rfl dX1_copyFrom_35 36 rfl ?_
        obtain ⟨g11, h⟩ := gm_gis h
        refine gv_aald12 C (gi_12 hl) g11 dX1_copyFrom_36 37 rfl ?_
        refine gv_aload_n C rfl 1 rfl dX1_copyFrom_37 38 rfl ?_
        refine gf_1_0 C (gi_1 hm1) lkX1_11 dX1_copyFrom_38 41 rfl ?_
        refine gv_iload_n C rfl 2 rfl dX1_copyFrom_41 42 rfl ?_
        obtain ⟨g12, h⟩ := gm_gis h
        refine gv_aald12 C (gi_12 hm1) g12 dX1_copyFrom_42 43 rfl ?_
        obtain ⟨q13, hq13, h⟩ := gm_bd h
        refine gv_callVv C mc_yX4_copyFrom ⟨mi_yX4_copyFrom, me_yX4_copyFrom⟩ (by decide) mkX1_77 (gi_4 hl (gm_lt g11)) ⟨_, rfl⟩ rfl rfl (kX4_copyFrom _ _ _ _ _ hl (gm_lt g11) hm1 (gm_lt g12) _ _ hq13) rfl rfl (Nat.le_of_ble_eq_true rfl) dX1_copyFrom_43 46 rfl ?_
        refine gv_iinc C 2 rfl rfl [(2, _), (0, _), (1, _)] (by decide) rfl dX1_copyFrom_46 49 rfl ?_
        refine gv_goto C dX1_copyFrom_49 26 (by decide) ?_
        refine gm_ls [1, 2, 0] rfl ?_
        exact ih26 _ _ h
  refine gm_lv (lv' := [(0, _), (1, _)]) rfl ?_
  refine gv_aload_n C rfl 0 rfl dX1_copyFrom_0 1 rfl ?_
  refine gv_aload_n C rfl 1 rfl dX1_copyFrom_1 2 rfl ?_
  refine gf_1_5 C (gi_1 hm1) lkX1_51 dX1_copyFrom_2 5 rfl ?_
  refine pf_1_5 C (gi_1 hl) lkX1_51 dX1_copyFrom_5 8 rfl ?_
  refine gv_aload_n C rfl 0 rfl dX1_copyFrom_8 9 rfl ?_
  refine gv_aload_n C rfl 1 rfl dX1_copyFrom_9 10 rfl ?_
  refine gf_1_6 C (gi_1 hm1) lkX1_67 dX1_copyFrom_10 13 rfl ?_
  refine pf_1_6 C (gi_1 hl) lkX1_67 dX1_copyFrom_13 16 rfl ?_
  refine gv_aload_n C rfl 0 rfl dX1_copyFrom_16 17 rfl ?_
  refine gv_aload_n C rfl 1 rfl dX1_copyFrom_17 18 rfl ?_
  refine gf_1_7 C (gi_1 hm1) lkX1_61 dX1_copyFrom_18 21 rfl ?_
  refine pf_1_7 C (gi_1 hl) lkX1_61 dX1_copyFrom_21 24 rfl ?_
  refine gv_iconst C 0 rfl dX1_copyFrom_24 25 rfl ?_
  refine gv_istore_n C rfl [(2, _), (0, _), (1, _)] (by decide) rfl dX1_copyFrom_25 26 rfl ?_
  refine gm_ls [1, 2, 0] rfl ?_
  exact L26 _ _ _ h
set_option maxRecDepth 100000 in
set_option maxHeartbeats 4000000 in
theorem kX1_isGone (w : gm_Wd) (l : Nat) (hl : l < 4) (a1 : Int32) (G : Gm) (q : Int32) (h : fX1_isGone l a1 G = some q) : gm_C w yX1_isGone cX1_isGone 3 (some .boolean) 1 [.ref (gm_ad w 1 l 0), .int a1] G (some (.int q)) G := by
  refine gm_start (by decide) (Nat.le_of_ble_eq_true rfl) ?_
  intro x hw C E
  subst hw
  have C : gm_X x cX1_isGone 3 RX1 (some .boolean) 1 := C
  unfold fX1_isGone at h
  refine gm_lv (lv' := [(0, _), (1, _)]) rfl ?_
  refine gv_aload_n C rfl 0 rfl dX1_isGone_0 1 rfl ?_
  refine gv_iload_n C rfl 1 rfl dX1_isGone_1 2 rfl ?_
  obtain ⟨q1, hq1, h⟩ := gm_bd h
  rcases gm_oc h with ⟨eq1, h⟩ | ⟨t2, eq1, h⟩
  · replace hq1 := hq1.trans (congrArg some eq1)
    refine gv_callVn C mc_yX1_trainAt ⟨mi_yX1_trainAt, me_yX1_trainAt⟩ (by decide) mkX1_96 (gi_1 hl) ⟨_, rfl⟩ rfl rfl (kX1_trainAt _ _ hl _ _ _ hq1) rfl rfl (Nat.le_of_ble_eq_true rfl) dX1_isGone_2 5 rfl ?_
    refine gv_astore_nN C rfl [(2, _), (0, _), (1, _)] (by decide) rfl dX1_isGone_5 6 rfl ?_
    refine gv_aload_nN C rfl 0 rfl dX1_isGone_6 7 rfl ?_
    refine gv_ifnullN C dX1_isGone_7 22 (by decide) ?_
    refine gv_iconst C 0 rfl dX1_isGone_22 23 rfl ?_
    obtain rfl := Option.some.inj h
    exact gv_zret C E (Or.inl rfl) rfl rfl dX1_isGone_23
  · replace hq1 := hq1.trans (congrArg some eq1)
    refine gv_callVa C mc_yX1_trainAt ⟨mi_yX1_trainAt, me_yX1_trainAt⟩ (by decide) mkX1_96 (gi_1 hl) ⟨_, rfl⟩ rfl rfl (kX1_trainAt _ _ hl _ _ _ hq1) rfl rfl (Nat.le_of_ble_eq_true rfl) dX1_isGone_2 5 rfl ?_
    refine gv_astore_n C rfl [(2, _), (0, _), (1, _)] (by decide) rfl dX1_isGone_5 6 rfl ?_
    refine gv_aload_n C rfl 0 rfl dX1_isGone_6 7 rfl ?_
    refine gv_ifnull C dX1_isGone_7 10 rfl ?_
    refine gv_aload_n C rfl 0 rfl dX1_isGone_10 11 rfl ?_
    refine gf_5_3 C (gi_5 hl (bX1_trainAt _ hl _ _ _ hq1)) lkX1_100 dX1_isGone_11 14 rfl ?_
    refine gv_iconst C 3 rfl dX1_isGone_14 15 rfl ?_
    refine gv_icmp_ne C dX1_isGone_15 22 (by decide) 18 rfl (fun c3 => ?_) (fun c3 => ?_)
    · replace h := gm_ip c3 h
      refine gv_iconst C 1 rfl dX1_isGone_18 19 rfl ?_
      refine gv_goto C dX1_isGone_19 23 (by decide) ?_
      obtain rfl := Option.some.inj h
      exact gv_zret C E (Or.inr rfl) rfl rfl dX1_isGone_23
    · replace h := gm_iq c3 h
      refine gv_iconst C 0 rfl dX1_isGone_22 23 rfl ?_
      obtain rfl := Option.some.inj h
      exact gv_zret C E (Or.inl rfl) rfl rfl dX1_isGone_23
set_option maxRecDepth 100000 in
set_option maxHeartbeats 4000000 in
theorem kX1_bringSpare (w : gm_Wd) (l : Nat) (hl : l < 4) (a1 a2 : Int32) (G : Gm) (q : Gm) (h : fX1_bringSpare l a1 a2 G = some q) : gm_C w yX1_bringSpare cX1_bringSpare 5 none 4 [.ref (gm_ad w 1 l 0), .int a1, .int a2] G none q := by
  refine gm_start (by decide) (Nat.le_of_ble_eq_true rfl) ?_
  intro x hw C E
  subst hw
  have C : gm_X x cX1_bringSpare 5 RX1 none 4 := C
  unfold fX1_bringSpare at h
  have L19 : ∀ (n19 : Nat) (v3 v4 : Int32) (G : Gm), fX1_bringSpare_h19 l a1 a2 n19 v3 v4 G = some q → gm_V x G 19 [(0, .ref (gm_ad (cx_w x) 1 l 0)), (1, .int a1), (2, .int a2), (3, .int v3), (4, .int v4)] [] := by
    intro n19
    induction n19 with
    | zero => intro v3 v4 G h; cases h
    | succ n19 ih19 =>
      intro v3 v4 G h
      rw [fX1_bringSpare_h19.eq_2] at h
      refine gv_iload C 4 rfl dX1_bringSpare_19 21 rfl ?_
      refine gv_aload_n C rfl 0 rfl dX1_bringSpare_21 22 rfl ?_
      refine gf_1_6 C (gi_1 hl) lkX1_67 dX1_bringSpare_22 25 rfl ?_
      refine gv_icmp_ge C dX1_bringSpare_25 66 (by decide) 28 rfl (fun c4 => ?_) (fun c4 => ?_)
      · replace h := gm_ip c4 h
        refine gv_aload_n C rfl 0 rfl dX1_bringSpare_66 67 rfl ?_
        refine gv_iload_n C rfl 1 rfl dX1_bringSpare_67 68 rfl ?_
        refine gv_iload_n C rfl 2 rfl dX1_bringSpare_68 69 rfl ?_
        obtain ⟨q5, hq5, h⟩ := gm_bd h
        refine gv_callVi C mc_yX1_bringNew ⟨mi_yX1_bringNew, me_yX1_bringNew⟩ (by decide) mkX1_154 (gi_1 hl) ⟨_, rfl⟩ rfl rfl (kX1_bringNew _ _ hl _ _ _ _ hq5) rfl rfl (Nat.le_of_ble_eq_true rfl) dX1_bringSpare_69 72 rfl ?_
        refine gv_pop C rfl dX1_bringSpare_72 73 rfl ?_
        obtain rfl := Option.some.inj h
        exact gv_vret C E rfl rfl dX1_bringSpare_73
      · replace h := gm_iq c4 h
        refine gv_aload_n C rfl 0 rfl dX1_bringSpare_28 29 rfl ?_
        refine gf_1_2 C (gi_1 hl) lkX1_31 dX1_bringSpare_29 32 rfl ?_
        refine gv_iload C 4 rfl dX1_bringSpare_32 34 rfl ?_
        obtain ⟨g6, h⟩ := gm_gis h
        refine gv_aald13 C (gi_13 hl) g6 dX1_bringSpare_34 35 rfl ?_
        refine gf_5_3 C (gi_5 hl (gm_lt g6)) lkX1_100 dX1_bringSpare_35 38 rfl ?_
        refine gv_iconst C 3 rfl dX1_bringSpare_38 39 rfl ?_
        refine gv_icmp_ne C dX1_bringSpare_39 60 (by decide) 42 rfl (fun c7 => ?_) (fun c7 => ?_)
        · replace h := gm_ip c7 h
          refine gv_aload_n C rfl 0 rfl dX1_bringSpare_42 43 rfl ?_
          refine gf_1_2 C (gi_1 hl) lkX1_31 dX1_bringSpare_43 46 rfl ?_
          refine gv_iload C 4 rfl dX1_bringSpare_46 48 rfl ?_
          obtain ⟨g8, h⟩ := gm_gis h
          refine gv_aald13 C (gi_13 hl) g8 dX1_bringSpare_48 49 rfl ?_
          refine gv_iload_n C rfl 1 rfl dX1_bringSpare_49 50 rfl ?_
          refine gv_iload_n C rfl 2 rfl dX1_bringSpare_50 51 rfl ?_
          refine gv_iload_n C rfl 3 rfl dX1_bringSpare_51 52 rfl ?_
          refine gv_aload_n C rfl 0 rfl dX1_bringSpare_52 53 rfl ?_
          refine gf_1_7 C (gi_1 hl) lkX1_61 dX1_bringSpare_53 56 rfl ?_
          obtain ⟨q9, hq9, h⟩ := gm_bd h
          refine gv_callVv C mc_yX5_start ⟨mi_yX5_start, me_yX5_start⟩ (by decide) mkX1_149 (gi_5 hl (gm_lt g8)) ⟨_, rfl⟩ rfl rfl (kX5_start _ _ _ hl (gm_lt g8) _ _ _ _ _ _ hq9) rfl rfl (Nat.le_of_ble_eq_true rfl) dX1_bringSpare_56 59 rfl ?_
          obtain rfl := Option.some.inj h
          exact gv_vret C E rfl rfl dX1_bringSpare_59
        · replace h := gm_iq c7 h
          refine gv_iinc C 4 rfl rfl [(4, _), (0, _), (1, _), (2, _), (3, _)] (by decide) rfl dX1_bringSpare_60 63 rfl ?_
          refine gv_goto C dX1_bringSpare_63 19 (by decide) ?_
          refine gm_ls [1, 2, 3, 4, 0] rfl ?_
          exact ih19 _ _ _ h
  refine gm_lv (lv' := [(0, _), (1, _), (2, _)]) rfl ?_
  refine gv_aload_n C rfl 0 rfl dX1_bringSpare_0 1 rfl ?_
  refine gv_iload_n C rfl 2 rfl dX1_bringSpare_1 2 rfl ?_
  obtain ⟨q1, hq1, h⟩ := gm_bd h
  refine gv_callVi C mc_yX1_firstBox ⟨mi_yX1_firstBox, me_yX1_firstBox⟩ (by decide) mkX1_103 (gi_1 hl) ⟨_, rfl⟩ rfl rfl (kX1_firstBox _ _ hl _ _ _ hq1) rfl rfl (Nat.le_of_ble_eq_true rfl) dX1_bringSpare_2 5 rfl ?_
  refine gv_istore_n C rfl [(3, _), (0, _), (1, _), (2, _)] (by decide) rfl dX1_bringSpare_5 6 rfl ?_
  refine gv_aload_n C rfl 1 rfl dX1_bringSpare_6 7 rfl ?_
  refine gv_iload_n C rfl 0 rfl dX1_bringSpare_7 8 rfl ?_
  refine gv_iload_n C rfl 3 rfl dX1_bringSpare_8 9 rfl ?_
  obtain ⟨q2, hq2, h⟩ := gm_bd h
  refine gv_callVi C mc_yX1_isLineFree ⟨mi_yX1_isLineFree, me_yX1_isLineFree⟩ (by decide) mkX1_145 (gi_1 hl) ⟨_, rfl⟩ rfl rfl (kX1_isLineFree _ _ hl _ _ _ _ hq2) rfl rfl (Nat.le_of_ble_eq_true rfl) dX1_bringSpare_9 12 rfl ?_
  refine gv_if_ne C dX1_bringSpare_12 16 (by decide) 15 rfl (fun c3 => ?_) (fun c3 => ?_)
  · replace h := gm_ip c3 h
    obtain rfl := Option.some.inj h
    exact gv_vret C E rfl rfl dX1_bringSpare_15
  · replace h := gm_iq c3 h
    refine gv_iconst C 0 rfl dX1_bringSpare_16 17 rfl ?_
    refine gv_istore C [(4, _), (3, _), (0, _), (1, _), (2, _)] (by decide) rfl dX1_bringSpare_17 19 rfl ?_
    refine gm_ls [2, 3, 4, 1, 0] rfl ?_
    exact L19 _ _ _ _ h
set_option maxRecDepth 100000 in
set_option maxHeartbeats 4000000 in
theorem kX1_trainsThatAre (w : gm_Wd) (l : Nat) (hl : l < 4) (a1 : Int32) (G : Gm) (q : Int32) (h : fX1_trainsThatAre l a1 G = some q) : gm_C w yX1_trainsThatAre cX1_trainsThatAre 4 (some .int) 0 [.ref (gm_ad w 1 l 0), .int a1] G (some (.int q)) G := by
  refine gm_start (by decide) (Nat.le_of_ble_eq_true rfl) ?_
  intro x hw C E
  subst hw
  have C : gm_X x cX1_trainsThatAre 4 RX1 (some .int) 0 := C
  unfold fX1_trainsThatAre at h
  have L4 : ∀ (n4 : Nat) (v2 v3 : Int32), fX1_trainsThatAre_h4 l a1 G n4 v2 v3 = some q → gm_V x G 4 [(0, .ref (gm_ad (cx_w x) 1 l 0)), (1, .int a1), (2, .int v2), (3, .int v3)] [] := by
    intro n4
    induction n4 with
    | zero => intro v2 v3 h; cases h
    | succ n4 ih4 =>
      intro v2 v3 h
      rw [fX1_trainsThatAre_h4.eq_2] at h
      refine gv_iload_n C rfl 3 rfl dX1_trainsThatAre_4 5 rfl ?_
      refine gv_aload_n C rfl 0 rfl dX1_trainsThatAre_5 6 rfl ?_
      refine gf_1_6 C (gi_1 hl) lkX1_67 dX1_trainsThatAre_6 9 rfl ?_
      refine gv_icmp_ge C dX1_trainsThatAre_9 34 (by decide) 12 rfl (fun c1 => ?_) (fun c1 => ?_)
      · replace h := gm_ip c1 h
        refine gv_iload_n C rfl 2 rfl dX1_trainsThatAre_34 35 rfl ?_
        obtain rfl := Option.some.inj h
        exact gv_iret C E rfl rfl dX1_trainsThatAre_35
      · replace h := gm_iq c1 h
        refine gv_aload_n C rfl 0 rfl dX1_trainsThatAre_12 13 rfl ?_
        refine gf_1_2 C (gi_1 hl) lkX1_31 dX1_trainsThatAre_13 16 rfl ?_
        refine gv_iload_n C rfl 3 rfl dX1_trainsThatAre_16 17 rfl ?_
        obtain ⟨g2, h⟩ := gm_gis h
        refine gv_aald13 C (gi_13 hl) g2 dX1_trainsThatAre_17 18 rfl ?_
        refine gf_5_3 C (gi_5 hl (gm_lt g2)) lkX1_100 dX1_trainsThatAre_18 21 rfl ?_
        refine gv_iload_n C rfl 1 rfl dX1_trainsThatAre_21 22 rfl ?_
        refine gv_icmp_ne C dX1_trainsThatAre_22 28 (by decide) 25 rfl (fun c3 => ?_) (fun c3 => ?_)
        · replace h := gm_ip c3 h
          refine gv_iinc C 2 rfl rfl [(2, _), (0, _), (1, _), (3, _)] (by decide) rfl dX1_trainsThatAre_25 28 rfl ?_
          refine gv_iinc C 3 rfl rfl [(3, _), (2, _), (0, _), (1, _)] (by decide) rfl dX1_trainsThatAre_28 31 rfl ?_
          refine gv_goto C dX1_trainsThatAre_31 4 (by decide) ?_
          refine gm_ls [2, 3, 1, 0] rfl ?_
          exact ih4 _ _ h
        · replace h := gm_iq c3 h
          refine gv_iinc C 3 rfl rfl [(3, _), (0, _), (1, _), (2, _)] (by decide) rfl dX1_trainsThatAre_28 31 rfl ?_
          refine gv_goto C dX1_trainsThatAre_31 4 (by decide) ?_
          refine gm_ls [1, 2, 3, 0] rfl ?_
          exact ih4 _ _ h
  refine gm_lv (lv' := [(0, _), (1, _)]) rfl ?_
  refine gv_iconst C 0 rfl dX1_trainsThatAre_0 1 rfl ?_
  refine gv_istore_n C rfl [(2, _), (0, _), (1, _)] (by decide) rfl dX1_trainsThatAre_1 2 rfl ?_
  refine gv_iconst C 0 rfl dX1_trainsThatAre_2 3 rfl ?_
  refine gv_istore_n C rfl [(3, _), (2, _), (0, _), (1, _)] (by decide) rfl dX1_trainsThatAre_3 4 rfl ?_
  refine gm_ls [2, 3, 1, 0] rfl ?_
  exact L4 _ _ _ h
set_option maxRecDepth 100000 in
set_option maxHeartbeats 4000000 in
theorem kX1_blocksOtherThan (w : gm_Wd) (l : Nat) (hl : l < 4) (a1 a2 : Int32) (G : Gm) (q : Int32) (h : fX1_blocksOtherThan l a1 a2 G = some q) : gm_C w yX1_blocksOtherThan cX1_blocksOtherThan 5 (some .int) 1 [.ref (gm_ad w 1 l 0), .int a1, .int a2] G (some (.int q)) G := by
  refine gm_start (by decide) (Nat.le_of_ble_eq_true rfl) ?_
  intro x hw C E
  subst hw
  have C : gm_X x cX1_blocksOtherThan 5 RX1 (some .int) 1 := C
  unfold fX1_blocksOtherThan at h
  have L5 : ∀ (n5 : Nat) (v3 v4 : Int32), fX1_blocksOtherThan_h5 l a1 a2 G n5 v3 v4 = some q → gm_V x G 5 [(0, .ref (gm_ad (cx_w x) 1 l 0)), (1, .int a1), (2, .int a2), (3, .int v3), (4, .int v4)] [] := by
    intro n5
    induction n5 with
    | zero => intro v3 v4 h; cases h
    | succ n5 ih5 =>
      intro v3 v4 h
      rw [fX1_blocksOtherThan_h5.eq_2] at h
      refine gv_iload C 4 rfl dX1_blocksOtherThan_5 7 rfl ?_
      refine gv_aload_n C rfl 0 rfl dX1_blocksOtherThan_7 8 rfl ?_
      obtain ⟨q1, hq1, h⟩ := gm_bd h
      refine gv_callVi C mc_yX1_blockCount ⟨mi_yX1_blockCount, me_yX1_blockCount⟩ (by decide) mkX1_138 (gi_1 hl) ⟨_, rfl⟩ rfl rfl (kX1_blockCount _ _ hl _ _ hq1) rfl rfl (Nat.le_of_ble_eq_true rfl) dX1_blocksOtherThan_8 11 rfl ?_
      refine gv_icmp_ge C dX1_blocksOtherThan_11 38 (by decide) 14 rfl (fun c2 => ?_) (fun c2 => ?_)
      · replace h := gm_ip c2 h
        refine gv_iload_n C rfl 3 rfl dX1_blocksOtherThan_38 39 rfl ?_
        obtain rfl := Option.some.inj h
        exact gv_iret C E rfl rfl dX1_blocksOtherThan_39
      · replace h := gm_iq c2 h
        refine gv_aload_n C rfl 0 rfl dX1_blocksOtherThan_14 15 rfl ?_
        refine gf_1_1 C (gi_1 hl) lkX1_19 dX1_blocksOtherThan_15 18 rfl ?_
        refine gv_iload C 4 rfl dX1_blocksOtherThan_18 20 rfl ?_
        obtain ⟨g3, h⟩ := gm_gis h
        refine gv_aald10 C (gi_10 hl) g3 dX1_blocksOtherThan_20 21 rfl ?_
        refine gv_iload_n C rfl 1 rfl dX1_blocksOtherThan_21 22 rfl ?_
        obtain ⟨q4, hq4, h⟩ := gm_bd h
        refine gv_callVi C mc_yX0_property ⟨mi_yX0_property, me_yX0_property⟩ (by decide) mkX1_142 (gi_0 hl (gm_lt g3)) ⟨_, rfl⟩ rfl rfl (kX0_property _ _ _ hl (gm_lt g3) _ _ _ hq4) rfl rfl (Nat.le_of_ble_eq_true rfl) dX1_blocksOtherThan_22 25 rfl ?_
        refine gv_iload_n C rfl 2 rfl dX1_blocksOtherThan_25 26 rfl ?_
        refine gv_icmp_eq C dX1_blocksOtherThan_26 32 (by decide) 29 rfl (fun c5 => ?_) (fun c5 => ?_)
        · replace h := gm_ip c5 h
          refine gv_iinc C 4 rfl rfl [(4, _), (0, _), (1, _), (2, _), (3, _)] (by decide) rfl dX1_blocksOtherThan_32 35 rfl ?_
          refine gv_goto C dX1_blocksOtherThan_35 5 (by decide) ?_
          refine gm_ls [1, 2, 3, 4, 0] rfl ?_
          exact ih5 _ _ h
        · replace h := gm_iq c5 h
          refine gv_iinc C 3 rfl rfl [(3, _), (0, _), (1, _), (2, _), (4, _)] (by decide) rfl dX1_blocksOtherThan_29 32 rfl ?_
          refine gv_iinc C 4 rfl rfl [(4, _), (3, _), (0, _), (1, _), (2, _)] (by decide) rfl dX1_blocksOtherThan_32 35 rfl ?_
          refine gv_goto C dX1_blocksOtherThan_35 5 (by decide) ?_
          refine gm_ls [2, 3, 4, 1, 0] rfl ?_
          exact ih5 _ _ h
  refine gm_lv (lv' := [(0, _), (1, _), (2, _)]) rfl ?_
  refine gv_iconst C 0 rfl dX1_blocksOtherThan_0 1 rfl ?_
  refine gv_istore_n C rfl [(3, _), (0, _), (1, _), (2, _)] (by decide) rfl dX1_blocksOtherThan_1 2 rfl ?_
  refine gv_iconst C 0 rfl dX1_blocksOtherThan_2 3 rfl ?_
  refine gv_istore C [(4, _), (3, _), (0, _), (1, _), (2, _)] (by decide) rfl dX1_blocksOtherThan_3 5 rfl ?_
  refine gm_ls [2, 3, 4, 1, 0] rfl ?_
  exact L5 _ _ _ h
set_option maxRecDepth 100000 in
set_option maxHeartbeats 4000000 in
theorem kX6_setUp (w : gm_Wd) (a1 a2 : Int32) (G : Gm) (q : Int32 × Gm) (h : fX6_setUp a1 a2 G = some q) : gm_C w yX6_setUp cX6_setUp 4 (some .int) 3 [.ref (gm_ad w 6 4 0), .int a1, .int a2] G (some (.int q.1)) q.2 := by
  refine gm_start (by decide) (Nat.le_of_ble_eq_true rfl) ?_
  intro x hw C E
  subst hw
  have C : gm_X x cX6_setUp 4 RX6 (some .int) 3 := C
  unfold fX6_setUp at h
  refine gm_lv (lv' := [(0, _), (1, _), (2, _)]) rfl ?_
  refine gv_iload_n C rfl 1 rfl dX6_setUp_0 1 rfl ?_
  refine gv_iconst C 2 rfl dX6_setUp_1 2 rfl ?_
  refine gv_icmp_lt C dX6_setUp_2 24 (by decide) 5 rfl (fun c1 => ?_) (fun c1 => ?_)
  · replace h := gm_ip c1 h
    refine gv_bipush C (-2) rfl dX6_setUp_24 26 rfl ?_
    obtain rfl := Option.some.inj h
    exact gv_iret C E rfl rfl dX6_setUp_26
  · replace h := gm_iq c1 h
    refine gv_iload_n C rfl 1 rfl dX6_setUp_5 6 rfl ?_
    refine gv_bipush C 6 rfl dX6_setUp_6 8 rfl ?_
    refine gv_icmp_gt C dX6_setUp_8 24 (by decide) 11 rfl (fun c2 => ?_) (fun c2 => ?_)
    · replace h := gm_ip c2 h
      refine gv_bipush C (-2) rfl dX6_setUp_24 26 rfl ?_
      obtain rfl := Option.some.inj h
      exact gv_iret C E rfl rfl dX6_setUp_26
    · replace h := gm_iq c2 h
      refine gv_iload_n C rfl 2 rfl dX6_setUp_11 12 rfl ?_
      refine gv_if_lt C dX6_setUp_12 24 (by decide) 15 rfl (fun c3 => ?_) (fun c3 => ?_)
      · replace h := gm_ip c3 h
        refine gv_bipush C (-2) rfl dX6_setUp_24 26 rfl ?_
        obtain rfl := Option.some.inj h
        exact gv_iret C E rfl rfl dX6_setUp_26
      · replace h := gm_iq c3 h
        refine gv_iload_n C rfl 2 rfl dX6_setUp_15 16 rfl ?_
        refine gv_iconst C 1 rfl dX6_setUp_16 17 rfl ?_
        refine gv_iload_n C rfl 1 rfl dX6_setUp_17 18 rfl ?_
        refine gv_iconst C 1 rfl dX6_setUp_18 19 rfl ?_
        refine gv_isub C dX6_setUp_19 20 rfl ?_
        refine gv_ishl C dX6_setUp_20 21 rfl ?_
        refine gv_icmp_lt C dX6_setUp_21 27 (by decide) 24 rfl (fun c4 => ?_) (fun c4 => ?_)
        · replace h := gm_ip c4 h
          refine gv_aload_n C rfl 0 rfl dX6_setUp_27 28 rfl ?_
          refine gf_6_0 C gi_6 lkX6_12 dX6_setUp_28 31 rfl ?_
          refine gf_1_6 C (gi_1 (by decide)) lkX6_34 dX6_setUp_31 34 rfl ?_
          refine gv_istore_n C rfl [(3, _), (0, _), (1, _), (2, _)] (by decide) rfl dX6_setUp_34 35 rfl ?_
          refine gv_aload_n C rfl 1 rfl dX6_setUp_35 36 rfl ?_
          refine gf_6_0 C gi_6 lkX6_12 dX6_setUp_36 39 rfl ?_
          refine gv_iload_n C rfl 2 rfl dX6_setUp_39 40 rfl ?_
          refine gv_iload_n C rfl 3 rfl dX6_setUp_40 41 rfl ?_
          obtain ⟨q5, hq5, h⟩ := gm_bd h
          refine gv_callVv C mc_yX1_layOut ⟨mi_yX1_layOut, me_yX1_layOut⟩ (by decide) mkX6_38 (gi_1 (by decide)) ⟨_, rfl⟩ rfl rfl (kX1_layOut _ _ (by decide) _ _ _ _ hq5) rfl rfl (Nat.le_of_ble_eq_true rfl) dX6_setUp_41 44 rfl ?_
          refine gv_iload_n C rfl 0 rfl dX6_setUp_44 45 rfl ?_
          obtain rfl := Option.some.inj h
          exact gv_iret C E rfl rfl dX6_setUp_45
        · replace h := gm_iq c4 h
          refine gv_bipush C (-2) rfl dX6_setUp_24 26 rfl ?_
          obtain rfl := Option.some.inj h
          exact gv_iret C E rfl rfl dX6_setUp_26
set_option maxRecDepth 100000 in
set_option maxHeartbeats 4000000 in
theorem kX6_setTime (w : gm_Wd) (a1 a2 : Int32) (G : Gm) (q : Int32 × Gm) (h : fX6_setTime a1 a2 G = some q) : gm_C w yX6_setTime cX6_setTime 5 (some .int) 1 [.ref (gm_ad w 6 4 0), .int a1, .int a2] G (some (.int q.1)) q.2 := by
  refine gm_start (by decide) (Nat.le_of_ble_eq_true rfl) ?_
  intro x hw C E
  subst hw
  have C : gm_X x cX6_setTime 5 RX6 (some .int) 1 := C
  unfold fX6_setTime at h
  refine gm_lv (lv' := [(0, _), (1, _), (2, _)]) rfl ?_
  refine gv_aload_n C rfl 0 rfl dX6_setTime_0 1 rfl ?_
  refine gf_6_0 C gi_6 lkX6_12 dX6_setTime_1 4 rfl ?_
  refine gv_iload_n C rfl 1 rfl dX6_setTime_4 5 rfl ?_
  obtain ⟨q1, hq1, h⟩ := gm_bd h
  rcases gm_oc h with ⟨eq1, h⟩ | ⟨t2, eq1, h⟩
  · replace hq1 := hq1.trans (congrArg some eq1)
    refine gv_callVn C mc_yX1_sectionAt ⟨mi_yX1_sectionAt, me_yX1_sectionAt⟩ (by decide) mkX6_42 (gi_1 (by decide)) ⟨_, rfl⟩ rfl rfl (kX1_sectionAt _ _ (by decide) _ _ _ hq1) rfl rfl (Nat.le_of_ble_eq_true rfl) dX6_setTime_5 8 rfl ?_
    refine gv_astore_nN C rfl [(3, _), (0, _), (1, _), (2, _)] (by decide) rfl dX6_setTime_8 9 rfl ?_
    refine gv_aload_nN C rfl 0 rfl dX6_setTime_9 10 rfl ?_
    refine gv_ifnonnullN C dX6_setTime_10 13 rfl ?_
    refine gv_iconst C (-1) rfl dX6_setTime_13 14 rfl ?_
    obtain rfl := Option.some.inj h
    exact gv_iret C E rfl rfl dX6_setTime_14
  · replace hq1 := hq1.trans (congrArg some eq1)
    refine gv_callVa C mc_yX1_sectionAt ⟨mi_yX1_sectionAt, me_yX1_sectionAt⟩ (by decide) mkX6_42 (gi_1 (by decide)) ⟨_, rfl⟩ rfl rfl (kX1_sectionAt _ _ (by decide) _ _ _ hq1) rfl rfl (Nat.le_of_ble_eq_true rfl) dX6_setTime_5 8 rfl ?_
    refine gv_astore_n C rfl [(3, _), (0, _), (1, _), (2, _)] (by decide) rfl dX6_setTime_8 9 rfl ?_
    refine gv_aload_n C rfl 0 rfl dX6_setTime_9 10 rfl ?_
    refine gv_ifnonnull C dX6_setTime_10 15 (by decide) ?_
    refine gv_iload_n C rfl 3 rfl dX6_setTime_15 16 rfl ?_
    refine gv_iconst C 1 rfl dX6_setTime_16 17 rfl ?_
    refine gv_icmp_lt C dX6_setTime_17 26 (by decide) 20 rfl (fun c3 => ?_) (fun c3 => ?_)
    · replace h := gm_ip c3 h
      refine gv_bipush C (-2) rfl dX6_setTime_26 28 rfl ?_
      obtain rfl := Option.some.inj h
      exact gv_iret C E rfl rfl dX6_setTime_28
    · replace h := gm_iq c3 h
      refine gv_iload_n C rfl 3 rfl dX6_setTime_20 21 rfl ?_
      refine gv_bipush C 30 rfl dX6_setTime_21 23 rfl ?_
      refine gv_icmp_le C dX6_setTime_23 29 (by decide) 26 rfl (fun c4 => ?_) (fun c4 => ?_)
      · replace h := gm_ip c4 h
        refine gv_aload_n C rfl 0 rfl dX6_setTime_29 30 rfl ?_
        refine gf_4_2 C (gi_4 (by decide) (bX1_sectionAt _ (by decide) _ _ _ hq1)) lkX6_46 dX6_setTime_30 33 rfl ?_
        refine gv_istore C [(4, _), (3, _), (0, _), (1, _), (2, _)] (by decide) rfl dX6_setTime_33 35 rfl ?_
        refine gv_aload_n C rfl 1 rfl dX6_setTime_35 36 rfl ?_
        refine gv_iload_n C rfl 4 rfl dX6_setTime_36 37 rfl ?_
        refine pf_4_2 C (gi_4 (by decide) (bX1_sectionAt _ (by decide) _ _ _ hq1)) lkX6_46 dX6_setTime_37 40 rfl ?_
        refine gv_iload C 0 rfl dX6_setTime_40 42 rfl ?_
        obtain rfl := Option.some.inj h
        exact gv_iret C E rfl rfl dX6_setTime_42
      · replace h := gm_iq c4 h
        refine gv_bipush C (-2) rfl dX6_setTime_26 28 rfl ?_
        obtain rfl := Option.some.inj h
        exact gv_iret C E rfl rfl dX6_setTime_28
set_option maxRecDepth 100000 in
set_option maxHeartbeats 4000000 in
theorem kX6_setLoops (w : gm_Wd) (a1 a2 a3 : Int32) (G : Gm) (q : Int32 × Gm) (h : fX6_setLoops a1 a2 a3 G = some q) : gm_C w yX6_setLoops cX6_setLoops 4 (some .int) 3 [.ref (gm_ad w 6 4 0), .int a1, .int a2, .int a3] G (some (.int q.1)) q.2 := by
  refine gm_start (by decide) (Nat.le_of_ble_eq_true rfl) ?_
  intro x hw C E
  subst hw
  have C : gm_X x cX6_setLoops 4 RX6 (some .int) 3 := C
  unfold fX6_setLoops at h
  refine gm_lv (lv' := [(0, _), (1, _), (2, _), (3, _)]) rfl ?_
  refine gv_aload_n C rfl 0 rfl dX6_setLoops_0 1 rfl ?_
  refine gf_6_0 C gi_6 lkX6_12 dX6_setLoops_1 4 rfl ?_
  refine gv_iload_n C rfl 1 rfl dX6_setLoops_4 5 rfl ?_
  obtain ⟨q1, hq1, h⟩ := gm_bd h
  refine gv_callVi C mc_yX1_hasBox ⟨mi_yX1_hasBox, me_yX1_hasBox⟩ (by decide) mkX6_51 (gi_1 (by decide)) ⟨_, rfl⟩ rfl rfl (kX1_hasBox _ _ (by decide) _ _ _ hq1) rfl rfl (Nat.le_of_ble_eq_true rfl) dX6_setLoops_5 8 rfl ?_
  refine gv_if_eq C dX6_setLoops_8 18 (by decide) 11 rfl (fun c2 => ?_) (fun c2 => ?_)
  · replace h := gm_ip c2 h
    refine gv_iconst C (-1) rfl dX6_setLoops_18 19 rfl ?_
    obtain rfl := Option.some.inj h
    exact gv_iret C E rfl rfl dX6_setLoops_19
  · replace h := gm_iq c2 h
    refine gv_iload_n C rfl 2 rfl dX6_setLoops_11 12 rfl ?_
    obtain ⟨q3, hq3, h⟩ := gm_bd h
    refine gv_callSi C mc_yX6_isDirection ms_yX6_isDirection (by decide) mkX6_55 (kX6_isDirection _ _ _ _ hq3) rfl rfl (Nat.le_of_ble_eq_true rfl) dX6_setLoops_12 15 rfl ?_
    refine gv_if_ne C dX6_setLoops_15 20 (by decide) 18 rfl (fun c4 => ?_) (fun c4 => ?_)
    · replace h := gm_ip c4 h
      refine gv_iconst C (-1) rfl dX6_setLoops_18 19 rfl ?_
      obtain rfl := Option.some.inj h
      exact gv_iret C E rfl rfl dX6_setLoops_19
    · replace h := gm_iq c4 h
      refine gv_iload_n C rfl 3 rfl dX6_setLoops_20 21 rfl ?_
      refine gv_if_lt C dX6_setLoops_21 29 (by decide) 24 rfl (fun c5 => ?_) (fun c5 => ?_)
      · replace h := gm_ip c5 h
        refine gv_bipush C (-2) rfl dX6_setLoops_29 31 rfl ?_
        obtain rfl := Option.some.inj h
        exact gv_iret C E rfl rfl dX6_setLoops_31
      · replace h := gm_iq c5 h
        refine gv_iload_n C rfl 3 rfl dX6_setLoops_24 25 rfl ?_
        refine gv_iconst C 3 rfl dX6_setLoops_25 26 rfl ?_
        refine gv_icmp_le C dX6_setLoops_26 32 (by decide) 29 rfl (fun c6 => ?_) (fun c6 => ?_)
        · replace h := gm_ip c6 h
          refine gv_aload_n C rfl 0 rfl dX6_setLoops_32 33 rfl ?_
          refine gf_6_0 C gi_6 lkX6_12 dX6_setLoops_33 36 rfl ?_
          refine gv_iload_n C rfl 1 rfl dX6_setLoops_36 37 rfl ?_
          refine gv_iload_n C rfl 2 rfl dX6_setLoops_37 38 rfl ?_
          refine gv_iload_n C rfl 3 rfl dX6_setLoops_38 39 rfl ?_
          obtain ⟨q7, hq7, h⟩ := gm_bd h
          refine gv_callVi C mc_yX1_changeLoops ⟨mi_yX1_changeLoops, me_yX1_changeLoops⟩ (by decide) mkX6_58 (gi_1 (by decide)) ⟨_, rfl⟩ rfl rfl (kX1_changeLoops _ _ (by decide) _ _ _ _ _ hq7) rfl rfl (Nat.le_of_ble_eq_true rfl) dX6_setLoops_39 42 rfl ?_
          obtain rfl := Option.some.inj h
          exact gv_iret C E rfl rfl dX6_setLoops_42
        · replace h := gm_iq c6 h
          refine gv_bipush C (-2) rfl dX6_setLoops_29 31 rfl ?_
          obtain rfl := Option.some.inj h
          exact gv_iret C E rfl rfl dX6_setLoops_31
