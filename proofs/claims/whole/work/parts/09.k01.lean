set_option maxRecDepth 100000 in
set_option maxHeartbeats 4000000 in
theorem kX3_rowOf (w : gm_Wd) (a0 : Int32) (G : Gm) (q : Int32) (h : fX3_rowOf a0 = some q) : gm_C w yX3_rowOf cX3_rowOf 1 (some .int) 0 [.int a0] G (some (.int q)) G := by
  refine gm_start (by decide) (Nat.le_of_ble_eq_true rfl) ?_
  intro x hw C E
  subst hw
  have C : gm_X x cX3_rowOf 1 RX3 (some .int) 0 := C
  unfold fX3_rowOf at h
  refine gm_lv (lv' := [(0, _)]) rfl ?_
  refine gv_iload_n C rfl 0 rfl dX3_rowOf_0 1 rfl ?_
  refine gv_ldc C 2147483647 knX3_53 dX3_rowOf_1 3 rfl ?_
  refine gv_iand C dX3_rowOf_3 4 rfl ?_
  refine gv_bipush C 60 rfl dX3_rowOf_4 6 rfl ?_
  refine gv_irem C (by decide) dX3_rowOf_6 7 rfl ?_
  refine gv_iconst C 5 rfl dX3_rowOf_7 8 rfl ?_
  refine gv_imul C dX3_rowOf_8 9 rfl ?_
  obtain rfl := Option.some.inj h
  exact gv_iret C E rfl rfl dX3_rowOf_9
set_option maxRecDepth 100000 in
set_option maxHeartbeats 4000000 in
theorem kX3_record (w : gm_Wd) (l p2 : Nat) (hl : l < 4) (hp2 : p2 < 10) (a1 a3 a4 : Int32) (G : Gm) (q : Gm) (h : fX3_record l p2 a1 a3 a4 G = some q) : gm_C w yX3_record cX3_record 6 none 1 [.ref (gm_ad w 3 l 0), .int a1, .ref (gm_ad w 0 l p2), .int a3, .int a4] G none q := by
  refine gm_start (by decide) (Nat.le_of_ble_eq_true rfl) ?_
  intro x hw C E
  subst hw
  have C : gm_X x cX3_record 6 RX3 none 1 := C
  unfold fX3_record at h
  refine gm_lv (lv' := [(0, _), (1, _), (2, _), (3, _), (4, _)]) rfl ?_
  refine gv_aload_n C rfl 0 rfl dX3_record_0 1 rfl ?_
  refine gf_3_1 C (gi_3 hl) lkX3_21 dX3_record_1 4 rfl ?_
  obtain ⟨q1, hq1, h⟩ := gm_bd h
  refine gv_callSi C mc_yX3_rowOf ms_yX3_rowOf (by decide) mkX3_25 (kX3_rowOf _ _ _ _ hq1) rfl rfl (Nat.le_of_ble_eq_true rfl) dX3_record_4 7 rfl ?_
  refine gv_istore C [(5, _), (0, _), (1, _), (2, _), (3, _), (4, _)] (by decide) rfl dX3_record_7 9 rfl ?_
  refine gv_aload_n C rfl 1 rfl dX3_record_9 10 rfl ?_
  refine gf_3_0 C (gi_3 hl) lkX3_9 dX3_record_10 13 rfl ?_
  refine gv_iload C 0 rfl dX3_record_13 15 rfl ?_
  refine gv_iload_n C rfl 2 rfl dX3_record_15 16 rfl ?_
  obtain ⟨g2, h⟩ := gm_gis h
  refine gv_iast C (gi_8 hl (by decide)) (gm_l1 hl) g2 dX3_record_16 17 rfl ?_
  refine gv_aload_n C rfl 1 rfl dX3_record_17 18 rfl ?_
  refine gf_3_0 C (gi_3 hl) lkX3_9 dX3_record_18 21 rfl ?_
  refine gv_iload C 0 rfl dX3_record_21 23 rfl ?_
  refine gv_iconst C 1 rfl dX3_record_23 24 rfl ?_
  refine gv_iadd C dX3_record_24 25 rfl ?_
  refine gv_aload_n C rfl 3 rfl dX3_record_25 26 rfl ?_
  refine gf_0_0 C (gi_0 hl hp2) lkX3_29 dX3_record_26 29 rfl ?_
  refine gf_4_0 C (gi_4 hl (gm_h2 hp2)) lkX3_35 dX3_record_29 32 rfl ?_
  obtain ⟨g3, h⟩ := gm_gis h
  refine gv_iast C (gi_8 hl (by decide)) (gm_l1 hl) g3 dX3_record_32 33 rfl ?_
  refine gv_aload_n C rfl 1 rfl dX3_record_33 34 rfl ?_
  refine gf_3_0 C (gi_3 hl) lkX3_9 dX3_record_34 37 rfl ?_
  refine gv_iload C 0 rfl dX3_record_37 39 rfl ?_
  refine gv_iconst C 2 rfl dX3_record_39 40 rfl ?_
  refine gv_iadd C dX3_record_40 41 rfl ?_
  refine gv_aload_n C rfl 3 rfl dX3_record_41 42 rfl ?_
  refine gf_0_1 C (gi_0 hl hp2) lkX3_40 dX3_record_42 45 rfl ?_
  obtain ⟨g4, h⟩ := gm_gis h
  refine gv_iast C (gi_8 hl (by decide)) (gm_l1 hl) g4 dX3_record_45 46 rfl ?_
  refine gv_aload_n C rfl 1 rfl dX3_record_46 47 rfl ?_
  refine gf_3_0 C (gi_3 hl) lkX3_9 dX3_record_47 50 rfl ?_
  refine gv_iload C 0 rfl dX3_record_50 52 rfl ?_
  refine gv_iconst C 3 rfl dX3_record_52 53 rfl ?_
  refine gv_iadd C dX3_record_53 54 rfl ?_
  refine gv_iload_n C rfl 4 rfl dX3_record_54 55 rfl ?_
  obtain ⟨g5, h⟩ := gm_gis h
  refine gv_iast C (gi_8 hl (by decide)) (gm_l1 hl) g5 dX3_record_55 56 rfl ?_
  refine gv_aload_n C rfl 1 rfl dX3_record_56 57 rfl ?_
  refine gf_3_0 C (gi_3 hl) lkX3_9 dX3_record_57 60 rfl ?_
  refine gv_iload C 0 rfl dX3_record_60 62 rfl ?_
  refine gv_iconst C 4 rfl dX3_record_62 63 rfl ?_
  refine gv_iadd C dX3_record_63 64 rfl ?_
  refine gv_iload C 5 rfl dX3_record_64 66 rfl ?_
  obtain ⟨g6, h⟩ := gm_gis h
  refine gv_iast C (gi_8 hl (by decide)) (gm_l1 hl) g6 dX3_record_66 67 rfl ?_
  refine gv_aload_n C rfl 1 rfl dX3_record_67 68 rfl ?_
  refine gv_dup C rfl dX3_record_68 69 rfl ?_
  refine gf_3_1 C (gi_3 hl) lkX3_21 dX3_record_69 72 rfl ?_
  refine gv_iconst C 1 rfl dX3_record_72 73 rfl ?_
  refine gv_iadd C dX3_record_73 74 rfl ?_
  refine pf_3_1 C (gi_3 hl) lkX3_21 dX3_record_74 77 rfl ?_
  obtain rfl := Option.some.inj h
  exact gv_vret C E rfl rfl dX3_record_77
set_option maxRecDepth 100000 in
set_option maxHeartbeats 4000000 in
theorem kX3_oldest (w : gm_Wd) (l : Nat) (hl : l < 4) (G : Gm) (q : Int32) (h : fX3_oldest l G = some q) : gm_C w yX3_oldest cX3_oldest 1 (some .int) 1 [.ref (gm_ad w 3 l 0)] G (some (.int q)) G := by
  refine gm_start (by decide) (Nat.le_of_ble_eq_true rfl) ?_
  intro x hw C E
  subst hw
  have C : gm_X x cX3_oldest 1 RX3 (some .int) 1 := C
  unfold fX3_oldest at h
  refine gm_lv (lv' := [(0, _)]) rfl ?_
  refine gv_iconst C 0 rfl dX3_oldest_0 1 rfl ?_
  refine gv_aload_n C rfl 0 rfl dX3_oldest_1 2 rfl ?_
  refine gf_3_1 C (gi_3 hl) lkX3_21 dX3_oldest_2 5 rfl ?_
  refine gv_bipush C 60 rfl dX3_oldest_5 7 rfl ?_
  refine gv_isub C dX3_oldest_7 8 rfl ?_
  refine gv_max C mkX3_47 ms_Lib_Math_max_name in_java_lang_Math mcx_Lib_Math_max_name (by decide) (Nat.le_of_ble_eq_true rfl) dX3_oldest_8 11 rfl ?_
  obtain rfl := Option.some.inj h
  exact gv_iret C E rfl rfl dX3_oldest_11
set_option maxRecDepth 100000 in
set_option maxHeartbeats 4000000 in
theorem kX3_property (w : gm_Wd) (l : Nat) (hl : l < 4) (a1 a2 : Int32) (G : Gm) (q : Int32) (h : fX3_property l a1 a2 G = some q) : gm_C w yX3_property cX3_property 3 (some .int) 2 [.ref (gm_ad w 3 l 0), .int a1, .int a2] G (some (.int q)) G := by
  refine gm_start (by decide) (Nat.le_of_ble_eq_true rfl) ?_
  intro x hw C E
  subst hw
  have C : gm_X x cX3_property 3 RX3 (some .int) 2 := C
  unfold fX3_property at h
  refine gm_lv (lv' := [(0, _), (1, _), (2, _)]) rfl ?_
  refine gv_iload_n C rfl 1 rfl dX3_property_0 1 rfl ?_
  refine gv_aload_n C rfl 0 rfl dX3_property_1 2 rfl ?_
  obtain ⟨q1, hq1, h⟩ := gm_bd h
  refine gv_callVi C mc_yX3_oldest ⟨mi_yX3_oldest, me_yX3_oldest⟩ (by decide) mkX3_43 (gi_3 hl) ⟨_, rfl⟩ rfl rfl (kX3_oldest _ _ hl _ _ hq1) rfl rfl (Nat.le_of_ble_eq_true rfl) dX3_property_2 5 rfl ?_
  refine gv_icmp_lt C dX3_property_5 16 (by decide) 8 rfl (fun c2 => ?_) (fun c2 => ?_)
  · replace h := gm_ip c2 h
    refine gv_bipush C (-6) rfl dX3_property_16 18 rfl ?_
    obtain rfl := Option.some.inj h
    exact gv_iret C E rfl rfl dX3_property_18
  · replace h := gm_iq c2 h
    refine gv_iload_n C rfl 1 rfl dX3_property_8 9 rfl ?_
    refine gv_aload_n C rfl 0 rfl dX3_property_9 10 rfl ?_
    refine gf_3_1 C (gi_3 hl) lkX3_21 dX3_property_10 13 rfl ?_
    refine gv_icmp_lt C dX3_property_13 19 (by decide) 16 rfl (fun c3 => ?_) (fun c3 => ?_)
    · replace h := gm_ip c3 h
      refine gv_aload_n C rfl 0 rfl dX3_property_19 20 rfl ?_
      refine gf_3_0 C (gi_3 hl) lkX3_9 dX3_property_20 23 rfl ?_
      refine gv_iload_n C rfl 1 rfl dX3_property_23 24 rfl ?_
      obtain ⟨q4, hq4, h⟩ := gm_bd h
      refine gv_callSi C mc_yX3_rowOf ms_yX3_rowOf (by decide) mkX3_25 (kX3_rowOf _ _ _ _ hq4) rfl rfl (Nat.le_of_ble_eq_true rfl) dX3_property_24 27 rfl ?_
      refine gv_iload_n C rfl 2 rfl dX3_property_27 28 rfl ?_
      refine gv_iadd C dX3_property_28 29 rfl ?_
      obtain ⟨g5, h⟩ := gm_gis h
      refine gv_iald C (gi_8 hl (by decide)) (gm_l1 hl) g5 dX3_property_29 30 rfl ?_
      obtain rfl := Option.some.inj h
      exact gv_iret C E rfl rfl dX3_property_30
    · replace h := gm_iq c3 h
      refine gv_bipush C (-6) rfl dX3_property_16 18 rfl ?_
      obtain rfl := Option.some.inj h
      exact gv_iret C E rfl rfl dX3_property_18
set_option maxRecDepth 100000 in
set_option maxHeartbeats 4000000 in
theorem kX3_countOf (w : gm_Wd) (l : Nat) (hl : l < 4) (a1 a2 : Int32) (G : Gm) (q : Int32) (h : fX3_countOf l a1 a2 G = some q) : gm_C w yX3_countOf cX3_countOf 6 (some .int) 2 [.ref (gm_ad w 3 l 0), .int a1, .int a2] G (some (.int q)) G := by
  refine gm_start (by decide) (Nat.le_of_ble_eq_true rfl) ?_
  intro x hw C E
  subst hw
  have C : gm_X x cX3_countOf 6 RX3 (some .int) 2 := C
  unfold fX3_countOf at h
  have L8 : ∀ (n8 : Nat) (v3 v4 : Int32), fX3_countOf_h8 l a1 a2 G n8 v3 v4 = some q → gm_V x G 8 [(0, .ref (gm_ad (cx_w x) 3 l 0)), (1, .int a1), (2, .int a2), (3, .int v3), (4, .int v4)] [] := by
    intro n8
    induction n8 with
    | zero => intro v3 v4 h; cases h
    | succ n8 ih8 =>
      intro v3 v4 h
      rw [fX3_countOf_h8.eq_2] at h
      refine gv_iload C 4 rfl dX3_countOf_8 10 rfl ?_
      refine gv_aload_n C rfl 0 rfl dX3_countOf_10 11 rfl ?_
      refine gf_3_1 C (gi_3 hl) lkX3_21 dX3_countOf_11 14 rfl ?_
      refine gv_icmp_ge C dX3_countOf_14 64 (by decide) 17 rfl (fun c2 => ?_) (fun c2 => ?_)
      · replace h := gm_ip c2 h
        refine gv_iload_n C rfl 3 rfl dX3_countOf_64 65 rfl ?_
        obtain rfl := Option.some.inj h
        exact gv_iret C E rfl rfl dX3_countOf_65
      · replace h := gm_iq c2 h
        refine gv_iload C 4 rfl dX3_countOf_17 19 rfl ?_
        obtain ⟨q3, hq3, h⟩ := gm_bd h
        refine gv_callSi C mc_yX3_rowOf ms_yX3_rowOf (by decide) mkX3_25 (kX3_rowOf _ _ _ _ hq3) rfl rfl (Nat.le_of_ble_eq_true rfl) dX3_countOf_19 22 rfl ?_
        refine gv_istore C [(5, _), (0, _), (1, _), (2, _), (3, _), (4, _)] (by decide) rfl dX3_countOf_22 24 rfl ?_
        refine gv_aload_n C rfl 1 rfl dX3_countOf_24 25 rfl ?_
        refine gf_3_0 C (gi_3 hl) lkX3_9 dX3_countOf_25 28 rfl ?_
        refine gv_iload C 0 rfl dX3_countOf_28 30 rfl ?_
        refine gv_iconst C 4 rfl dX3_countOf_30 31 rfl ?_
        refine gv_iadd C dX3_countOf_31 32 rfl ?_
        obtain ⟨g4, h⟩ := gm_gis h
        refine gv_iald C (gi_8 hl (by decide)) (gm_l1 hl) g4 dX3_countOf_32 33 rfl ?_
        refine gv_iload_n C rfl 2 rfl dX3_countOf_33 34 rfl ?_
        refine gv_icmp_ne C dX3_countOf_34 58 (by decide) 37 rfl (fun c5 => ?_) (fun c5 => ?_)
        · replace h := gm_ip c5 h
          refine gv_iload_n C rfl 3 rfl dX3_countOf_37 38 rfl ?_
          refine gv_iconst C (-1) rfl dX3_countOf_38 39 rfl ?_
          refine gv_icmp_eq C dX3_countOf_39 55 (by decide) 42 rfl (fun c6 => ?_) (fun c6 => ?_)
          · replace h := gm_ip c6 h
            refine gv_iinc C 4 rfl rfl [(3, _), (5, _), (0, _), (1, _), (2, _), (4, _)] (by decide) rfl dX3_countOf_55 58 rfl ?_
            refine gv_iinc C 5 rfl rfl [(4, _), (3, _), (5, _), (0, _), (1, _), (2, _)] (by decide) rfl dX3_countOf_58 61 rfl ?_
            refine gv_goto C dX3_countOf_61 8 (by decide) ?_
            refine gm_ls [3, 4, 5, 1, 0] rfl ?_
            exact ih8 _ _ h
          · replace h := gm_iq c6 h
            refine gv_aload_n C rfl 1 rfl dX3_countOf_42 43 rfl ?_
            refine gf_3_0 C (gi_3 hl) lkX3_9 dX3_countOf_43 46 rfl ?_
            refine gv_iload C 0 rfl dX3_countOf_46 48 rfl ?_
            refine gv_iconst C 1 rfl dX3_countOf_48 49 rfl ?_
            refine gv_iadd C dX3_countOf_49 50 rfl ?_
            obtain ⟨g7, h⟩ := gm_gis h
            refine gv_iald C (gi_8 hl (by decide)) (gm_l1 hl) g7 dX3_countOf_50 51 rfl ?_
            refine gv_iload_n C rfl 3 rfl dX3_countOf_51 52 rfl ?_
            refine gv_icmp_ne C dX3_countOf_52 58 (by decide) 55 rfl (fun c8 => ?_) (fun c8 => ?_)
            · replace h := gm_ip c8 h
              refine gv_iinc C 4 rfl rfl [(3, _), (5, _), (0, _), (1, _), (2, _), (4, _)] (by decide) rfl dX3_countOf_55 58 rfl ?_
              refine gv_iinc C 5 rfl rfl [(4, _), (3, _), (5, _), (0, _), (1, _), (2, _)] (by decide) rfl dX3_countOf_58 61 rfl ?_
              refine gv_goto C dX3_countOf_61 8 (by decide) ?_
              refine gm_ls [3, 4, 5, 1, 0] rfl ?_
              exact ih8 _ _ h
            · replace h := gm_iq c8 h
              refine gv_iinc C 5 rfl rfl [(4, _), (5, _), (0, _), (1, _), (2, _), (3, _)] (by decide) rfl dX3_countOf_58 61 rfl ?_
              refine gv_goto C dX3_countOf_61 8 (by decide) ?_
              refine gm_ls [2, 3, 4, 5, 0] rfl ?_
              exact ih8 _ _ h
        · replace h := gm_iq c5 h
          refine gv_iinc C 5 rfl rfl [(4, _), (5, _), (0, _), (1, _), (2, _), (3, _)] (by decide) rfl dX3_countOf_58 61 rfl ?_
          refine gv_goto C dX3_countOf_61 8 (by decide) ?_
          refine gm_ls [2, 3, 4, 5, 0] rfl ?_
          exact ih8 _ _ h
  refine gm_lv (lv' := [(0, _), (1, _), (2, _)]) rfl ?_
  refine gv_iconst C 0 rfl dX3_countOf_0 1 rfl ?_
  refine gv_istore_n C rfl [(3, _), (0, _), (1, _), (2, _)] (by decide) rfl dX3_countOf_1 2 rfl ?_
  refine gv_aload_n C rfl 1 rfl dX3_countOf_2 3 rfl ?_
  obtain ⟨q1, hq1, h⟩ := gm_bd h
  refine gv_callVi C mc_yX3_oldest ⟨mi_yX3_oldest, me_yX3_oldest⟩ (by decide) mkX3_43 (gi_3 hl) ⟨_, rfl⟩ rfl rfl (kX3_oldest _ _ hl _ _ hq1) rfl rfl (Nat.le_of_ble_eq_true rfl) dX3_countOf_3 6 rfl ?_
  refine gv_istore C [(4, _), (3, _), (0, _), (1, _), (2, _)] (by decide) rfl dX3_countOf_6 8 rfl ?_
  refine gm_ls [2, 3, 4, 1, 0] rfl ?_
  exact L8 _ _ _ h
set_option maxRecDepth 100000 in
set_option maxHeartbeats 4000000 in
theorem kX3_copyFrom (w : gm_Wd) (l m1 : Nat) (hl : l < 4) (hm1 : m1 < 4) (G : Gm) (q : Gm) (h : fX3_copyFrom l m1 G = some q) : gm_C w yX3_copyFrom cX3_copyFrom 2 none 1 [.ref (gm_ad w 3 l 0), .ref (gm_ad w 3 m1 0)] G none q := by
  refine gm_start (by decide) (Nat.le_of_ble_eq_true rfl) ?_
  intro x hw C E
  subst hw
  have C : gm_X x cX3_copyFrom 2 RX3 none 1 := C
  unfold fX3_copyFrom at h
  refine gm_lv (lv' := [(0, _), (1, _)]) rfl ?_
  refine gv_aload_n C rfl 1 rfl dX3_copyFrom_0 1 rfl ?_
  refine gf_3_0 C (gi_3 hm1) lkX3_9 dX3_copyFrom_1 4 rfl ?_
  refine gv_iconst C 0 rfl dX3_copyFrom_4 5 rfl ?_
  refine gv_aload_n C rfl 0 rfl dX3_copyFrom_5 6 rfl ?_
  refine gf_3_0 C (gi_3 hl) lkX3_9 dX3_copyFrom_6 9 rfl ?_
  refine gv_iconst C 0 rfl dX3_copyFrom_9 10 rfl ?_
  refine gv_sipush C 300 rfl dX3_copyFrom_10 13 rfl ?_
  refine gv_copy C 300 (by decide) (by decide) (gi_8 hm1 (by decide)) (gi_8 hl (by decide)) (by rw [(gm_l1 hm1)]; decide) (by rw [(gm_l1 hl)]; decide) mkX3_15 mn_arraycopyName ms_arraycopyName in_java_lang_System (by decide) (Nat.le_of_ble_eq_true rfl) dX3_copyFrom_13 16 rfl ?_
  refine gv_aload_n C rfl 0 rfl dX3_copyFrom_16 17 rfl ?_
  refine gv_aload_n C rfl 1 rfl dX3_copyFrom_17 18 rfl ?_
  refine gf_3_1 C (gi_3 hm1) lkX3_21 dX3_copyFrom_18 21 rfl ?_
  refine pf_3_1 C (gi_3 hl) lkX3_21 dX3_copyFrom_21 24 rfl ?_
  obtain rfl := Option.some.inj h
  exact gv_vret C E rfl rfl dX3_copyFrom_24
set_option maxRecDepth 100000 in
set_option maxHeartbeats 4000000 in
theorem kX2_append (w : gm_Wd) (a1 : Int32) (G : Gm) (q : Int32 × Gm) (h : fX2_append a1 G = some q) : gm_C w yX2_append cX2_append 2 (some .int) 0 [.ref (gm_ad w 2 4 0), .int a1] G (some (.int q.1)) q.2 := by
  refine gm_start (by decide) (Nat.le_of_ble_eq_true rfl) ?_
  intro x hw C E
  subst hw
  have C : gm_X x cX2_append 2 RX2 (some .int) 0 := C
  unfold fX2_append at h
  refine gm_lv (lv' := [(0, _), (1, _)]) rfl ?_
  refine gv_aload_n C rfl 0 rfl dX2_append_0 1 rfl ?_
  refine gf_2_1 C gi_2 lkX2_15 dX2_append_1 4 rfl ?_
  refine gv_bipush C 60 rfl dX2_append_4 6 rfl ?_
  refine gv_icmp_lt C dX2_append_6 12 (by decide) 9 rfl (fun c1 => ?_) (fun c1 => ?_)
  · replace h := gm_ip c1 h
    refine gv_aload_n C rfl 0 rfl dX2_append_12 13 rfl ?_
    refine gf_2_0 C gi_2 lkX2_9 dX2_append_13 16 rfl ?_
    refine gv_aload_n C rfl 0 rfl dX2_append_16 17 rfl ?_
    refine gf_2_1 C gi_2 lkX2_15 dX2_append_17 20 rfl ?_
    refine gv_iload_n C rfl 1 rfl dX2_append_20 21 rfl ?_
    obtain ⟨g2, h⟩ := gm_gis h
    refine gv_iast C gi_84 rfl g2 dX2_append_21 22 rfl ?_
    refine gv_aload_n C rfl 0 rfl dX2_append_22 23 rfl ?_
    refine gv_dup C rfl dX2_append_23 24 rfl ?_
    refine gf_2_1 C gi_2 lkX2_15 dX2_append_24 27 rfl ?_
    refine gv_iconst C 1 rfl dX2_append_27 28 rfl ?_
    refine gv_iadd C dX2_append_28 29 rfl ?_
    refine pf_2_1 C gi_2 lkX2_15 dX2_append_29 32 rfl ?_
    refine gv_aload_n C rfl 0 rfl dX2_append_32 33 rfl ?_
    refine gf_2_1 C gi_2 lkX2_15 dX2_append_33 36 rfl ?_
    obtain rfl := Option.some.inj h
    exact gv_iret C E rfl rfl dX2_append_36
  · replace h := gm_iq c1 h
    refine gv_bipush C (-4) rfl dX2_append_9 11 rfl ?_
    obtain rfl := Option.some.inj h
    exact gv_iret C E rfl rfl dX2_append_11
set_option maxRecDepth 100000 in
set_option maxHeartbeats 4000000 in
theorem kX2_empty (w : gm_Wd) (G : Gm) (q : Int32 × Gm) (h : fX2_empty G = some q) : gm_C w yX2_empty cX2_empty 2 (some .int) 0 [.ref (gm_ad w 2 4 0)] G (some (.int q.1)) q.2 := by
  refine gm_start (by decide) (Nat.le_of_ble_eq_true rfl) ?_
  intro x hw C E
  subst hw
  have C : gm_X x cX2_empty 2 RX2 (some .int) 0 := C
  unfold fX2_empty at h
  refine gm_lv (lv' := [(0, _)]) rfl ?_
  refine gv_aload_n C rfl 0 rfl dX2_empty_0 1 rfl ?_
  refine gf_2_1 C gi_2 lkX2_15 dX2_empty_1 4 rfl ?_
  refine gv_istore_n C rfl [(1, _), (0, _)] (by decide) rfl dX2_empty_4 5 rfl ?_
  refine gv_aload_n C rfl 1 rfl dX2_empty_5 6 rfl ?_
  refine gv_iconst C 0 rfl dX2_empty_6 7 rfl ?_
  refine pf_2_1 C gi_2 lkX2_15 dX2_empty_7 10 rfl ?_
  refine gv_iload_n C rfl 0 rfl dX2_empty_10 11 rfl ?_
  obtain rfl := Option.some.inj h
  exact gv_iret C E rfl rfl dX2_empty_11
set_option maxRecDepth 100000 in
set_option maxHeartbeats 4000000 in
theorem kX2_afterLetter (w : gm_Wd) (a0 : Int32) (G : Gm) (q : Int32) (h : fX2_afterLetter a0 = some q) : gm_C w yX2_afterLetter cX2_afterLetter 1 (some .int) 0 [.int a0] G (some (.int q)) G := by
  refine gm_start (by decide) (Nat.le_of_ble_eq_true rfl) ?_
  intro x hw C E
  subst hw
  have C : gm_X x cX2_afterLetter 1 RX2 (some .int) 0 := C
  unfold fX2_afterLetter at h
  refine gm_lv (lv' := [(0, _)]) rfl ?_
  refine gv_iload_n C rfl 0 rfl dX2_afterLetter_0 1 rfl ?_
  by_cases c1 : a0 = 97
  · replace h := gm_ip c1 h
    refine gv_tableIn C 97 c1 dX2_afterLetter_1 (by decide) (by decide) (o := 117) (by decide) 118 (by decide) ?_
    refine gv_iconst C 3 rfl dX2_afterLetter_118 119 rfl ?_
    obtain rfl := Option.some.inj h
    exact gv_iret C E rfl rfl dX2_afterLetter_119
  · replace h := gm_iq c1 h
    by_cases c2 : a0 = 99
    · replace h := gm_ip c2 h
      refine gv_tableIn C 99 c2 dX2_afterLetter_1 (by decide) (by decide) (o := 117) (by decide) 118 (by decide) ?_
      refine gv_iconst C 3 rfl dX2_afterLetter_118 119 rfl ?_
      obtain rfl := Option.some.inj h
      exact gv_iret C E rfl rfl dX2_afterLetter_119
    · replace h := gm_iq c2 h
      by_cases c3 : a0 = 100
      · replace h := gm_ip c3 h
        refine gv_tableIn C 100 c3 dX2_afterLetter_1 (by decide) (by decide) (o := 115) (by decide) 116 (by decide) ?_
        refine gv_iconst C 1 rfl dX2_afterLetter_116 117 rfl ?_
        obtain rfl := Option.some.inj h
        exact gv_iret C E rfl rfl dX2_afterLetter_117
      · replace h := gm_iq c3 h
        by_cases c4 : a0 = 101
        · replace h := gm_ip c4 h
          refine gv_tableIn C 101 c4 dX2_afterLetter_1 (by decide) (by decide) (o := 117) (by decide) 118 (by decide) ?_
          refine gv_iconst C 3 rfl dX2_afterLetter_118 119 rfl ?_
          obtain rfl := Option.some.inj h
          exact gv_iret C E rfl rfl dX2_afterLetter_119
        · replace h := gm_iq c4 h
          by_cases c5 : a0 = 108
          · replace h := gm_ip c5 h
            refine gv_tableIn C 108 c5 dX2_afterLetter_1 (by decide) (by decide) (o := 115) (by decide) 116 (by decide) ?_
            refine gv_iconst C 1 rfl dX2_afterLetter_116 117 rfl ?_
            obtain rfl := Option.some.inj h
            exact gv_iret C E rfl rfl dX2_afterLetter_117
          · replace h := gm_iq c5 h
            by_cases c6 : a0 = 110
            · replace h := gm_ip c6 h
              refine gv_tableIn C 110 c6 dX2_afterLetter_1 (by decide) (by decide) (o := 117) (by decide) 118 (by decide) ?_
              refine gv_iconst C 3 rfl dX2_afterLetter_118 119 rfl ?_
              obtain rfl := Option.some.inj h
              exact gv_iret C E rfl rfl dX2_afterLetter_119
            · replace h := gm_iq c6 h
              by_cases c7 : a0 = 111
              · replace h := gm_ip c7 h
                refine gv_tableIn C 111 c7 dX2_afterLetter_1 (by decide) (by decide) (o := 115) (by decide) 116 (by decide) ?_
                refine gv_iconst C 1 rfl dX2_afterLetter_116 117 rfl ?_
                obtain rfl := Option.some.inj h
                exact gv_iret C E rfl rfl dX2_afterLetter_117
              · replace h := gm_iq c7 h
                by_cases c8 : a0 = 115
                · replace h := gm_ip c8 h
                  refine gv_tableIn C 115 c8 dX2_afterLetter_1 (by decide) (by decide) (o := 115) (by decide) 116 (by decide) ?_
                  refine gv_iconst C 1 rfl dX2_afterLetter_116 117 rfl ?_
                  obtain rfl := Option.some.inj h
                  exact gv_iret C E rfl rfl dX2_afterLetter_117
                · replace h := gm_iq c8 h
                  by_cases c9 : a0 = 116
                  · replace h := gm_ip c9 h
                    refine gv_tableIn C 116 c9 dX2_afterLetter_1 (by decide) (by decide) (o := 119) (by decide) 120 (by decide) ?_
                    refine gv_iconst C 5 rfl dX2_afterLetter_120 121 rfl ?_
                    obtain rfl := Option.some.inj h
                    exact gv_iret C E rfl rfl dX2_afterLetter_121
                  · replace h := gm_iq c9 h
                    by_cases c10 : a0 = 117
                    · replace h := gm_ip c10 h
                      refine gv_tableIn C 117 c10 dX2_afterLetter_1 (by decide) (by decide) (o := 117) (by decide) 118 (by decide) ?_
                      refine gv_iconst C 3 rfl dX2_afterLetter_118 119 rfl ?_
                      obtain rfl := Option.some.inj h
                      exact gv_iret C E rfl rfl dX2_afterLetter_119
                    · replace h := gm_iq c10 h
                      by_cases c11 : a0 = 121
                      · replace h := gm_ip c11 h
                        refine gv_tableIn C 121 c11 dX2_afterLetter_1 (by decide) (by decide) (o := 117) (by decide) 118 (by decide) ?_
                        refine gv_iconst C 3 rfl dX2_afterLetter_118 119 rfl ?_
                        obtain rfl := Option.some.inj h
                        exact gv_iret C E rfl rfl dX2_afterLetter_119
                      · replace h := gm_iq c11 h
                        refine gv_tableD C dX2_afterLetter_1 [97, 99, 100, 101, 108, 110, 111, 115, 116, 117, 121] (by decide) (by decide) (List.forall_mem_cons.mpr ⟨lv_neT c1 rfl, (List.forall_mem_cons.mpr ⟨lv_neT c2 rfl, (List.forall_mem_cons.mpr ⟨lv_neT c3 rfl, (List.forall_mem_cons.mpr ⟨lv_neT c4 rfl, (List.forall_mem_cons.mpr ⟨lv_neT c5 rfl, (List.forall_mem_cons.mpr ⟨lv_neT c6 rfl, (List.forall_mem_cons.mpr ⟨lv_neT c7 rfl, (List.forall_mem_cons.mpr ⟨lv_neT c8 rfl, (List.forall_mem_cons.mpr ⟨lv_neT c9 rfl, (List.forall_mem_cons.mpr ⟨lv_neT c10 rfl, (List.forall_mem_cons.mpr ⟨lv_neT c11 rfl, (fun _ h => absurd h List.not_mem_nil)⟩)⟩)⟩)⟩)⟩)⟩)⟩)⟩)⟩)⟩)⟩) 122 (by decide) ?_
                        refine gv_iconst C (-1) rfl dX2_afterLetter_122 123 rfl ?_
                        obtain rfl := Option.some.inj h
                        exact gv_iret C E rfl rfl dX2_afterLetter_123
set_option maxRecDepth 100000 in
set_option maxHeartbeats 4000000 in
theorem kX2_isBetween (w : gm_Wd) (a0 a1 a2 : Int32) (G : Gm) (q : Int32) (h : fX2_isBetween a0 a1 a2 = some q) : gm_C w yX2_isBetween cX2_isBetween 3 (some .boolean) 0 [.int a0, .int a1, .int a2] G (some (.int q)) G := by
  refine gm_start (by decide) (Nat.le_of_ble_eq_true rfl) ?_
  intro x hw C E
  subst hw
  have C : gm_X x cX2_isBetween 3 RX2 (some .boolean) 0 := C
  unfold fX2_isBetween at h
  refine gm_lv (lv' := [(0, _), (1, _), (2, _)]) rfl ?_
  refine gv_iload_n C rfl 0 rfl dX2_isBetween_0 1 rfl ?_
  refine gv_iload_n C rfl 1 rfl dX2_isBetween_1 2 rfl ?_
  refine gv_icmp_lt C dX2_isBetween_2 14 (by decide) 5 rfl (fun c1 => ?_) (fun c1 => ?_)
  · replace h := gm_ip c1 h
    refine gv_iconst C 0 rfl dX2_isBetween_14 15 rfl ?_
    obtain rfl := Option.some.inj h
    exact gv_zret C E (Or.inl rfl) rfl rfl dX2_isBetween_15
  · replace h := gm_iq c1 h
    refine gv_iload_n C rfl 0 rfl dX2_isBetween_5 6 rfl ?_
    refine gv_iload_n C rfl 2 rfl dX2_isBetween_6 7 rfl ?_
    refine gv_icmp_gt C dX2_isBetween_7 14 (by decide) 10 rfl (fun c2 => ?_) (fun c2 => ?_)
    · replace h := gm_ip c2 h
      refine gv_iconst C 0 rfl dX2_isBetween_14 15 rfl ?_
      obtain rfl := Option.some.inj h
      exact gv_zret C E (Or.inl rfl) rfl rfl dX2_isBetween_15
    · replace h := gm_iq c2 h
      refine gv_iconst C 1 rfl dX2_isBetween_10 11 rfl ?_
      refine gv_goto C dX2_isBetween_11 15 (by decide) ?_
      obtain rfl := Option.some.inj h
      exact gv_zret C E (Or.inr rfl) rfl rfl dX2_isBetween_15
set_option maxRecDepth 100000 in
set_option maxHeartbeats 4000000 in
theorem kX2_afterOrder (w : gm_Wd) (a0 : Int32) (G : Gm) (q : Int32) (h : fX2_afterOrder a0 = some q) : gm_C w yX2_afterOrder cX2_afterOrder 1 (some .int) 0 [.int a0] G (some (.int q)) G := by
  refine gm_start (by decide) (Nat.le_of_ble_eq_true rfl) ?_
  intro x hw C E
  subst hw
  have C : gm_X x cX2_afterOrder 1 RX2 (some .int) 0 := C
  unfold fX2_afterOrder at h
  refine gm_lv (lv' := [(0, _)]) rfl ?_
  refine gv_iload_n C rfl 0 rfl dX2_afterOrder_0 1 rfl ?_
  refine gv_bipush C 44 rfl dX2_afterOrder_1 3 rfl ?_
  refine gv_icmp_ne C dX2_afterOrder_3 10 (by decide) 6 rfl (fun c1 => ?_) (fun c1 => ?_)
  · replace h := gm_ip c1 h
    refine gv_iconst C 0 rfl dX2_afterOrder_6 7 rfl ?_
    refine gv_goto C dX2_afterOrder_7 11 (by decide) ?_
    obtain rfl := Option.some.inj h
    exact gv_iret C E rfl rfl dX2_afterOrder_11
  · replace h := gm_iq c1 h
    refine gv_iconst C (-1) rfl dX2_afterOrder_10 11 rfl ?_
    obtain rfl := Option.some.inj h
    exact gv_iret C E rfl rfl dX2_afterOrder_11
set_option maxRecDepth 100000 in
set_option maxHeartbeats 4000000 in
theorem kX2_after (w : gm_Wd) (a0 a1 : Int32) (G : Gm) (q : Int32) (h : fX2_after a0 a1 = some q) : gm_C w yX2_after cX2_after 2 (some .int) 1 [.int a0, .int a1] G (some (.int q)) G := by
  refine gm_start (by decide) (Nat.le_of_ble_eq_true rfl) ?_
  intro x hw C E
  subst hw
  have C : gm_X x cX2_after 2 RX2 (some .int) 1 := C
  unfold fX2_after at h
  refine gm_lv (lv' := [(0, _), (1, _)]) rfl ?_
  refine gv_iload_n C rfl 0 rfl dX2_after_0 1 rfl ?_
  by_cases c1 : a0 = 0
  · replace h := gm_ip c1 h
    refine gv_tableIn C 0 c1 dX2_after_1 (by decide) (by decide) (o := 43) (by decide) 44 (by decide) ?_
    refine gv_iload_n C rfl 1 rfl dX2_after_44 45 rfl ?_
    obtain ⟨q24, hq24, h⟩ := gm_bd h
    refine gv_callSi C mc_yX2_afterLetter ms_yX2_afterLetter (by decide) mkX2_23 (kX2_afterLetter _ _ _ _ hq24) rfl rfl (Nat.le_of_ble_eq_true rfl) dX2_after_45 48 rfl ?_
    obtain rfl := Option.some.inj h
    exact gv_iret C E rfl rfl dX2_after_48
  · replace h := gm_iq c1 h
    by_cases c2 : a0 = 1
    · replace h := gm_ip c2 h
      refine gv_tableIn C 1 c2 dX2_after_1 (by decide) (by decide) (o := 48) (by decide) 49 (by decide) ?_
      refine gv_iload_n C rfl 1 rfl dX2_after_49 50 rfl ?_
      refine gv_bipush C 49 rfl dX2_after_50 52 rfl ?_
      refine gv_icmp_ne C dX2_after_52 59 (by decide) 55 rfl (fun c21 => ?_) (fun c21 => ?_)
      · replace h := gm_ip c21 h
        refine gv_iconst C 2 rfl dX2_after_55 56 rfl ?_
        refine gv_goto C dX2_after_56 76 (by decide) ?_
        obtain rfl := Option.some.inj h
        exact gv_iret C E rfl rfl dX2_after_76
      · replace h := gm_iq c21 h
        refine gv_iload_n C rfl 1 rfl dX2_after_59 60 rfl ?_
        refine gv_bipush C 48 rfl dX2_after_60 62 rfl ?_
        refine gv_bipush C 57 rfl dX2_after_62 64 rfl ?_
        obtain ⟨q22, hq22, h⟩ := gm_bd h
        refine gv_callSi C mc_yX2_isBetween ms_yX2_isBetween (by decide) mkX2_27 (kX2_isBetween _ _ _ _ _ _ hq22) rfl rfl (Nat.le_of_ble_eq_true rfl) dX2_after_64 67 rfl ?_
        refine gv_if_eq C dX2_after_67 75 (by decide) 70 rfl (fun c23 => ?_) (fun c23 => ?_)
        · replace h := gm_ip c23 h
          refine gv_iconst C (-1) rfl dX2_after_75 76 rfl ?_
          obtain rfl := Option.some.inj h
          exact gv_iret C E rfl rfl dX2_after_76
        · replace h := gm_iq c23 h
          refine gv_bipush C 7 rfl dX2_after_70 72 rfl ?_
          refine gv_goto C dX2_after_72 76 (by decide) ?_
          obtain rfl := Option.some.inj h
          exact gv_iret C E rfl rfl dX2_after_76
    · replace h := gm_iq c2 h
      by_cases c3 : a0 = 2
      · replace h := gm_ip c3 h
        refine gv_tableIn C 2 c3 dX2_after_1 (by decide) (by decide) (o := 76) (by decide) 77 (by decide) ?_
        refine gv_iload_n C rfl 1 rfl dX2_after_77 78 rfl ?_
        refine gv_bipush C 48 rfl dX2_after_78 80 rfl ?_
        refine gv_bipush C 49 rfl dX2_after_80 82 rfl ?_
        obtain ⟨q18, hq18, h⟩ := gm_bd h
        refine gv_callSi C mc_yX2_isBetween ms_yX2_isBetween (by decide) mkX2_27 (kX2_isBetween _ _ _ _ _ _ hq18) rfl rfl (Nat.le_of_ble_eq_true rfl) dX2_after_82 85 rfl ?_
        refine gv_if_eq C dX2_after_85 93 (by decide) 88 rfl (fun c19 => ?_) (fun c19 => ?_)
        · replace h := gm_ip c19 h
          refine gv_iload_n C rfl 1 rfl dX2_after_93 94 rfl ?_
          obtain ⟨q20, hq20, h⟩ := gm_bd h
          refine gv_callSi C mc_yX2_afterOrder ms_yX2_afterOrder (by decide) mkX2_31 (kX2_afterOrder _ _ _ _ hq20) rfl rfl (Nat.le_of_ble_eq_true rfl) dX2_after_94 97 rfl ?_
          obtain rfl := Option.some.inj h
          exact gv_iret C E rfl rfl dX2_after_97
        · replace h := gm_iq c19 h
          refine gv_bipush C 7 rfl dX2_after_88 90 rfl ?_
          refine gv_goto C dX2_after_90 97 (by decide) ?_
          obtain rfl := Option.some.inj h
          exact gv_iret C E rfl rfl dX2_after_97
      · replace h := gm_iq c3 h
        by_cases c4 : a0 = 3
        · replace h := gm_ip c4 h
          refine gv_tableIn C 3 c4 dX2_after_1 (by decide) (by decide) (o := 97) (by decide) 98 (by decide) ?_
          refine gv_iload_n C rfl 1 rfl dX2_after_98 99 rfl ?_
          refine gv_bipush C 48 rfl dX2_after_99 101 rfl ?_
          refine gv_bipush C 52 rfl dX2_after_101 103 rfl ?_
          obtain ⟨q16, hq16, h⟩ := gm_bd h
          refine gv_callSi C mc_yX2_isBetween ms_yX2_isBetween (by decide) mkX2_27 (kX2_isBetween _ _ _ _ _ _ hq16) rfl rfl (Nat.le_of_ble_eq_true rfl) dX2_after_103 106 rfl ?_
          refine gv_if_eq C dX2_after_106 113 (by decide) 109 rfl (fun c17 => ?_) (fun c17 => ?_)
          · replace h := gm_ip c17 h
            refine gv_iconst C (-1) rfl dX2_after_113 114 rfl ?_
            obtain rfl := Option.some.inj h
            exact gv_iret C E rfl rfl dX2_after_114
          · replace h := gm_iq c17 h
            refine gv_iconst C 4 rfl dX2_after_109 110 rfl ?_
            refine gv_goto C dX2_after_110 114 (by decide) ?_
            obtain rfl := Option.some.inj h
            exact gv_iret C E rfl rfl dX2_after_114
        · replace h := gm_iq c4 h
          by_cases c5 : a0 = 4
          · replace h := gm_ip c5 h
            refine gv_tableIn C 4 c5 dX2_after_1 (by decide) (by decide) (o := 114) (by decide) 115 (by decide) ?_
            refine gv_iload_n C rfl 1 rfl dX2_after_115 116 rfl ?_
            refine gv_bipush C 43 rfl dX2_after_116 118 rfl ?_
            refine gv_icmp_eq C dX2_after_118 127 (by decide) 121 rfl (fun c14 => ?_) (fun c14 => ?_)
            · replace h := gm_ip c14 h
              refine gv_bipush C 7 rfl dX2_after_127 129 rfl ?_
              refine gv_goto C dX2_after_129 133 (by decide) ?_
              obtain rfl := Option.some.inj h
              exact gv_iret C E rfl rfl dX2_after_133
            · replace h := gm_iq c14 h
              refine gv_iload_n C rfl 1 rfl dX2_after_121 122 rfl ?_
              refine gv_bipush C 45 rfl dX2_after_122 124 rfl ?_
              refine gv_icmp_ne C dX2_after_124 132 (by decide) 127 rfl (fun c15 => ?_) (fun c15 => ?_)
              · replace h := gm_ip c15 h
                refine gv_bipush C 7 rfl dX2_after_127 129 rfl ?_
                refine gv_goto C dX2_after_129 133 (by decide) ?_
                obtain rfl := Option.some.inj h
                exact gv_iret C E rfl rfl dX2_after_133
              · replace h := gm_iq c15 h
                refine gv_iconst C (-1) rfl dX2_after_132 133 rfl ?_
                obtain rfl := Option.some.inj h
                exact gv_iret C E rfl rfl dX2_after_133
          · replace h := gm_iq c5 h
            by_cases c6 : a0 = 5
            · replace h := gm_ip c6 h
              refine gv_tableIn C 5 c6 dX2_after_1 (by decide) (by decide) (o := 133) (by decide) 134 (by decide) ?_
              refine gv_iload_n C rfl 1 rfl dX2_after_134 135 rfl ?_
              refine gv_bipush C 49 rfl dX2_after_135 137 rfl ?_
              refine gv_bipush C 57 rfl dX2_after_137 139 rfl ?_
              obtain ⟨q12, hq12, h⟩ := gm_bd h
              refine gv_callSi C mc_yX2_isBetween ms_yX2_isBetween (by decide) mkX2_27 (kX2_isBetween _ _ _ _ _ _ hq12) rfl rfl (Nat.le_of_ble_eq_true rfl) dX2_after_139 142 rfl ?_
              refine gv_if_eq C dX2_after_142 150 (by decide) 145 rfl (fun c13 => ?_) (fun c13 => ?_)
              · replace h := gm_ip c13 h
                refine gv_iconst C (-1) rfl dX2_after_150 151 rfl ?_
                obtain rfl := Option.some.inj h
                exact gv_iret C E rfl rfl dX2_after_151
              · replace h := gm_iq c13 h
                refine gv_bipush C 6 rfl dX2_after_145 147 rfl ?_
                refine gv_goto C dX2_after_147 151 (by decide) ?_
                obtain rfl := Option.some.inj h
                exact gv_iret C E rfl rfl dX2_after_151
            · replace h := gm_iq c6 h
              by_cases c7 : a0 = 6
              · replace h := gm_ip c7 h
                refine gv_tableIn C 6 c7 dX2_after_1 (by decide) (by decide) (o := 151) (by decide) 152 (by decide) ?_
                refine gv_iload_n C rfl 1 rfl dX2_after_152 153 rfl ?_
                refine gv_bipush C 48 rfl dX2_after_153 155 rfl ?_
                refine gv_bipush C 57 rfl dX2_after_155 157 rfl ?_
                obtain ⟨q9, hq9, h⟩ := gm_bd h
                refine gv_callSi C mc_yX2_isBetween ms_yX2_isBetween (by decide) mkX2_27 (kX2_isBetween _ _ _ _ _ _ hq9) rfl rfl (Nat.le_of_ble_eq_true rfl) dX2_after_157 160 rfl ?_
                refine gv_if_eq C dX2_after_160 168 (by decide) 163 rfl (fun c10 => ?_) (fun c10 => ?_)
                · replace h := gm_ip c10 h
                  refine gv_iload_n C rfl 1 rfl dX2_after_168 169 rfl ?_
                  obtain ⟨q11, hq11, h⟩ := gm_bd h
                  refine gv_callSi C mc_yX2_afterOrder ms_yX2_afterOrder (by decide) mkX2_31 (kX2_afterOrder _ _ _ _ hq11) rfl rfl (Nat.le_of_ble_eq_true rfl) dX2_after_169 172 rfl ?_
                  obtain rfl := Option.some.inj h
                  exact gv_iret C E rfl rfl dX2_after_172
                · replace h := gm_iq c10 h
                  refine gv_bipush C 7 rfl dX2_after_163 165 rfl ?_
                  refine gv_goto C dX2_after_165 172 (by decide) ?_
                  obtain rfl := Option.some.inj h
                  exact gv_iret C E rfl rfl dX2_after_172
              · replace h := gm_iq c7 h
                refine gv_tableD C dX2_after_1 [0, 1, 2, 3, 4, 5, 6] (by decide) (by decide) (List.forall_mem_cons.mpr ⟨lv_neT c1 rfl, (List.forall_mem_cons.mpr ⟨lv_neT c2 rfl, (List.forall_mem_cons.mpr ⟨lv_neT c3 rfl, (List.forall_mem_cons.mpr ⟨lv_neT c4 rfl, (List.forall_mem_cons.mpr ⟨lv_neT c5 rfl, (List.forall_mem_cons.mpr ⟨lv_neT c6 rfl, (List.forall_mem_cons.mpr ⟨lv_neT c7 rfl, (fun _ h => absurd h List.not_mem_nil)⟩)⟩)⟩)⟩)⟩)⟩)⟩) 173 (by decide) ?_
                refine gv_iload_n C rfl 1 rfl dX2_after_173 174 rfl ?_
                obtain ⟨q8, hq8, h⟩ := gm_bd h
                refine gv_callSi C mc_yX2_afterOrder ms_yX2_afterOrder (by decide) mkX2_31 (kX2_afterOrder _ _ _ _ hq8) rfl rfl (Nat.le_of_ble_eq_true rfl) dX2_after_174 177 rfl ?_
                obtain rfl := Option.some.inj h
                exact gv_iret C E rfl rfl dX2_after_177
set_option maxRecDepth 100000 in
set_option maxHeartbeats 4000000 in
theorem kX2_firstFault (w : gm_Wd) (G : Gm) (q : Int32) (h : fX2_firstFault G = some q) : gm_C w yX2_firstFault cX2_firstFault 3 (some .int) 2 [.ref (gm_ad w 2 4 0)] G (some (.int q)) G := by
  refine gm_start (by decide) (Nat.le_of_ble_eq_true rfl) ?_
  intro x hw C E
  subst hw
  have C : gm_X x cX2_firstFault 3 RX2 (some .int) 2 := C
  unfold fX2_firstFault at h
  have L4 : ∀ (n4 : Nat) (v1 v2 : Int32), fX2_firstFault_h4 G n4 v1 v2 = some q → gm_V x G 4 [(0, .ref (gm_ad (cx_w x) 2 4 0)), (1, .int v1), (2, .int v2)] [] := by
    intro n4
    induction n4 with
    | zero => intro v1 v2 h; cases h
    | succ n4 ih4 =>
      intro v1 v2 h
      rw [fX2_firstFault_h4.eq_2] at h
      refine gv_iload_n C rfl 2 rfl dX2_firstFault_4 5 rfl ?_
      refine gv_aload_n C rfl 0 rfl dX2_firstFault_5 6 rfl ?_
      refine gf_2_1 C gi_2 lkX2_15 dX2_firstFault_6 9 rfl ?_
      refine gv_icmp_ge C dX2_firstFault_9 36 (by decide) 12 rfl (fun c1 => ?_) (fun c1 => ?_)
      · replace h := gm_ip c1 h
        refine gv_iload_n C rfl 1 rfl dX2_firstFault_36 37 rfl ?_
        refine gv_bipush C 7 rfl dX2_firstFault_37 39 rfl ?_
        refine gv_icmp_eq C dX2_firstFault_39 53 (by decide) 42 rfl (fun c2 => ?_) (fun c2 => ?_)
        · replace h := gm_ip c2 h
          refine gv_iconst C 1 rfl dX2_firstFault_53 54 rfl ?_
          refine gv_goto C dX2_firstFault_54 58 (by decide) ?_
          refine gv_istore_n C rfl [(2, _), (0, _), (1, _)] (by decide) rfl dX2_firstFault_58 59 rfl ?_
          refine gv_iload_n C rfl 0 rfl dX2_firstFault_59 60 rfl ?_
          refine gv_if_eq C dX2_firstFault_60 68 (by decide) 63 rfl (fun c3 => ?_) (fun c3 => ?_)
          · exact absurd c3 (by decide)
          refine gv_bipush C (-6) rfl dX2_firstFault_63 65 rfl ?_
          refine gv_goto C dX2_firstFault_65 72 (by decide) ?_
          obtain rfl := Option.some.inj h
          exact gv_iret C E rfl rfl dX2_firstFault_72
        · replace h := gm_iq c2 h
          refine gv_iload_n C rfl 1 rfl dX2_firstFault_42 43 rfl ?_
          refine gv_iconst C 2 rfl dX2_firstFault_43 44 rfl ?_
          refine gv_icmp_eq C dX2_firstFault_44 53 (by decide) 47 rfl (fun c4 => ?_) (fun c4 => ?_)
          · replace h := gm_ip c4 h
            refine gv_iconst C 1 rfl dX2_firstFault_53 54 rfl ?_
            refine gv_goto C dX2_firstFault_54 58 (by decide) ?_
            refine gv_istore_n C rfl [(2, _), (0, _), (1, _)] (by decide) rfl dX2_firstFault_58 59 rfl ?_
            refine gv_iload_n C rfl 0 rfl dX2_firstFault_59 60 rfl ?_
            refine gv_if_eq C dX2_firstFault_60 68 (by decide) 63 rfl (fun c5 => ?_) (fun c5 => ?_)
            · exact absurd c5 (by decide)
            refine gv_bipush C (-6) rfl dX2_firstFault_63 65 rfl ?_
            refine gv_goto C dX2_firstFault_65 72 (by decide) ?_
            obtain rfl := Option.some.inj h
            exact gv_iret C E rfl rfl dX2_firstFault_72
          · replace h := gm_iq c4 h
            refine gv_iload_n C rfl 1 rfl dX2_firstFault_47 48 rfl ?_
            refine gv_bipush C 6 rfl dX2_firstFault_48 50 rfl ?_
            refine gv_icmp_ne C dX2_firstFault_50 57 (by decide) 53 rfl (fun c6 => ?_) (fun c6 => ?_)
            · replace h := gm_ip c6 h
              refine gv_iconst C 1 rfl dX2_firstFault_53 54 rfl ?_
              refine gv_goto C dX2_firstFault_54 58 (by decide) ?_
              refine gv_istore_n C rfl [(2, _), (0, _), (1, _)] (by decide) rfl dX2_firstFault_58 59 rfl ?_
              refine gv_iload_n C rfl 0 rfl dX2_firstFault_59 60 rfl ?_
              refine gv_if_eq C dX2_firstFault_60 68 (by decide) 63 rfl (fun c7 => ?_) (fun c7 => ?_)
              · exact absurd c7 (by decide)
              refine gv_bipush C (-6) rfl dX2_firstFault_63 65 rfl ?_
              refine gv_goto C dX2_firstFault_65 72 (by decide) ?_
              obtain rfl := Option.some.inj h
              exact gv_iret C E rfl rfl dX2_firstFault_72
            · replace h := gm_iq c6 h
              refine gv_iconst C 0 rfl dX2_firstFault_57 58 rfl ?_
              refine gv_istore_n C rfl [(2, _), (0, _), (1, _)] (by decide) rfl dX2_firstFault_58 59 rfl ?_
              refine gv_iload_n C rfl 0 rfl dX2_firstFault_59 60 rfl ?_
              refine gv_if_eq C dX2_firstFault_60 68 (by decide) 63 rfl (fun c8 => ?_) (fun c8 => ?_)
              rotate_left
              · exact absurd (by decide) c8
              refine gv_aload_n C rfl 1 rfl dX2_firstFault_68 69 rfl ?_
              refine gf_2_1 C gi_2 lkX2_15 dX2_firstFault_69 72 rfl ?_
              obtain rfl := Option.some.inj h
              exact gv_iret C E rfl rfl dX2_firstFault_72
      · replace h := gm_iq c1 h
        refine gv_iload_n C rfl 1 rfl dX2_firstFault_12 13 rfl ?_
        refine gv_aload_n C rfl 0 rfl dX2_firstFault_13 14 rfl ?_
        refine gf_2_0 C gi_2 lkX2_9 dX2_firstFault_14 17 rfl ?_
        refine gv_iload_n C rfl 2 rfl dX2_firstFault_17 18 rfl ?_
        obtain ⟨g9, h⟩ := gm_gis h
        refine gv_iald C gi_84 rfl g9 dX2_firstFault_18 19 rfl ?_
        obtain ⟨q10, hq10, h⟩ := gm_bd h
        refine gv_callSi C mc_yX2_after ms_yX2_after (by decide) mkX2_19 (kX2_after _ _ _ _ _ hq10) rfl rfl (Nat.le_of_ble_eq_true rfl) dX2_firstFault_19 22 rfl ?_
        refine gv_istore_n C rfl [(1, _), (0, _), (2, _)] (by decide) rfl dX2_firstFault_22 23 rfl ?_
        refine gv_iload_n C rfl 0 rfl dX2_firstFault_23 24 rfl ?_
        refine gv_iconst C (-1) rfl dX2_firstFault_24 25 rfl ?_
        refine gv_icmp_ne C dX2_firstFault_25 30 (by decide) 28 rfl (fun c11 => ?_) (fun c11 => ?_)
        · replace h := gm_ip c11 h
          refine gv_iload_n C rfl 2 rfl dX2_firstFault_28 29 rfl ?_
          obtain rfl := Option.some.inj h
          exact gv_iret C E rfl rfl dX2_firstFault_29
        · replace h := gm_iq c11 h
          refine gv_iinc C 2 rfl rfl [(2, _), (1, _), (0, _)] (by decide) rfl dX2_firstFault_30 33 rfl ?_
          refine gv_goto C dX2_firstFault_33 4 (by decide) ?_
          refine gm_ls [2, 1, 0] rfl ?_
          exact ih4 _ _ h
  refine gm_lv (lv' := [(0, _)]) rfl ?_
  refine gv_iconst C 0 rfl dX2_firstFault_0 1 rfl ?_
  refine gv_istore_n C rfl [(1, _), (0, _)] (by decide) rfl dX2_firstFault_1 2 rfl ?_
  refine gv_iconst C 0 rfl dX2_firstFault_2 3 rfl ?_
  refine gv_istore_n C rfl [(2, _), (1, _), (0, _)] (by decide) rfl dX2_firstFault_3 4 rfl ?_
  refine gm_ls [2, 1, 0] rfl ?_
  exact L4 _ _ _ h
set_option maxRecDepth 100000 in
set_option maxHeartbeats 4000000 in
theorem kX2_rewind (w : gm_Wd) (G : Gm) (q : Gm) (h : fX2_rewind G = some q) : gm_C w yX2_rewind cX2_rewind 1 none 0 [.ref (gm_ad w 2 4 0)] G none q := by
  refine gm_start (by decide) (Nat.le_of_ble_eq_true rfl) ?_
  intro x hw C E
  subst hw
  have C : gm_X x cX2_rewind 1 RX2 none 0 := C
  unfold fX2_rewind at h
  refine gm_lv (lv' := [(0, _)]) rfl ?_
  refine gv_aload_n C rfl 0 rfl dX2_rewind_0 1 rfl ?_
  refine gv_iconst C 0 rfl dX2_rewind_1 2 rfl ?_
  refine pf_2_2 C gi_2 lkX2_34 dX2_rewind_2 5 rfl ?_
  obtain rfl := Option.some.inj h
  exact gv_vret C E rfl rfl dX2_rewind_5
set_option maxRecDepth 100000 in
set_option maxHeartbeats 4000000 in
theorem kX2_readSign (w : gm_Wd) (a1 : Int32) (G : Gm) (q : Gm) (h : fX2_readSign a1 G = some q) : gm_C w yX2_readSign cX2_readSign 2 none 1 [.ref (gm_ad w 2 4 0), .int a1] G none q := by
  refine gm_start (by decide) (Nat.le_of_ble_eq_true rfl) ?_
  intro x hw C E
  subst hw
  have C : gm_X x cX2_readSign 2 RX2 none 1 := C
  unfold fX2_readSign at h
  refine gm_lv (lv' := [(0, _), (1, _)]) rfl ?_
  refine gv_iload_n C rfl 1 rfl dX2_readSign_0 1 rfl ?_
  refine gv_bipush C 48 rfl dX2_readSign_1 3 rfl ?_
  refine gv_bipush C 57 rfl dX2_readSign_3 5 rfl ?_
  obtain ⟨q1, hq1, h⟩ := gm_bd h
  refine gv_callSi C mc_yX2_isBetween ms_yX2_isBetween (by decide) mkX2_27 (kX2_isBetween _ _ _ _ _ _ hq1) rfl rfl (Nat.le_of_ble_eq_true rfl) dX2_readSign_5 8 rfl ?_
  refine gv_if_eq C dX2_readSign_8 30 (by decide) 11 rfl (fun c2 => ?_) (fun c2 => ?_)
  · replace h := gm_ip c2 h
    refine gv_iload_n C rfl 1 rfl dX2_readSign_30 31 rfl ?_
    refine gv_bipush C 45 rfl dX2_readSign_31 33 rfl ?_
    refine gv_icmp_ne C dX2_readSign_33 41 (by decide) 36 rfl (fun c3 => ?_) (fun c3 => ?_)
    · replace h := gm_ip c3 h
      refine gv_aload_n C rfl 0 rfl dX2_readSign_36 37 rfl ?_
      refine gv_iconst C 1 rfl dX2_readSign_37 38 rfl ?_
      refine pf_2_5 C gi_2 lkX2_43 dX2_readSign_38 41 rfl ?_
      obtain rfl := Option.some.inj h
      exact gv_vret C E rfl rfl dX2_readSign_41
    · replace h := gm_iq c3 h
      obtain rfl := Option.some.inj h
      exact gv_vret C E rfl rfl dX2_readSign_41
  · replace h := gm_iq c2 h
    refine gv_aload_n C rfl 0 rfl dX2_readSign_11 12 rfl ?_
    refine gv_bipush C 10 rfl dX2_readSign_12 14 rfl ?_
    refine gv_aload_n C rfl 0 rfl dX2_readSign_14 15 rfl ?_
    refine gf_2_4 C gi_2 lkX2_40 dX2_readSign_15 18 rfl ?_
    refine gv_imul C dX2_readSign_18 19 rfl ?_
    refine gv_iload_n C rfl 1 rfl dX2_readSign_19 20 rfl ?_
    refine gv_iadd C dX2_readSign_20 21 rfl ?_
    refine gv_bipush C 48 rfl dX2_readSign_21 23 rfl ?_
    refine gv_isub C dX2_readSign_23 24 rfl ?_
    refine pf_2_4 C gi_2 lkX2_40 dX2_readSign_24 27 rfl ?_
    refine gv_goto C dX2_readSign_27 41 (by decide) ?_
    obtain rfl := Option.some.inj h
    exact gv_vret C E rfl rfl dX2_readSign_41
set_option maxRecDepth 100000 in
set_option maxHeartbeats 4000000 in
theorem kX2_readOrder (w : gm_Wd) (G : Gm) (q : Int32 × Gm) (h : fX2_readOrder G = some q) : gm_C w yX2_readOrder cX2_readOrder 1 (some .boolean) 2 [.ref (gm_ad w 2 4 0)] G (some (.int q.1)) q.2 := by
  refine gm_start (by decide) (Nat.le_of_ble_eq_true rfl) ?_
  intro x hw C E
  subst hw
  have C : gm_X x cX2_readOrder 1 RX2 (some .boolean) 2 := C
  unfold fX2_readOrder at h
  have L46 : ∀ (n46 : Nat) (G : Gm), fX2_readOrder_h46 n46 G = some q → gm_V x G 46 [(0, .ref (gm_ad (cx_w x) 2 4 0))] [] := by
    intro n46
    induction n46 with
    | zero => intro G h; cases h
    | succ n46 ih46 =>
      intro G h
      rw [fX2_readOrder_h46.eq_2] at h
      refine gv_aload_n C rfl 0 rfl dX2_readOrder_46 47 rfl ?_
      refine gf_2_2 C gi_2 lkX2_34 dX2_readOrder_47 50 rfl ?_
      refine gv_aload_n C rfl 0 rfl dX2_readOrder_50 51 rfl ?_
      refine gf_2_1 C gi_2 lkX2_15 dX2_readOrder_51 54 rfl ?_
      refine gv_icmp_ge C dX2_readOrder_54 97 (by decide) 57 rfl (fun c3 => ?_) (fun c3 => ?_)
      · replace h := gm_ip c3 h
        refine gv_aload_n C rfl 0 rfl dX2_readOrder_97 98 rfl ?_
        refine gv_dup C rfl dX2_readOrder_98 99 rfl ?_
        refine gf_2_2 C gi_2 lkX2_34 dX2_readOrder_99 102 rfl ?_
        refine gv_iconst C 1 rfl dX2_readOrder_102 103 rfl ?_
        refine gv_iadd C dX2_readOrder_103 104 rfl ?_
        refine pf_2_2 C gi_2 lkX2_34 dX2_readOrder_104 107 rfl ?_
        refine gv_iconst C 1 rfl dX2_readOrder_107 108 rfl ?_
        obtain rfl := Option.some.inj h
        exact gv_zret C E (Or.inr rfl) rfl rfl dX2_readOrder_108
      · replace h := gm_iq c3 h
        refine gv_aload_n C rfl 0 rfl dX2_readOrder_57 58 rfl ?_
        refine gf_2_0 C gi_2 lkX2_9 dX2_readOrder_58 61 rfl ?_
        refine gv_aload_n C rfl 0 rfl dX2_readOrder_61 62 rfl ?_
        refine gf_2_2 C gi_2 lkX2_34 dX2_readOrder_62 65 rfl ?_
        obtain ⟨g4, h⟩ := gm_gis h
        refine gv_iald C gi_84 rfl g4 dX2_readOrder_65 66 rfl ?_
        refine gv_bipush C 44 rfl dX2_readOrder_66 68 rfl ?_
        refine gv_icmp_eq C dX2_readOrder_68 97 (by decide) 71 rfl (fun c5 => ?_) (fun c5 => ?_)
        · replace h := gm_ip c5 h
          refine gv_aload_n C rfl 0 rfl dX2_readOrder_97 98 rfl ?_
          refine gv_dup C rfl dX2_readOrder_98 99 rfl ?_
          refine gf_2_2 C gi_2 lkX2_34 dX2_readOrder_99 102 rfl ?_
          refine gv_iconst C 1 rfl dX2_readOrder_102 103 rfl ?_
          refine gv_iadd C dX2_readOrder_103 104 rfl ?_
          refine pf_2_2 C gi_2 lkX2_34 dX2_readOrder_104 107 rfl ?_
          refine gv_iconst C 1 rfl dX2_readOrder_107 108 rfl ?_
          obtain rfl := Option.some.inj h
          exact gv_zret C E (Or.inr rfl) rfl rfl dX2_readOrder_108
        · replace h := gm_iq c5 h
          refine gv_aload_n C rfl 0 rfl dX2_readOrder_71 72 rfl ?_
          refine gv_aload_n C rfl 0 rfl dX2_readOrder_72 73 rfl ?_
          refine gf_2_0 C gi_2 lkX2_9 dX2_readOrder_73 76 rfl ?_
          refine gv_aload_n C rfl 0 rfl dX2_readOrder_76 77 rfl ?_
          refine gf_2_2 C gi_2 lkX2_34 dX2_readOrder_77 80 rfl ?_
          obtain ⟨g6, h⟩ := gm_gis h
          refine gv_iald C gi_84 rfl g6 dX2_readOrder_80 81 rfl ?_
          obtain ⟨q7, hq7, h⟩ := gm_bd h
          refine gv_callVv C mc_yX2_readSign ⟨mi_yX2_readSign, me_yX2_readSign⟩ (by decide) mkX2_46 gi_2 ⟨_, rfl⟩ rfl rfl (kX2_readSign _ _ _ _ hq7) rfl rfl (Nat.le_of_ble_eq_true rfl) dX2_readOrder_81 84 rfl ?_
          refine gv_aload_n C rfl 0 rfl dX2_readOrder_84 85 rfl ?_
          refine gv_dup C rfl dX2_readOrder_85 86 rfl ?_
          refine gf_2_2 C gi_2 lkX2_34 dX2_readOrder_86 89 rfl ?_
          refine gv_iconst C 1 rfl dX2_readOrder_89 90 rfl ?_
          refine gv_iadd C dX2_readOrder_90 91 rfl ?_
          refine pf_2_2 C gi_2 lkX2_34 dX2_readOrder_91 94 rfl ?_
          refine gv_goto C dX2_readOrder_94 46 (by decide) ?_
          refine gm_ls [0] rfl ?_
          exact ih46 _ h
  refine gm_lv (lv' := [(0, _)]) rfl ?_
  refine gv_aload_n C rfl 0 rfl dX2_readOrder_0 1 rfl ?_
  refine gf_2_2 C gi_2 lkX2_34 dX2_readOrder_1 4 rfl ?_
  refine gv_aload_n C rfl 0 rfl dX2_readOrder_4 5 rfl ?_
  refine gf_2_1 C gi_2 lkX2_15 dX2_readOrder_5 8 rfl ?_
  refine gv_icmp_lt C dX2_readOrder_8 13 (by decide) 11 rfl (fun c1 => ?_) (fun c1 => ?_)
  · replace h := gm_ip c1 h
    refine gv_aload_n C rfl 0 rfl dX2_readOrder_13 14 rfl ?_
    refine gv_aload_n C rfl 0 rfl dX2_readOrder_14 15 rfl ?_
    refine gf_2_0 C gi_2 lkX2_9 dX2_readOrder_15 18 rfl ?_
    refine gv_aload_n C rfl 0 rfl dX2_readOrder_18 19 rfl ?_
    refine gf_2_2 C gi_2 lkX2_34 dX2_readOrder_19 22 rfl ?_
    obtain ⟨g2, h⟩ := gm_gis h
    refine gv_iald C gi_84 rfl g2 dX2_readOrder_22 23 rfl ?_
    refine pf_2_3 C gi_2 lkX2_37 dX2_readOrder_23 26 rfl ?_
    refine gv_aload_n C rfl 0 rfl dX2_readOrder_26 27 rfl ?_
    refine gv_iconst C 0 rfl dX2_readOrder_27 28 rfl ?_
    refine pf_2_4 C gi_2 lkX2_40 dX2_readOrder_28 31 rfl ?_
    refine gv_aload_n C rfl 0 rfl dX2_readOrder_31 32 rfl ?_
    refine gv_iconst C 0 rfl dX2_readOrder_32 33 rfl ?_
    refine pf_2_5 C gi_2 lkX2_43 dX2_readOrder_33 36 rfl ?_
    refine gv_aload_n C rfl 0 rfl dX2_readOrder_36 37 rfl ?_
    refine gv_dup C rfl dX2_readOrder_37 38 rfl ?_
    refine gf_2_2 C gi_2 lkX2_34 dX2_readOrder_38 41 rfl ?_
    refine gv_iconst C 1 rfl dX2_readOrder_41 42 rfl ?_
    refine gv_iadd C dX2_readOrder_42 43 rfl ?_
    refine pf_2_2 C gi_2 lkX2_34 dX2_readOrder_43 46 rfl ?_
    refine gm_ls [0] rfl ?_
    exact L46 _ _ h
  · replace h := gm_iq c1 h
    refine gv_iconst C 0 rfl dX2_readOrder_11 12 rfl ?_
    obtain rfl := Option.some.inj h
    exact gv_zret C E (Or.inl rfl) rfl rfl dX2_readOrder_12
set_option maxRecDepth 100000 in
set_option maxHeartbeats 4000000 in
theorem kX1_clearTraffic (w : gm_Wd) (l : Nat) (hl : l < 4) (G : Gm) (q : Gm) (h : fX1_clearTraffic l G = some q) : gm_C w yX1_clearTraffic cX1_clearTraffic 2 none 1 [.ref (gm_ad w 1 l 0)] G none q := by
  refine gm_start (by decide) (Nat.le_of_ble_eq_true rfl) ?_
  intro x hw C E
  subst hw
  have C : gm_X x cX1_clearTraffic 2 RX1 none 1 := C
  unfold fX1_clearTraffic at h
  have L30 : ∀ (n30 : Nat) (v1 : Int32) (G : Gm), fX1_clearTraffic_h30 l n30 v1 G = some q → gm_V x G 30 [(0, .ref (gm_ad (cx_w x) 1 l 0)), (1, .int v1)] [] := by
    intro n30
    induction n30 with
    | zero => intro v1 G h; cases h
    | succ n30 ih30 =>
      intro v1 G h
      rw [fX1_clearTraffic_h30.eq_2] at h
      refine gv_iload_n C rfl 1 rfl dX1_clearTraffic_30 31 rfl ?_
      refine gv_bipush C 10 rfl dX1_clearTraffic_31 33 rfl ?_
      refine gv_icmp_ge C dX1_clearTraffic_33 51 (by decide) 36 rfl (fun c2 => ?_) (fun c2 => ?_)
      · replace h := gm_ip c2 h
        obtain rfl := Option.some.inj h
        exact gv_vret C E rfl rfl dX1_clearTraffic_51
      · replace h := gm_iq c2 h
        refine gv_aload_n C rfl 0 rfl dX1_clearTraffic_36 37 rfl ?_
        refine gf_1_1 C (gi_1 hl) lkX1_19 dX1_clearTraffic_37 40 rfl ?_
        refine gv_iload_n C rfl 1 rfl dX1_clearTraffic_40 41 rfl ?_
        obtain ⟨g3, h⟩ := gm_gis h
        refine gv_aald10 C (gi_10 hl) g3 dX1_clearTraffic_41 42 rfl ?_
        obtain ⟨q4, hq4, h⟩ := gm_bd h
        refine gv_callVv C mc_yX0_reset ⟨mi_yX0_reset, me_yX0_reset⟩ (by decide) mkX1_74 (gi_0 hl (gm_lt g3)) ⟨_, rfl⟩ rfl rfl (kX0_reset _ _ _ hl (gm_lt g3) _ _ hq4) rfl rfl (Nat.le_of_ble_eq_true rfl) dX1_clearTraffic_42 45 rfl ?_
        refine gv_iinc C 1 rfl rfl [(1, _), (0, _)] (by decide) rfl dX1_clearTraffic_45 48 rfl ?_
        refine gv_goto C dX1_clearTraffic_48 30 (by decide) ?_
        refine gm_ls [1, 0] rfl ?_
        exact ih30 _ _ h
  have L7 : ∀ (n7 : Nat) (v1 : Int32) (G : Gm), fX1_clearTraffic_h7 l n7 v1 G = some q → gm_V x G 7 [(0, .ref (gm_ad (cx_w x) 1 l 0)), (1, .int v1)] [] := by
    intro n7
    induction n7 with
    | zero => intro v1 G h; cases h
    | succ n7 ih7 =>
      intro v1 G h
      rw [fX1_clearTraffic_h7.eq_2] at h
      refine gv_iload_n C rfl 1 rfl dX1_clearTraffic_7 8 rfl ?_
      refine gv_iconst C 5 rfl dX1_clearTraffic_8 9 rfl ?_
      refine gv_icmp_ge C dX1_clearTraffic_9 28 (by decide) 12 rfl (fun c1 => ?_) (fun c1 => ?_)
      · replace h := gm_ip c1 h
        refine gv_iconst C 0 rfl dX1_clearTraffic_28 29 rfl ?_
        refine gv_istore_n C rfl [(1, _), (0, _)] (by decide) rfl dX1_clearTraffic_29 30 rfl ?_
        refine gm_ls [1, 0] rfl ?_
        exact L30 _ _ _ h
      · replace h := gm_iq c1 h
        refine gv_aload_n C rfl 0 rfl dX1_clearTraffic_12 13 rfl ?_
        refine gf_1_0 C (gi_1 hl) lkX1_11 dX1_clearTraffic_13 16 rfl ?_
        refine gv_iload_n C rfl 1 rfl dX1_clearTraffic_16 17 rfl ?_
        obtain ⟨g5, h⟩ := gm_gis h
        refine gv_aald12 C (gi_12 hl) g5 dX1_clearTraffic_17 18 rfl ?_
        refine gv_iconst C 0 rfl dX1_clearTraffic_18 19 rfl ?_
        refine pf_4_5 C (gi_4 hl (gm_lt g5)) (Or.inl rfl) lkX1_70 dX1_clearTraffic_19 22 rfl ?_
        refine gv_iinc C 1 rfl rfl [(1, _), (0, _)] (by decide) rfl dX1_clearTraffic_22 25 rfl ?_
        refine gv_goto C dX1_clearTraffic_25 7 (by decide) ?_
        refine gm_ls [1, 0] rfl ?_
        exact ih7 _ _ h
  refine gm_lv (lv' := [(0, _)]) rfl ?_
  refine gv_aload_n C rfl 0 rfl dX1_clearTraffic_0 1 rfl ?_
  refine gv_iconst C 0 rfl dX1_clearTraffic_1 2 rfl ?_
  refine pf_1_6 C (gi_1 hl) lkX1_67 dX1_clearTraffic_2 5 rfl ?_
  refine gv_iconst C 0 rfl dX1_clearTraffic_5 6 rfl ?_
  refine gv_istore_n C rfl [(1, _), (0, _)] (by decide) rfl dX1_clearTraffic_6 7 rfl ?_
  refine gm_ls [1, 0] rfl ?_
  exact L7 _ _ _ h
