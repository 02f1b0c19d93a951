set_option maxRecDepth 100000 in
set_option maxHeartbeats 4000000 in
theorem kX7_obstruct (w : gm_Wd) (a1 a2 : Int32) (G : Gm) (q : Int32 × Gm) (h : fX7_obstruct a1 a2 G = some q) : gm_C w yX7_obstruct cX7_obstruct 4 (some .int) 3 [.ref (gm_ad w 7 5 0), .int a1, .int a2] G (some (.int q.1)) q.2 := by
  refine gm_start (by decide) (Nat.le_of_ble_eq_true rfl) ?_
  intro x hw C E
  subst hw
  have C : gm_X x cX7_obstruct 4 RX7 (some .int) 3 := C
  unfold fX7_obstruct at h
  refine gm_lv (lv' := [(0, _), (1, _), (2, _)]) rfl ?_
  refine gv_aload_n C rfl 0 rfl dX7_obstruct_0 1 rfl ?_
  refine gv_iload_n C rfl 1 rfl dX7_obstruct_1 2 rfl ?_
  refine gv_iload_n C rfl 2 rfl dX7_obstruct_2 3 rfl ?_
  obtain ⟨q1, hq1, h⟩ := gm_bd h
  refine gv_callVi C mc_yX7_isBlock ⟨mi_yX7_isBlock, me_yX7_isBlock⟩ (by decide) mkX7_71 gi_7 ⟨_, rfl⟩ rfl rfl (kX7_isBlock _ _ _ _ _ hq1) rfl rfl (Nat.le_of_ble_eq_true rfl) dX7_obstruct_3 6 rfl ?_
  refine gv_if_ne C dX7_obstruct_6 11 (by decide) 9 rfl (fun c2 => ?_) (fun c2 => ?_)
  · replace h := gm_ip c2 h
    refine gv_iconst C (-1) rfl dX7_obstruct_9 10 rfl ?_
    obtain rfl := Option.some.inj h
    exact gv_iret C E rfl rfl dX7_obstruct_10
  · replace h := gm_iq c2 h
    refine gv_aload_n C rfl 0 rfl dX7_obstruct_11 12 rfl ?_
    refine gv_iload_n C rfl 1 rfl dX7_obstruct_12 13 rfl ?_
    refine gv_iload_n C rfl 2 rfl dX7_obstruct_13 14 rfl ?_
    refine gv_iconst C 0 rfl dX7_obstruct_14 15 rfl ?_
    obtain ⟨q3, hq3, h⟩ := gm_bd h
    refine gv_callVi C mc_yX7_ofBlock ⟨mi_yX7_ofBlock, me_yX7_ofBlock⟩ (by decide) mkX7_55 gi_7 ⟨_, rfl⟩ rfl rfl (kX7_ofBlock _ _ _ _ _ _ hq3) rfl rfl (Nat.le_of_ble_eq_true rfl) dX7_obstruct_15 18 rfl ?_
    refine gv_istore_n C rfl [(3, _), (0, _), (1, _), (2, _)] (by decide) rfl dX7_obstruct_18 19 rfl ?_
    refine gv_iload_n C rfl 0 rfl dX7_obstruct_19 20 rfl ?_
    refine gv_iconst C 1 rfl dX7_obstruct_20 21 rfl ?_
    refine gv_icmp_le C dX7_obstruct_21 27 (by decide) 24 rfl (fun c4 => ?_) (fun c4 => ?_)
    · replace h := gm_ip c4 h
      refine gv_aload_n C rfl 1 rfl dX7_obstruct_27 28 rfl ?_
      refine gv_iload_n C rfl 2 rfl dX7_obstruct_28 29 rfl ?_
      refine gv_iload_n C rfl 3 rfl dX7_obstruct_29 30 rfl ?_
      obtain ⟨q5, hq5, h⟩ := gm_bd h
      refine gv_callVv C mc_yX7_unclear ⟨mi_yX7_unclear, me_yX7_unclear⟩ (by decide) mkX7_126 gi_7 ⟨_, rfl⟩ rfl rfl (kX7_unclear _ _ _ _ _ hq5) rfl rfl (Nat.le_of_ble_eq_true rfl) dX7_obstruct_30 33 rfl ?_
      refine gv_aload_n C rfl 1 rfl dX7_obstruct_33 34 rfl ?_
      refine gf_7_0 C gi_7 lkX7_7 dX7_obstruct_34 37 rfl ?_
      refine gv_iload_n C rfl 2 rfl dX7_obstruct_37 38 rfl ?_
      refine gv_iload_n C rfl 3 rfl dX7_obstruct_38 39 rfl ?_
      refine gv_iconst C 1 rfl dX7_obstruct_39 40 rfl ?_
      obtain ⟨q6, hq6, h⟩ := gm_bd h
      refine gv_callSi C mc_yX7_place ms_yX7_place (by decide) mkX7_51 (kX7_place _ _ _ _ _ _ hq6) rfl rfl (Nat.le_of_ble_eq_true rfl) dX7_obstruct_40 43 rfl ?_
      refine gv_bipush C (-6) rfl dX7_obstruct_43 45 rfl ?_
      obtain ⟨g7, h⟩ := gm_gis h
      refine gv_iast C (gi_85 (c := 0) (by decide)) rfl g7 dX7_obstruct_45 46 rfl ?_
      refine gv_aload_n C rfl 1 rfl dX7_obstruct_46 47 rfl ?_
      refine gf_7_0 C gi_7 lkX7_7 dX7_obstruct_47 50 rfl ?_
      refine gv_iload_n C rfl 2 rfl dX7_obstruct_50 51 rfl ?_
      refine gv_iload_n C rfl 3 rfl dX7_obstruct_51 52 rfl ?_
      refine gv_iconst C 0 rfl dX7_obstruct_52 53 rfl ?_
      obtain ⟨q8, hq8, h⟩ := gm_bd h
      refine gv_callSi C mc_yX7_place ms_yX7_place (by decide) mkX7_51 (kX7_place _ _ _ _ _ _ hq8) rfl rfl (Nat.le_of_ble_eq_true rfl) dX7_obstruct_53 56 rfl ?_
      refine gv_iconst C 3 rfl dX7_obstruct_56 57 rfl ?_
      obtain ⟨g9, h⟩ := gm_gis h
      refine gv_iast C (gi_85 (c := 0) (by decide)) rfl g9 dX7_obstruct_57 58 rfl ?_
      refine gv_aload_n C rfl 1 rfl dX7_obstruct_58 59 rfl ?_
      refine gv_iload_n C rfl 2 rfl dX7_obstruct_59 60 rfl ?_
      refine gv_iload_n C rfl 3 rfl dX7_obstruct_60 61 rfl ?_
      refine gv_iload_n C rfl 2 rfl dX7_obstruct_61 62 rfl ?_
      refine gv_iload_n C rfl 3 rfl dX7_obstruct_62 63 rfl ?_
      obtain ⟨q10, hq10, h⟩ := gm_bd h
      refine gv_callSi C mc_yX7_ahead ms_yX7_ahead (by decide) mkX7_120 (kX7_ahead _ _ _ _ _ hq10) rfl rfl (Nat.le_of_ble_eq_true rfl) dX7_obstruct_63 66 rfl ?_
      refine gv_bipush C 6 rfl dX7_obstruct_66 68 rfl ?_
      obtain ⟨q11, hq11, h⟩ := gm_bd h
      refine gv_callVi C mc_yX7_ring ⟨mi_yX7_ring, me_yX7_ring⟩ (by decide) mkX7_113 gi_7 ⟨_, rfl⟩ rfl rfl (kX7_ring _ _ _ _ _ _ _ hq11) rfl rfl (Nat.le_of_ble_eq_true rfl) dX7_obstruct_68 71 rfl ?_
      refine gv_pop C rfl dX7_obstruct_71 72 rfl ?_
      refine gv_iload_n C rfl 0 rfl dX7_obstruct_72 73 rfl ?_
      obtain rfl := Option.some.inj h
      exact gv_iret C E rfl rfl dX7_obstruct_73
    · replace h := gm_iq c4 h
      refine gv_bipush C (-5) rfl dX7_obstruct_24 26 rfl ?_
      obtain rfl := Option.some.inj h
      exact gv_iret C E rfl rfl dX7_obstruct_26
set_option maxRecDepth 100000 in
set_option maxHeartbeats 4000000 in
theorem kX7_lift (w : gm_Wd) (a1 a2 : Int32) (G : Gm) (q : Int32 × Gm) (h : fX7_lift a1 a2 G = some q) : gm_C w yX7_lift cX7_lift 3 (some .int) 3 [.ref (gm_ad w 7 5 0), .int a1, .int a2] G (some (.int q.1)) q.2 := by
  refine gm_start (by decide) (Nat.le_of_ble_eq_true rfl) ?_
  intro x hw C E
  subst hw
  have C : gm_X x cX7_lift 3 RX7 (some .int) 3 := C
  unfold fX7_lift at h
  refine gm_lv (lv' := [(0, _), (1, _), (2, _)]) rfl ?_
  refine gv_aload_n C rfl 0 rfl dX7_lift_0 1 rfl ?_
  refine gv_iload_n C rfl 1 rfl dX7_lift_1 2 rfl ?_
  refine gv_iload_n C rfl 2 rfl dX7_lift_2 3 rfl ?_
  obtain ⟨q1, hq1, h⟩ := gm_bd h
  refine gv_callVi C mc_yX7_isBlock ⟨mi_yX7_isBlock, me_yX7_isBlock⟩ (by decide) mkX7_71 gi_7 ⟨_, rfl⟩ rfl rfl (kX7_isBlock _ _ _ _ _ hq1) rfl rfl (Nat.le_of_ble_eq_true rfl) dX7_lift_3 6 rfl ?_
  refine gv_if_ne C dX7_lift_6 11 (by decide) 9 rfl (fun c2 => ?_) (fun c2 => ?_)
  · replace h := gm_ip c2 h
    refine gv_iconst C (-1) rfl dX7_lift_9 10 rfl ?_
    obtain rfl := Option.some.inj h
    exact gv_iret C E rfl rfl dX7_lift_10
  · replace h := gm_iq c2 h
    refine gv_aload_n C rfl 0 rfl dX7_lift_11 12 rfl ?_
    refine gv_iload_n C rfl 1 rfl dX7_lift_12 13 rfl ?_
    refine gv_iload_n C rfl 2 rfl dX7_lift_13 14 rfl ?_
    refine gv_iconst C 0 rfl dX7_lift_14 15 rfl ?_
    obtain ⟨q3, hq3, h⟩ := gm_bd h
    refine gv_callVi C mc_yX7_ofBlock ⟨mi_yX7_ofBlock, me_yX7_ofBlock⟩ (by decide) mkX7_55 gi_7 ⟨_, rfl⟩ rfl rfl (kX7_ofBlock _ _ _ _ _ _ hq3) rfl rfl (Nat.le_of_ble_eq_true rfl) dX7_lift_15 18 rfl ?_
    refine gv_iconst C 3 rfl dX7_lift_18 19 rfl ?_
    refine gv_icmp_eq C dX7_lift_19 25 (by decide) 22 rfl (fun c4 => ?_) (fun c4 => ?_)
    · replace h := gm_ip c4 h
      refine gv_aload_n C rfl 0 rfl dX7_lift_25 26 rfl ?_
      refine gf_7_0 C gi_7 lkX7_7 dX7_lift_26 29 rfl ?_
      refine gv_iload_n C rfl 1 rfl dX7_lift_29 30 rfl ?_
      refine gv_iload_n C rfl 2 rfl dX7_lift_30 31 rfl ?_
      refine gv_iconst C 0 rfl dX7_lift_31 32 rfl ?_
      obtain ⟨q5, hq5, h⟩ := gm_bd h
      refine gv_callSi C mc_yX7_place ms_yX7_place (by decide) mkX7_51 (kX7_place _ _ _ _ _ _ hq5) rfl rfl (Nat.le_of_ble_eq_true rfl) dX7_lift_32 35 rfl ?_
      refine gv_iconst C 0 rfl dX7_lift_35 36 rfl ?_
      obtain ⟨g6, h⟩ := gm_gis h
      refine gv_iast C (gi_85 (c := 0) (by decide)) rfl g6 dX7_lift_36 37 rfl ?_
      refine gv_aload_n C rfl 0 rfl dX7_lift_37 38 rfl ?_
      refine gv_iload_n C rfl 1 rfl dX7_lift_38 39 rfl ?_
      refine gv_iload_n C rfl 2 rfl dX7_lift_39 40 rfl ?_
      refine gv_iload_n C rfl 1 rfl dX7_lift_40 41 rfl ?_
      refine gv_iload_n C rfl 2 rfl dX7_lift_41 42 rfl ?_
      obtain ⟨q7, hq7, h⟩ := gm_bd h
      refine gv_callSi C mc_yX7_ahead ms_yX7_ahead (by decide) mkX7_120 (kX7_ahead _ _ _ _ _ hq7) rfl rfl (Nat.le_of_ble_eq_true rfl) dX7_lift_42 45 rfl ?_
      refine gv_bipush C 13 rfl dX7_lift_45 47 rfl ?_
      obtain ⟨q8, hq8, h⟩ := gm_bd h
      refine gv_callVi C mc_yX7_ring ⟨mi_yX7_ring, me_yX7_ring⟩ (by decide) mkX7_113 gi_7 ⟨_, rfl⟩ rfl rfl (kX7_ring _ _ _ _ _ _ _ hq8) rfl rfl (Nat.le_of_ble_eq_true rfl) dX7_lift_47 50 rfl ?_
      obtain rfl := Option.some.inj h
      exact gv_iret C E rfl rfl dX7_lift_50
    · replace h := gm_iq c4 h
      refine gv_bipush C (-5) rfl dX7_lift_22 24 rfl ?_
      obtain rfl := Option.some.inj h
      exact gv_iret C E rfl rfl dX7_lift_24
set_option maxRecDepth 100000 in
set_option maxHeartbeats 4000000 in
theorem kX7_tick (w : gm_Wd) (G : Gm) (q : Gm) (h : fX7_tick G = some q) : gm_C w yX7_tick cX7_tick 3 none 1 [.ref (gm_ad w 7 5 0)] G none q := by
  refine gm_start (by decide) (Nat.le_of_ble_eq_true rfl) ?_
  intro x hw C E
  subst hw
  have C : gm_X x cX7_tick 3 RX7 none 1 := C
  unfold fX7_tick at h
  have L69 : ∀ (n69 : Nat) (v1 : Int32) (G : Gm), fX7_tick_h69 n69 v1 G = some q → gm_V x G 69 [(0, .ref (gm_ad (cx_w x) 7 5 0)), (1, .int v1)] [] := by
    intro n69
    induction n69 with
    | zero => intro v1 G h; cases h
    | succ n69 ih69 =>
      intro v1 G h
      rw [fX7_tick_h69.eq_2] at h
      refine gv_iload_n C rfl 1 rfl dX7_tick_69 70 rfl ?_
      refine gv_iconst C 2 rfl dX7_tick_70 71 rfl ?_
      refine gv_aload_n C rfl 0 rfl dX7_tick_71 72 rfl ?_
      obtain ⟨q2, hq2, h⟩ := gm_bd h
      refine gv_callVi C mc_yX7_sections ⟨mi_yX7_sections, me_yX7_sections⟩ (by decide) mkX7_36 gi_7 ⟨_, rfl⟩ rfl rfl (kX7_sections _  _ _ hq2) rfl rfl (Nat.le_of_ble_eq_true rfl) dX7_tick_72 75 rfl ?_
      refine gv_imul C dX7_tick_75 76 rfl ?_
      refine gv_icmp_ge C dX7_tick_76 140 (by decide) 79 rfl (fun c3 => ?_) (fun c3 => ?_)
      · replace h := gm_ip c3 h
        refine gv_aload_n C rfl 0 rfl dX7_tick_140 141 rfl ?_
        refine gf_7_0 C gi_7 lkX7_7 dX7_tick_141 144 rfl ?_
        refine gv_iconst C 0 rfl dX7_tick_144 145 rfl ?_
        refine gv_dup2 C rfl rfl dX7_tick_145 146 rfl ?_
        refine gv_ialdK C 0 (by decide) (gi_85 (c := 0) (by decide)) rfl (by decide) dX7_tick_146 147 rfl ?_
        refine gv_iconst C 1 rfl dX7_tick_147 148 rfl ?_
        refine gv_iadd C dX7_tick_148 149 rfl ?_
        refine gv_iastK C 0 (by decide) (gi_85 (c := 0) (by decide)) rfl (by decide) dX7_tick_149 150 rfl ?_
        obtain rfl := Option.some.inj h
        exact gv_vret C E rfl rfl dX7_tick_150
      · replace h := gm_iq c3 h
        refine gv_bipush C 30 rfl dX7_tick_79 81 rfl ?_
        refine gv_iconst C 5 rfl dX7_tick_81 82 rfl ?_
        refine gv_iload_n C rfl 1 rfl dX7_tick_82 83 rfl ?_
        refine gv_imul C dX7_tick_83 84 rfl ?_
        refine gv_iadd C dX7_tick_84 85 rfl ?_
        refine gv_iconst C 4 rfl dX7_tick_85 86 rfl ?_
        refine gv_iadd C dX7_tick_86 87 rfl ?_
        refine gv_istore_n C rfl [(2, _), (0, _), (1, _)] (by decide) rfl dX7_tick_87 88 rfl ?_
        refine gv_aload_n C rfl 1 rfl dX7_tick_88 89 rfl ?_
        refine gf_7_0 C gi_7 lkX7_7 dX7_tick_89 92 rfl ?_
        refine gv_iload_n C rfl 0 rfl dX7_tick_92 93 rfl ?_
        obtain ⟨g4, h⟩ := gm_gis h
        refine gv_iald C (gi_85 (c := 0) (by decide)) rfl g4 dX7_tick_93 94 rfl ?_
        refine gv_if_le C dX7_tick_94 134 (by decide) 97 rfl (fun c5 => ?_) (fun c5 => ?_)
        · replace h := gm_ip c5 h
          refine gv_iinc C 2 rfl rfl [(1, _), (2, _), (0, _)] (by decide) rfl dX7_tick_134 137 rfl ?_
          refine gv_goto C dX7_tick_137 69 (by decide) ?_
          refine gm_ls [2, 0] rfl ?_
          exact ih69 _ _ h
        · replace h := gm_iq c5 h
          refine gv_aload_n C rfl 1 rfl dX7_tick_97 98 rfl ?_
          refine gf_7_0 C gi_7 lkX7_7 dX7_tick_98 101 rfl ?_
          refine gv_iload_n C rfl 0 rfl dX7_tick_101 102 rfl ?_
          refine gv_dup2 C rfl rfl dX7_tick_102 103 rfl ?_
          obtain ⟨g6, h⟩ := gm_gis h
          refine gv_iald C (gi_85 (c := 0) (by decide)) rfl g6 dX7_tick_103 104 rfl ?_
          refine gv_iconst C 1 rfl dX7_tick_104 105 rfl ?_
          refine gv_isub C dX7_tick_105 106 rfl ?_
          obtain ⟨g7, h⟩ := gm_gis h
          refine gv_iast C (gi_85 (c := 0) (by decide)) rfl g7 dX7_tick_106 107 rfl ?_
          refine gv_aload_n C rfl 1 rfl dX7_tick_107 108 rfl ?_
          refine gf_7_0 C gi_7 lkX7_7 dX7_tick_108 111 rfl ?_
          refine gv_bipush C 30 rfl dX7_tick_111 113 rfl ?_
          refine gv_iconst C 5 rfl dX7_tick_113 114 rfl ?_
          refine gv_iload_n C rfl 2 rfl dX7_tick_114 115 rfl ?_
          refine gv_imul C dX7_tick_115 116 rfl ?_
          refine gv_iadd C dX7_tick_116 117 rfl ?_
          refine gv_iconst C 3 rfl dX7_tick_117 118 rfl ?_
          refine gv_iadd C dX7_tick_118 119 rfl ?_
          refine gv_aload_n C rfl 1 rfl dX7_tick_119 120 rfl ?_
          refine gf_7_0 C gi_7 lkX7_7 dX7_tick_120 123 rfl ?_
          refine gv_iload_n C rfl 0 rfl dX7_tick_123 124 rfl ?_
          obtain ⟨g8, h⟩ := gm_gis h
          refine gv_iald C (gi_85 (c := 0) (by decide)) rfl g8 dX7_tick_124 125 rfl ?_
          refine gv_if_le C dX7_tick_125 132 (by decide) 128 rfl (fun c9 => ?_) (fun c9 => ?_)
          · replace h := gm_ip c9 h
            refine gv_iconst C 0 rfl dX7_tick_132 133 rfl ?_
            obtain ⟨g10, h⟩ := gm_gis h
            refine gv_iast C (gi_85 (c := 0) (by decide)) rfl g10 dX7_tick_133 134 rfl ?_
            refine gv_iinc C 2 rfl rfl [(1, _), (2, _), (0, _)] (by decide) rfl dX7_tick_134 137 rfl ?_
            refine gv_goto C dX7_tick_137 69 (by decide) ?_
            refine gm_ls [2, 0] rfl ?_
            exact ih69 _ _ h
          · replace h := gm_iq c9 h
            refine gv_iconst C 1 rfl dX7_tick_128 129 rfl ?_
            refine gv_goto C dX7_tick_129 133 (by decide) ?_
            obtain ⟨g11, h⟩ := gm_gis h
            refine gv_iast C (gi_85 (c := 0) (by decide)) rfl g11 dX7_tick_133 134 rfl ?_
            refine gv_iinc C 2 rfl rfl [(1, _), (2, _), (0, _)] (by decide) rfl dX7_tick_134 137 rfl ?_
            refine gv_goto C dX7_tick_137 69 (by decide) ?_
            refine gm_ls [2, 0] rfl ?_
            exact ih69 _ _ h
  have L2 : ∀ (n2 : Nat) (v1 : Int32) (G : Gm), fX7_tick_h2 n2 v1 G = some q → gm_V x G 2 [(0, .ref (gm_ad (cx_w x) 7 5 0)), (1, .int v1)] [] := by
    intro n2
    induction n2 with
    | zero => intro v1 G h; cases h
    | succ n2 ih2 =>
      intro v1 G h
      rw [fX7_tick_h2.eq_2] at h
      refine gv_iload_n C rfl 1 rfl dX7_tick_2 3 rfl ?_
      refine gv_aload_n C rfl 0 rfl dX7_tick_3 4 rfl ?_
      refine gf_7_0 C gi_7 lkX7_7 dX7_tick_4 7 rfl ?_
      refine gv_sipush C 381 rfl dX7_tick_7 10 rfl ?_
      refine gv_ialdK C 381 (by decide) (gi_85 (c := 0) (by decide)) rfl (by decide) dX7_tick_10 11 rfl ?_
      refine gv_icmp_ge C dX7_tick_11 67 (by decide) 14 rfl (fun c1 => ?_) (fun c1 => ?_)
      · replace h := gm_ip c1 h
        refine gv_iconst C 0 rfl dX7_tick_67 68 rfl ?_
        refine gv_istore_n C rfl [(1, _), (0, _)] (by decide) rfl dX7_tick_68 69 rfl ?_
        refine gm_ls [1, 0] rfl ?_
        exact L69 _ _ _ h
      · replace h := gm_iq c1 h
        refine gv_aload_n C rfl 0 rfl dX7_tick_14 15 rfl ?_
        refine gv_iload_n C rfl 1 rfl dX7_tick_15 16 rfl ?_
        refine gv_iconst C 2 rfl dX7_tick_16 17 rfl ?_
        obtain ⟨q12, hq12, h⟩ := gm_bd h
        refine gv_callVi C mc_yX7_ofTrain ⟨mi_yX7_ofTrain, me_yX7_ofTrain⟩ (by decide) mkX7_61 gi_7 ⟨_, rfl⟩ rfl rfl (kX7_ofTrain _ _ _ _ _ hq12) rfl rfl (Nat.le_of_ble_eq_true rfl) dX7_tick_17 20 rfl ?_
        refine gv_iconst C 2 rfl dX7_tick_20 21 rfl ?_
        refine gv_icmp_ne C dX7_tick_21 37 (by decide) 24 rfl (fun c13 => ?_) (fun c13 => ?_)
        · replace h := gm_ip c13 h
          refine gv_aload_n C rfl 0 rfl dX7_tick_24 25 rfl ?_
          refine gv_iload_n C rfl 1 rfl dX7_tick_25 26 rfl ?_
          refine gv_iconst C 4 rfl dX7_tick_26 27 rfl ?_
          obtain ⟨q14, hq14, h⟩ := gm_bd h
          refine gv_callVi C mc_yX7_ofTrain ⟨mi_yX7_ofTrain, me_yX7_ofTrain⟩ (by decide) mkX7_61 gi_7 ⟨_, rfl⟩ rfl rfl (kX7_ofTrain _ _ _ _ _ hq14) rfl rfl (Nat.le_of_ble_eq_true rfl) dX7_tick_27 30 rfl ?_
          refine gv_if_le C dX7_tick_30 37 (by decide) 33 rfl (fun c15 => ?_) (fun c15 => ?_)
          · replace h := gm_ip c15 h
            refine gv_iconst C 0 rfl dX7_tick_37 38 rfl ?_
            refine gv_istore_n C rfl [(2, _), (0, _), (1, _)] (by decide) rfl dX7_tick_38 39 rfl ?_
            refine gv_aload_n C rfl 1 rfl dX7_tick_39 40 rfl ?_
            refine gv_iload_n C rfl 2 rfl dX7_tick_40 41 rfl ?_
            refine gv_iconst C 4 rfl dX7_tick_41 42 rfl ?_
            refine gv_aload_n C rfl 1 rfl dX7_tick_42 43 rfl ?_
            refine gv_iload_n C rfl 2 rfl dX7_tick_43 44 rfl ?_
            refine gv_iconst C 4 rfl dX7_tick_44 45 rfl ?_
            obtain ⟨q16, hq16, h⟩ := gm_bd h
            refine gv_callVi C mc_yX7_ofTrain ⟨mi_yX7_ofTrain, me_yX7_ofTrain⟩ (by decide) mkX7_61 gi_7 ⟨_, rfl⟩ rfl rfl (kX7_ofTrain _ _ _ _ _ hq16) rfl rfl (Nat.le_of_ble_eq_true rfl) dX7_tick_45 48 rfl ?_
            refine gv_iload_n C rfl 0 rfl dX7_tick_48 49 rfl ?_
            refine gv_if_eq C dX7_tick_49 56 (by decide) 52 rfl (fun c17 => ?_) (fun c17 => ?_)
            rotate_left
            · exact absurd (by decide) c17
            refine gv_iconst C 0 rfl dX7_tick_56 57 rfl ?_
            refine gv_isub C dX7_tick_57 58 rfl ?_
            obtain ⟨q18, hq18, h⟩ := gm_bd h
            refine gv_callVv C mc_yX7_layTrain ⟨mi_yX7_layTrain, me_yX7_layTrain⟩ (by decide) mkX7_75 gi_7 ⟨_, rfl⟩ rfl rfl (kX7_layTrain _ _ _ _ _ _ hq18) rfl rfl (Nat.le_of_ble_eq_true rfl) dX7_tick_58 61 rfl ?_
            refine gv_iinc C 2 rfl rfl [(1, _), (2, _), (0, _)] (by decide) rfl dX7_tick_61 64 rfl ?_
            refine gv_goto C dX7_tick_64 2 (by decide) ?_
            refine gm_ls [2, 0] rfl ?_
            exact ih2 _ _ h
          · replace h := gm_iq c15 h
            refine gv_iconst C 1 rfl dX7_tick_33 34 rfl ?_
            refine gv_goto C dX7_tick_34 38 (by decide) ?_
            refine gv_istore_n C rfl [(2, _), (0, _), (1, _)] (by decide) rfl dX7_tick_38 39 rfl ?_
            refine gv_aload_n C rfl 1 rfl dX7_tick_39 40 rfl ?_
            refine gv_iload_n C rfl 2 rfl dX7_tick_40 41 rfl ?_
            refine gv_iconst C 4 rfl dX7_tick_41 42 rfl ?_
            refine gv_aload_n C rfl 1 rfl dX7_tick_42 43 rfl ?_
            refine gv_iload_n C rfl 2 rfl dX7_tick_43 44 rfl ?_
            refine gv_iconst C 4 rfl dX7_tick_44 45 rfl ?_
            obtain ⟨q19, hq19, h⟩ := gm_bd h
            refine gv_callVi C mc_yX7_ofTrain ⟨mi_yX7_ofTrain, me_yX7_ofTrain⟩ (by decide) mkX7_61 gi_7 ⟨_, rfl⟩ rfl rfl (kX7_ofTrain _ _ _ _ _ hq19) rfl rfl (Nat.le_of_ble_eq_true rfl) dX7_tick_45 48 rfl ?_
            refine gv_iload_n C rfl 0 rfl dX7_tick_48 49 rfl ?_
            refine gv_if_eq C dX7_tick_49 56 (by decide) 52 rfl (fun c20 => ?_) (fun c20 => ?_)
            · exact absurd c20 (by decide)
            refine gv_iconst C 1 rfl dX7_tick_52 53 rfl ?_
            refine gv_goto C dX7_tick_53 57 (by decide) ?_
            refine gv_isub C dX7_tick_57 58 rfl ?_
            obtain ⟨q21, hq21, h⟩ := gm_bd h
            refine gv_callVv C mc_yX7_layTrain ⟨mi_yX7_layTrain, me_yX7_layTrain⟩ (by decide) mkX7_75 gi_7 ⟨_, rfl⟩ rfl rfl (kX7_layTrain _ _ _ _ _ _ hq21) rfl rfl (Nat.le_of_ble_eq_true rfl) dX7_tick_58 61 rfl ?_
            refine gv_iinc C 2 rfl rfl [(1, _), (2, _), (0, _)] (by decide) rfl dX7_tick_61 64 rfl ?_
            refine gv_goto C dX7_tick_64 2 (by decide) ?_
            refine gm_ls [2, 0] rfl ?_
            exact ih2 _ _ h
        · replace h := gm_iq c13 h
          refine gv_iconst C 0 rfl dX7_tick_37 38 rfl ?_
          refine gv_istore_n C rfl [(2, _), (0, _), (1, _)] (by decide) rfl dX7_tick_38 39 rfl ?_
          refine gv_aload_n C rfl 1 rfl dX7_tick_39 40 rfl ?_
          refine gv_iload_n C rfl 2 rfl dX7_tick_40 41 rfl ?_
          refine gv_iconst C 4 rfl dX7_tick_41 42 rfl ?_
          refine gv_aload_n C rfl 1 rfl dX7_tick_42 43 rfl ?_
          refine gv_iload_n C rfl 2 rfl dX7_tick_43 44 rfl ?_
          refine gv_iconst C 4 rfl dX7_tick_44 45 rfl ?_
          obtain ⟨q22, hq22, h⟩ := gm_bd h
          refine gv_callVi C mc_yX7_ofTrain ⟨mi_yX7_ofTrain, me_yX7_ofTrain⟩ (by decide) mkX7_61 gi_7 ⟨_, rfl⟩ rfl rfl (kX7_ofTrain _ _ _ _ _ hq22) rfl rfl (Nat.le_of_ble_eq_true rfl) dX7_tick_45 48 rfl ?_
          refine gv_iload_n C rfl 0 rfl dX7_tick_48 49 rfl ?_
          refine gv_if_eq C dX7_tick_49 56 (by decide) 52 rfl (fun c23 => ?_) (fun c23 => ?_)
          rotate_left
          · exact absurd (by decide) c23
          refine gv_iconst C 0 rfl dX7_tick_56 57 rfl ?_
          refine gv_isub C dX7_tick_57 58 rfl ?_
          obtain ⟨q24, hq24, h⟩ := gm_bd h
          refine gv_callVv C mc_yX7_layTrain ⟨mi_yX7_layTrain, me_yX7_layTrain⟩ (by decide) mkX7_75 gi_7 ⟨_, rfl⟩ rfl rfl (kX7_layTrain _ _ _ _ _ _ hq24) rfl rfl (Nat.le_of_ble_eq_true rfl) dX7_tick_58 61 rfl ?_
          refine gv_iinc C 2 rfl rfl [(1, _), (2, _), (0, _)] (by decide) rfl dX7_tick_61 64 rfl ?_
          refine gv_goto C dX7_tick_64 2 (by decide) ?_
          refine gm_ls [2, 0] rfl ?_
          exact ih2 _ _ h
  refine gm_lv (lv' := [(0, _)]) rfl ?_
  refine gv_iconst C 0 rfl dX7_tick_0 1 rfl ?_
  refine gv_istore_n C rfl [(1, _), (0, _)] (by decide) rfl dX7_tick_1 2 rfl ?_
  refine gm_ls [1, 0] rfl ?_
  exact L2 _ _ _ h
set_option maxRecDepth 100000 in
set_option maxHeartbeats 4000000 in
theorem kX7_pass (w : gm_Wd) (a1 : Int32) (G : Gm) (q : Int32 × Gm) (h : fX7_pass a1 G = some q) : gm_C w yX7_pass cX7_pass 3 (some .int) 2 [.ref (gm_ad w 7 5 0), .int a1] G (some (.int q.1)) q.2 := by
  refine gm_start (by decide) (Nat.le_of_ble_eq_true rfl) ?_
  intro x hw C E
  subst hw
  have C : gm_X x cX7_pass 3 RX7 (some .int) 2 := C
  unfold fX7_pass at h
  have L32 : ∀ (n32 : Nat) (v2 : Int32) (G : Gm), fX7_pass_h32 a1 n32 v2 G = some q → gm_V x G 32 [(0, .ref (gm_ad (cx_w x) 7 5 0)), (1, .int a1), (2, .int v2)] [] := by
    intro n32
    induction n32 with
    | zero => intro v2 G h; cases h
    | succ n32 ih32 =>
      intro v2 G h
      rw [fX7_pass_h32.eq_2] at h
      refine gv_iload_n C rfl 2 rfl dX7_pass_32 33 rfl ?_
      refine gv_iload_n C rfl 1 rfl dX7_pass_33 34 rfl ?_
      refine gv_icmp_ge C dX7_pass_34 47 (by decide) 37 rfl (fun c4 => ?_) (fun c4 => ?_)
      · replace h := gm_ip c4 h
        refine gv_aload_n C rfl 0 rfl dX7_pass_47 48 rfl ?_
        refine gf_7_0 C gi_7 lkX7_7 dX7_pass_48 51 rfl ?_
        refine gv_iconst C 0 rfl dX7_pass_51 52 rfl ?_
        refine gv_ialdK C 0 (by decide) (gi_85 (c := 0) (by decide)) rfl (by decide) dX7_pass_52 53 rfl ?_
        obtain rfl := Option.some.inj h
        exact gv_iret C E rfl rfl dX7_pass_53
      · replace h := gm_iq c4 h
        refine gv_aload_n C rfl 0 rfl dX7_pass_37 38 rfl ?_
        obtain ⟨q5, hq5, h⟩ := gm_bd h
        refine gv_callVv C mc_yX7_tick ⟨mi_yX7_tick, me_yX7_tick⟩ (by decide) mkX7_133 gi_7 ⟨_, rfl⟩ rfl rfl (kX7_tick _  _ _ hq5) rfl rfl (Nat.le_of_ble_eq_true rfl) dX7_pass_38 41 rfl ?_
        refine gv_iinc C 2 rfl rfl [(2, _), (0, _), (1, _)] (by decide) rfl dX7_pass_41 44 rfl ?_
        refine gv_goto C dX7_pass_44 32 (by decide) ?_
        refine gm_ls [1, 2, 0] rfl ?_
        exact ih32 _ _ h
  refine gm_lv (lv' := [(0, _), (1, _)]) rfl ?_
  refine gv_iload_n C rfl 1 rfl dX7_pass_0 1 rfl ?_
  refine gv_iconst C 1 rfl dX7_pass_1 2 rfl ?_
  refine gv_sipush C 1000 rfl dX7_pass_2 5 rfl ?_
  obtain ⟨q1, hq1, h⟩ := gm_bd h
  refine gv_callSi C mc_yX7_in ms_yX7_in (by decide) mkX7_40 (kX7_in _ _ _ _ _ _ hq1) rfl rfl (Nat.le_of_ble_eq_true rfl) dX7_pass_5 8 rfl ?_
  refine gv_if_ne C dX7_pass_8 14 (by decide) 11 rfl (fun c2 => ?_) (fun c2 => ?_)
  · replace h := gm_ip c2 h
    refine gv_bipush C (-2) rfl dX7_pass_11 13 rfl ?_
    obtain rfl := Option.some.inj h
    exact gv_iret C E rfl rfl dX7_pass_13
  · replace h := gm_iq c2 h
    refine gv_aload_n C rfl 0 rfl dX7_pass_14 15 rfl ?_
    refine gf_7_0 C gi_7 lkX7_7 dX7_pass_15 18 rfl ?_
    refine gv_iconst C 0 rfl dX7_pass_18 19 rfl ?_
    refine gv_ialdK C 0 (by decide) (gi_85 (c := 0) (by decide)) rfl (by decide) dX7_pass_19 20 rfl ?_
    refine gv_iload_n C rfl 1 rfl dX7_pass_20 21 rfl ?_
    refine gv_iadd C dX7_pass_21 22 rfl ?_
    refine gv_ldc C 1000000 knX7_132 dX7_pass_22 24 rfl ?_
    refine gv_icmp_le C dX7_pass_24 30 (by decide) 27 rfl (fun c3 => ?_) (fun c3 => ?_)
    · replace h := gm_ip c3 h
      refine gv_iconst C 0 rfl dX7_pass_30 31 rfl ?_
      refine gv_istore_n C rfl [(2, _), (0, _), (1, _)] (by decide) rfl dX7_pass_31 32 rfl ?_
      refine gm_ls [1, 2, 0] rfl ?_
      exact L32 _ _ _ h
    · replace h := gm_iq c3 h
      refine gv_bipush C (-5) rfl dX7_pass_27 29 rfl ?_
      obtain rfl := Option.some.inj h
      exact gv_iret C E rfl rfl dX7_pass_29
set_option maxRecDepth 100000 in
set_option maxHeartbeats 4000000 in
theorem kX7_signal (w : gm_Wd) (a1 a2 : Int32) (G : Gm) (q : Int32) (h : fX7_signal a1 a2 G = some q) : gm_C w yX7_signal cX7_signal 4 (some .int) 1 [.ref (gm_ad w 7 5 0), .int a1, .int a2] G (some (.int q)) G := by
  refine gm_start (by decide) (Nat.le_of_ble_eq_true rfl) ?_
  intro x hw C E
  subst hw
  have C : gm_X x cX7_signal 4 RX7 (some .int) 1 := C
  unfold fX7_signal at h
  refine gm_lv (lv' := [(0, _), (1, _), (2, _)]) rfl ?_
  refine gv_iload_n C rfl 2 rfl dX7_signal_0 1 rfl ?_
  refine gv_iconst C 0 rfl dX7_signal_1 2 rfl ?_
  refine gv_iconst C 4 rfl dX7_signal_2 3 rfl ?_
  obtain ⟨q1, hq1, h⟩ := gm_bd h
  refine gv_callSi C mc_yX7_in ms_yX7_in (by decide) mkX7_40 (kX7_in _ _ _ _ _ _ hq1) rfl rfl (Nat.le_of_ble_eq_true rfl) dX7_signal_3 6 rfl ?_
  refine gv_if_ne C dX7_signal_6 12 (by decide) 9 rfl (fun c2 => ?_) (fun c2 => ?_)
  · replace h := gm_ip c2 h
    refine gv_bipush C (-2) rfl dX7_signal_9 11 rfl ?_
    obtain rfl := Option.some.inj h
    exact gv_iret C E rfl rfl dX7_signal_11
  · replace h := gm_iq c2 h
    refine gv_iload_n C rfl 1 rfl dX7_signal_12 13 rfl ?_
    refine gv_iconst C 0 rfl dX7_signal_13 14 rfl ?_
    refine gv_aload_n C rfl 0 rfl dX7_signal_14 15 rfl ?_
    refine gf_7_0 C gi_7 lkX7_7 dX7_signal_15 18 rfl ?_
    refine gv_bipush C 80 rfl dX7_signal_18 20 rfl ?_
    refine gv_ialdK C 80 (by decide) (gi_85 (c := 0) (by decide)) rfl (by decide) dX7_signal_20 21 rfl ?_
    refine gv_iconst C 1 rfl dX7_signal_21 22 rfl ?_
    refine gv_isub C dX7_signal_22 23 rfl ?_
    obtain ⟨q3, hq3, h⟩ := gm_bd h
    refine gv_callSi C mc_yX7_in ms_yX7_in (by decide) mkX7_40 (kX7_in _ _ _ _ _ _ hq3) rfl rfl (Nat.le_of_ble_eq_true rfl) dX7_signal_23 26 rfl ?_
    refine gv_if_eq C dX7_signal_26 47 (by decide) 29 rfl (fun c4 => ?_) (fun c4 => ?_)
    · replace h := gm_ip c4 h
      refine gv_iconst C 0 rfl dX7_signal_47 48 rfl ?_
      refine gv_istore_n C rfl [(3, _), (0, _), (1, _), (2, _)] (by decide) rfl dX7_signal_48 49 rfl ?_
      refine gv_iload_n C rfl 0 rfl dX7_signal_49 50 rfl ?_
      refine gv_if_eq C dX7_signal_50 72 (by decide) 53 rfl (fun c5 => ?_) (fun c5 => ?_)
      rotate_left
      · exact absurd (by decide) c5
      refine gv_bipush C (-6) rfl dX7_signal_72 74 rfl ?_
      obtain rfl := Option.some.inj h
      exact gv_iret C E rfl rfl dX7_signal_74
    · replace h := gm_iq c4 h
      refine gv_iload_n C rfl 1 rfl dX7_signal_29 30 rfl ?_
      refine gv_aload_n C rfl 0 rfl dX7_signal_30 31 rfl ?_
      refine gf_7_0 C gi_7 lkX7_7 dX7_signal_31 34 rfl ?_
      refine gv_bipush C 80 rfl dX7_signal_34 36 rfl ?_
      refine gv_ialdK C 80 (by decide) (gi_85 (c := 0) (by decide)) rfl (by decide) dX7_signal_36 37 rfl ?_
      refine gv_bipush C 60 rfl dX7_signal_37 39 rfl ?_
      refine gv_isub C dX7_signal_39 40 rfl ?_
      refine gv_icmp_lt C dX7_signal_40 47 (by decide) 43 rfl (fun c6 => ?_) (fun c6 => ?_)
      · replace h := gm_ip c6 h
        refine gv_iconst C 0 rfl dX7_signal_47 48 rfl ?_
        refine gv_istore_n C rfl [(3, _), (0, _), (1, _), (2, _)] (by decide) rfl dX7_signal_48 49 rfl ?_
        refine gv_iload_n C rfl 0 rfl dX7_signal_49 50 rfl ?_
        refine gv_if_eq C dX7_signal_50 72 (by decide) 53 rfl (fun c7 => ?_) (fun c7 => ?_)
        rotate_left
        · exact absurd (by decide) c7
        refine gv_bipush C (-6) rfl dX7_signal_72 74 rfl ?_
        obtain rfl := Option.some.inj h
        exact gv_iret C E rfl rfl dX7_signal_74
      · replace h := gm_iq c6 h
        refine gv_iconst C 1 rfl dX7_signal_43 44 rfl ?_
        refine gv_goto C dX7_signal_44 48 (by decide) ?_
        refine gv_istore_n C rfl [(3, _), (0, _), (1, _), (2, _)] (by decide) rfl dX7_signal_48 49 rfl ?_
        refine gv_iload_n C rfl 0 rfl dX7_signal_49 50 rfl ?_
        refine gv_if_eq C dX7_signal_50 72 (by decide) 53 rfl (fun c8 => ?_) (fun c8 => ?_)
        · exact absurd c8 (by decide)
        refine gv_aload_n C rfl 1 rfl dX7_signal_53 54 rfl ?_
        refine gf_7_0 C gi_7 lkX7_7 dX7_signal_54 57 rfl ?_
        refine gv_bipush C 81 rfl dX7_signal_57 59 rfl ?_
        refine gv_iconst C 5 rfl dX7_signal_59 60 rfl ?_
        refine gv_iload_n C rfl 2 rfl dX7_signal_60 61 rfl ?_
        refine gv_bipush C 60 rfl dX7_signal_61 63 rfl ?_
        refine gv_irem C (by decide) dX7_signal_63 64 rfl ?_
        refine gv_imul C dX7_signal_64 65 rfl ?_
        refine gv_iadd C dX7_signal_65 66 rfl ?_
        refine gv_iload_n C rfl 3 rfl dX7_signal_66 67 rfl ?_
        refine gv_iadd C dX7_signal_67 68 rfl ?_
        obtain ⟨g9, h⟩ := gm_gis h
        refine gv_iald C (gi_85 (c := 0) (by decide)) rfl g9 dX7_signal_68 69 rfl ?_
        refine gv_goto C dX7_signal_69 74 (by decide) ?_
        obtain rfl := Option.some.inj h
        exact gv_iret C E rfl rfl dX7_signal_74
set_option maxRecDepth 100000 in
set_option maxHeartbeats 4000000 in
theorem kX7_rung (w : gm_Wd) (a1 a2 : Int32) (G : Gm) (q : Int32) (h : fX7_rung a1 a2 G = some q) : gm_C w yX7_rung cX7_rung 6 (some .int) 2 [.ref (gm_ad w 7 5 0), .int a1, .int a2] G (some (.int q)) G := by
  refine gm_start (by decide) (Nat.le_of_ble_eq_true rfl) ?_
  intro x hw C E
  subst hw
  have C : gm_X x cX7_rung 6 RX7 (some .int) 2 := C
  unfold fX7_rung at h
  have L46 : ∀ (n46 : Nat) (v3 v4 v5 : Int32), fX7_rung_h46 a1 a2 G n46 v3 v4 v5 = some q → gm_V x G 46 [(0, .ref (gm_ad (cx_w x) 7 5 0)), (1, .int a1), (2, .int a2), (3, .int v3), (4, .int v4), (5, .int v5)] [] := by
    intro n46
    induction n46 with
    | zero => intro v3 v4 v5 h; cases h
    | succ n46 ih46 =>
      intro v3 v4 v5 h
      rw [fX7_rung_h46.eq_2] at h
      refine gv_iload C 5 rfl dX7_rung_46 48 rfl ?_
      refine gv_iload_n C rfl 3 rfl dX7_rung_48 49 rfl ?_
      refine gv_icmp_ge C dX7_rung_49 109 (by decide) 52 rfl (fun c3 => ?_) (fun c3 => ?_)
      · replace h := gm_ip c3 h
        refine gv_iload C 4 rfl dX7_rung_109 111 rfl ?_
        obtain rfl := Option.some.inj h
        exact gv_iret C E rfl rfl dX7_rung_111
      · replace h := gm_iq c3 h
        refine gv_iload C 4 rfl dX7_rung_52 54 rfl ?_
        refine gv_aload_n C rfl 0 rfl dX7_rung_54 55 rfl ?_
        refine gf_7_0 C gi_7 lkX7_7 dX7_rung_55 58 rfl ?_
        refine gv_bipush C 81 rfl dX7_rung_58 60 rfl ?_
        refine gv_iconst C 5 rfl dX7_rung_60 61 rfl ?_
        refine gv_iload C 5 rfl dX7_rung_61 63 rfl ?_
        refine gv_imul C dX7_rung_63 64 rfl ?_
        refine gv_iadd C dX7_rung_64 65 rfl ?_
        refine gv_iconst C 4 rfl dX7_rung_65 66 rfl ?_
        refine gv_iadd C dX7_rung_66 67 rfl ?_
        obtain ⟨g4, h⟩ := gm_gis h
        refine gv_iald C (gi_85 (c := 0) (by decide)) rfl g4 dX7_rung_67 68 rfl ?_
        refine gv_iload_n C rfl 1 rfl dX7_rung_68 69 rfl ?_
        refine gv_icmp_ne C dX7_rung_69 99 (by decide) 72 rfl (fun c5 => ?_) (fun c5 => ?_)
        · replace h := gm_ip c5 h
          refine gv_iload_n C rfl 2 rfl dX7_rung_72 73 rfl ?_
          refine gv_iconst C (-1) rfl dX7_rung_73 74 rfl ?_
          refine gv_icmp_eq C dX7_rung_74 95 (by decide) 77 rfl (fun c6 => ?_) (fun c6 => ?_)
          · replace h := gm_ip c6 h
            refine gv_iconst C 1 rfl dX7_rung_95 96 rfl ?_
            refine gv_goto C dX7_rung_96 100 (by decide) ?_
            refine gv_iadd C dX7_rung_100 101 rfl ?_
            refine gv_istore C [(4, _), (0, _), (1, _), (2, _), (3, _), (5, _)] (by decide) rfl dX7_rung_101 103 rfl ?_
            refine gv_iinc C 5 rfl rfl [(5, _), (4, _), (0, _), (1, _), (2, _), (3, _)] (by decide) rfl dX7_rung_103 106 rfl ?_
            refine gv_goto C dX7_rung_106 46 (by decide) ?_
            refine gm_ls [2, 3, 4, 5, 1, 0] rfl ?_
            exact ih46 _ _ _ h
          · replace h := gm_iq c6 h
            refine gv_aload_n C rfl 0 rfl dX7_rung_77 78 rfl ?_
            refine gf_7_0 C gi_7 lkX7_7 dX7_rung_78 81 rfl ?_
            refine gv_bipush C 81 rfl dX7_rung_81 83 rfl ?_
            refine gv_iconst C 5 rfl dX7_rung_83 84 rfl ?_
            refine gv_iload C 5 rfl dX7_rung_84 86 rfl ?_
            refine gv_imul C dX7_rung_86 87 rfl ?_
            refine gv_iadd C dX7_rung_87 88 rfl ?_
            refine gv_iconst C 1 rfl dX7_rung_88 89 rfl ?_
            refine gv_iadd C dX7_rung_89 90 rfl ?_
            obtain ⟨g7, h⟩ := gm_gis h
            refine gv_iald C (gi_85 (c := 0) (by decide)) rfl g7 dX7_rung_90 91 rfl ?_
            refine gv_iload_n C rfl 2 rfl dX7_rung_91 92 rfl ?_
            refine gv_icmp_ne C dX7_rung_92 99 (by decide) 95 rfl (fun c8 => ?_) (fun c8 => ?_)
            · replace h := gm_ip c8 h
              refine gv_iconst C 1 rfl dX7_rung_95 96 rfl ?_
              refine gv_goto C dX7_rung_96 100 (by decide) ?_
              refine gv_iadd C dX7_rung_100 101 rfl ?_
              refine gv_istore C [(4, _), (0, _), (1, _), (2, _), (3, _), (5, _)] (by decide) rfl dX7_rung_101 103 rfl ?_
              refine gv_iinc C 5 rfl rfl [(5, _), (4, _), (0, _), (1, _), (2, _), (3, _)] (by decide) rfl dX7_rung_103 106 rfl ?_
              refine gv_goto C dX7_rung_106 46 (by decide) ?_
              refine gm_ls [2, 3, 4, 5, 1, 0] rfl ?_
              exact ih46 _ _ _ h
            · replace h := gm_iq c8 h
              refine gv_iconst C 0 rfl dX7_rung_99 100 rfl ?_
              refine gv_iadd C dX7_rung_100 101 rfl ?_
              refine gv_istore C [(4, _), (0, _), (1, _), (2, _), (3, _), (5, _)] (by decide) rfl dX7_rung_101 103 rfl ?_
              refine gv_iinc C 5 rfl rfl [(5, _), (4, _), (0, _), (1, _), (2, _), (3, _)] (by decide) rfl dX7_rung_103 106 rfl ?_
              refine gv_goto C dX7_rung_106 46 (by decide) ?_
              refine gm_ls [2, 3, 4, 5, 1, 0] rfl ?_
              exact ih46 _ _ _ h
        · replace h := gm_iq c5 h
          refine gv_iconst C 0 rfl dX7_rung_99 100 rfl ?_
          refine gv_iadd C dX7_rung_100 101 rfl ?_
          refine gv_istore C [(4, _), (0, _), (1, _), (2, _), (3, _), (5, _)] (by decide) rfl dX7_rung_101 103 rfl ?_
          refine gv_iinc C 5 rfl rfl [(5, _), (4, _), (0, _), (1, _), (2, _), (3, _)] (by decide) rfl dX7_rung_103 106 rfl ?_
          refine gv_goto C dX7_rung_106 46 (by decide) ?_
          refine gm_ls [2, 3, 4, 5, 1, 0] rfl ?_
          exact ih46 _ _ _ h
  refine gm_lv (lv' := [(0, _), (1, _), (2, _)]) rfl ?_
  refine gv_iload_n C rfl 2 rfl dX7_rung_0 1 rfl ?_
  refine gv_iconst C (-1) rfl dX7_rung_1 2 rfl ?_
  refine gv_icmp_eq C dX7_rung_2 15 (by decide) 5 rfl (fun c1 => ?_) (fun c1 => ?_)
  · replace h := gm_ip c1 h
    refine gv_aload_n C rfl 0 rfl dX7_rung_15 16 rfl ?_
    refine gf_7_0 C gi_7 lkX7_7 dX7_rung_16 19 rfl ?_
    refine gv_bipush C 80 rfl dX7_rung_19 21 rfl ?_
    refine gv_ialdK C 80 (by decide) (gi_85 (c := 0) (by decide)) rfl (by decide) dX7_rung_21 22 rfl ?_
    refine gv_bipush C 60 rfl dX7_rung_22 24 rfl ?_
    refine gv_icmp_ge C dX7_rung_24 37 (by decide) 27 rfl (fun c2 => ?_) (fun c2 => ?_)
    · replace h := gm_ip c2 h
      refine gv_bipush C 60 rfl dX7_rung_37 39 rfl ?_
      refine gv_istore_n C rfl [(3, _), (0, _), (1, _), (2, _)] (by decide) rfl dX7_rung_39 40 rfl ?_
      refine gv_iconst C 0 rfl dX7_rung_40 41 rfl ?_
      refine gv_istore C [(4, _), (3, _), (0, _), (1, _), (2, _)] (by decide) rfl dX7_rung_41 43 rfl ?_
      refine gv_iconst C 0 rfl dX7_rung_43 44 rfl ?_
      refine gv_istore C [(5, _), (4, _), (3, _), (0, _), (1, _), (2, _)] (by decide) rfl dX7_rung_44 46 rfl ?_
      refine gm_ls [3, 4, 5, 2, 1, 0] rfl ?_
      exact L46 _ _ _ _ h
    · replace h := gm_iq c2 h
      refine gv_aload_n C rfl 0 rfl dX7_rung_27 28 rfl ?_
      refine gf_7_0 C gi_7 lkX7_7 dX7_rung_28 31 rfl ?_
      refine gv_bipush C 80 rfl dX7_rung_31 33 rfl ?_
      refine gv_ialdK C 80 (by decide) (gi_85 (c := 0) (by decide)) rfl (by decide) dX7_rung_33 34 rfl ?_
      refine gv_goto C dX7_rung_34 39 (by decide) ?_
      refine gv_istore_n C rfl [(3, _), (0, _), (1, _), (2, _)] (by decide) rfl dX7_rung_39 40 rfl ?_
      refine gv_iconst C 0 rfl dX7_rung_40 41 rfl ?_
      refine gv_istore C [(4, _), (3, _), (0, _), (1, _), (2, _)] (by decide) rfl dX7_rung_41 43 rfl ?_
      refine gv_iconst C 0 rfl dX7_rung_43 44 rfl ?_
      refine gv_istore C [(5, _), (4, _), (3, _), (0, _), (1, _), (2, _)] (by decide) rfl dX7_rung_44 46 rfl ?_
      refine gm_ls [3, 4, 5, 2, 1, 0] rfl ?_
      exact L46 _ _ _ _ h
  · replace h := gm_iq c1 h
    refine gv_aload_n C rfl 0 rfl dX7_rung_5 6 rfl ?_
    refine gv_iload_n C rfl 2 rfl dX7_rung_6 7 rfl ?_
    obtain ⟨q9, hq9, h⟩ := gm_bd h
    refine gv_callVi C mc_yX7_isSection ⟨mi_yX7_isSection, me_yX7_isSection⟩ (by decide) mkX7_44 gi_7 ⟨_, rfl⟩ rfl rfl (kX7_isSection _ _ _ _ hq9) rfl rfl (Nat.le_of_ble_eq_true rfl) dX7_rung_7 10 rfl ?_
    refine gv_if_ne C dX7_rung_10 15 (by decide) 13 rfl (fun c10 => ?_) (fun c10 => ?_)
    · replace h := gm_ip c10 h
      refine gv_iconst C (-1) rfl dX7_rung_13 14 rfl ?_
      obtain rfl := Option.some.inj h
      exact gv_iret C E rfl rfl dX7_rung_14
    · replace h := gm_iq c10 h
      refine gv_aload_n C rfl 0 rfl dX7_rung_15 16 rfl ?_
      refine gf_7_0 C gi_7 lkX7_7 dX7_rung_16 19 rfl ?_
      refine gv_bipush C 80 rfl dX7_rung_19 21 rfl ?_
      refine gv_ialdK C 80 (by decide) (gi_85 (c := 0) (by decide)) rfl (by decide) dX7_rung_21 22 rfl ?_
      refine gv_bipush C 60 rfl dX7_rung_22 24 rfl ?_
      refine gv_icmp_ge C dX7_rung_24 37 (by decide) 27 rfl (fun c11 => ?_) (fun c11 => ?_)
      · replace h := gm_ip c11 h
        refine gv_bipush C 60 rfl dX7_rung_37 39 rfl ?_
        refine gv_istore_n C rfl [(3, _), (0, _), (1, _), (2, _)] (by decide) rfl dX7_rung_39 40 rfl ?_
        refine gv_iconst C 0 rfl dX7_rung_40 41 rfl ?_
        refine gv_istore C [(4, _), (3, _), (0, _), (1, _), (2, _)] (by decide) rfl dX7_rung_41 43 rfl ?_
        refine gv_iconst C 0 rfl dX7_rung_43 44 rfl ?_
        refine gv_istore C [(5, _), (4, _), (3, _), (0, _), (1, _), (2, _)] (by decide) rfl dX7_rung_44 46 rfl ?_
        refine gm_ls [3, 4, 5, 2, 1, 0] rfl ?_
        exact L46 _ _ _ _ h
      · replace h := gm_iq c11 h
        refine gv_aload_n C rfl 0 rfl dX7_rung_27 28 rfl ?_
        refine gf_7_0 C gi_7 lkX7_7 dX7_rung_28 31 rfl ?_
        refine gv_bipush C 80 rfl dX7_rung_31 33 rfl ?_
        refine gv_ialdK C 80 (by decide) (gi_85 (c := 0) (by decide)) rfl (by decide) dX7_rung_33 34 rfl ?_
        refine gv_goto C dX7_rung_34 39 (by decide) ?_
        refine gv_istore_n C rfl [(3, _), (0, _), (1, _), (2, _)] (by decide) rfl dX7_rung_39 40 rfl ?_
        refine gv_iconst C 0 rfl dX7_rung_40 41 rfl ?_
        refine gv_istore C [(4, _), (3, _), (0, _), (1, _), (2, _)] (by decide) rfl dX7_rung_41 43 rfl ?_
        refine gv_iconst C 0 rfl dX7_rung_43 44 rfl ?_
        refine gv_istore C [(5, _), (4, _), (3, _), (0, _), (1, _), (2, _)] (by decide) rfl dX7_rung_44 46 rfl ?_
        refine gm_ls [3, 4, 5, 2, 1, 0] rfl ?_
        exact L46 _ _ _ _ h
set_option maxRecDepth 100000 in
set_option maxHeartbeats 4000000 in
theorem kX7_trainsAt (w : gm_Wd) (a1 : Int32) (G : Gm) (q : Int32) (h : fX7_trainsAt a1 G = some q) : gm_C w yX7_trainsAt cX7_trainsAt 4 (some .int) 1 [.ref (gm_ad w 7 5 0), .int a1] G (some (.int q)) G := by
  refine gm_start (by decide) (Nat.le_of_ble_eq_true rfl) ?_
  intro x hw C E
  subst hw
  have C : gm_X x cX7_trainsAt 4 RX7 (some .int) 1 := C
  unfold fX7_trainsAt at h
  have L4 : ∀ (n4 : Nat) (v2 v3 : Int32), fX7_trainsAt_h4 a1 G n4 v2 v3 = some q → gm_V x G 4 [(0, .ref (gm_ad (cx_w x) 7 5 0)), (1, .int a1), (2, .int v2), (3, .int v3)] [] := by
    intro n4
    induction n4 with
    | zero => intro v2 v3 h; cases h
    | succ n4 ih4 =>
      intro v2 v3 h
      rw [fX7_trainsAt_h4.eq_2] at h
      refine gv_iload_n C rfl 3 rfl dX7_trainsAt_4 5 rfl ?_
      refine gv_aload_n C rfl 0 rfl dX7_trainsAt_5 6 rfl ?_
      refine gf_7_0 C gi_7 lkX7_7 dX7_trainsAt_6 9 rfl ?_
      refine gv_sipush C 381 rfl dX7_trainsAt_9 12 rfl ?_
      refine gv_ialdK C 381 (by decide) (gi_85 (c := 0) (by decide)) rfl (by decide) dX7_trainsAt_12 13 rfl ?_
      refine gv_icmp_ge C dX7_trainsAt_13 40 (by decide) 16 rfl (fun c1 => ?_) (fun c1 => ?_)
      · replace h := gm_ip c1 h
        refine gv_iload_n C rfl 2 rfl dX7_trainsAt_40 41 rfl ?_
        obtain rfl := Option.some.inj h
        exact gv_iret C E rfl rfl dX7_trainsAt_41
      · replace h := gm_iq c1 h
        refine gv_iload_n C rfl 2 rfl dX7_trainsAt_16 17 rfl ?_
        refine gv_aload_n C rfl 0 rfl dX7_trainsAt_17 18 rfl ?_
        refine gv_iload_n C rfl 3 rfl dX7_trainsAt_18 19 rfl ?_
        refine gv_iconst C 2 rfl dX7_trainsAt_19 20 rfl ?_
        obtain ⟨q2, hq2, h⟩ := gm_bd h
        refine gv_callVi C mc_yX7_ofTrain ⟨mi_yX7_ofTrain, me_yX7_ofTrain⟩ (by decide) mkX7_61 gi_7 ⟨_, rfl⟩ rfl rfl (kX7_ofTrain _ _ _ _ _ hq2) rfl rfl (Nat.le_of_ble_eq_true rfl) dX7_trainsAt_20 23 rfl ?_
        refine gv_iload_n C rfl 1 rfl dX7_trainsAt_23 24 rfl ?_
        refine gv_icmp_ne C dX7_trainsAt_24 31 (by decide) 27 rfl (fun c3 => ?_) (fun c3 => ?_)
        · replace h := gm_ip c3 h
          refine gv_iconst C 1 rfl dX7_trainsAt_27 28 rfl ?_
          refine gv_goto C dX7_trainsAt_28 32 (by decide) ?_
          refine gv_iadd C dX7_trainsAt_32 33 rfl ?_
          refine gv_istore_n C rfl [(2, _), (0, _), (1, _), (3, _)] (by decide) rfl dX7_trainsAt_33 34 rfl ?_
          refine gv_iinc C 3 rfl rfl [(3, _), (2, _), (0, _), (1, _)] (by decide) rfl dX7_trainsAt_34 37 rfl ?_
          refine gv_goto C dX7_trainsAt_37 4 (by decide) ?_
          refine gm_ls [2, 3, 1, 0] rfl ?_
          exact ih4 _ _ h
        · replace h := gm_iq c3 h
          refine gv_iconst C 0 rfl dX7_trainsAt_31 32 rfl ?_
          refine gv_iadd C dX7_trainsAt_32 33 rfl ?_
          refine gv_istore_n C rfl [(2, _), (0, _), (1, _), (3, _)] (by decide) rfl dX7_trainsAt_33 34 rfl ?_
          refine gv_iinc C 3 rfl rfl [(3, _), (2, _), (0, _), (1, _)] (by decide) rfl dX7_trainsAt_34 37 rfl ?_
          refine gv_goto C dX7_trainsAt_37 4 (by decide) ?_
          refine gm_ls [2, 3, 1, 0] rfl ?_
          exact ih4 _ _ h
  refine gm_lv (lv' := [(0, _), (1, _)]) rfl ?_
  refine gv_iconst C 0 rfl dX7_trainsAt_0 1 rfl ?_
  refine gv_istore_n C rfl [(2, _), (0, _), (1, _)] (by decide) rfl dX7_trainsAt_1 2 rfl ?_
  refine gv_iconst C 0 rfl dX7_trainsAt_2 3 rfl ?_
  refine gv_istore_n C rfl [(3, _), (2, _), (0, _), (1, _)] (by decide) rfl dX7_trainsAt_3 4 rfl ?_
  refine gm_ls [2, 3, 1, 0] rfl ?_
  exact L4 _ _ _ h
set_option maxRecDepth 100000 in
set_option maxHeartbeats 4000000 in
theorem kX7_workBlocks (w : gm_Wd) (a1 : Int32) (G : Gm) (q : Gm) (h : fX7_workBlocks a1 G = some q) : gm_C w yX7_workBlocks cX7_workBlocks 4 none 5 [.ref (gm_ad w 7 5 0), .int a1] G none q := by
  refine gm_start (by decide) (Nat.le_of_ble_eq_true rfl) ?_
  intro x hw C E
  subst hw
  have C : gm_X x cX7_workBlocks 4 RX7 none 5 := C
  unfold fX7_workBlocks at h
  have L12 : ∀ (k2 : Int32 → Gm → Option (Gm)) (K2 : ∀ (v2 : Int32) (G : Gm), k2 v2 G = some q → gm_V x G 2 [(0, .ref (gm_ad (cx_w x) 7 5 0)), (1, .int a1), (2, .int v2)] []) (n12 : Nat) (v2 v3 : Int32) (G : Gm), fX7_workBlocks_h12 a1 k2 n12 v2 v3 G = some q → gm_V x G 12 [(0, .ref (gm_ad (cx_w x) 7 5 0)), (1, .int a1), (2, .int v2), (3, .int v3)] [] := by
    intro k2 K2
    intro n12
    induction n12 with
    | zero => intro v2 v3 G h; cases h
    | succ n12 ih12 =>
      intro v2 v3 G h
      rw [fX7_workBlocks_h12.eq_2] at h
      refine gv_iload_n C rfl 3 rfl dX7_workBlocks_12 13 rfl ?_
      refine gv_iconst C 2 rfl dX7_workBlocks_13 14 rfl ?_
      refine gv_icmp_ge C dX7_workBlocks_14 98 (by decide) 17 rfl (fun c3 => ?_) (fun c3 => ?_)
      · replace h := gm_ip c3 h
        refine gv_iinc C 2 rfl rfl [(2, _), (0, _), (1, _), (3, _)] (by decide) rfl dX7_workBlocks_98 101 rfl ?_
        refine gv_goto C dX7_workBlocks_101 2 (by decide) ?_
        refine gm_ls [1, 2, 0] rfl ?_
        exact K2 _ _ h
      · replace h := gm_iq c3 h
        refine gv_iload_n C rfl 1 rfl dX7_workBlocks_17 18 rfl ?_
        by_cases c4 : a1 = 0
        · replace h := gm_ip c4 h
          refine gv_tableIn C 0 c4 dX7_workBlocks_18 (by decide) (by decide) (o := 26) (by decide) 44 (by decide) ?_
          refine gv_aload_n C rfl 0 rfl dX7_workBlocks_44 45 rfl ?_
          refine gv_iload_n C rfl 2 rfl dX7_workBlocks_45 46 rfl ?_
          refine gv_iload_n C rfl 3 rfl dX7_workBlocks_46 47 rfl ?_
          obtain ⟨q12, hq12, h⟩ := gm_bd h
          refine gv_callVi C mc_yX7_out ⟨mi_yX7_out, me_yX7_out⟩ (by decide) mkX7_136 gi_7 ⟨_, rfl⟩ rfl rfl (kX7_out _ _ _ _ _ hq12) rfl rfl (Nat.le_of_ble_eq_true rfl) dX7_workBlocks_47 50 rfl ?_
          refine gv_pop C rfl dX7_workBlocks_50 51 rfl ?_
          refine gv_goto C dX7_workBlocks_51 92 (by decide) ?_
          refine gv_iinc C 3 rfl rfl [(3, _), (0, _), (1, _), (2, _)] (by decide) rfl dX7_workBlocks_92 95 rfl ?_
          refine gv_goto C dX7_workBlocks_95 12 (by decide) ?_
          refine gm_ls [1, 2, 3, 0] rfl ?_
          exact ih12 _ _ _ h
        · replace h := gm_iq c4 h
          by_cases c5 : a1 = 1
          · replace h := gm_ip c5 h
            refine gv_tableIn C 1 c5 dX7_workBlocks_18 (by decide) (by decide) (o := 36) (by decide) 54 (by decide) ?_
            refine gv_aload_n C rfl 0 rfl dX7_workBlocks_54 55 rfl ?_
            refine gv_iload_n C rfl 2 rfl dX7_workBlocks_55 56 rfl ?_
            refine gv_iload_n C rfl 3 rfl dX7_workBlocks_56 57 rfl ?_
            obtain ⟨q11, hq11, h⟩ := gm_bd h
            refine gv_callVi C mc_yX7_assist ⟨mi_yX7_assist, me_yX7_assist⟩ (by decide) mkX7_139 gi_7 ⟨_, rfl⟩ rfl rfl (kX7_assist _ _ _ _ _ hq11) rfl rfl (Nat.le_of_ble_eq_true rfl) dX7_workBlocks_57 60 rfl ?_
            refine gv_pop C rfl dX7_workBlocks_60 61 rfl ?_
            refine gv_goto C dX7_workBlocks_61 92 (by decide) ?_
            refine gv_iinc C 3 rfl rfl [(3, _), (0, _), (1, _), (2, _)] (by decide) rfl dX7_workBlocks_92 95 rfl ?_
            refine gv_goto C dX7_workBlocks_95 12 (by decide) ?_
            refine gm_ls [1, 2, 3, 0] rfl ?_
            exact ih12 _ _ _ h
          · replace h := gm_iq c5 h
            by_cases c6 : a1 = 2
            · replace h := gm_ip c6 h
              refine gv_tableIn C 2 c6 dX7_workBlocks_18 (by decide) (by decide) (o := 46) (by decide) 64 (by decide) ?_
              refine gv_aload_n C rfl 0 rfl dX7_workBlocks_64 65 rfl ?_
              refine gv_iload_n C rfl 2 rfl dX7_workBlocks_65 66 rfl ?_
              refine gv_iload_n C rfl 3 rfl dX7_workBlocks_66 67 rfl ?_
              obtain ⟨q10, hq10, h⟩ := gm_bd h
              refine gv_callVi C mc_yX7_admit ⟨mi_yX7_admit, me_yX7_admit⟩ (by decide) mkX7_142 gi_7 ⟨_, rfl⟩ rfl rfl (kX7_admit _ _ _ _ _ hq10) rfl rfl (Nat.le_of_ble_eq_true rfl) dX7_workBlocks_67 70 rfl ?_
              refine gv_pop C rfl dX7_workBlocks_70 71 rfl ?_
              refine gv_goto C dX7_workBlocks_71 92 (by decide) ?_
              refine gv_iinc C 3 rfl rfl [(3, _), (0, _), (1, _), (2, _)] (by decide) rfl dX7_workBlocks_92 95 rfl ?_
              refine gv_goto C dX7_workBlocks_95 12 (by decide) ?_
              refine gm_ls [1, 2, 3, 0] rfl ?_
              exact ih12 _ _ _ h
            · replace h := gm_iq c6 h
              refine gv_tableD C dX7_workBlocks_18 [0, 1, 2] (by decide) (by decide) (List.forall_mem_cons.mpr ⟨lv_neT c4 rfl, (List.forall_mem_cons.mpr ⟨lv_neT c5 rfl, (List.forall_mem_cons.mpr ⟨lv_neT c6 rfl, (fun _ h => absurd h List.not_mem_nil)⟩)⟩)⟩) 74 (by decide) ?_
              refine gv_aload_n C rfl 0 rfl dX7_workBlocks_74 75 rfl ?_
              refine gv_iload_n C rfl 2 rfl dX7_workBlocks_75 76 rfl ?_
              refine gv_iload_n C rfl 3 rfl dX7_workBlocks_76 77 rfl ?_
              refine gv_iconst C 1 rfl dX7_workBlocks_77 78 rfl ?_
              obtain ⟨q7, hq7, h⟩ := gm_bd h
              refine gv_callVi C mc_yX7_answer ⟨mi_yX7_answer, me_yX7_answer⟩ (by decide) mkX7_145 gi_7 ⟨_, rfl⟩ rfl rfl (kX7_answer _ _ _ _ _ _ hq7) rfl rfl (Nat.le_of_ble_eq_true rfl) dX7_workBlocks_78 81 rfl ?_
              refine gv_if_ge C dX7_workBlocks_81 92 (by decide) 84 rfl (fun c8 => ?_) (fun c8 => ?_)
              · replace h := gm_ip c8 h
                refine gv_iinc C 3 rfl rfl [(3, _), (0, _), (1, _), (2, _)] (by decide) rfl dX7_workBlocks_92 95 rfl ?_
                refine gv_goto C dX7_workBlocks_95 12 (by decide) ?_
                refine gm_ls [1, 2, 3, 0] rfl ?_
                exact ih12 _ _ _ h
              · replace h := gm_iq c8 h
                refine gv_aload_n C rfl 0 rfl dX7_workBlocks_84 85 rfl ?_
                refine gv_iload_n C rfl 2 rfl dX7_workBlocks_85 86 rfl ?_
                refine gv_iload_n C rfl 3 rfl dX7_workBlocks_86 87 rfl ?_
                refine gv_iconst C 0 rfl dX7_workBlocks_87 88 rfl ?_
                obtain ⟨q9, hq9, h⟩ := gm_bd h
                refine gv_callVi C mc_yX7_answer ⟨mi_yX7_answer, me_yX7_answer⟩ (by decide) mkX7_145 gi_7 ⟨_, rfl⟩ rfl rfl (kX7_answer _ _ _ _ _ _ hq9) rfl rfl (Nat.le_of_ble_eq_true rfl) dX7_workBlocks_88 91 rfl ?_
                refine gv_pop C rfl dX7_workBlocks_91 92 rfl ?_
                refine gv_iinc C 3 rfl rfl [(3, _), (0, _), (1, _), (2, _)] (by decide) rfl dX7_workBlocks_92 95 rfl ?_
                refine gv_goto C dX7_workBlocks_95 12 (by decide) ?_
                refine gm_ls [1, 2, 3, 0] rfl ?_
                exact ih12 _ _ _ h
  have L2 : ∀ (n2 : Nat) (v2 : Int32) (G : Gm), fX7_workBlocks_h2 a1 n2 v2 G = some q → gm_V x G 2 [(0, .ref (gm_ad (cx_w x) 7 5 0)), (1, .int a1), (2, .int v2)] [] := by
    intro n2
    induction n2 with
    | zero => intro v2 G h; cases h
    | succ n2 ih2 =>
      intro v2 G h
      rw [fX7_workBlocks_h2.eq_2] at h
      refine gv_iload_n C rfl 2 rfl dX7_workBlocks_2 3 rfl ?_
      refine gv_aload_n C rfl 0 rfl dX7_workBlocks_3 4 rfl ?_
      obtain ⟨q1, hq1, h⟩ := gm_bd h
      refine gv_callVi C mc_yX7_sections ⟨mi_yX7_sections, me_yX7_sections⟩ (by decide) mkX7_36 gi_7 ⟨_, rfl⟩ rfl rfl (kX7_sections _  _ _ hq1) rfl rfl (Nat.le_of_ble_eq_true rfl) dX7_workBlocks_4 7 rfl ?_
      refine gv_icmp_ge C dX7_workBlocks_7 104 (by decide) 10 rfl (fun c2 => ?_) (fun c2 => ?_)
      · replace h := gm_ip c2 h
        obtain rfl := Option.some.inj h
        exact gv_vret C E rfl rfl dX7_workBlocks_104
      · replace h := gm_iq c2 h
        refine gv_iconst C 0 rfl dX7_workBlocks_10 11 rfl ?_
        refine gv_istore_n C rfl [(3, _), (0, _), (1, _), (2, _)] (by decide) rfl dX7_workBlocks_11 12 rfl ?_
        refine gm_ls [1, 2, 3, 0] rfl ?_
        exact L12 _ (fun v2 G h => ih2 v2 G h) _ _ _ _ h
  refine gm_lv (lv' := [(0, _), (1, _)]) rfl ?_
  refine gv_iconst C 0 rfl dX7_workBlocks_0 1 rfl ?_
  refine gv_istore_n C rfl [(2, _), (0, _), (1, _)] (by decide) rfl dX7_workBlocks_1 2 rfl ?_
  refine gm_ls [1, 2, 0] rfl ?_
  exact L2 _ _ _ h
set_option maxRecDepth 100000 in
set_option maxHeartbeats 4000000 in
theorem kX7_workTrains (w : gm_Wd) (a1 : Int32) (G : Gm) (q : Gm) (h : fX7_workTrains a1 G = some q) : gm_C w yX7_workTrains cX7_workTrains 3 none 5 [.ref (gm_ad w 7 5 0), .int a1] G none q := by
  refine gm_start (by decide) (Nat.le_of_ble_eq_true rfl) ?_
  intro x hw C E
  subst hw
  have C : gm_X x cX7_workTrains 3 RX7 none 5 := C
  unfold fX7_workTrains at h
  have L2 : ∀ (n2 : Nat) (v2 : Int32) (G : Gm), fX7_workTrains_h2 a1 n2 v2 G = some q → gm_V x G 2 [(0, .ref (gm_ad (cx_w x) 7 5 0)), (1, .int a1), (2, .int v2)] [] := by
    intro n2
    induction n2 with
    | zero => intro v2 G h; cases h
    | succ n2 ih2 =>
      intro v2 G h
      rw [fX7_workTrains_h2.eq_2] at h
      refine gv_iload_n C rfl 2 rfl dX7_workTrains_2 3 rfl ?_
      refine gv_aload_n C rfl 0 rfl dX7_workTrains_3 4 rfl ?_
      refine gf_7_0 C gi_7 lkX7_7 dX7_workTrains_4 7 rfl ?_
      refine gv_sipush C 381 rfl dX7_workTrains_7 10 rfl ?_
      refine gv_ialdK C 381 (by decide) (gi_85 (c := 0) (by decide)) rfl (by decide) dX7_workTrains_10 11 rfl ?_
      refine gv_icmp_ge C dX7_workTrains_11 70 (by decide) 14 rfl (fun c1 => ?_) (fun c1 => ?_)
      · replace h := gm_ip c1 h
        obtain rfl := Option.some.inj h
        exact gv_vret C E rfl rfl dX7_workTrains_70
      · replace h := gm_iq c1 h
        refine gv_iload_n C rfl 1 rfl dX7_workTrains_14 15 rfl ?_
        by_cases c2 : a1 = 0
        · replace h := gm_ip c2 h
          refine gv_lookup C dX7_workTrains_15 (by decide) (o := 25) (by rw [c2]; decide) 40 (by decide) ?_
          refine gv_aload_n C rfl 0 rfl dX7_workTrains_40 41 rfl ?_
          refine gv_iload_n C rfl 2 rfl dX7_workTrains_41 42 rfl ?_
          obtain ⟨q6, hq6, h⟩ := gm_bd h
          refine gv_callVi C mc_yX7_leave ⟨mi_yX7_leave, me_yX7_leave⟩ (by decide) mkX7_149 gi_7 ⟨_, rfl⟩ rfl rfl (kX7_leave _ _ _ _ hq6) rfl rfl (Nat.le_of_ble_eq_true rfl) dX7_workTrains_42 45 rfl ?_
          refine gv_pop C rfl dX7_workTrains_45 46 rfl ?_
          refine gv_goto C dX7_workTrains_46 64 (by decide) ?_
          refine gv_iinc C 2 rfl rfl [(2, _), (0, _), (1, _)] (by decide) rfl dX7_workTrains_64 67 rfl ?_
          refine gv_goto C dX7_workTrains_67 2 (by decide) ?_
          refine gm_ls [1, 2, 0] rfl ?_
          exact ih2 _ _ h
        · replace h := gm_iq c2 h
          by_cases c3 : a1 = 1
          · replace h := gm_ip c3 h
            refine gv_lookup C dX7_workTrains_15 (by decide) (o := 34) (by rw [c3]; decide) 49 (by decide) ?_
            refine gv_aload_n C rfl 0 rfl dX7_workTrains_49 50 rfl ?_
            refine gv_iload_n C rfl 2 rfl dX7_workTrains_50 51 rfl ?_
            obtain ⟨q5, hq5, h⟩ := gm_bd h
            refine gv_callVi C mc_yX7_offer ⟨mi_yX7_offer, me_yX7_offer⟩ (by decide) mkX7_152 gi_7 ⟨_, rfl⟩ rfl rfl (kX7_offer _ _ _ _ hq5) rfl rfl (Nat.le_of_ble_eq_true rfl) dX7_workTrains_51 54 rfl ?_
            refine gv_pop C rfl dX7_workTrains_54 55 rfl ?_
            refine gv_goto C dX7_workTrains_55 64 (by decide) ?_
            refine gv_iinc C 2 rfl rfl [(2, _), (0, _), (1, _)] (by decide) rfl dX7_workTrains_64 67 rfl ?_
            refine gv_goto C dX7_workTrains_67 2 (by decide) ?_
            refine gm_ls [1, 2, 0] rfl ?_
            exact ih2 _ _ h
          · replace h := gm_iq c3 h
            refine gv_lookup C dX7_workTrains_15 (by decide) (o := 43) ((lv_osw (k := 0) c2 rfl).trans ((lv_osw (k := 1) c3 rfl).trans rfl)) 58 (by decide) ?_
            refine gv_aload_n C rfl 0 rfl dX7_workTrains_58 59 rfl ?_
            refine gv_iload_n C rfl 2 rfl dX7_workTrains_59 60 rfl ?_
            obtain ⟨q4, hq4, h⟩ := gm_bd h
            refine gv_callVi C mc_yX7_depart ⟨mi_yX7_depart, me_yX7_depart⟩ (by decide) mkX7_155 gi_7 ⟨_, rfl⟩ rfl rfl (kX7_depart _ _ _ _ hq4) rfl rfl (Nat.le_of_ble_eq_true rfl) dX7_workTrains_60 63 rfl ?_
            refine gv_pop C rfl dX7_workTrains_63 64 rfl ?_
            refine gv_iinc C 2 rfl rfl [(2, _), (0, _), (1, _)] (by decide) rfl dX7_workTrains_64 67 rfl ?_
            refine gv_goto C dX7_workTrains_67 2 (by decide) ?_
            refine gm_ls [1, 2, 0] rfl ?_
            exact ih2 _ _ h
  refine gm_lv (lv' := [(0, _), (1, _)]) rfl ?_
  refine gv_iconst C 0 rfl dX7_workTrains_0 1 rfl ?_
  refine gv_istore_n C rfl [(2, _), (0, _), (1, _)] (by decide) rfl dX7_workTrains_1 2 rfl ?_
  refine gm_ls [1, 2, 0] rfl ?_
  exact L2 _ _ _ h
set_option maxRecDepth 100000 in
set_option maxHeartbeats 4000000 in
theorem kX7_workTick (w : gm_Wd) (G : Gm) (q : Gm) (h : fX7_workTick G = some q) : gm_C w yX7_workTick cX7_workTick 1 none 6 [.ref (gm_ad w 7 5 0)] G none q := by
  refine gm_start (by decide) (Nat.le_of_ble_eq_true rfl) ?_
  intro x hw C E
  subst hw
  have C : gm_X x cX7_workTick 1 RX7 none 6 := C
  unfold fX7_workTick at h
  refine gm_lv (lv' := [(0, _)]) rfl ?_
  refine gv_aload_n C rfl 0 rfl dX7_workTick_0 1 rfl ?_
  refine gv_iconst C 0 rfl dX7_workTick_1 2 rfl ?_
  obtain ⟨q1, hq1, h⟩ := gm_bd h
  refine gv_callVv C mc_yX7_workBlocks ⟨mi_yX7_workBlocks, me_yX7_workBlocks⟩ (by decide) mkX7_158 gi_7 ⟨_, rfl⟩ rfl rfl (kX7_workBlocks _ _ _ _ hq1) rfl rfl (Nat.le_of_ble_eq_true rfl) dX7_workTick_2 5 rfl ?_
  refine gv_aload_n C rfl 0 rfl dX7_workTick_5 6 rfl ?_
  refine gv_iconst C 1 rfl dX7_workTick_6 7 rfl ?_
  obtain ⟨q2, hq2, h⟩ := gm_bd h
  refine gv_callVv C mc_yX7_workBlocks ⟨mi_yX7_workBlocks, me_yX7_workBlocks⟩ (by decide) mkX7_158 gi_7 ⟨_, rfl⟩ rfl rfl (kX7_workBlocks _ _ _ _ hq2) rfl rfl (Nat.le_of_ble_eq_true rfl) dX7_workTick_7 10 rfl ?_
  refine gv_aload_n C rfl 0 rfl dX7_workTick_10 11 rfl ?_
  refine gv_iconst C 2 rfl dX7_workTick_11 12 rfl ?_
  obtain ⟨q3, hq3, h⟩ := gm_bd h
  refine gv_callVv C mc_yX7_workBlocks ⟨mi_yX7_workBlocks, me_yX7_workBlocks⟩ (by decide) mkX7_158 gi_7 ⟨_, rfl⟩ rfl rfl (kX7_workBlocks _ _ _ _ hq3) rfl rfl (Nat.le_of_ble_eq_true rfl) dX7_workTick_12 15 rfl ?_
  refine gv_aload_n C rfl 0 rfl dX7_workTick_15 16 rfl ?_
  refine gv_iconst C 0 rfl dX7_workTick_16 17 rfl ?_
  obtain ⟨q4, hq4, h⟩ := gm_bd h
  refine gv_callVv C mc_yX7_workTrains ⟨mi_yX7_workTrains, me_yX7_workTrains⟩ (by decide) mkX7_162 gi_7 ⟨_, rfl⟩ rfl rfl (kX7_workTrains _ _ _ _ hq4) rfl rfl (Nat.le_of_ble_eq_true rfl) dX7_workTick_17 20 rfl ?_
  refine gv_aload_n C rfl 0 rfl dX7_workTick_20 21 rfl ?_
  refine gv_iconst C 1 rfl dX7_workTick_21 22 rfl ?_
  obtain ⟨q5, hq5, h⟩ := gm_bd h
  refine gv_callVv C mc_yX7_workTrains ⟨mi_yX7_workTrains, me_yX7_workTrains⟩ (by decide) mkX7_162 gi_7 ⟨_, rfl⟩ rfl rfl (kX7_workTrains _ _ _ _ hq5) rfl rfl (Nat.le_of_ble_eq_true rfl) dX7_workTick_22 25 rfl ?_
  refine gv_aload_n C rfl 0 rfl dX7_workTick_25 26 rfl ?_
  refine gv_iconst C 3 rfl dX7_workTick_26 27 rfl ?_
  obtain ⟨q6, hq6, h⟩ := gm_bd h
  refine gv_callVv C mc_yX7_workBlocks ⟨mi_yX7_workBlocks, me_yX7_workBlocks⟩ (by decide) mkX7_158 gi_7 ⟨_, rfl⟩ rfl rfl (kX7_workBlocks _ _ _ _ hq6) rfl rfl (Nat.le_of_ble_eq_true rfl) dX7_workTick_27 30 rfl ?_
  refine gv_aload_n C rfl 0 rfl dX7_workTick_30 31 rfl ?_
  refine gv_iconst C 2 rfl dX7_workTick_31 32 rfl ?_
  obtain ⟨q7, hq7, h⟩ := gm_bd h
  refine gv_callVv C mc_yX7_workTrains ⟨mi_yX7_workTrains, me_yX7_workTrains⟩ (by decide) mkX7_162 gi_7 ⟨_, rfl⟩ rfl rfl (kX7_workTrains _ _ _ _ hq7) rfl rfl (Nat.le_of_ble_eq_true rfl) dX7_workTick_32 35 rfl ?_
  refine gv_aload_n C rfl 0 rfl dX7_workTick_35 36 rfl ?_
  obtain ⟨q8, hq8, h⟩ := gm_bd h
  refine gv_callVv C mc_yX7_tick ⟨mi_yX7_tick, me_yX7_tick⟩ (by decide) mkX7_133 gi_7 ⟨_, rfl⟩ rfl rfl (kX7_tick _  _ _ hq8) rfl rfl (Nat.le_of_ble_eq_true rfl) dX7_workTick_36 39 rfl ?_
  obtain rfl := Option.some.inj h
  exact gv_vret C E rfl rfl dX7_workTick_39
