set_option maxRecDepth 100000 in
set_option maxHeartbeats 4000000 in
theorem kX7_answer (w : gm_Wd) (a1 a2 a3 : Int32) (G : Gm) (q : Int32 × Gm) (h : fX7_answer a1 a2 a3 G = some q) : gm_C w yX7_answer cX7_answer 5 (some .int) 4 [.ref (gm_ad w 7 5 0), .int a1, .int a2, .int a3] G (some (.int q.1)) q.2 := by
  refine gm_start (by decide) (Nat.le_of_ble_eq_true rfl) ?_
  intro x hw C E
  subst hw
  have C : gm_X x cX7_answer 5 RX7 (some .int) 4 := C
  unfold fX7_answer at h
  refine gm_lv (lv' := [(0, _), (1, _), (2, _), (3, _)]) rfl ?_
  refine gv_aload_n C rfl 0 rfl dX7_answer_0 1 rfl ?_
  refine gv_iload_n C rfl 1 rfl dX7_answer_1 2 rfl ?_
  refine gv_iload_n C rfl 2 rfl dX7_answer_2 3 rfl ?_
  obtain ⟨q1, hq1, h⟩ := gm_bd h
  refine gv_callVi C mc_yX7_isBlock ⟨mi_yX7_isBlock, me_yX7_isBlock⟩ (by decide) mkX7_71 gi_7 ⟨_, rfl⟩ rfl rfl (kX7_isBlock _ _ _ _ _ hq1) rfl rfl (Nat.le_of_ble_eq_true rfl) dX7_answer_3 6 rfl ?_
  refine gv_if_ne C dX7_answer_6 11 (by decide) 9 rfl (fun c2 => ?_) (fun c2 => ?_)
  · replace h := gm_ip c2 h
    refine gv_iconst C (-1) rfl dX7_answer_9 10 rfl ?_
    obtain rfl := Option.some.inj h
    exact gv_iret C E rfl rfl dX7_answer_10
  · replace h := gm_iq c2 h
    refine gv_aload_n C rfl 0 rfl dX7_answer_11 12 rfl ?_
    refine gv_iload_n C rfl 1 rfl dX7_answer_12 13 rfl ?_
    refine gv_iload_n C rfl 2 rfl dX7_answer_13 14 rfl ?_
    refine gv_iconst C 1 rfl dX7_answer_14 15 rfl ?_
    obtain ⟨q3, hq3, h⟩ := gm_bd h
    refine gv_callVi C mc_yX7_ofBlock ⟨mi_yX7_ofBlock, me_yX7_ofBlock⟩ (by decide) mkX7_55 gi_7 ⟨_, rfl⟩ rfl rfl (kX7_ofBlock _ _ _ _ _ _ hq3) rfl rfl (Nat.le_of_ble_eq_true rfl) dX7_answer_15 18 rfl ?_
    refine gv_istore C [(4, _), (0, _), (1, _), (2, _), (3, _)] (by decide) rfl dX7_answer_18 20 rfl ?_
    refine gv_iload C 0 rfl dX7_answer_20 22 rfl ?_
    refine gv_if_lt C dX7_answer_22 38 (by decide) 25 rfl (fun c4 => ?_) (fun c4 => ?_)
    · replace h := gm_ip c4 h
      refine gv_bipush C (-5) rfl dX7_answer_38 40 rfl ?_
      obtain rfl := Option.some.inj h
      exact gv_iret C E rfl rfl dX7_answer_40
    · replace h := gm_iq c4 h
      refine gv_iload_n C rfl 4 rfl dX7_answer_25 26 rfl ?_
      refine gv_if_eq C dX7_answer_26 41 (by decide) 29 rfl (fun c5 => ?_) (fun c5 => ?_)
      · replace h := gm_ip c5 h
        refine gv_aload_n C rfl 1 rfl dX7_answer_41 42 rfl ?_
        refine gf_7_0 C gi_7 lkX7_7 dX7_answer_42 45 rfl ?_
        refine gv_iload_n C rfl 2 rfl dX7_answer_45 46 rfl ?_
        refine gv_iload_n C rfl 3 rfl dX7_answer_46 47 rfl ?_
        refine gv_iconst C 1 rfl dX7_answer_47 48 rfl ?_
        obtain ⟨q6, hq6, h⟩ := gm_bd h
        refine gv_callSi C mc_yX7_place ms_yX7_place (by decide) mkX7_51 (kX7_place _ _ _ _ _ _ hq6) rfl rfl (Nat.le_of_ble_eq_true rfl) dX7_answer_48 51 rfl ?_
        refine gv_bipush C (-6) rfl dX7_answer_51 53 rfl ?_
        obtain ⟨g7, h⟩ := gm_gis h
        refine gv_iast C (gi_85 (c := 0) (by decide)) rfl g7 dX7_answer_53 54 rfl ?_
        refine gv_iload_n C rfl 4 rfl dX7_answer_54 55 rfl ?_
        refine gv_if_ne C dX7_answer_55 71 (by decide) 58 rfl (fun c8 => ?_) (fun c8 => ?_)
        · replace h := gm_ip c8 h
          refine gv_aload_n C rfl 1 rfl dX7_answer_58 59 rfl ?_
          refine gv_iload_n C rfl 2 rfl dX7_answer_59 60 rfl ?_
          refine gv_iload_n C rfl 3 rfl dX7_answer_60 61 rfl ?_
          refine gv_iload_n C rfl 2 rfl dX7_answer_61 62 rfl ?_
          refine gv_iload_n C rfl 3 rfl dX7_answer_62 63 rfl ?_
          obtain ⟨q9, hq9, h⟩ := gm_bd h
          refine gv_callSi C mc_yX7_ahead ms_yX7_ahead (by decide) mkX7_120 (kX7_ahead _ _ _ _ _ hq9) rfl rfl (Nat.le_of_ble_eq_true rfl) dX7_answer_63 66 rfl ?_
          refine gv_iconst C 1 rfl dX7_answer_66 67 rfl ?_
          obtain ⟨q10, hq10, h⟩ := gm_bd h
          refine gv_callVi C mc_yX7_ring ⟨mi_yX7_ring, me_yX7_ring⟩ (by decide) mkX7_113 gi_7 ⟨_, rfl⟩ rfl rfl (kX7_ring _ _ _ _ _ _ _ hq10) rfl rfl (Nat.le_of_ble_eq_true rfl) dX7_answer_67 70 rfl ?_
          obtain rfl := Option.some.inj h
          exact gv_iret C E rfl rfl dX7_answer_70
        · replace h := gm_iq c8 h
          refine gv_aload_n C rfl 1 rfl dX7_answer_71 72 rfl ?_
          refine gf_7_0 C gi_7 lkX7_7 dX7_answer_72 75 rfl ?_
          refine gv_iload_n C rfl 2 rfl dX7_answer_75 76 rfl ?_
          refine gv_iload_n C rfl 3 rfl dX7_answer_76 77 rfl ?_
          refine gv_iconst C 0 rfl dX7_answer_77 78 rfl ?_
          obtain ⟨q11, hq11, h⟩ := gm_bd h
          refine gv_callSi C mc_yX7_place ms_yX7_place (by decide) mkX7_51 (kX7_place _ _ _ _ _ _ hq11) rfl rfl (Nat.le_of_ble_eq_true rfl) dX7_answer_78 81 rfl ?_
          refine gv_iconst C 1 rfl dX7_answer_81 82 rfl ?_
          obtain ⟨g12, h⟩ := gm_gis h
          refine gv_iast C (gi_85 (c := 0) (by decide)) rfl g12 dX7_answer_82 83 rfl ?_
          refine gv_aload_n C rfl 1 rfl dX7_answer_83 84 rfl ?_
          refine gf_7_0 C gi_7 lkX7_7 dX7_answer_84 87 rfl ?_
          refine gv_iload_n C rfl 2 rfl dX7_answer_87 88 rfl ?_
          refine gv_iload_n C rfl 3 rfl dX7_answer_88 89 rfl ?_
          refine gv_iconst C 2 rfl dX7_answer_89 90 rfl ?_
          obtain ⟨q13, hq13, h⟩ := gm_bd h
          refine gv_callSi C mc_yX7_place ms_yX7_place (by decide) mkX7_51 (kX7_place _ _ _ _ _ _ hq13) rfl rfl (Nat.le_of_ble_eq_true rfl) dX7_answer_90 93 rfl ?_
          refine gv_iload C 0 rfl dX7_answer_93 95 rfl ?_
          obtain ⟨g14, h⟩ := gm_gis h
          refine gv_iast C (gi_85 (c := 0) (by decide)) rfl g14 dX7_answer_95 96 rfl ?_
          refine gv_aload_n C rfl 1 rfl dX7_answer_96 97 rfl ?_
          refine gf_7_0 C gi_7 lkX7_7 dX7_answer_97 100 rfl ?_
          refine gv_iload_n C rfl 2 rfl dX7_answer_100 101 rfl ?_
          refine gv_iload_n C rfl 2 rfl dX7_answer_101 102 rfl ?_
          refine gv_iload_n C rfl 3 rfl dX7_answer_102 103 rfl ?_
          obtain ⟨q15, hq15, h⟩ := gm_bd h
          refine gv_callSi C mc_yX7_rear ms_yX7_rear (by decide) mkX7_107 (kX7_rear _ _ _ _ _ hq15) rfl rfl (Nat.le_of_ble_eq_true rfl) dX7_answer_103 106 rfl ?_
          obtain ⟨q16, hq16, h⟩ := gm_bd h
          refine gv_callSi C mc_yX7_tokensAt ms_yX7_tokensAt (by decide) mkX7_117 (kX7_tokensAt _ _ _ _ _ hq16) rfl rfl (Nat.le_of_ble_eq_true rfl) dX7_answer_106 109 rfl ?_
          refine gv_dup2 C rfl rfl dX7_answer_109 110 rfl ?_
          obtain ⟨g17, h⟩ := gm_gis h
          refine gv_iald C (gi_85 (c := 0) (by decide)) rfl g17 dX7_answer_110 111 rfl ?_
          refine gv_aload_n C rfl 1 rfl dX7_answer_111 112 rfl ?_
          refine gv_iload_n C rfl 2 rfl dX7_answer_112 113 rfl ?_
          obtain ⟨q18, hq18, h⟩ := gm_bd h
          refine gv_callVi C mc_yX7_isSingle ⟨mi_yX7_isSingle, me_yX7_isSingle⟩ (by decide) mkX7_58 gi_7 ⟨_, rfl⟩ rfl rfl (kX7_isSingle _ _ _ _ hq18) rfl rfl (Nat.le_of_ble_eq_true rfl) dX7_answer_113 116 rfl ?_
          refine gv_if_eq C dX7_answer_116 123 (by decide) 119 rfl (fun c19 => ?_) (fun c19 => ?_)
          · replace h := gm_ip c19 h
            refine gv_iconst C 0 rfl dX7_answer_123 124 rfl ?_
            refine gv_isub C dX7_answer_124 125 rfl ?_
            obtain ⟨g20, h⟩ := gm_gis h
            refine gv_iast C (gi_85 (c := 0) (by decide)) rfl g20 dX7_answer_125 126 rfl ?_
            refine gv_aload_n C rfl 1 rfl dX7_answer_126 127 rfl ?_
            refine gv_iload_n C rfl 2 rfl dX7_answer_127 128 rfl ?_
            refine gv_iload_n C rfl 3 rfl dX7_answer_128 129 rfl ?_
            refine gv_iload_n C rfl 2 rfl dX7_answer_129 130 rfl ?_
            refine gv_iload_n C rfl 3 rfl dX7_answer_130 131 rfl ?_
            obtain ⟨q21, hq21, h⟩ := gm_bd h
            refine gv_callSi C mc_yX7_ahead ms_yX7_ahead (by decide) mkX7_120 (kX7_ahead _ _ _ _ _ hq21) rfl rfl (Nat.le_of_ble_eq_true rfl) dX7_answer_131 134 rfl ?_
            refine gv_aload_n C rfl 1 rfl dX7_answer_134 135 rfl ?_
            refine gv_iload C 0 rfl dX7_answer_135 137 rfl ?_
            refine gv_iconst C 0 rfl dX7_answer_137 138 rfl ?_
            obtain ⟨q22, hq22, h⟩ := gm_bd h
            refine gv_callVi C mc_yX7_ofTrain ⟨mi_yX7_ofTrain, me_yX7_ofTrain⟩ (by decide) mkX7_61 gi_7 ⟨_, rfl⟩ rfl rfl (kX7_ofTrain _ _ _ _ _ hq22) rfl rfl (Nat.le_of_ble_eq_true rfl) dX7_answer_138 141 rfl ?_
            obtain ⟨q23, hq23, h⟩ := gm_bd h
            refine gv_callSi C mc_yX7_codeOf ms_yX7_codeOf (by decide) mkX7_110 (kX7_codeOf _ _ _ _ hq23) rfl rfl (Nat.le_of_ble_eq_true rfl) dX7_answer_141 144 rfl ?_
            obtain ⟨q24, hq24, h⟩ := gm_bd h
            refine gv_callVi C mc_yX7_ring ⟨mi_yX7_ring, me_yX7_ring⟩ (by decide) mkX7_113 gi_7 ⟨_, rfl⟩ rfl rfl (kX7_ring _ _ _ _ _ _ _ hq24) rfl rfl (Nat.le_of_ble_eq_true rfl) dX7_answer_144 147 rfl ?_
            obtain rfl := Option.some.inj h
            exact gv_iret C E rfl rfl dX7_answer_147
          · replace h := gm_iq c19 h
            refine gv_iconst C 1 rfl dX7_answer_119 120 rfl ?_
            refine gv_goto C dX7_answer_120 124 (by decide) ?_
            refine gv_isub C dX7_answer_124 125 rfl ?_
            obtain ⟨g25, h⟩ := gm_gis h
            refine gv_iast C (gi_85 (c := 0) (by decide)) rfl g25 dX7_answer_125 126 rfl ?_
            refine gv_aload_n C rfl 1 rfl dX7_answer_126 127 rfl ?_
            refine gv_iload_n C rfl 2 rfl dX7_answer_127 128 rfl ?_
            refine gv_iload_n C rfl 3 rfl dX7_answer_128 129 rfl ?_
            refine gv_iload_n C rfl 2 rfl dX7_answer_129 130 rfl ?_
            refine gv_iload_n C rfl 3 rfl dX7_answer_130 131 rfl ?_
            obtain ⟨q26, hq26, h⟩ := gm_bd h
            refine gv_callSi C mc_yX7_ahead ms_yX7_ahead (by decide) mkX7_120 (kX7_ahead _ _ _ _ _ hq26) rfl rfl (Nat.le_of_ble_eq_true rfl) dX7_answer_131 134 rfl ?_
            refine gv_aload_n C rfl 1 rfl dX7_answer_134 135 rfl ?_
            refine gv_iload C 0 rfl dX7_answer_135 137 rfl ?_
            refine gv_iconst C 0 rfl dX7_answer_137 138 rfl ?_
            obtain ⟨q27, hq27, h⟩ := gm_bd h
            refine gv_callVi C mc_yX7_ofTrain ⟨mi_yX7_ofTrain, me_yX7_ofTrain⟩ (by decide) mkX7_61 gi_7 ⟨_, rfl⟩ rfl rfl (kX7_ofTrain _ _ _ _ _ hq27) rfl rfl (Nat.le_of_ble_eq_true rfl) dX7_answer_138 141 rfl ?_
            obtain ⟨q28, hq28, h⟩ := gm_bd h
            refine gv_callSi C mc_yX7_codeOf ms_yX7_codeOf (by decide) mkX7_110 (kX7_codeOf _ _ _ _ hq28) rfl rfl (Nat.le_of_ble_eq_true rfl) dX7_answer_141 144 rfl ?_
            obtain ⟨q29, hq29, h⟩ := gm_bd h
            refine gv_callVi C mc_yX7_ring ⟨mi_yX7_ring, me_yX7_ring⟩ (by decide) mkX7_113 gi_7 ⟨_, rfl⟩ rfl rfl (kX7_ring _ _ _ _ _ _ _ hq29) rfl rfl (Nat.le_of_ble_eq_true rfl) dX7_answer_144 147 rfl ?_
            obtain rfl := Option.some.inj h
            exact gv_iret C E rfl rfl dX7_answer_147
      · replace h := gm_iq c5 h
        refine gv_aload_n C rfl 1 rfl dX7_answer_29 30 rfl ?_
        refine gv_iload_n C rfl 2 rfl dX7_answer_30 31 rfl ?_
        refine gv_iload_n C rfl 3 rfl dX7_answer_31 32 rfl ?_
        obtain ⟨q30, hq30, h⟩ := gm_bd h
        refine gv_callVi C mc_yX7_canAccept ⟨mi_yX7_canAccept, me_yX7_canAccept⟩ (by decide) mkX7_123 gi_7 ⟨_, rfl⟩ rfl rfl (kX7_canAccept _ _ _ _ _ hq30) rfl rfl (Nat.le_of_ble_eq_true rfl) dX7_answer_32 35 rfl ?_
        refine gv_if_ne C dX7_answer_35 41 (by decide) 38 rfl (fun c31 => ?_) (fun c31 => ?_)
        · replace h := gm_ip c31 h
          refine gv_bipush C (-5) rfl dX7_answer_38 40 rfl ?_
          obtain rfl := Option.some.inj h
          exact gv_iret C E rfl rfl dX7_answer_40
        · replace h := gm_iq c31 h
          refine gv_aload_n C rfl 1 rfl dX7_answer_41 42 rfl ?_
          refine gf_7_0 C gi_7 lkX7_7 dX7_answer_42 45 rfl ?_
          refine gv_iload_n C rfl 2 rfl dX7_answer_45 46 rfl ?_
          refine gv_iload_n C rfl 3 rfl dX7_answer_46 47 rfl ?_
          refine gv_iconst C 1 rfl dX7_answer_47 48 rfl ?_
          obtain ⟨q32, hq32, h⟩ := gm_bd h
          refine gv_callSi C mc_yX7_place ms_yX7_place (by decide) mkX7_51 (kX7_place _ _ _ _ _ _ hq32) rfl rfl (Nat.le_of_ble_eq_true rfl) dX7_answer_48 51 rfl ?_
          refine gv_bipush C (-6) rfl dX7_answer_51 53 rfl ?_
          obtain ⟨g33, h⟩ := gm_gis h
          refine gv_iast C (gi_85 (c := 0) (by decide)) rfl g33 dX7_answer_53 54 rfl ?_
          refine gv_iload_n C rfl 4 rfl dX7_answer_54 55 rfl ?_
          refine gv_if_ne C dX7_answer_55 71 (by decide) 58 rfl (fun c34 => ?_) (fun c34 => ?_)
          · replace h := gm_ip c34 h
            refine gv_aload_n C rfl 1 rfl dX7_answer_58 59 rfl ?_
            refine gv_iload_n C rfl 2 rfl dX7_answer_59 60 rfl ?_
            refine gv_iload_n C rfl 3 rfl dX7_answer_60 61 rfl ?_
            refine gv_iload_n C rfl 2 rfl dX7_answer_61 62 rfl ?_
            refine gv_iload_n C rfl 3 rfl dX7_answer_62 63 rfl ?_
            obtain ⟨q35, hq35, h⟩ := gm_bd h
            refine gv_callSi C mc_yX7_ahead ms_yX7_ahead (by decide) mkX7_120 (kX7_ahead _ _ _ _ _ hq35) rfl rfl (Nat.le_of_ble_eq_true rfl) dX7_answer_63 66 rfl ?_
            refine gv_iconst C 1 rfl dX7_answer_66 67 rfl ?_
            obtain ⟨q36, hq36, h⟩ := gm_bd h
            refine gv_callVi C mc_yX7_ring ⟨mi_yX7_ring, me_yX7_ring⟩ (by decide) mkX7_113 gi_7 ⟨_, rfl⟩ rfl rfl (kX7_ring _ _ _ _ _ _ _ hq36) rfl rfl (Nat.le_of_ble_eq_true rfl) dX7_answer_67 70 rfl ?_
            obtain rfl := Option.some.inj h
            exact gv_iret C E rfl rfl dX7_answer_70
          · replace h := gm_iq c34 h
            refine gv_aload_n C rfl 1 rfl dX7_answer_71 72 rfl ?_
            refine gf_7_0 C gi_7 lkX7_7 dX7_answer_72 75 rfl ?_
            refine gv_iload_n C rfl 2 rfl dX7_answer_75 76 rfl ?_
            refine gv_iload_n C rfl 3 rfl dX7_answer_76 77 rfl ?_
            refine gv_iconst C 0 rfl dX7_answer_77 78 rfl ?_
            obtain ⟨q37, hq37, h⟩ := gm_bd h
            refine gv_callSi C mc_yX7_place ms_yX7_place (by decide) mkX7_51 (kX7_place _ _ _ _ _ _ hq37) rfl rfl (Nat.le_of_ble_eq_true rfl) dX7_answer_78 81 rfl ?_
            refine gv_iconst C 1 rfl dX7_answer_81 82 rfl ?_
            obtain ⟨g38, h⟩ := gm_gis h
            refine gv_iast C (gi_85 (c := 0) (by decide)) rfl g38 dX7_answer_82 83 rfl ?_
            refine gv_aload_n C rfl 1 rfl dX7_answer_83 84 rfl ?_
            refine gf_7_0 C gi_7 lkX7_7 dX7_answer_84 87 rfl ?_
            refine gv_iload_n C rfl 2 rfl dX7_answer_87 88 rfl ?_
            refine gv_iload_n C rfl 3 rfl dX7_answer_88 89 rfl ?_
            refine gv_iconst C 2 rfl dX7_answer_89 90 rfl ?_
            obtain ⟨q39, hq39, h⟩ := gm_bd h
            refine gv_callSi C mc_yX7_place ms_yX7_place (by decide) mkX7_51 (kX7_place _ _ _ _ _ _ hq39) rfl rfl (Nat.le_of_ble_eq_true rfl) dX7_answer_90 93 rfl ?_
            refine gv_iload C 0 rfl dX7_answer_93 95 rfl ?_
            obtain ⟨g40, h⟩ := gm_gis h
            refine gv_iast C (gi_85 (c := 0) (by decide)) rfl g40 dX7_answer_95 96 rfl ?_
            refine gv_aload_n C rfl 1 rfl dX7_answer_96 97 rfl ?_
            refine gf_7_0 C gi_7 lkX7_7 dX7_answer_97 100 rfl ?_
            refine gv_iload_n C rfl 2 rfl dX7_answer_100 101 rfl ?_
            refine gv_iload_n C rfl 2 rfl dX7_answer_101 102 rfl ?_
            refine gv_iload_n C rfl 3 rfl dX7_answer_102 103 rfl ?_
            obtain ⟨q41, hq41, h⟩ := gm_bd h
            refine gv_callSi C mc_yX7_rear ms_yX7_rear (by decide) mkX7_107 (kX7_rear _ _ _ _ _ hq41) rfl rfl (Nat.le_of_ble_eq_true rfl) dX7_answer_103 106 rfl ?_
            obtain ⟨q42, hq42, h⟩ := gm_bd h
            refine gv_callSi C mc_yX7_tokensAt ms_yX7_tokensAt (by decide) mkX7_117 (kX7_tokensAt _ _ _ _ _ hq42) rfl rfl (Nat.le_of_ble_eq_true rfl) dX7_answer_106 109 rfl ?_
            refine gv_dup2 C rfl rfl dX7_answer_109 110 rfl ?_
            obtain ⟨g43, h⟩ := gm_gis h
            refine gv_iald C (gi_85 (c := 0) (by decide)) rfl g43 dX7_answer_110 111 rfl ?_
            refine gv_aload_n C rfl 1 rfl dX7_answer_111 112 rfl ?_
            refine gv_iload_n C rfl 2 rfl dX7_answer_112 113 rfl ?_
            obtain ⟨q44, hq44, h⟩ := gm_bd h
            refine gv_callVi C mc_yX7_isSingle ⟨mi_yX7_isSingle, me_yX7_isSingle⟩ (by decide) mkX7_58 gi_7 ⟨_, rfl⟩ rfl rfl (kX7_isSingle _ _ _ _ hq44) rfl rfl (Nat.le_of_ble_eq_true rfl) dX7_answer_113 116 rfl ?_
            refine gv_if_eq C dX7_answer_116 123 (by decide) 119 rfl (fun c45 => ?_) (fun c45 => ?_)
            · replace h := gm_ip c45 h
              refine gv_iconst C 0 rfl dX7_answer_123 124 rfl ?_
              refine gv_isub C dX7_answer_124 125 rfl ?_
              obtain ⟨g46, h⟩ := gm_gis h
              refine gv_iast C (gi_85 (c := 0) (by decide)) rfl g46 dX7_answer_125 126 rfl ?_
              refine gv_aload_n C rfl 1 rfl dX7_answer_126 127 rfl ?_
              refine gv_iload_n C rfl 2 rfl dX7_answer_127 128 rfl ?_
              refine gv_iload_n C rfl 3 rfl dX7_answer_128 129 rfl ?_
              refine gv_iload_n C rfl 2 rfl dX7_answer_129 130 rfl ?_
              refine gv_iload_n C rfl 3 rfl dX7_answer_130 131 rfl ?_
              obtain ⟨q47, hq47, h⟩ := gm_bd h
              refine gv_callSi C mc_yX7_ahead ms_yX7_ahead (by decide) mkX7_120 (kX7_ahead _ _ _ _ _ hq47) rfl rfl (Nat.le_of_ble_eq_true rfl) dX7_answer_131 134 rfl ?_
              refine gv_aload_n C rfl 1 rfl dX7_answer_134 135 rfl ?_
              refine gv_iload C 0 rfl dX7_answer_135 137 rfl ?_
              refine gv_iconst C 0 rfl dX7_answer_137 138 rfl ?_
              obtain ⟨q48, hq48, h⟩ := gm_bd h
              refine gv_callVi C mc_yX7_ofTrain ⟨mi_yX7_ofTrain, me_yX7_ofTrain⟩ (by decide) mkX7_61 gi_7 ⟨_, rfl⟩ rfl rfl (kX7_ofTrain _ _ _ _ _ hq48) rfl rfl (Nat.le_of_ble_eq_true rfl) dX7_answer_138 141 rfl ?_
              obtain ⟨q49, hq49, h⟩ := gm_bd h
              refine gv_callSi C mc_yX7_codeOf ms_yX7_codeOf (by decide) mkX7_110 (kX7_codeOf _ _ _ _ hq49) rfl rfl (Nat.le_of_ble_eq_true rfl) dX7_answer_141 144 rfl ?_
              obtain ⟨q50, hq50, h⟩ := gm_bd h
              refine gv_callVi C mc_yX7_ring ⟨mi_yX7_ring, me_yX7_ring⟩ (by decide) mkX7_113 gi_7 ⟨_, rfl⟩ rfl rfl (kX7_ring _ _ _ _ _ _ _ hq50) rfl rfl (Nat.le_of_ble_eq_true rfl) dX7_answer_144 147 rfl ?_
              obtain rfl := Option.some.inj h
              exact gv_iret C E rfl rfl dX7_answer_147
            · replace h := gm_iq c45 h
              refine gv_iconst C 1 rfl dX7_answer_119 120 rfl ?_
              refine gv_goto C dX7_answer_120 124 (by decide) ?_
              refine gv_isub C dX7_answer_124 125 rfl ?_
              obtain ⟨g51, h⟩ := gm_gis h
              refine gv_iast C (gi_85 (c := 0) (by decide)) rfl g51 dX7_answer_125 126 rfl ?_
              refine gv_aload_n C rfl 1 rfl dX7_answer_126 127 rfl ?_
              refine gv_iload_n C rfl 2 rfl dX7_answer_127 128 rfl ?_
              refine gv_iload_n C rfl 3 rfl dX7_answer_128 129 rfl ?_
              refine gv_iload_n C rfl 2 rfl dX7_answer_129 130 rfl ?_
              refine gv_iload_n C rfl 3 rfl dX7_answer_130 131 rfl ?_
              obtain ⟨q52, hq52, h⟩ := gm_bd h
              refine gv_callSi C mc_yX7_ahead ms_yX7_ahead (by decide) mkX7_120 (kX7_ahead _ _ _ _ _ hq52) rfl rfl (Nat.le_of_ble_eq_true rfl) dX7_answer_131 134 rfl ?_
              refine gv_aload_n C rfl 1 rfl dX7_answer_134 135 rfl ?_
              refine gv_iload C 0 rfl dX7_answer_135 137 rfl ?_
              refine gv_iconst C 0 rfl dX7_answer_137 138 rfl ?_
              obtain ⟨q53, hq53, h⟩ := gm_bd h
              refine gv_callVi C mc_yX7_ofTrain ⟨mi_yX7_ofTrain, me_yX7_ofTrain⟩ (by decide) mkX7_61 gi_7 ⟨_, rfl⟩ rfl rfl (kX7_ofTrain _ _ _ _ _ hq53) rfl rfl (Nat.le_of_ble_eq_true rfl) dX7_answer_138 141 rfl ?_
              obtain ⟨q54, hq54, h⟩ := gm_bd h
              refine gv_callSi C mc_yX7_codeOf ms_yX7_codeOf (by decide) mkX7_110 (kX7_codeOf _ _ _ _ hq54) rfl rfl (Nat.le_of_ble_eq_true rfl) dX7_answer_141 144 rfl ?_
              obtain ⟨q55, hq55, h⟩ := gm_bd h
              refine gv_callVi C mc_yX7_ring ⟨mi_yX7_ring, me_yX7_ring⟩ (by decide) mkX7_113 gi_7 ⟨_, rfl⟩ rfl rfl (kX7_ring _ _ _ _ _ _ _ hq55) rfl rfl (Nat.le_of_ble_eq_true rfl) dX7_answer_144 147 rfl ?_
              obtain rfl := Option.some.inj h
              exact gv_iret C E rfl rfl dX7_answer_147
set_option maxRecDepth 100000 in
set_option maxHeartbeats 4000000 in
theorem kX7_unclear (w : gm_Wd) (a1 a2 : Int32) (G : Gm) (q : Gm) (h : fX7_unclear a1 a2 G = some q) : gm_C w yX7_unclear cX7_unclear 3 none 2 [.ref (gm_ad w 7 5 0), .int a1, .int a2] G none q := by
  refine gm_start (by decide) (Nat.le_of_ble_eq_true rfl) ?_
  intro x hw C E
  subst hw
  have C : gm_X x cX7_unclear 3 RX7 none 2 := C
  unfold fX7_unclear at h
  refine gm_lv (lv' := [(0, _), (1, _), (2, _)]) rfl ?_
  refine gv_aload_n C rfl 0 rfl dX7_unclear_0 1 rfl ?_
  refine gv_iload_n C rfl 1 rfl dX7_unclear_1 2 rfl ?_
  refine gv_iload_n C rfl 2 rfl dX7_unclear_2 3 rfl ?_
  refine gv_iconst C 0 rfl dX7_unclear_3 4 rfl ?_
  obtain ⟨q1, hq1, h⟩ := gm_bd h
  refine gv_callVi C mc_yX7_ofBlock ⟨mi_yX7_ofBlock, me_yX7_ofBlock⟩ (by decide) mkX7_55 gi_7 ⟨_, rfl⟩ rfl rfl (kX7_ofBlock _ _ _ _ _ _ hq1) rfl rfl (Nat.le_of_ble_eq_true rfl) dX7_unclear_4 7 rfl ?_
  refine gv_iconst C 1 rfl dX7_unclear_7 8 rfl ?_
  refine gv_icmp_ne C dX7_unclear_8 54 (by decide) 11 rfl (fun c2 => ?_) (fun c2 => ?_)
  · replace h := gm_ip c2 h
    refine gv_aload_n C rfl 0 rfl dX7_unclear_11 12 rfl ?_
    refine gf_7_0 C gi_7 lkX7_7 dX7_unclear_12 15 rfl ?_
    refine gv_iload_n C rfl 1 rfl dX7_unclear_15 16 rfl ?_
    refine gv_iload_n C rfl 2 rfl dX7_unclear_16 17 rfl ?_
    refine gv_iconst C 2 rfl dX7_unclear_17 18 rfl ?_
    obtain ⟨q3, hq3, h⟩ := gm_bd h
    refine gv_callSi C mc_yX7_place ms_yX7_place (by decide) mkX7_51 (kX7_place _ _ _ _ _ _ hq3) rfl rfl (Nat.le_of_ble_eq_true rfl) dX7_unclear_18 21 rfl ?_
    refine gv_bipush C (-6) rfl dX7_unclear_21 23 rfl ?_
    obtain ⟨g4, h⟩ := gm_gis h
    refine gv_iast C (gi_85 (c := 0) (by decide)) rfl g4 dX7_unclear_23 24 rfl ?_
    refine gv_aload_n C rfl 0 rfl dX7_unclear_24 25 rfl ?_
    refine gf_7_0 C gi_7 lkX7_7 dX7_unclear_25 28 rfl ?_
    refine gv_iload_n C rfl 1 rfl dX7_unclear_28 29 rfl ?_
    refine gv_iload_n C rfl 1 rfl dX7_unclear_29 30 rfl ?_
    refine gv_iload_n C rfl 2 rfl dX7_unclear_30 31 rfl ?_
    obtain ⟨q5, hq5, h⟩ := gm_bd h
    refine gv_callSi C mc_yX7_rear ms_yX7_rear (by decide) mkX7_107 (kX7_rear _ _ _ _ _ hq5) rfl rfl (Nat.le_of_ble_eq_true rfl) dX7_unclear_31 34 rfl ?_
    obtain ⟨q6, hq6, h⟩ := gm_bd h
    refine gv_callSi C mc_yX7_tokensAt ms_yX7_tokensAt (by decide) mkX7_117 (kX7_tokensAt _ _ _ _ _ hq6) rfl rfl (Nat.le_of_ble_eq_true rfl) dX7_unclear_34 37 rfl ?_
    refine gv_dup2 C rfl rfl dX7_unclear_37 38 rfl ?_
    obtain ⟨g7, h⟩ := gm_gis h
    refine gv_iald C (gi_85 (c := 0) (by decide)) rfl g7 dX7_unclear_38 39 rfl ?_
    refine gv_aload_n C rfl 0 rfl dX7_unclear_39 40 rfl ?_
    refine gv_iload_n C rfl 1 rfl dX7_unclear_40 41 rfl ?_
    obtain ⟨q8, hq8, h⟩ := gm_bd h
    refine gv_callVi C mc_yX7_isSingle ⟨mi_yX7_isSingle, me_yX7_isSingle⟩ (by decide) mkX7_58 gi_7 ⟨_, rfl⟩ rfl rfl (kX7_isSingle _ _ _ _ hq8) rfl rfl (Nat.le_of_ble_eq_true rfl) dX7_unclear_41 44 rfl ?_
    refine gv_if_eq C dX7_unclear_44 51 (by decide) 47 rfl (fun c9 => ?_) (fun c9 => ?_)
    · replace h := gm_ip c9 h
      refine gv_iconst C 0 rfl dX7_unclear_51 52 rfl ?_
      refine gv_iadd C dX7_unclear_52 53 rfl ?_
      obtain ⟨g10, h⟩ := gm_gis h
      refine gv_iast C (gi_85 (c := 0) (by decide)) rfl g10 dX7_unclear_53 54 rfl ?_
      obtain rfl := Option.some.inj h
      exact gv_vret C E rfl rfl dX7_unclear_54
    · replace h := gm_iq c9 h
      refine gv_iconst C 1 rfl dX7_unclear_47 48 rfl ?_
      refine gv_goto C dX7_unclear_48 52 (by decide) ?_
      refine gv_iadd C dX7_unclear_52 53 rfl ?_
      obtain ⟨g11, h⟩ := gm_gis h
      refine gv_iast C (gi_85 (c := 0) (by decide)) rfl g11 dX7_unclear_53 54 rfl ?_
      obtain rfl := Option.some.inj h
      exact gv_vret C E rfl rfl dX7_unclear_54
  · replace h := gm_iq c2 h
    obtain rfl := Option.some.inj h
    exact gv_vret C E rfl rfl dX7_unclear_54
set_option maxRecDepth 100000 in
set_option maxHeartbeats 4000000 in
theorem kX7_cancel (w : gm_Wd) (a1 a2 : Int32) (G : Gm) (q : Int32 × Gm) (h : fX7_cancel a1 a2 G = some q) : gm_C w yX7_cancel cX7_cancel 4 (some .int) 3 [.ref (gm_ad w 7 5 0), .int a1, .int a2] G (some (.int q.1)) q.2 := by
  refine gm_start (by decide) (Nat.le_of_ble_eq_true rfl) ?_
  intro x hw C E
  subst hw
  have C : gm_X x cX7_cancel 4 RX7 (some .int) 3 := C
  unfold fX7_cancel at h
  refine gm_lv (lv' := [(0, _), (1, _), (2, _)]) rfl ?_
  refine gv_aload_n C rfl 0 rfl dX7_cancel_0 1 rfl ?_
  refine gv_iload_n C rfl 1 rfl dX7_cancel_1 2 rfl ?_
  refine gv_iload_n C rfl 2 rfl dX7_cancel_2 3 rfl ?_
  obtain ⟨q1, hq1, h⟩ := gm_bd h
  refine gv_callVi C mc_yX7_isBlock ⟨mi_yX7_isBlock, me_yX7_isBlock⟩ (by decide) mkX7_71 gi_7 ⟨_, rfl⟩ rfl rfl (kX7_isBlock _ _ _ _ _ hq1) rfl rfl (Nat.le_of_ble_eq_true rfl) dX7_cancel_3 6 rfl ?_
  refine gv_if_ne C dX7_cancel_6 11 (by decide) 9 rfl (fun c2 => ?_) (fun c2 => ?_)
  · replace h := gm_ip c2 h
    refine gv_iconst C (-1) rfl dX7_cancel_9 10 rfl ?_
    obtain rfl := Option.some.inj h
    exact gv_iret C E rfl rfl dX7_cancel_10
  · replace h := gm_iq c2 h
    refine gv_aload_n C rfl 0 rfl dX7_cancel_11 12 rfl ?_
    refine gv_iload_n C rfl 1 rfl dX7_cancel_12 13 rfl ?_
    refine gv_iload_n C rfl 2 rfl dX7_cancel_13 14 rfl ?_
    refine gv_iconst C 0 rfl dX7_cancel_14 15 rfl ?_
    obtain ⟨q3, hq3, h⟩ := gm_bd h
    refine gv_callVi C mc_yX7_ofBlock ⟨mi_yX7_ofBlock, me_yX7_ofBlock⟩ (by decide) mkX7_55 gi_7 ⟨_, rfl⟩ rfl rfl (kX7_ofBlock _ _ _ _ _ _ hq3) rfl rfl (Nat.le_of_ble_eq_true rfl) dX7_cancel_15 18 rfl ?_
    refine gv_iconst C 1 rfl dX7_cancel_18 19 rfl ?_
    refine gv_icmp_ne C dX7_cancel_19 26 (by decide) 22 rfl (fun c4 => ?_) (fun c4 => ?_)
    · replace h := gm_ip c4 h
      refine gv_iconst C 1 rfl dX7_cancel_22 23 rfl ?_
      refine gv_goto C dX7_cancel_23 27 (by decide) ?_
      refine gv_istore_n C rfl [(3, _), (0, _), (1, _), (2, _)] (by decide) rfl dX7_cancel_27 28 rfl ?_
      refine gv_aload_n C rfl 1 rfl dX7_cancel_28 29 rfl ?_
      refine gv_iload_n C rfl 2 rfl dX7_cancel_29 30 rfl ?_
      refine gv_iload_n C rfl 3 rfl dX7_cancel_30 31 rfl ?_
      refine gv_iconst C 1 rfl dX7_cancel_31 32 rfl ?_
      obtain ⟨q5, hq5, h⟩ := gm_bd h
      refine gv_callVi C mc_yX7_ofBlock ⟨mi_yX7_ofBlock, me_yX7_ofBlock⟩ (by decide) mkX7_55 gi_7 ⟨_, rfl⟩ rfl rfl (kX7_ofBlock _ _ _ _ _ _ hq5) rfl rfl (Nat.le_of_ble_eq_true rfl) dX7_cancel_32 35 rfl ?_
      refine gv_if_ge C dX7_cancel_35 45 (by decide) 38 rfl (fun c6 => ?_) (fun c6 => ?_)
      · replace h := gm_ip c6 h
        refine gv_aload_n C rfl 1 rfl dX7_cancel_45 46 rfl ?_
        refine gf_7_0 C gi_7 lkX7_7 dX7_cancel_46 49 rfl ?_
        refine gv_iload_n C rfl 2 rfl dX7_cancel_49 50 rfl ?_
        refine gv_iload_n C rfl 3 rfl dX7_cancel_50 51 rfl ?_
        refine gv_iconst C 1 rfl dX7_cancel_51 52 rfl ?_
        obtain ⟨q7, hq7, h⟩ := gm_bd h
        refine gv_callSi C mc_yX7_place ms_yX7_place (by decide) mkX7_51 (kX7_place _ _ _ _ _ _ hq7) rfl rfl (Nat.le_of_ble_eq_true rfl) dX7_cancel_52 55 rfl ?_
        refine gv_bipush C (-6) rfl dX7_cancel_55 57 rfl ?_
        obtain ⟨g8, h⟩ := gm_gis h
        refine gv_iast C (gi_85 (c := 0) (by decide)) rfl g8 dX7_cancel_57 58 rfl ?_
        refine gv_iload_n C rfl 0 rfl dX7_cancel_58 59 rfl ?_
        refine gv_if_eq C dX7_cancel_59 80 (by decide) 62 rfl (fun c9 => ?_) (fun c9 => ?_)
        · exact absurd c9 (by decide)
        refine gv_aload_n C rfl 1 rfl dX7_cancel_62 63 rfl ?_
        refine gv_iload_n C rfl 2 rfl dX7_cancel_63 64 rfl ?_
        refine gv_iload_n C rfl 3 rfl dX7_cancel_64 65 rfl ?_
        obtain ⟨q10, hq10, h⟩ := gm_bd h
        refine gv_callVv C mc_yX7_unclear ⟨mi_yX7_unclear, me_yX7_unclear⟩ (by decide) mkX7_126 gi_7 ⟨_, rfl⟩ rfl rfl (kX7_unclear _ _ _ _ _ hq10) rfl rfl (Nat.le_of_ble_eq_true rfl) dX7_cancel_65 68 rfl ?_
        refine gv_aload_n C rfl 1 rfl dX7_cancel_68 69 rfl ?_
        refine gf_7_0 C gi_7 lkX7_7 dX7_cancel_69 72 rfl ?_
        refine gv_iload_n C rfl 2 rfl dX7_cancel_72 73 rfl ?_
        refine gv_iload_n C rfl 3 rfl dX7_cancel_73 74 rfl ?_
        refine gv_iconst C 0 rfl dX7_cancel_74 75 rfl ?_
        obtain ⟨q11, hq11, h⟩ := gm_bd h
        refine gv_callSi C mc_yX7_place ms_yX7_place (by decide) mkX7_51 (kX7_place _ _ _ _ _ _ hq11) rfl rfl (Nat.le_of_ble_eq_true rfl) dX7_cancel_75 78 rfl ?_
        refine gv_iconst C 0 rfl dX7_cancel_78 79 rfl ?_
        obtain ⟨g12, h⟩ := gm_gis h
        refine gv_iast C (gi_85 (c := 0) (by decide)) rfl g12 dX7_cancel_79 80 rfl ?_
        refine gv_aload_n C rfl 1 rfl dX7_cancel_80 81 rfl ?_
        refine gv_iload_n C rfl 2 rfl dX7_cancel_81 82 rfl ?_
        refine gv_iload_n C rfl 3 rfl dX7_cancel_82 83 rfl ?_
        refine gv_iload_n C rfl 2 rfl dX7_cancel_83 84 rfl ?_
        refine gv_iload_n C rfl 3 rfl dX7_cancel_84 85 rfl ?_
        obtain ⟨q13, hq13, h⟩ := gm_bd h
        refine gv_callSi C mc_yX7_rear ms_yX7_rear (by decide) mkX7_107 (kX7_rear _ _ _ _ _ hq13) rfl rfl (Nat.le_of_ble_eq_true rfl) dX7_cancel_85 88 rfl ?_
        refine gv_bipush C 35 rfl dX7_cancel_88 90 rfl ?_
        obtain ⟨q14, hq14, h⟩ := gm_bd h
        refine gv_callVi C mc_yX7_ring ⟨mi_yX7_ring, me_yX7_ring⟩ (by decide) mkX7_113 gi_7 ⟨_, rfl⟩ rfl rfl (kX7_ring _ _ _ _ _ _ _ hq14) rfl rfl (Nat.le_of_ble_eq_true rfl) dX7_cancel_90 93 rfl ?_
        obtain rfl := Option.some.inj h
        exact gv_iret C E rfl rfl dX7_cancel_93
      · replace h := gm_iq c6 h
        refine gv_iload_n C rfl 0 rfl dX7_cancel_38 39 rfl ?_
        refine gv_if_ne C dX7_cancel_39 45 (by decide) 42 rfl (fun c15 => ?_) (fun c15 => ?_)
        · exact absurd c15 (by decide)
        refine gv_aload_n C rfl 1 rfl dX7_cancel_45 46 rfl ?_
        refine gf_7_0 C gi_7 lkX7_7 dX7_cancel_46 49 rfl ?_
        refine gv_iload_n C rfl 2 rfl dX7_cancel_49 50 rfl ?_
        refine gv_iload_n C rfl 3 rfl dX7_cancel_50 51 rfl ?_
        refine gv_iconst C 1 rfl dX7_cancel_51 52 rfl ?_
        obtain ⟨q16, hq16, h⟩ := gm_bd h
        refine gv_callSi C mc_yX7_place ms_yX7_place (by decide) mkX7_51 (kX7_place _ _ _ _ _ _ hq16) rfl rfl (Nat.le_of_ble_eq_true rfl) dX7_cancel_52 55 rfl ?_
        refine gv_bipush C (-6) rfl dX7_cancel_55 57 rfl ?_
        obtain ⟨g17, h⟩ := gm_gis h
        refine gv_iast C (gi_85 (c := 0) (by decide)) rfl g17 dX7_cancel_57 58 rfl ?_
        refine gv_iload_n C rfl 0 rfl dX7_cancel_58 59 rfl ?_
        refine gv_if_eq C dX7_cancel_59 80 (by decide) 62 rfl (fun c18 => ?_) (fun c18 => ?_)
        · exact absurd c18 (by decide)
        refine gv_aload_n C rfl 1 rfl dX7_cancel_62 63 rfl ?_
        refine gv_iload_n C rfl 2 rfl dX7_cancel_63 64 rfl ?_
        refine gv_iload_n C rfl 3 rfl dX7_cancel_64 65 rfl ?_
        obtain ⟨q19, hq19, h⟩ := gm_bd h
        refine gv_callVv C mc_yX7_unclear ⟨mi_yX7_unclear, me_yX7_unclear⟩ (by decide) mkX7_126 gi_7 ⟨_, rfl⟩ rfl rfl (kX7_unclear _ _ _ _ _ hq19) rfl rfl (Nat.le_of_ble_eq_true rfl) dX7_cancel_65 68 rfl ?_
        refine gv_aload_n C rfl 1 rfl dX7_cancel_68 69 rfl ?_
        refine gf_7_0 C gi_7 lkX7_7 dX7_cancel_69 72 rfl ?_
        refine gv_iload_n C rfl 2 rfl dX7_cancel_72 73 rfl ?_
        refine gv_iload_n C rfl 3 rfl dX7_cancel_73 74 rfl ?_
        refine gv_iconst C 0 rfl dX7_cancel_74 75 rfl ?_
        obtain ⟨q20, hq20, h⟩ := gm_bd h
        refine gv_callSi C mc_yX7_place ms_yX7_place (by decide) mkX7_51 (kX7_place _ _ _ _ _ _ hq20) rfl rfl (Nat.le_of_ble_eq_true rfl) dX7_cancel_75 78 rfl ?_
        refine gv_iconst C 0 rfl dX7_cancel_78 79 rfl ?_
        obtain ⟨g21, h⟩ := gm_gis h
        refine gv_iast C (gi_85 (c := 0) (by decide)) rfl g21 dX7_cancel_79 80 rfl ?_
        refine gv_aload_n C rfl 1 rfl dX7_cancel_80 81 rfl ?_
        refine gv_iload_n C rfl 2 rfl dX7_cancel_81 82 rfl ?_
        refine gv_iload_n C rfl 3 rfl dX7_cancel_82 83 rfl ?_
        refine gv_iload_n C rfl 2 rfl dX7_cancel_83 84 rfl ?_
        refine gv_iload_n C rfl 3 rfl dX7_cancel_84 85 rfl ?_
        obtain ⟨q22, hq22, h⟩ := gm_bd h
        refine gv_callSi C mc_yX7_rear ms_yX7_rear (by decide) mkX7_107 (kX7_rear _ _ _ _ _ hq22) rfl rfl (Nat.le_of_ble_eq_true rfl) dX7_cancel_85 88 rfl ?_
        refine gv_bipush C 35 rfl dX7_cancel_88 90 rfl ?_
        obtain ⟨q23, hq23, h⟩ := gm_bd h
        refine gv_callVi C mc_yX7_ring ⟨mi_yX7_ring, me_yX7_ring⟩ (by decide) mkX7_113 gi_7 ⟨_, rfl⟩ rfl rfl (kX7_ring _ _ _ _ _ _ _ hq23) rfl rfl (Nat.le_of_ble_eq_true rfl) dX7_cancel_90 93 rfl ?_
        obtain rfl := Option.some.inj h
        exact gv_iret C E rfl rfl dX7_cancel_93
    · replace h := gm_iq c4 h
      refine gv_iconst C 0 rfl dX7_cancel_26 27 rfl ?_
      refine gv_istore_n C rfl [(3, _), (0, _), (1, _), (2, _)] (by decide) rfl dX7_cancel_27 28 rfl ?_
      refine gv_aload_n C rfl 1 rfl dX7_cancel_28 29 rfl ?_
      refine gv_iload_n C rfl 2 rfl dX7_cancel_29 30 rfl ?_
      refine gv_iload_n C rfl 3 rfl dX7_cancel_30 31 rfl ?_
      refine gv_iconst C 1 rfl dX7_cancel_31 32 rfl ?_
      obtain ⟨q24, hq24, h⟩ := gm_bd h
      refine gv_callVi C mc_yX7_ofBlock ⟨mi_yX7_ofBlock, me_yX7_ofBlock⟩ (by decide) mkX7_55 gi_7 ⟨_, rfl⟩ rfl rfl (kX7_ofBlock _ _ _ _ _ _ hq24) rfl rfl (Nat.le_of_ble_eq_true rfl) dX7_cancel_32 35 rfl ?_
      refine gv_if_ge C dX7_cancel_35 45 (by decide) 38 rfl (fun c25 => ?_) (fun c25 => ?_)
      · replace h := gm_ip c25 h
        refine gv_aload_n C rfl 1 rfl dX7_cancel_45 46 rfl ?_
        refine gf_7_0 C gi_7 lkX7_7 dX7_cancel_46 49 rfl ?_
        refine gv_iload_n C rfl 2 rfl dX7_cancel_49 50 rfl ?_
        refine gv_iload_n C rfl 3 rfl dX7_cancel_50 51 rfl ?_
        refine gv_iconst C 1 rfl dX7_cancel_51 52 rfl ?_
        obtain ⟨q26, hq26, h⟩ := gm_bd h
        refine gv_callSi C mc_yX7_place ms_yX7_place (by decide) mkX7_51 (kX7_place _ _ _ _ _ _ hq26) rfl rfl (Nat.le_of_ble_eq_true rfl) dX7_cancel_52 55 rfl ?_
        refine gv_bipush C (-6) rfl dX7_cancel_55 57 rfl ?_
        obtain ⟨g27, h⟩ := gm_gis h
        refine gv_iast C (gi_85 (c := 0) (by decide)) rfl g27 dX7_cancel_57 58 rfl ?_
        refine gv_iload_n C rfl 0 rfl dX7_cancel_58 59 rfl ?_
        refine gv_if_eq C dX7_cancel_59 80 (by decide) 62 rfl (fun c28 => ?_) (fun c28 => ?_)
        rotate_left
        · exact absurd (by decide) c28
        refine gv_aload_n C rfl 1 rfl dX7_cancel_80 81 rfl ?_
        refine gv_iload_n C rfl 2 rfl dX7_cancel_81 82 rfl ?_
        refine gv_iload_n C rfl 3 rfl dX7_cancel_82 83 rfl ?_
        refine gv_iload_n C rfl 2 rfl dX7_cancel_83 84 rfl ?_
        refine gv_iload_n C rfl 3 rfl dX7_cancel_84 85 rfl ?_
        obtain ⟨q29, hq29, h⟩ := gm_bd h
        refine gv_callSi C mc_yX7_rear ms_yX7_rear (by decide) mkX7_107 (kX7_rear _ _ _ _ _ hq29) rfl rfl (Nat.le_of_ble_eq_true rfl) dX7_cancel_85 88 rfl ?_
        refine gv_bipush C 35 rfl dX7_cancel_88 90 rfl ?_
        obtain ⟨q30, hq30, h⟩ := gm_bd h
        refine gv_callVi C mc_yX7_ring ⟨mi_yX7_ring, me_yX7_ring⟩ (by decide) mkX7_113 gi_7 ⟨_, rfl⟩ rfl rfl (kX7_ring _ _ _ _ _ _ _ hq30) rfl rfl (Nat.le_of_ble_eq_true rfl) dX7_cancel_90 93 rfl ?_
        obtain rfl := Option.some.inj h
        exact gv_iret C E rfl rfl dX7_cancel_93
      · replace h := gm_iq c25 h
        refine gv_iload_n C rfl 0 rfl dX7_cancel_38 39 rfl ?_
        refine gv_if_ne C dX7_cancel_39 45 (by decide) 42 rfl (fun c31 => ?_) (fun c31 => ?_)
        rotate_left
        · exact absurd (by decide) c31
        refine gv_bipush C (-5) rfl dX7_cancel_42 44 rfl ?_
        obtain rfl := Option.some.inj h
        exact gv_iret C E rfl rfl dX7_cancel_44
set_option maxRecDepth 100000 in
set_option maxHeartbeats 4000000 in
theorem kX7_depart (w : gm_Wd) (a1 : Int32) (G : Gm) (q : Int32 × Gm) (h : fX7_depart a1 G = some q) : gm_C w yX7_depart cX7_depart 4 (some .int) 4 [.ref (gm_ad w 7 5 0), .int a1] G (some (.int q.1)) q.2 := by
  refine gm_start (by decide) (Nat.le_of_ble_eq_true rfl) ?_
  intro x hw C E
  subst hw
  have C : gm_X x cX7_depart 4 RX7 (some .int) 4 := C
  unfold fX7_depart at h
  refine gm_lv (lv' := [(0, _), (1, _)]) rfl ?_
  refine gv_aload_n C rfl 0 rfl dX7_depart_0 1 rfl ?_
  refine gv_iload_n C rfl 1 rfl dX7_depart_1 2 rfl ?_
  obtain ⟨q1, hq1, h⟩ := gm_bd h
  refine gv_callVi C mc_yX7_isTrain ⟨mi_yX7_isTrain, me_yX7_isTrain⟩ (by decide) mkX7_89 gi_7 ⟨_, rfl⟩ rfl rfl (kX7_isTrain _ _ _ _ hq1) rfl rfl (Nat.le_of_ble_eq_true rfl) dX7_depart_2 5 rfl ?_
  refine gv_if_ne C dX7_depart_5 10 (by decide) 8 rfl (fun c2 => ?_) (fun c2 => ?_)
  · replace h := gm_ip c2 h
    refine gv_iconst C (-1) rfl dX7_depart_8 9 rfl ?_
    obtain rfl := Option.some.inj h
    exact gv_iret C E rfl rfl dX7_depart_9
  · replace h := gm_iq c2 h
    refine gv_aload_n C rfl 0 rfl dX7_depart_10 11 rfl ?_
    refine gv_iload_n C rfl 1 rfl dX7_depart_11 12 rfl ?_
    refine gv_iconst C 2 rfl dX7_depart_12 13 rfl ?_
    obtain ⟨q3, hq3, h⟩ := gm_bd h
    refine gv_callVi C mc_yX7_ofTrain ⟨mi_yX7_ofTrain, me_yX7_ofTrain⟩ (by decide) mkX7_61 gi_7 ⟨_, rfl⟩ rfl rfl (kX7_ofTrain _ _ _ _ _ hq3) rfl rfl (Nat.le_of_ble_eq_true rfl) dX7_depart_13 16 rfl ?_
    refine gv_if_ne C dX7_depart_16 27 (by decide) 19 rfl (fun c4 => ?_) (fun c4 => ?_)
    · replace h := gm_ip c4 h
      refine gv_aload_n C rfl 0 rfl dX7_depart_19 20 rfl ?_
      refine gv_iload_n C rfl 1 rfl dX7_depart_20 21 rfl ?_
      obtain ⟨q5, hq5, h⟩ := gm_bd h
      refine gv_callVi C mc_yX7_isClearFor ⟨mi_yX7_isClearFor, me_yX7_isClearFor⟩ (by decide) mkX7_98 gi_7 ⟨_, rfl⟩ rfl rfl (kX7_isClearFor _ _ _ _ hq5) rfl rfl (Nat.le_of_ble_eq_true rfl) dX7_depart_21 24 rfl ?_
      refine gv_if_ne C dX7_depart_24 30 (by decide) 27 rfl (fun c6 => ?_) (fun c6 => ?_)
      · replace h := gm_ip c6 h
        refine gv_bipush C (-5) rfl dX7_depart_27 29 rfl ?_
        obtain rfl := Option.some.inj h
        exact gv_iret C E rfl rfl dX7_depart_29
      · replace h := gm_iq c6 h
        refine gv_aload_n C rfl 0 rfl dX7_depart_30 31 rfl ?_
        refine gv_iload_n C rfl 1 rfl dX7_depart_31 32 rfl ?_
        obtain ⟨q7, hq7, h⟩ := gm_bd h
        refine gv_callVi C mc_yX7_nextSection ⟨mi_yX7_nextSection, me_yX7_nextSection⟩ (by decide) mkX7_92 gi_7 ⟨_, rfl⟩ rfl rfl (kX7_nextSection _ _ _ _ hq7) rfl rfl (Nat.le_of_ble_eq_true rfl) dX7_depart_32 35 rfl ?_
        refine gv_istore_n C rfl [(2, _), (0, _), (1, _)] (by decide) rfl dX7_depart_35 36 rfl ?_
        refine gv_aload_n C rfl 1 rfl dX7_depart_36 37 rfl ?_
        refine gv_iload_n C rfl 2 rfl dX7_depart_37 38 rfl ?_
        refine gv_iconst C 1 rfl dX7_depart_38 39 rfl ?_
        obtain ⟨q8, hq8, h⟩ := gm_bd h
        refine gv_callVi C mc_yX7_ofTrain ⟨mi_yX7_ofTrain, me_yX7_ofTrain⟩ (by decide) mkX7_61 gi_7 ⟨_, rfl⟩ rfl rfl (kX7_ofTrain _ _ _ _ _ hq8) rfl rfl (Nat.le_of_ble_eq_true rfl) dX7_depart_39 42 rfl ?_
        refine gv_istore_n C rfl [(3, _), (2, _), (0, _), (1, _)] (by decide) rfl dX7_depart_42 43 rfl ?_
        refine gv_aload_n C rfl 2 rfl dX7_depart_43 44 rfl ?_
        refine gv_iload_n C rfl 3 rfl dX7_depart_44 45 rfl ?_
        refine gv_iconst C 2 rfl dX7_depart_45 46 rfl ?_
        refine gv_iconst C 2 rfl dX7_depart_46 47 rfl ?_
        obtain ⟨q9, hq9, h⟩ := gm_bd h
        refine gv_callVv C mc_yX7_layTrain ⟨mi_yX7_layTrain, me_yX7_layTrain⟩ (by decide) mkX7_75 gi_7 ⟨_, rfl⟩ rfl rfl (kX7_layTrain _ _ _ _ _ _ hq9) rfl rfl (Nat.le_of_ble_eq_true rfl) dX7_depart_47 50 rfl ?_
        refine gv_aload_n C rfl 2 rfl dX7_depart_50 51 rfl ?_
        refine gv_iload_n C rfl 3 rfl dX7_depart_51 52 rfl ?_
        refine gv_iconst C 3 rfl dX7_depart_52 53 rfl ?_
        refine gv_iload_n C rfl 1 rfl dX7_depart_53 54 rfl ?_
        obtain ⟨q10, hq10, h⟩ := gm_bd h
        refine gv_callVv C mc_yX7_layTrain ⟨mi_yX7_layTrain, me_yX7_layTrain⟩ (by decide) mkX7_75 gi_7 ⟨_, rfl⟩ rfl rfl (kX7_layTrain _ _ _ _ _ _ hq10) rfl rfl (Nat.le_of_ble_eq_true rfl) dX7_depart_54 57 rfl ?_
        refine gv_aload_n C rfl 2 rfl dX7_depart_57 58 rfl ?_
        refine gv_iload_n C rfl 3 rfl dX7_depart_58 59 rfl ?_
        refine gv_iconst C 4 rfl dX7_depart_59 60 rfl ?_
        refine gv_aload_n C rfl 2 rfl dX7_depart_60 61 rfl ?_
        refine gf_7_0 C gi_7 lkX7_7 dX7_depart_61 64 rfl ?_
        refine gv_iconst C 3 rfl dX7_depart_64 65 rfl ?_
        refine gv_iload_n C rfl 1 rfl dX7_depart_65 66 rfl ?_
        refine gv_iadd C dX7_depart_66 67 rfl ?_
        obtain ⟨g11, h⟩ := gm_gis h
        refine gv_iald C (gi_85 (c := 0) (by decide)) rfl g11 dX7_depart_67 68 rfl ?_
        refine gv_aload_n C rfl 2 rfl dX7_depart_68 69 rfl ?_
        refine gv_iload_n C rfl 3 rfl dX7_depart_69 70 rfl ?_
        refine gv_iconst C 0 rfl dX7_depart_70 71 rfl ?_
        obtain ⟨q12, hq12, h⟩ := gm_bd h
        refine gv_callVi C mc_yX7_ofTrain ⟨mi_yX7_ofTrain, me_yX7_ofTrain⟩ (by decide) mkX7_61 gi_7 ⟨_, rfl⟩ rfl rfl (kX7_ofTrain _ _ _ _ _ hq12) rfl rfl (Nat.le_of_ble_eq_true rfl) dX7_depart_71 74 rfl ?_
        refine gv_iadd C dX7_depart_74 75 rfl ?_
        refine gv_iconst C 1 rfl dX7_depart_75 76 rfl ?_
        refine gv_isub C dX7_depart_76 77 rfl ?_
        obtain ⟨q13, hq13, h⟩ := gm_bd h
        refine gv_callVv C mc_yX7_layTrain ⟨mi_yX7_layTrain, me_yX7_layTrain⟩ (by decide) mkX7_75 gi_7 ⟨_, rfl⟩ rfl rfl (kX7_layTrain _ _ _ _ _ _ hq13) rfl rfl (Nat.le_of_ble_eq_true rfl) dX7_depart_77 80 rfl ?_
        refine gv_aload_n C rfl 2 rfl dX7_depart_80 81 rfl ?_
        refine gf_7_0 C gi_7 lkX7_7 dX7_depart_81 84 rfl ?_
        refine gv_iload_n C rfl 1 rfl dX7_depart_84 85 rfl ?_
        refine gv_iload_n C rfl 0 rfl dX7_depart_85 86 rfl ?_
        refine gv_iconst C 0 rfl dX7_depart_86 87 rfl ?_
        obtain ⟨q14, hq14, h⟩ := gm_bd h
        refine gv_callSi C mc_yX7_place ms_yX7_place (by decide) mkX7_51 (kX7_place _ _ _ _ _ _ hq14) rfl rfl (Nat.le_of_ble_eq_true rfl) dX7_depart_87 90 rfl ?_
        refine gv_iconst C 2 rfl dX7_depart_90 91 rfl ?_
        obtain ⟨g15, h⟩ := gm_gis h
        refine gv_iast C (gi_85 (c := 0) (by decide)) rfl g15 dX7_depart_91 92 rfl ?_
        refine gv_aload_n C rfl 2 rfl dX7_depart_92 93 rfl ?_
        refine gv_iload_n C rfl 1 rfl dX7_depart_93 94 rfl ?_
        refine gv_iload_n C rfl 0 rfl dX7_depart_94 95 rfl ?_
        refine gv_iload_n C rfl 1 rfl dX7_depart_95 96 rfl ?_
        refine gv_iload_n C rfl 0 rfl dX7_depart_96 97 rfl ?_
        obtain ⟨q16, hq16, h⟩ := gm_bd h
        refine gv_callSi C mc_yX7_rear ms_yX7_rear (by decide) mkX7_107 (kX7_rear _ _ _ _ _ hq16) rfl rfl (Nat.le_of_ble_eq_true rfl) dX7_depart_97 100 rfl ?_
        refine gv_iconst C 2 rfl dX7_depart_100 101 rfl ?_
        obtain ⟨q17, hq17, h⟩ := gm_bd h
        refine gv_callVi C mc_yX7_ring ⟨mi_yX7_ring, me_yX7_ring⟩ (by decide) mkX7_113 gi_7 ⟨_, rfl⟩ rfl rfl (kX7_ring _ _ _ _ _ _ _ hq17) rfl rfl (Nat.le_of_ble_eq_true rfl) dX7_depart_101 104 rfl ?_
        refine gv_pop C rfl dX7_depart_104 105 rfl ?_
        refine gv_aload_n C rfl 2 rfl dX7_depart_105 106 rfl ?_
        refine gv_iload_n C rfl 3 rfl dX7_depart_106 107 rfl ?_
        refine gv_iconst C 4 rfl dX7_depart_107 108 rfl ?_
        obtain ⟨q18, hq18, h⟩ := gm_bd h
        refine gv_callVi C mc_yX7_ofTrain ⟨mi_yX7_ofTrain, me_yX7_ofTrain⟩ (by decide) mkX7_61 gi_7 ⟨_, rfl⟩ rfl rfl (kX7_ofTrain _ _ _ _ _ hq18) rfl rfl (Nat.le_of_ble_eq_true rfl) dX7_depart_108 111 rfl ?_
        obtain rfl := Option.some.inj h
        exact gv_iret C E rfl rfl dX7_depart_111
    · replace h := gm_iq c4 h
      refine gv_bipush C (-5) rfl dX7_depart_27 29 rfl ?_
      obtain rfl := Option.some.inj h
      exact gv_iret C E rfl rfl dX7_depart_29
set_option maxRecDepth 100000 in
set_option maxHeartbeats 4000000 in
theorem kX7_isInside (w : gm_Wd) (a1 a2 : Int32) (G : Gm) (q : Int32) (h : fX7_isInside a1 a2 G = some q) : gm_C w yX7_isInside cX7_isInside 4 (some .boolean) 2 [.ref (gm_ad w 7 5 0), .int a1, .int a2] G (some (.int q)) G := by
  refine gm_start (by decide) (Nat.le_of_ble_eq_true rfl) ?_
  intro x hw C E
  subst hw
  have C : gm_X x cX7_isInside 4 RX7 (some .boolean) 2 := C
  unfold fX7_isInside at h
  refine gm_lv (lv' := [(0, _), (1, _), (2, _)]) rfl ?_
  refine gv_aload_n C rfl 0 rfl dX7_isInside_0 1 rfl ?_
  refine gv_iload_n C rfl 1 rfl dX7_isInside_1 2 rfl ?_
  refine gv_iload_n C rfl 2 rfl dX7_isInside_2 3 rfl ?_
  refine gv_iconst C 2 rfl dX7_isInside_3 4 rfl ?_
  obtain ⟨q1, hq1, h⟩ := gm_bd h
  refine gv_callVi C mc_yX7_ofBlock ⟨mi_yX7_ofBlock, me_yX7_ofBlock⟩ (by decide) mkX7_55 gi_7 ⟨_, rfl⟩ rfl rfl (kX7_ofBlock _ _ _ _ _ _ hq1) rfl rfl (Nat.le_of_ble_eq_true rfl) dX7_isInside_4 7 rfl ?_
  refine gv_istore_n C rfl [(3, _), (0, _), (1, _), (2, _)] (by decide) rfl dX7_isInside_7 8 rfl ?_
  refine gv_iload_n C rfl 0 rfl dX7_isInside_8 9 rfl ?_
  refine gv_if_lt C dX7_isInside_9 36 (by decide) 12 rfl (fun c2 => ?_) (fun c2 => ?_)
  · replace h := gm_ip c2 h
    refine gv_iconst C 0 rfl dX7_isInside_36 37 rfl ?_
    obtain rfl := Option.some.inj h
    exact gv_zret C E (Or.inl rfl) rfl rfl dX7_isInside_37
  · replace h := gm_iq c2 h
    refine gv_aload_n C rfl 1 rfl dX7_isInside_12 13 rfl ?_
    refine gv_iload_n C rfl 0 rfl dX7_isInside_13 14 rfl ?_
    refine gv_iconst C 2 rfl dX7_isInside_14 15 rfl ?_
    obtain ⟨q3, hq3, h⟩ := gm_bd h
    refine gv_callVi C mc_yX7_ofTrain ⟨mi_yX7_ofTrain, me_yX7_ofTrain⟩ (by decide) mkX7_61 gi_7 ⟨_, rfl⟩ rfl rfl (kX7_ofTrain _ _ _ _ _ hq3) rfl rfl (Nat.le_of_ble_eq_true rfl) dX7_isInside_15 18 rfl ?_
    refine gv_iconst C 2 rfl dX7_isInside_18 19 rfl ?_
    refine gv_icmp_ne C dX7_isInside_19 36 (by decide) 22 rfl (fun c4 => ?_) (fun c4 => ?_)
    · replace h := gm_ip c4 h
      refine gv_aload_n C rfl 1 rfl dX7_isInside_22 23 rfl ?_
      refine gv_iload_n C rfl 0 rfl dX7_isInside_23 24 rfl ?_
      refine gv_iconst C 3 rfl dX7_isInside_24 25 rfl ?_
      obtain ⟨q5, hq5, h⟩ := gm_bd h
      refine gv_callVi C mc_yX7_ofTrain ⟨mi_yX7_ofTrain, me_yX7_ofTrain⟩ (by decide) mkX7_61 gi_7 ⟨_, rfl⟩ rfl rfl (kX7_ofTrain _ _ _ _ _ hq5) rfl rfl (Nat.le_of_ble_eq_true rfl) dX7_isInside_25 28 rfl ?_
      refine gv_iload_n C rfl 2 rfl dX7_isInside_28 29 rfl ?_
      refine gv_icmp_ne C dX7_isInside_29 36 (by decide) 32 rfl (fun c6 => ?_) (fun c6 => ?_)
      · replace h := gm_ip c6 h
        refine gv_iconst C 1 rfl dX7_isInside_32 33 rfl ?_
        refine gv_goto C dX7_isInside_33 37 (by decide) ?_
        obtain rfl := Option.some.inj h
        exact gv_zret C E (Or.inr rfl) rfl rfl dX7_isInside_37
      · replace h := gm_iq c6 h
        refine gv_iconst C 0 rfl dX7_isInside_36 37 rfl ?_
        obtain rfl := Option.some.inj h
        exact gv_zret C E (Or.inl rfl) rfl rfl dX7_isInside_37
    · replace h := gm_iq c4 h
      refine gv_iconst C 0 rfl dX7_isInside_36 37 rfl ?_
      obtain rfl := Option.some.inj h
      exact gv_zret C E (Or.inl rfl) rfl rfl dX7_isInside_37
set_option maxRecDepth 100000 in
set_option maxHeartbeats 4000000 in
theorem kX7_admit (w : gm_Wd) (a1 a2 : Int32) (G : Gm) (q : Int32 × Gm) (h : fX7_admit a1 a2 G = some q) : gm_C w yX7_admit cX7_admit 5 (some .int) 3 [.ref (gm_ad w 7 5 0), .int a1, .int a2] G (some (.int q.1)) q.2 := by
  refine gm_start (by decide) (Nat.le_of_ble_eq_true rfl) ?_
  intro x hw C E
  subst hw
  have C : gm_X x cX7_admit 5 RX7 (some .int) 3 := C
  unfold fX7_admit at h
  refine gm_lv (lv' := [(0, _), (1, _), (2, _)]) rfl ?_
  refine gv_aload_n C rfl 0 rfl dX7_admit_0 1 rfl ?_
  refine gv_iload_n C rfl 1 rfl dX7_admit_1 2 rfl ?_
  refine gv_iload_n C rfl 2 rfl dX7_admit_2 3 rfl ?_
  obtain ⟨q1, hq1, h⟩ := gm_bd h
  refine gv_callVi C mc_yX7_isBlock ⟨mi_yX7_isBlock, me_yX7_isBlock⟩ (by decide) mkX7_71 gi_7 ⟨_, rfl⟩ rfl rfl (kX7_isBlock _ _ _ _ _ hq1) rfl rfl (Nat.le_of_ble_eq_true rfl) dX7_admit_3 6 rfl ?_
  refine gv_if_ne C dX7_admit_6 11 (by decide) 9 rfl (fun c2 => ?_) (fun c2 => ?_)
  · replace h := gm_ip c2 h
    refine gv_iconst C (-1) rfl dX7_admit_9 10 rfl ?_
    obtain rfl := Option.some.inj h
    exact gv_iret C E rfl rfl dX7_admit_10
  · replace h := gm_iq c2 h
    refine gv_aload_n C rfl 0 rfl dX7_admit_11 12 rfl ?_
    refine gv_iload_n C rfl 1 rfl dX7_admit_12 13 rfl ?_
    refine gv_iload_n C rfl 2 rfl dX7_admit_13 14 rfl ?_
    refine gv_iconst C 2 rfl dX7_admit_14 15 rfl ?_
    obtain ⟨q3, hq3, h⟩ := gm_bd h
    refine gv_callVi C mc_yX7_ofBlock ⟨mi_yX7_ofBlock, me_yX7_ofBlock⟩ (by decide) mkX7_55 gi_7 ⟨_, rfl⟩ rfl rfl (kX7_ofBlock _ _ _ _ _ _ hq3) rfl rfl (Nat.le_of_ble_eq_true rfl) dX7_admit_15 18 rfl ?_
    refine gv_istore_n C rfl [(3, _), (0, _), (1, _), (2, _)] (by decide) rfl dX7_admit_18 19 rfl ?_
    refine gv_iload_n C rfl 2 rfl dX7_admit_19 20 rfl ?_
    refine gv_iload_n C rfl 3 rfl dX7_admit_20 21 rfl ?_
    obtain ⟨q4, hq4, h⟩ := gm_bd h
    refine gv_callSi C mc_yX7_ahead ms_yX7_ahead (by decide) mkX7_120 (kX7_ahead _ _ _ _ _ hq4) rfl rfl (Nat.le_of_ble_eq_true rfl) dX7_admit_21 24 rfl ?_
    refine gv_istore C [(4, _), (3, _), (0, _), (1, _), (2, _)] (by decide) rfl dX7_admit_24 26 rfl ?_
    refine gv_aload_n C rfl 2 rfl dX7_admit_26 27 rfl ?_
    refine gv_iload_n C rfl 3 rfl dX7_admit_27 28 rfl ?_
    refine gv_iload_n C rfl 4 rfl dX7_admit_28 29 rfl ?_
    obtain ⟨q5, hq5, h⟩ := gm_bd h
    refine gv_callVi C mc_yX7_isInside ⟨mi_yX7_isInside, me_yX7_isInside⟩ (by decide) mkX7_129 gi_7 ⟨_, rfl⟩ rfl rfl (kX7_isInside _ _ _ _ _ hq5) rfl rfl (Nat.le_of_ble_eq_true rfl) dX7_admit_29 32 rfl ?_
    refine gv_if_eq C dX7_admit_32 54 (by decide) 35 rfl (fun c6 => ?_) (fun c6 => ?_)
    · replace h := gm_ip c6 h
      refine gv_bipush C (-5) rfl dX7_admit_54 56 rfl ?_
      obtain rfl := Option.some.inj h
      exact gv_iret C E rfl rfl dX7_admit_56
    · replace h := gm_iq c6 h
      refine gv_aload_n C rfl 2 rfl dX7_admit_35 36 rfl ?_
      refine gv_iload_n C rfl 1 rfl dX7_admit_36 37 rfl ?_
      refine gv_iconst C 4 rfl dX7_admit_37 38 rfl ?_
      obtain ⟨q7, hq7, h⟩ := gm_bd h
      refine gv_callVi C mc_yX7_ofTrain ⟨mi_yX7_ofTrain, me_yX7_ofTrain⟩ (by decide) mkX7_61 gi_7 ⟨_, rfl⟩ rfl rfl (kX7_ofTrain _ _ _ _ _ hq7) rfl rfl (Nat.le_of_ble_eq_true rfl) dX7_admit_38 41 rfl ?_
      refine gv_if_gt C dX7_admit_41 54 (by decide) 44 rfl (fun c8 => ?_) (fun c8 => ?_)
      · replace h := gm_ip c8 h
        refine gv_bipush C (-5) rfl dX7_admit_54 56 rfl ?_
        obtain rfl := Option.some.inj h
        exact gv_iret C E rfl rfl dX7_admit_56
      · replace h := gm_iq c8 h
        refine gv_aload_n C rfl 2 rfl dX7_admit_44 45 rfl ?_
        refine gv_iload C 0 rfl dX7_admit_45 47 rfl ?_
        refine gv_iload_n C rfl 4 rfl dX7_admit_47 48 rfl ?_
        obtain ⟨q9, hq9, h⟩ := gm_bd h
        refine gv_callVi C mc_yX7_isFree ⟨mi_yX7_isFree, me_yX7_isFree⟩ (by decide) mkX7_83 gi_7 ⟨_, rfl⟩ rfl rfl (kX7_isFree _ _ _ _ _ hq9) rfl rfl (Nat.le_of_ble_eq_true rfl) dX7_admit_48 51 rfl ?_
        refine gv_if_ne C dX7_admit_51 57 (by decide) 54 rfl (fun c10 => ?_) (fun c10 => ?_)
        · replace h := gm_ip c10 h
          refine gv_bipush C (-5) rfl dX7_admit_54 56 rfl ?_
          obtain rfl := Option.some.inj h
          exact gv_iret C E rfl rfl dX7_admit_56
        · replace h := gm_iq c10 h
          refine gv_aload_n C rfl 2 rfl dX7_admit_57 58 rfl ?_
          refine gv_iload_n C rfl 1 rfl dX7_admit_58 59 rfl ?_
          refine gv_iconst C 2 rfl dX7_admit_59 60 rfl ?_
          refine gv_iconst C 0 rfl dX7_admit_60 61 rfl ?_
          obtain ⟨q11, hq11, h⟩ := gm_bd h
          refine gv_callVv C mc_yX7_layTrain ⟨mi_yX7_layTrain, me_yX7_layTrain⟩ (by decide) mkX7_75 gi_7 ⟨_, rfl⟩ rfl rfl (kX7_layTrain _ _ _ _ _ _ hq11) rfl rfl (Nat.le_of_ble_eq_true rfl) dX7_admit_61 64 rfl ?_
          refine gv_aload_n C rfl 2 rfl dX7_admit_64 65 rfl ?_
          refine gv_iload_n C rfl 1 rfl dX7_admit_65 66 rfl ?_
          refine gv_iconst C 3 rfl dX7_admit_66 67 rfl ?_
          refine gv_iload C 0 rfl dX7_admit_67 69 rfl ?_
          obtain ⟨q12, hq12, h⟩ := gm_bd h
          refine gv_callVv C mc_yX7_layTrain ⟨mi_yX7_layTrain, me_yX7_layTrain⟩ (by decide) mkX7_75 gi_7 ⟨_, rfl⟩ rfl rfl (kX7_layTrain _ _ _ _ _ _ hq12) rfl rfl (Nat.le_of_ble_eq_true rfl) dX7_admit_69 72 rfl ?_
          refine gv_iload_n C rfl 1 rfl dX7_admit_72 73 rfl ?_
          obtain rfl := Option.some.inj h
          exact gv_iret C E rfl rfl dX7_admit_73
set_option maxRecDepth 100000 in
set_option maxHeartbeats 4000000 in
theorem kX7_out (w : gm_Wd) (a1 a2 : Int32) (G : Gm) (q : Int32 × Gm) (h : fX7_out a1 a2 G = some q) : gm_C w yX7_out cX7_out 4 (some .int) 3 [.ref (gm_ad w 7 5 0), .int a1, .int a2] G (some (.int q.1)) q.2 := by
  refine gm_start (by decide) (Nat.le_of_ble_eq_true rfl) ?_
  intro x hw C E
  subst hw
  have C : gm_X x cX7_out 4 RX7 (some .int) 3 := C
  unfold fX7_out at h
  refine gm_lv (lv' := [(0, _), (1, _), (2, _)]) rfl ?_
  refine gv_aload_n C rfl 0 rfl dX7_out_0 1 rfl ?_
  refine gv_iload_n C rfl 1 rfl dX7_out_1 2 rfl ?_
  refine gv_iload_n C rfl 2 rfl dX7_out_2 3 rfl ?_
  obtain ⟨q1, hq1, h⟩ := gm_bd h
  refine gv_callVi C mc_yX7_isBlock ⟨mi_yX7_isBlock, me_yX7_isBlock⟩ (by decide) mkX7_71 gi_7 ⟨_, rfl⟩ rfl rfl (kX7_isBlock _ _ _ _ _ hq1) rfl rfl (Nat.le_of_ble_eq_true rfl) dX7_out_3 6 rfl ?_
  refine gv_if_ne C dX7_out_6 11 (by decide) 9 rfl (fun c2 => ?_) (fun c2 => ?_)
  · replace h := gm_ip c2 h
    refine gv_iconst C (-1) rfl dX7_out_9 10 rfl ?_
    obtain rfl := Option.some.inj h
    exact gv_iret C E rfl rfl dX7_out_10
  · replace h := gm_iq c2 h
    refine gv_iload_n C rfl 1 rfl dX7_out_11 12 rfl ?_
    refine gv_iload_n C rfl 2 rfl dX7_out_12 13 rfl ?_
    obtain ⟨q3, hq3, h⟩ := gm_bd h
    refine gv_callSi C mc_yX7_ahead ms_yX7_ahead (by decide) mkX7_120 (kX7_ahead _ _ _ _ _ hq3) rfl rfl (Nat.le_of_ble_eq_true rfl) dX7_out_13 16 rfl ?_
    refine gv_istore_n C rfl [(3, _), (0, _), (1, _), (2, _)] (by decide) rfl dX7_out_16 17 rfl ?_
    refine gv_aload_n C rfl 1 rfl dX7_out_17 18 rfl ?_
    refine gv_iload_n C rfl 2 rfl dX7_out_18 19 rfl ?_
    refine gv_iload_n C rfl 3 rfl dX7_out_19 20 rfl ?_
    refine gv_iconst C 0 rfl dX7_out_20 21 rfl ?_
    obtain ⟨q4, hq4, h⟩ := gm_bd h
    refine gv_callVi C mc_yX7_ofBlock ⟨mi_yX7_ofBlock, me_yX7_ofBlock⟩ (by decide) mkX7_55 gi_7 ⟨_, rfl⟩ rfl rfl (kX7_ofBlock _ _ _ _ _ _ hq4) rfl rfl (Nat.le_of_ble_eq_true rfl) dX7_out_21 24 rfl ?_
    refine gv_iconst C 2 rfl dX7_out_24 25 rfl ?_
    refine gv_icmp_ne C dX7_out_25 48 (by decide) 28 rfl (fun c5 => ?_) (fun c5 => ?_)
    · replace h := gm_ip c5 h
      refine gv_aload_n C rfl 1 rfl dX7_out_28 29 rfl ?_
      refine gv_iload_n C rfl 2 rfl dX7_out_29 30 rfl ?_
      refine gv_iload_n C rfl 3 rfl dX7_out_30 31 rfl ?_
      obtain ⟨q6, hq6, h⟩ := gm_bd h
      refine gv_callVi C mc_yX7_isInside ⟨mi_yX7_isInside, me_yX7_isInside⟩ (by decide) mkX7_129 gi_7 ⟨_, rfl⟩ rfl rfl (kX7_isInside _ _ _ _ _ hq6) rfl rfl (Nat.le_of_ble_eq_true rfl) dX7_out_31 34 rfl ?_
      refine gv_if_ne C dX7_out_34 48 (by decide) 37 rfl (fun c7 => ?_) (fun c7 => ?_)
      · replace h := gm_ip c7 h
        refine gv_aload_n C rfl 1 rfl dX7_out_37 38 rfl ?_
        refine gv_iload_n C rfl 2 rfl dX7_out_38 39 rfl ?_
        refine gv_iload_n C rfl 3 rfl dX7_out_39 40 rfl ?_
        refine gv_iconst C 3 rfl dX7_out_40 41 rfl ?_
        obtain ⟨q8, hq8, h⟩ := gm_bd h
        refine gv_callVi C mc_yX7_ofBlock ⟨mi_yX7_ofBlock, me_yX7_ofBlock⟩ (by decide) mkX7_55 gi_7 ⟨_, rfl⟩ rfl rfl (kX7_ofBlock _ _ _ _ _ _ hq8) rfl rfl (Nat.le_of_ble_eq_true rfl) dX7_out_41 44 rfl ?_
        refine gv_iconst C 1 rfl dX7_out_44 45 rfl ?_
        refine gv_icmp_ne C dX7_out_45 51 (by decide) 48 rfl (fun c9 => ?_) (fun c9 => ?_)
        · replace h := gm_ip c9 h
          refine gv_bipush C (-5) rfl dX7_out_48 50 rfl ?_
          obtain rfl := Option.some.inj h
          exact gv_iret C E rfl rfl dX7_out_50
        · replace h := gm_iq c9 h
          refine gv_aload_n C rfl 1 rfl dX7_out_51 52 rfl ?_
          refine gf_7_0 C gi_7 lkX7_7 dX7_out_52 55 rfl ?_
          refine gv_iload_n C rfl 2 rfl dX7_out_55 56 rfl ?_
          refine gv_iload_n C rfl 3 rfl dX7_out_56 57 rfl ?_
          refine gv_iconst C 0 rfl dX7_out_57 58 rfl ?_
          obtain ⟨q10, hq10, h⟩ := gm_bd h
          refine gv_callSi C mc_yX7_place ms_yX7_place (by decide) mkX7_51 (kX7_place _ _ _ _ _ _ hq10) rfl rfl (Nat.le_of_ble_eq_true rfl) dX7_out_58 61 rfl ?_
          refine gv_iconst C 0 rfl dX7_out_61 62 rfl ?_
          obtain ⟨g11, h⟩ := gm_gis h
          refine gv_iast C (gi_85 (c := 0) (by decide)) rfl g11 dX7_out_62 63 rfl ?_
          refine gv_aload_n C rfl 1 rfl dX7_out_63 64 rfl ?_
          refine gf_7_0 C gi_7 lkX7_7 dX7_out_64 67 rfl ?_
          refine gv_iload_n C rfl 2 rfl dX7_out_67 68 rfl ?_
          refine gv_iload_n C rfl 3 rfl dX7_out_68 69 rfl ?_
          refine gv_iconst C 2 rfl dX7_out_69 70 rfl ?_
          obtain ⟨q12, hq12, h⟩ := gm_bd h
          refine gv_callSi C mc_yX7_place ms_yX7_place (by decide) mkX7_51 (kX7_place _ _ _ _ _ _ hq12) rfl rfl (Nat.le_of_ble_eq_true rfl) dX7_out_70 73 rfl ?_
          refine gv_bipush C (-6) rfl dX7_out_73 75 rfl ?_
          obtain ⟨g13, h⟩ := gm_gis h
          refine gv_iast C (gi_85 (c := 0) (by decide)) rfl g13 dX7_out_75 76 rfl ?_
          refine gv_aload_n C rfl 1 rfl dX7_out_76 77 rfl ?_
          refine gf_7_0 C gi_7 lkX7_7 dX7_out_77 80 rfl ?_
          refine gv_iload_n C rfl 2 rfl dX7_out_80 81 rfl ?_
          refine gv_iload_n C rfl 0 rfl dX7_out_81 82 rfl ?_
          obtain ⟨q14, hq14, h⟩ := gm_bd h
          refine gv_callSi C mc_yX7_tokensAt ms_yX7_tokensAt (by decide) mkX7_117 (kX7_tokensAt _ _ _ _ _ hq14) rfl rfl (Nat.le_of_ble_eq_true rfl) dX7_out_82 85 rfl ?_
          refine gv_dup2 C rfl rfl dX7_out_85 86 rfl ?_
          obtain ⟨g15, h⟩ := gm_gis h
          refine gv_iald C (gi_85 (c := 0) (by decide)) rfl g15 dX7_out_86 87 rfl ?_
          refine gv_aload_n C rfl 1 rfl dX7_out_87 88 rfl ?_
          refine gv_iload_n C rfl 2 rfl dX7_out_88 89 rfl ?_
          obtain ⟨q16, hq16, h⟩ := gm_bd h
          refine gv_callVi C mc_yX7_isSingle ⟨mi_yX7_isSingle, me_yX7_isSingle⟩ (by decide) mkX7_58 gi_7 ⟨_, rfl⟩ rfl rfl (kX7_isSingle _ _ _ _ hq16) rfl rfl (Nat.le_of_ble_eq_true rfl) dX7_out_89 92 rfl ?_
          refine gv_if_eq C dX7_out_92 99 (by decide) 95 rfl (fun c17 => ?_) (fun c17 => ?_)
          · replace h := gm_ip c17 h
            refine gv_iconst C 0 rfl dX7_out_99 100 rfl ?_
            refine gv_iadd C dX7_out_100 101 rfl ?_
            obtain ⟨g18, h⟩ := gm_gis h
            refine gv_iast C (gi_85 (c := 0) (by decide)) rfl g18 dX7_out_101 102 rfl ?_
            refine gv_aload_n C rfl 1 rfl dX7_out_102 103 rfl ?_
            refine gv_iload_n C rfl 2 rfl dX7_out_103 104 rfl ?_
            refine gv_iload_n C rfl 3 rfl dX7_out_104 105 rfl ?_
            refine gv_iload_n C rfl 0 rfl dX7_out_105 106 rfl ?_
            refine gv_bipush C 21 rfl dX7_out_106 108 rfl ?_
            obtain ⟨q19, hq19, h⟩ := gm_bd h
            refine gv_callVi C mc_yX7_ring ⟨mi_yX7_ring, me_yX7_ring⟩ (by decide) mkX7_113 gi_7 ⟨_, rfl⟩ rfl rfl (kX7_ring _ _ _ _ _ _ _ hq19) rfl rfl (Nat.le_of_ble_eq_true rfl) dX7_out_108 111 rfl ?_
            obtain rfl := Option.some.inj h
            exact gv_iret C E rfl rfl dX7_out_111
          · replace h := gm_iq c17 h
            refine gv_iconst C 1 rfl dX7_out_95 96 rfl ?_
            refine gv_goto C dX7_out_96 100 (by decide) ?_
            refine gv_iadd C dX7_out_100 101 rfl ?_
            obtain ⟨g20, h⟩ := gm_gis h
            refine gv_iast C (gi_85 (c := 0) (by decide)) rfl g20 dX7_out_101 102 rfl ?_
            refine gv_aload_n C rfl 1 rfl dX7_out_102 103 rfl ?_
            refine gv_iload_n C rfl 2 rfl dX7_out_103 104 rfl ?_
            refine gv_iload_n C rfl 3 rfl dX7_out_104 105 rfl ?_
            refine gv_iload_n C rfl 0 rfl dX7_out_105 106 rfl ?_
            refine gv_bipush C 21 rfl dX7_out_106 108 rfl ?_
            obtain ⟨q21, hq21, h⟩ := gm_bd h
            refine gv_callVi C mc_yX7_ring ⟨mi_yX7_ring, me_yX7_ring⟩ (by decide) mkX7_113 gi_7 ⟨_, rfl⟩ rfl rfl (kX7_ring _ _ _ _ _ _ _ hq21) rfl rfl (Nat.le_of_ble_eq_true rfl) dX7_out_108 111 rfl ?_
            obtain rfl := Option.some.inj h
            exact gv_iret C E rfl rfl dX7_out_111
      · replace h := gm_iq c7 h
        refine gv_bipush C (-5) rfl dX7_out_48 50 rfl ?_
        obtain rfl := Option.some.inj h
        exact gv_iret C E rfl rfl dX7_out_50
    · replace h := gm_iq c5 h
      refine gv_bipush C (-5) rfl dX7_out_48 50 rfl ?_
      obtain rfl := Option.some.inj h
      exact gv_iret C E rfl rfl dX7_out_50
set_option maxRecDepth 100000 in
set_option maxHeartbeats 4000000 in
theorem kX7_assist (w : gm_Wd) (a1 a2 : Int32) (G : Gm) (q : Int32 × Gm) (h : fX7_assist a1 a2 G = some q) : gm_C w yX7_assist cX7_assist 3 (some .int) 3 [.ref (gm_ad w 7 5 0), .int a1, .int a2] G (some (.int q.1)) q.2 := by
  refine gm_start (by decide) (Nat.le_of_ble_eq_true rfl) ?_
  intro x hw C E
  subst hw
  have C : gm_X x cX7_assist 3 RX7 (some .int) 3 := C
  unfold fX7_assist at h
  refine gm_lv (lv' := [(0, _), (1, _), (2, _)]) rfl ?_
  refine gv_aload_n C rfl 0 rfl dX7_assist_0 1 rfl ?_
  refine gv_iload_n C rfl 1 rfl dX7_assist_1 2 rfl ?_
  refine gv_iload_n C rfl 2 rfl dX7_assist_2 3 rfl ?_
  obtain ⟨q1, hq1, h⟩ := gm_bd h
  refine gv_callVi C mc_yX7_isBlock ⟨mi_yX7_isBlock, me_yX7_isBlock⟩ (by decide) mkX7_71 gi_7 ⟨_, rfl⟩ rfl rfl (kX7_isBlock _ _ _ _ _ hq1) rfl rfl (Nat.le_of_ble_eq_true rfl) dX7_assist_3 6 rfl ?_
  refine gv_if_ne C dX7_assist_6 11 (by decide) 9 rfl (fun c2 => ?_) (fun c2 => ?_)
  · replace h := gm_ip c2 h
    refine gv_iconst C (-1) rfl dX7_assist_9 10 rfl ?_
    obtain rfl := Option.some.inj h
    exact gv_iret C E rfl rfl dX7_assist_10
  · replace h := gm_iq c2 h
    refine gv_aload_n C rfl 0 rfl dX7_assist_11 12 rfl ?_
    refine gv_iload_n C rfl 1 rfl dX7_assist_12 13 rfl ?_
    refine gv_iload_n C rfl 2 rfl dX7_assist_13 14 rfl ?_
    refine gv_iconst C 3 rfl dX7_assist_14 15 rfl ?_
    obtain ⟨q3, hq3, h⟩ := gm_bd h
    refine gv_callVi C mc_yX7_ofBlock ⟨mi_yX7_ofBlock, me_yX7_ofBlock⟩ (by decide) mkX7_55 gi_7 ⟨_, rfl⟩ rfl rfl (kX7_ofBlock _ _ _ _ _ _ hq3) rfl rfl (Nat.le_of_ble_eq_true rfl) dX7_assist_15 18 rfl ?_
    refine gv_if_eq C dX7_assist_18 40 (by decide) 21 rfl (fun c4 => ?_) (fun c4 => ?_)
    · replace h := gm_ip c4 h
      refine gv_bipush C (-5) rfl dX7_assist_40 42 rfl ?_
      obtain rfl := Option.some.inj h
      exact gv_iret C E rfl rfl dX7_assist_42
    · replace h := gm_iq c4 h
      refine gv_aload_n C rfl 0 rfl dX7_assist_21 22 rfl ?_
      refine gv_iload_n C rfl 1 rfl dX7_assist_22 23 rfl ?_
      refine gv_iload_n C rfl 2 rfl dX7_assist_23 24 rfl ?_
      obtain ⟨q5, hq5, h⟩ := gm_bd h
      refine gv_callVi C mc_yX7_isInside ⟨mi_yX7_isInside, me_yX7_isInside⟩ (by decide) mkX7_129 gi_7 ⟨_, rfl⟩ rfl rfl (kX7_isInside _ _ _ _ _ hq5) rfl rfl (Nat.le_of_ble_eq_true rfl) dX7_assist_24 27 rfl ?_
      refine gv_if_ne C dX7_assist_27 40 (by decide) 30 rfl (fun c6 => ?_) (fun c6 => ?_)
      · replace h := gm_ip c6 h
        refine gv_aload_n C rfl 0 rfl dX7_assist_30 31 rfl ?_
        refine gv_iload_n C rfl 1 rfl dX7_assist_31 32 rfl ?_
        refine gv_iload_n C rfl 2 rfl dX7_assist_32 33 rfl ?_
        refine gv_iconst C 4 rfl dX7_assist_33 34 rfl ?_
        obtain ⟨q7, hq7, h⟩ := gm_bd h
        refine gv_callVi C mc_yX7_ofBlock ⟨mi_yX7_ofBlock, me_yX7_ofBlock⟩ (by decide) mkX7_55 gi_7 ⟨_, rfl⟩ rfl rfl (kX7_ofBlock _ _ _ _ _ _ hq7) rfl rfl (Nat.le_of_ble_eq_true rfl) dX7_assist_34 37 rfl ?_
        refine gv_if_le C dX7_assist_37 43 (by decide) 40 rfl (fun c8 => ?_) (fun c8 => ?_)
        · replace h := gm_ip c8 h
          refine gv_aload_n C rfl 0 rfl dX7_assist_43 44 rfl ?_
          refine gf_7_0 C gi_7 lkX7_7 dX7_assist_44 47 rfl ?_
          refine gv_iload_n C rfl 1 rfl dX7_assist_47 48 rfl ?_
          refine gv_iload_n C rfl 2 rfl dX7_assist_48 49 rfl ?_
          refine gv_iconst C 4 rfl dX7_assist_49 50 rfl ?_
          obtain ⟨q9, hq9, h⟩ := gm_bd h
          refine gv_callSi C mc_yX7_place ms_yX7_place (by decide) mkX7_51 (kX7_place _ _ _ _ _ _ hq9) rfl rfl (Nat.le_of_ble_eq_true rfl) dX7_assist_50 53 rfl ?_
          refine gv_iconst C 2 rfl dX7_assist_53 54 rfl ?_
          refine gv_aload_n C rfl 0 rfl dX7_assist_54 55 rfl ?_
          refine gf_7_0 C gi_7 lkX7_7 dX7_assist_55 58 rfl ?_
          refine gv_iconst C 3 rfl dX7_assist_58 59 rfl ?_
          refine gv_iload_n C rfl 1 rfl dX7_assist_59 60 rfl ?_
          refine gv_iadd C dX7_assist_60 61 rfl ?_
          obtain ⟨g10, h⟩ := gm_gis h
          refine gv_iald C (gi_85 (c := 0) (by decide)) rfl g10 dX7_assist_61 62 rfl ?_
          refine gv_imul C dX7_assist_62 63 rfl ?_
          obtain ⟨g11, h⟩ := gm_gis h
          refine gv_iast C (gi_85 (c := 0) (by decide)) rfl g11 dX7_assist_63 64 rfl ?_
          refine gv_aload_n C rfl 0 rfl dX7_assist_64 65 rfl ?_
          refine gv_iload_n C rfl 1 rfl dX7_assist_65 66 rfl ?_
          refine gv_iload_n C rfl 2 rfl dX7_assist_66 67 rfl ?_
          refine gv_iload_n C rfl 1 rfl dX7_assist_67 68 rfl ?_
          refine gv_iload_n C rfl 2 rfl dX7_assist_68 69 rfl ?_
          obtain ⟨q12, hq12, h⟩ := gm_bd h
          refine gv_callSi C mc_yX7_rear ms_yX7_rear (by decide) mkX7_107 (kX7_rear _ _ _ _ _ hq12) rfl rfl (Nat.le_of_ble_eq_true rfl) dX7_assist_69 72 rfl ?_
          refine gv_bipush C 22 rfl dX7_assist_72 74 rfl ?_
          obtain ⟨q13, hq13, h⟩ := gm_bd h
          refine gv_callVi C mc_yX7_ring ⟨mi_yX7_ring, me_yX7_ring⟩ (by decide) mkX7_113 gi_7 ⟨_, rfl⟩ rfl rfl (kX7_ring _ _ _ _ _ _ _ hq13) rfl rfl (Nat.le_of_ble_eq_true rfl) dX7_assist_74 77 rfl ?_
          refine gv_pop C rfl dX7_assist_77 78 rfl ?_
          refine gv_aload_n C rfl 0 rfl dX7_assist_78 79 rfl ?_
          refine gv_iload_n C rfl 1 rfl dX7_assist_79 80 rfl ?_
          refine gv_iload_n C rfl 2 rfl dX7_assist_80 81 rfl ?_
          refine gv_iconst C 4 rfl dX7_assist_81 82 rfl ?_
          obtain ⟨q14, hq14, h⟩ := gm_bd h
          refine gv_callVi C mc_yX7_ofBlock ⟨mi_yX7_ofBlock, me_yX7_ofBlock⟩ (by decide) mkX7_55 gi_7 ⟨_, rfl⟩ rfl rfl (kX7_ofBlock _ _ _ _ _ _ hq14) rfl rfl (Nat.le_of_ble_eq_true rfl) dX7_assist_82 85 rfl ?_
          obtain rfl := Option.some.inj h
          exact gv_iret C E rfl rfl dX7_assist_85
        · replace h := gm_iq c8 h
          refine gv_bipush C (-5) rfl dX7_assist_40 42 rfl ?_
          obtain rfl := Option.some.inj h
          exact gv_iret C E rfl rfl dX7_assist_42
      · replace h := gm_iq c6 h
        refine gv_bipush C (-5) rfl dX7_assist_40 42 rfl ?_
        obtain rfl := Option.some.inj h
        exact gv_iret C E rfl rfl dX7_assist_42
