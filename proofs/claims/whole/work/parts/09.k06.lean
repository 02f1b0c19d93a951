set_option maxRecDepth 100000 in
set_option maxHeartbeats 4000000 in
theorem kX6_capacity (w : gm_Wd) (a1 a2 a3 : Int32) (G : Gm) (q : Int32 × Gm) (h : fX6_capacity a1 a2 a3 G = some q) : gm_C w yX6_capacity cX6_capacity 6 (some .int) 6 [.ref (gm_ad w 6 4 0), .int a1, .int a2, .int a3] G (some (.int q.1)) q.2 := by
  refine gm_start (by decide) (Nat.le_of_ble_eq_true rfl) ?_
  intro x hw C E
  subst hw
  have C : gm_X x cX6_capacity 6 RX6 (some .int) 6 := C
  unfold fX6_capacity at h
  have L53 : ∀ (n53 : Nat) (v4 v5 : Int32) (G : Gm), fX6_capacity_h53 a1 a2 a3 n53 v4 v5 G = some q → gm_V x G 53 [(0, .ref (gm_ad (cx_w x) 6 4 0)), (1, .int a1), (2, .int a2), (3, .int a3), (4, .int v4), (5, .int v5)] [] := by
    intro n53
    induction n53 with
    | zero => intro v4 v5 G h; cases h
    | succ n53 ih53 =>
      intro v4 v5 G h
      rw [fX6_capacity_h53.eq_2] at h
      refine gv_iload C 5 rfl dX6_capacity_53 55 rfl ?_
      refine gv_iload_n C rfl 3 rfl dX6_capacity_55 56 rfl ?_
      refine gv_icmp_ge C dX6_capacity_56 86 (by decide) 59 rfl (fun c9 => ?_) (fun c9 => ?_)
      · replace h := gm_ip c9 h
        refine gv_iload C 4 rfl dX6_capacity_86 88 rfl ?_
        obtain rfl := Option.some.inj h
        exact gv_iret C E rfl rfl dX6_capacity_88
      · replace h := gm_iq c9 h
        refine gv_aload_n C rfl 0 rfl dX6_capacity_59 60 rfl ?_
        refine gf_6_1 C gi_6 lkX6_16 dX6_capacity_60 63 rfl ?_
        refine gv_iload_n C rfl 1 rfl dX6_capacity_63 64 rfl ?_
        refine gv_iload_n C rfl 2 rfl dX6_capacity_64 65 rfl ?_
        obtain ⟨q10, hq10, h⟩ := gm_bd h
        refine gv_callVv C mc_yX1_bringSpare ⟨mi_yX1_bringSpare, me_yX1_bringSpare⟩ (by decide) mkX6_164 (gi_1 (by decide)) ⟨_, rfl⟩ rfl rfl (kX1_bringSpare _ _ (by decide) _ _ _ _ hq10) rfl rfl (Nat.le_of_ble_eq_true rfl) dX6_capacity_65 68 rfl ?_
        refine gv_iload C 4 rfl dX6_capacity_68 70 rfl ?_
        refine gv_aload_n C rfl 0 rfl dX6_capacity_70 71 rfl ?_
        refine gf_6_1 C gi_6 lkX6_16 dX6_capacity_71 74 rfl ?_
        obtain ⟨q11, hq11, h⟩ := gm_bd h
        refine gv_callVi C mc_yX1_workTick ⟨mi_yX1_workTick, me_yX1_workTick⟩ (by decide) mkX6_150 (gi_1 (by decide)) ⟨_, rfl⟩ rfl rfl (kX1_workTick _ _ (by decide) _ _ hq11) rfl rfl (Nat.le_of_ble_eq_true rfl) dX6_capacity_74 77 rfl ?_
        refine gv_iadd C dX6_capacity_77 78 rfl ?_
        refine gv_istore C [(4, _), (0, _), (1, _), (2, _), (3, _), (5, _)] (by decide) rfl dX6_capacity_78 80 rfl ?_
        refine gv_iinc C 5 rfl rfl [(5, _), (4, _), (0, _), (1, _), (2, _), (3, _)] (by decide) rfl dX6_capacity_80 83 rfl ?_
        refine gv_goto C dX6_capacity_83 53 (by decide) ?_
        refine gm_ls [2, 3, 4, 5, 1, 0] rfl ?_
        exact ih53 _ _ _ h
  refine gm_lv (lv' := [(0, _), (1, _), (2, _), (3, _)]) rfl ?_
  refine gv_iload_n C rfl 1 rfl dX6_capacity_0 1 rfl ?_
  obtain ⟨q1, hq1, h⟩ := gm_bd h
  refine gv_callSi C mc_yX6_isKind ms_yX6_isKind (by decide) mkX6_76 (kX6_isKind _ _ _ _ hq1) rfl rfl (Nat.le_of_ble_eq_true rfl) dX6_capacity_1 4 rfl ?_
  refine gv_if_eq C dX6_capacity_4 26 (by decide) 7 rfl (fun c2 => ?_) (fun c2 => ?_)
  · replace h := gm_ip c2 h
    refine gv_bipush C (-2) rfl dX6_capacity_26 28 rfl ?_
    obtain rfl := Option.some.inj h
    exact gv_iret C E rfl rfl dX6_capacity_28
  · replace h := gm_iq c2 h
    refine gv_iload_n C rfl 2 rfl dX6_capacity_7 8 rfl ?_
    obtain ⟨q3, hq3, h⟩ := gm_bd h
    refine gv_callSi C mc_yX6_isDirection ms_yX6_isDirection (by decide) mkX6_55 (kX6_isDirection _ _ _ _ hq3) rfl rfl (Nat.le_of_ble_eq_true rfl) dX6_capacity_8 11 rfl ?_
    refine gv_if_eq C dX6_capacity_11 26 (by decide) 14 rfl (fun c4 => ?_) (fun c4 => ?_)
    · replace h := gm_ip c4 h
      refine gv_bipush C (-2) rfl dX6_capacity_26 28 rfl ?_
      obtain rfl := Option.some.inj h
      exact gv_iret C E rfl rfl dX6_capacity_28
    · replace h := gm_iq c4 h
      refine gv_iload_n C rfl 3 rfl dX6_capacity_14 15 rfl ?_
      refine gv_iconst C 1 rfl dX6_capacity_15 16 rfl ?_
      refine gv_icmp_lt C dX6_capacity_16 26 (by decide) 19 rfl (fun c5 => ?_) (fun c5 => ?_)
      · replace h := gm_ip c5 h
        refine gv_bipush C (-2) rfl dX6_capacity_26 28 rfl ?_
        obtain rfl := Option.some.inj h
        exact gv_iret C E rfl rfl dX6_capacity_28
      · replace h := gm_iq c5 h
        refine gv_iload_n C rfl 3 rfl dX6_capacity_19 20 rfl ?_
        refine gv_sipush C 300 rfl dX6_capacity_20 23 rfl ?_
        refine gv_icmp_le C dX6_capacity_23 29 (by decide) 26 rfl (fun c6 => ?_) (fun c6 => ?_)
        · replace h := gm_ip c6 h
          refine gv_aload_n C rfl 0 rfl dX6_capacity_29 30 rfl ?_
          refine gf_6_1 C gi_6 lkX6_16 dX6_capacity_30 33 rfl ?_
          refine gv_aload_n C rfl 0 rfl dX6_capacity_33 34 rfl ?_
          refine gf_6_0 C gi_6 lkX6_12 dX6_capacity_34 37 rfl ?_
          obtain ⟨q7, hq7, h⟩ := gm_bd h
          refine gv_callVv C mc_yX1_copyFrom ⟨mi_yX1_copyFrom, me_yX1_copyFrom⟩ (by decide) mkX6_154 (gi_1 (by decide)) ⟨_, rfl⟩ rfl rfl (kX1_copyFrom _ _ _ (by decide) (by decide) _ _ hq7) rfl rfl (Nat.le_of_ble_eq_true rfl) dX6_capacity_37 40 rfl ?_
          refine gv_aload_n C rfl 0 rfl dX6_capacity_40 41 rfl ?_
          refine gf_6_1 C gi_6 lkX6_16 dX6_capacity_41 44 rfl ?_
          obtain ⟨q8, hq8, h⟩ := gm_bd h
          refine gv_callVv C mc_yX1_clearTraffic ⟨mi_yX1_clearTraffic, me_yX1_clearTraffic⟩ (by decide) mkX6_161 (gi_1 (by decide)) ⟨_, rfl⟩ rfl rfl (kX1_clearTraffic _ _ (by decide) _ _ hq8) rfl rfl (Nat.le_of_ble_eq_true rfl) dX6_capacity_44 47 rfl ?_
          refine gv_iconst C 0 rfl dX6_capacity_47 48 rfl ?_
          refine gv_istore C [(4, _), (0, _), (1, _), (2, _), (3, _)] (by decide) rfl dX6_capacity_48 50 rfl ?_
          refine gv_iconst C 0 rfl dX6_capacity_50 51 rfl ?_
          refine gv_istore C [(5, _), (4, _), (0, _), (1, _), (2, _), (3, _)] (by decide) rfl dX6_capacity_51 53 rfl ?_
          refine gm_ls [2, 3, 4, 5, 1, 0] rfl ?_
          exact L53 _ _ _ _ h
        · replace h := gm_iq c6 h
          refine gv_bipush C (-2) rfl dX6_capacity_26 28 rfl ?_
          obtain rfl := Option.some.inj h
          exact gv_iret C E rfl rfl dX6_capacity_28
set_option maxRecDepth 100000 in
set_option maxHeartbeats 4000000 in
theorem kX6_say (w : gm_Wd) (a1 : Int32) (G : Gm) (q : Int32 × Gm) (h : fX6_say a1 G = some q) : gm_C w yX6_say cX6_say 2 (some .int) 1 [.ref (gm_ad w 6 4 0), .int a1] G (some (.int q.1)) q.2 := by
  refine gm_start (by decide) (Nat.le_of_ble_eq_true rfl) ?_
  intro x hw C E
  subst hw
  have C : gm_X x cX6_say 2 RX6 (some .int) 1 := C
  unfold fX6_say at h
  refine gm_lv (lv' := [(0, _), (1, _)]) rfl ?_
  refine gv_iload_n C rfl 1 rfl dX6_say_0 1 rfl ?_
  refine gv_bipush C 33 rfl dX6_say_1 3 rfl ?_
  refine gv_icmp_lt C dX6_say_3 12 (by decide) 6 rfl (fun c1 => ?_) (fun c1 => ?_)
  · replace h := gm_ip c1 h
    refine gv_bipush C (-2) rfl dX6_say_12 14 rfl ?_
    obtain rfl := Option.some.inj h
    exact gv_iret C E rfl rfl dX6_say_14
  · replace h := gm_iq c1 h
    refine gv_iload_n C rfl 1 rfl dX6_say_6 7 rfl ?_
    refine gv_bipush C 126 rfl dX6_say_7 9 rfl ?_
    refine gv_icmp_le C dX6_say_9 15 (by decide) 12 rfl (fun c2 => ?_) (fun c2 => ?_)
    · replace h := gm_ip c2 h
      refine gv_aload_n C rfl 0 rfl dX6_say_15 16 rfl ?_
      refine gf_6_4 C gi_6 lkX6_30 dX6_say_16 19 rfl ?_
      refine gv_iload_n C rfl 1 rfl dX6_say_19 20 rfl ?_
      obtain ⟨q3, hq3, h⟩ := gm_bd h
      refine gv_callVi C mc_yX2_append ⟨mi_yX2_append, me_yX2_append⟩ (by decide) mkX6_167 gi_2 ⟨_, rfl⟩ rfl rfl (kX2_append _ _ _ _ hq3) rfl rfl (Nat.le_of_ble_eq_true rfl) dX6_say_20 23 rfl ?_
      obtain rfl := Option.some.inj h
      exact gv_iret C E rfl rfl dX6_say_23
    · replace h := gm_iq c2 h
      refine gv_bipush C (-2) rfl dX6_say_12 14 rfl ?_
      obtain rfl := Option.some.inj h
      exact gv_iret C E rfl rfl dX6_say_14
set_option maxRecDepth 100000 in
set_option maxHeartbeats 4000000 in
theorem kX6_wipe (w : gm_Wd) (G : Gm) (q : Int32 × Gm) (h : fX6_wipe G = some q) : gm_C w yX6_wipe cX6_wipe 1 (some .int) 1 [.ref (gm_ad w 6 4 0)] G (some (.int q.1)) q.2 := by
  refine gm_start (by decide) (Nat.le_of_ble_eq_true rfl) ?_
  intro x hw C E
  subst hw
  have C : gm_X x cX6_wipe 1 RX6 (some .int) 1 := C
  unfold fX6_wipe at h
  refine gm_lv (lv' := [(0, _)]) rfl ?_
  refine gv_aload_n C rfl 0 rfl dX6_wipe_0 1 rfl ?_
  refine gf_6_4 C gi_6 lkX6_30 dX6_wipe_1 4 rfl ?_
  obtain ⟨q1, hq1, h⟩ := gm_bd h
  refine gv_callVi C mc_yX2_empty ⟨mi_yX2_empty, me_yX2_empty⟩ (by decide) mkX6_170 gi_2 ⟨_, rfl⟩ rfl rfl (kX2_empty _  _ _ hq1) rfl rfl (Nat.le_of_ble_eq_true rfl) dX6_wipe_4 7 rfl ?_
  obtain rfl := Option.some.inj h
  exact gv_iret C E rfl rfl dX6_wipe_7
set_option maxRecDepth 100000 in
set_option maxHeartbeats 4000000 in
theorem kX6_fault (w : gm_Wd) (G : Gm) (q : Int32) (h : fX6_fault G = some q) : gm_C w yX6_fault cX6_fault 1 (some .int) 3 [.ref (gm_ad w 6 4 0)] G (some (.int q)) G := by
  refine gm_start (by decide) (Nat.le_of_ble_eq_true rfl) ?_
  intro x hw C E
  subst hw
  have C : gm_X x cX6_fault 1 RX6 (some .int) 3 := C
  unfold fX6_fault at h
  refine gm_lv (lv' := [(0, _)]) rfl ?_
  refine gv_aload_n C rfl 0 rfl dX6_fault_0 1 rfl ?_
  refine gf_6_4 C gi_6 lkX6_30 dX6_fault_1 4 rfl ?_
  obtain ⟨q1, hq1, h⟩ := gm_bd h
  refine gv_callVi C mc_yX2_firstFault ⟨mi_yX2_firstFault, me_yX2_firstFault⟩ (by decide) mkX6_173 gi_2 ⟨_, rfl⟩ rfl rfl (kX2_firstFault _  _ _ hq1) rfl rfl (Nat.le_of_ble_eq_true rfl) dX6_fault_4 7 rfl ?_
  obtain rfl := Option.some.inj h
  exact gv_iret C E rfl rfl dX6_fault_7
set_option maxRecDepth 100000 in
set_option maxHeartbeats 4000000 in
theorem kX6_obey (w : gm_Wd) (a1 a2 a3 : Int32) (G : Gm) (q : Int32 × Gm) (h : fX6_obey a1 a2 a3 G = some q) : gm_C w yX6_obey cX6_obey 4 (some .int) 6 [.ref (gm_ad w 6 4 0), .int a1, .int a2, .int a3] G (some (.int q.1)) q.2 := by
  refine gm_start (by decide) (Nat.le_of_ble_eq_true rfl) ?_
  intro x hw C E
  subst hw
  have C : gm_X x cX6_obey 4 RX6 (some .int) 6 := C
  unfold fX6_obey at h
  refine gm_lv (lv' := [(0, _), (1, _), (2, _), (3, _)]) rfl ?_
  refine gv_iload_n C rfl 1 rfl dX6_obey_0 1 rfl ?_
  by_cases c1 : a1 = 97
  · replace h := gm_ip c1 h
    refine gv_tableIn C 97 c1 dX6_obey_1 (by decide) (by decide) (o := 162) (by decide) 163 (by decide) ?_
    refine gv_aload_n C rfl 0 rfl dX6_obey_163 164 rfl ?_
    refine gv_iload_n C rfl 2 rfl dX6_obey_164 165 rfl ?_
    refine gv_iload_n C rfl 3 rfl dX6_obey_165 166 rfl ?_
    obtain ⟨q22, hq22, h⟩ := gm_bd h
    refine gv_callVi C mc_yX6_admit ⟨mi_yX6_admit, me_yX6_admit⟩ (by decide) mkX6_214 gi_6 ⟨_, rfl⟩ rfl rfl (kX6_admit _ _ _ _ _ hq22) rfl rfl (Nat.le_of_ble_eq_true rfl) dX6_obey_166 169 rfl ?_
    obtain rfl := Option.some.inj h
    exact gv_iret C E rfl rfl dX6_obey_169
  · replace h := gm_iq c1 h
    by_cases c2 : a1 = 99
    · replace h := gm_ip c2 h
      refine gv_tableIn C 99 c2 dX6_obey_1 (by decide) (by decide) (o := 155) (by decide) 156 (by decide) ?_
      refine gv_aload_n C rfl 0 rfl dX6_obey_156 157 rfl ?_
      refine gv_iload_n C rfl 2 rfl dX6_obey_157 158 rfl ?_
      refine gv_iload_n C rfl 3 rfl dX6_obey_158 159 rfl ?_
      obtain ⟨q21, hq21, h⟩ := gm_bd h
      refine gv_callVi C mc_yX6_cancel ⟨mi_yX6_cancel, me_yX6_cancel⟩ (by decide) mkX6_211 gi_6 ⟨_, rfl⟩ rfl rfl (kX6_cancel _ _ _ _ _ hq21) rfl rfl (Nat.le_of_ble_eq_true rfl) dX6_obey_159 162 rfl ?_
      obtain rfl := Option.some.inj h
      exact gv_iret C E rfl rfl dX6_obey_162
    · replace h := gm_iq c2 h
      by_cases c3 : a1 = 100
      · replace h := gm_ip c3 h
        refine gv_tableIn C 100 c3 dX6_obey_1 (by decide) (by decide) (o := 121) (by decide) 122 (by decide) ?_
        refine gv_aload_n C rfl 0 rfl dX6_obey_122 123 rfl ?_
        refine gv_iload_n C rfl 2 rfl dX6_obey_123 124 rfl ?_
        obtain ⟨q20, hq20, h⟩ := gm_bd h
        refine gv_callVi C mc_yX6_depart ⟨mi_yX6_depart, me_yX6_depart⟩ (by decide) mkX6_198 gi_6 ⟨_, rfl⟩ rfl rfl (kX6_depart _ _ _ _ hq20) rfl rfl (Nat.le_of_ble_eq_true rfl) dX6_obey_124 127 rfl ?_
        obtain rfl := Option.some.inj h
        exact gv_iret C E rfl rfl dX6_obey_127
      · replace h := gm_iq c3 h
        by_cases c4 : a1 = 101
        · replace h := gm_ip c4 h
          refine gv_tableIn C 101 c4 dX6_obey_1 (by decide) (by decide) (o := 176) (by decide) 177 (by decide) ?_
          refine gv_aload_n C rfl 0 rfl dX6_obey_177 178 rfl ?_
          refine gv_iload_n C rfl 2 rfl dX6_obey_178 179 rfl ?_
          refine gv_iload_n C rfl 3 rfl dX6_obey_179 180 rfl ?_
          obtain ⟨q19, hq19, h⟩ := gm_bd h
          refine gv_callVi C mc_yX6_assist ⟨mi_yX6_assist, me_yX6_assist⟩ (by decide) mkX6_220 gi_6 ⟨_, rfl⟩ rfl rfl (kX6_assist _ _ _ _ _ hq19) rfl rfl (Nat.le_of_ble_eq_true rfl) dX6_obey_180 183 rfl ?_
          obtain rfl := Option.some.inj h
          exact gv_iret C E rfl rfl dX6_obey_183
        · replace h := gm_iq c4 h
          by_cases c5 : a1 = 108
          · replace h := gm_ip c5 h
            refine gv_tableIn C 108 c5 dX6_obey_1 (by decide) (by decide) (o := 133) (by decide) 134 (by decide) ?_
            refine gv_aload_n C rfl 0 rfl dX6_obey_134 135 rfl ?_
            refine gv_iload_n C rfl 2 rfl dX6_obey_135 136 rfl ?_
            obtain ⟨q18, hq18, h⟩ := gm_bd h
            refine gv_callVi C mc_yX6_leave ⟨mi_yX6_leave, me_yX6_leave⟩ (by decide) mkX6_204 gi_6 ⟨_, rfl⟩ rfl rfl (kX6_leave _ _ _ _ hq18) rfl rfl (Nat.le_of_ble_eq_true rfl) dX6_obey_136 139 rfl ?_
            obtain rfl := Option.some.inj h
            exact gv_iret C E rfl rfl dX6_obey_139
          · replace h := gm_iq c5 h
            by_cases c6 : a1 = 110
            · replace h := gm_ip c6 h
              refine gv_tableIn C 110 c6 dX6_obey_1 (by decide) (by decide) (o := 147) (by decide) 148 (by decide) ?_
              refine gv_aload_n C rfl 0 rfl dX6_obey_148 149 rfl ?_
              refine gv_iload_n C rfl 2 rfl dX6_obey_149 150 rfl ?_
              refine gv_iload_n C rfl 3 rfl dX6_obey_150 151 rfl ?_
              refine gv_iconst C 0 rfl dX6_obey_151 152 rfl ?_
              obtain ⟨q17, hq17, h⟩ := gm_bd h
              refine gv_callVi C mc_yX6_answer ⟨mi_yX6_answer, me_yX6_answer⟩ (by decide) mkX6_207 gi_6 ⟨_, rfl⟩ rfl rfl (kX6_answer _ _ _ _ _ _ hq17) rfl rfl (Nat.le_of_ble_eq_true rfl) dX6_obey_152 155 rfl ?_
              obtain rfl := Option.some.inj h
              exact gv_iret C E rfl rfl dX6_obey_155
            · replace h := gm_iq c6 h
              by_cases c7 : a1 = 111
              · replace h := gm_ip c7 h
                refine gv_tableIn C 111 c7 dX6_obey_1 (by decide) (by decide) (o := 115) (by decide) 116 (by decide) ?_
                refine gv_aload_n C rfl 0 rfl dX6_obey_116 117 rfl ?_
                refine gv_iload_n C rfl 2 rfl dX6_obey_117 118 rfl ?_
                obtain ⟨q16, hq16, h⟩ := gm_bd h
                refine gv_callVi C mc_yX6_offer ⟨mi_yX6_offer, me_yX6_offer⟩ (by decide) mkX6_195 gi_6 ⟨_, rfl⟩ rfl rfl (kX6_offer _ _ _ _ hq16) rfl rfl (Nat.le_of_ble_eq_true rfl) dX6_obey_118 121 rfl ?_
                obtain rfl := Option.some.inj h
                exact gv_iret C E rfl rfl dX6_obey_121
              · replace h := gm_iq c7 h
                by_cases c8 : a1 = 115
                · replace h := gm_ip c8 h
                  refine gv_tableIn C 115 c8 dX6_obey_1 (by decide) (by decide) (o := 127) (by decide) 128 (by decide) ?_
                  refine gv_aload_n C rfl 0 rfl dX6_obey_128 129 rfl ?_
                  refine gv_iload_n C rfl 2 rfl dX6_obey_129 130 rfl ?_
                  obtain ⟨q15, hq15, h⟩ := gm_bd h
                  refine gv_callVi C mc_yX6_shunt ⟨mi_yX6_shunt, me_yX6_shunt⟩ (by decide) mkX6_201 gi_6 ⟨_, rfl⟩ rfl rfl (kX6_shunt _ _ _ _ hq15) rfl rfl (Nat.le_of_ble_eq_true rfl) dX6_obey_130 133 rfl ?_
                  obtain rfl := Option.some.inj h
                  exact gv_iret C E rfl rfl dX6_obey_133
                · replace h := gm_iq c8 h
                  by_cases c9 : a1 = 116
                  · replace h := gm_ip c9 h
                    refine gv_tableIn C 116 c9 dX6_obey_1 (by decide) (by decide) (o := 183) (by decide) 184 (by decide) ?_
                    refine gv_aload_n C rfl 0 rfl dX6_obey_184 185 rfl ?_
                    refine gv_iload_n C rfl 2 rfl dX6_obey_185 186 rfl ?_
                    obtain ⟨q14, hq14, h⟩ := gm_bd h
                    refine gv_callVi C mc_yX6_pass ⟨mi_yX6_pass, me_yX6_pass⟩ (by decide) mkX6_223 gi_6 ⟨_, rfl⟩ rfl rfl (kX6_pass _ _ _ _ hq14) rfl rfl (Nat.le_of_ble_eq_true rfl) dX6_obey_186 189 rfl ?_
                    obtain rfl := Option.some.inj h
                    exact gv_iret C E rfl rfl dX6_obey_189
                  · replace h := gm_iq c9 h
                    by_cases c10 : a1 = 117
                    · replace h := gm_ip c10 h
                      refine gv_tableIn C 117 c10 dX6_obey_1 (by decide) (by decide) (o := 169) (by decide) 170 (by decide) ?_
                      refine gv_aload_n C rfl 0 rfl dX6_obey_170 171 rfl ?_
                      refine gv_iload_n C rfl 2 rfl dX6_obey_171 172 rfl ?_
                      refine gv_iload_n C rfl 3 rfl dX6_obey_172 173 rfl ?_
                      obtain ⟨q13, hq13, h⟩ := gm_bd h
                      refine gv_callVi C mc_yX6_out ⟨mi_yX6_out, me_yX6_out⟩ (by decide) mkX6_217 gi_6 ⟨_, rfl⟩ rfl rfl (kX6_out _ _ _ _ _ hq13) rfl rfl (Nat.le_of_ble_eq_true rfl) dX6_obey_173 176 rfl ?_
                      obtain rfl := Option.some.inj h
                      exact gv_iret C E rfl rfl dX6_obey_176
                    · replace h := gm_iq c10 h
                      by_cases c11 : a1 = 121
                      · replace h := gm_ip c11 h
                        refine gv_tableIn C 121 c11 dX6_obey_1 (by decide) (by decide) (o := 139) (by decide) 140 (by decide) ?_
                        refine gv_aload_n C rfl 0 rfl dX6_obey_140 141 rfl ?_
                        refine gv_iload_n C rfl 2 rfl dX6_obey_141 142 rfl ?_
                        refine gv_iload_n C rfl 3 rfl dX6_obey_142 143 rfl ?_
                        refine gv_iconst C 1 rfl dX6_obey_143 144 rfl ?_
                        obtain ⟨q12, hq12, h⟩ := gm_bd h
                        refine gv_callVi C mc_yX6_answer ⟨mi_yX6_answer, me_yX6_answer⟩ (by decide) mkX6_207 gi_6 ⟨_, rfl⟩ rfl rfl (kX6_answer _ _ _ _ _ _ hq12) rfl rfl (Nat.le_of_ble_eq_true rfl) dX6_obey_144 147 rfl ?_
                        obtain rfl := Option.some.inj h
                        exact gv_iret C E rfl rfl dX6_obey_147
                      · replace h := gm_iq c11 h
                        refine gv_tableD C dX6_obey_1 [97, 99, 100, 101, 108, 110, 111, 115, 116, 117, 121] (by decide) (by decide) (List.forall_mem_cons.mpr ⟨lv_neT c1 rfl, (List.forall_mem_cons.mpr ⟨lv_neT c2 rfl, (List.forall_mem_cons.mpr ⟨lv_neT c3 rfl, (List.forall_mem_cons.mpr ⟨lv_neT c4 rfl, (List.forall_mem_cons.mpr ⟨lv_neT c5 rfl, (List.forall_mem_cons.mpr ⟨lv_neT c6 rfl, (List.forall_mem_cons.mpr ⟨lv_neT c7 rfl, (List.forall_mem_cons.mpr ⟨lv_neT c8 rfl, (List.forall_mem_cons.mpr ⟨lv_neT c9 rfl, (List.forall_mem_cons.mpr ⟨lv_neT c10 rfl, (List.forall_mem_cons.mpr ⟨lv_neT c11 rfl, (fun _ h => absurd h List.not_mem_nil)⟩)⟩)⟩)⟩)⟩)⟩)⟩)⟩)⟩)⟩)⟩) 190 (by decide) ?_
                        refine gv_bipush C (-3) rfl dX6_obey_190 192 rfl ?_
                        obtain rfl := Option.some.inj h
                        exact gv_iret C E rfl rfl dX6_obey_192
set_option maxRecDepth 100000 in
set_option maxHeartbeats 4000000 in
theorem kX6_carryOut (w : gm_Wd) (G : Gm) (q : Int32 × Gm) (h : fX6_carryOut G = some q) : gm_C w yX6_carryOut cX6_carryOut 3 (some .int) 7 [.ref (gm_ad w 6 4 0)] G (some (.int q.1)) q.2 := by
  refine gm_start (by decide) (Nat.le_of_ble_eq_true rfl) ?_
  intro x hw C E
  subst hw
  have C : gm_X x cX6_carryOut 3 RX6 (some .int) 7 := C
  unfold fX6_carryOut at h
  have L26 : ∀ (n26 : Nat) (v1 v2 : Int32) (G : Gm), fX6_carryOut_h26 n26 v1 v2 G = some q → gm_V x G 26 [(0, .ref (gm_ad (cx_w x) 6 4 0)), (1, .int v1), (2, .int v2)] [] := by
    intro n26
    induction n26 with
    | zero => intro v1 v2 G h; cases h
    | succ n26 ih26 =>
      intro v1 v2 G h
      rw [fX6_carryOut_h26.eq_2] at h
      refine gv_iload_n C rfl 2 rfl dX6_carryOut_26 27 rfl ?_
      refine gv_bipush C 60 rfl dX6_carryOut_27 29 rfl ?_
      refine gv_icmp_ge C dX6_carryOut_29 82 (by decide) 32 rfl (fun c4 => ?_) (fun c4 => ?_)
      · replace h := gm_ip c4 h
        refine gv_aload_n C rfl 0 rfl dX6_carryOut_82 83 rfl ?_
        refine gf_6_4 C gi_6 lkX6_30 dX6_carryOut_83 86 rfl ?_
        obtain ⟨q5, hq5, h⟩ := gm_bd h
        refine gv_callVi C mc_yX2_empty ⟨mi_yX2_empty, me_yX2_empty⟩ (by decide) mkX6_170 gi_2 ⟨_, rfl⟩ rfl rfl (kX2_empty _  _ _ hq5) rfl rfl (Nat.le_of_ble_eq_true rfl) dX6_carryOut_86 89 rfl ?_
        refine gv_pop C rfl dX6_carryOut_89 90 rfl ?_
        refine gv_iload_n C rfl 1 rfl dX6_carryOut_90 91 rfl ?_
        obtain rfl := Option.some.inj h
        exact gv_iret C E rfl rfl dX6_carryOut_91
      · replace h := gm_iq c4 h
        refine gv_aload_n C rfl 0 rfl dX6_carryOut_32 33 rfl ?_
        refine gf_6_4 C gi_6 lkX6_30 dX6_carryOut_33 36 rfl ?_
        obtain ⟨q6, hq6, h⟩ := gm_bd h
        refine gv_callVi C mc_yX2_readOrder ⟨mi_yX2_readOrder, me_yX2_readOrder⟩ (by decide) mkX6_179 gi_2 ⟨_, rfl⟩ rfl rfl (kX2_readOrder _  _ _ hq6) rfl rfl (Nat.le_of_ble_eq_true rfl) dX6_carryOut_36 39 rfl ?_
        refine gv_if_eq C dX6_carryOut_39 82 (by decide) 42 rfl (fun c7 => ?_) (fun c7 => ?_)
        · replace h := gm_ip c7 h
          refine gv_aload_n C rfl 0 rfl dX6_carryOut_82 83 rfl ?_
          refine gf_6_4 C gi_6 lkX6_30 dX6_carryOut_83 86 rfl ?_
          obtain ⟨q8, hq8, h⟩ := gm_bd h
          refine gv_callVi C mc_yX2_empty ⟨mi_yX2_empty, me_yX2_empty⟩ (by decide) mkX6_170 gi_2 ⟨_, rfl⟩ rfl rfl (kX2_empty _  _ _ hq8) rfl rfl (Nat.le_of_ble_eq_true rfl) dX6_carryOut_86 89 rfl ?_
          refine gv_pop C rfl dX6_carryOut_89 90 rfl ?_
          refine gv_iload_n C rfl 1 rfl dX6_carryOut_90 91 rfl ?_
          obtain rfl := Option.some.inj h
          exact gv_iret C E rfl rfl dX6_carryOut_91
        · replace h := gm_iq c7 h
          refine gv_aload_n C rfl 0 rfl dX6_carryOut_42 43 rfl ?_
          refine gv_aload_n C rfl 0 rfl dX6_carryOut_43 44 rfl ?_
          refine gf_6_4 C gi_6 lkX6_30 dX6_carryOut_44 47 rfl ?_
          refine gf_2_3 C gi_2 lkX6_183 dX6_carryOut_47 50 rfl ?_
          refine gv_aload_n C rfl 0 rfl dX6_carryOut_50 51 rfl ?_
          refine gf_6_4 C gi_6 lkX6_30 dX6_carryOut_51 54 rfl ?_
          refine gf_2_4 C gi_2 lkX6_186 dX6_carryOut_54 57 rfl ?_
          refine gv_aload_n C rfl 0 rfl dX6_carryOut_57 58 rfl ?_
          refine gf_6_4 C gi_6 lkX6_30 dX6_carryOut_58 61 rfl ?_
          refine gf_2_5 C gi_2 lkX6_189 dX6_carryOut_61 64 rfl ?_
          obtain ⟨q9, hq9, h⟩ := gm_bd h
          refine gv_callVi C mc_yX6_obey ⟨mi_yX6_obey, me_yX6_obey⟩ (by decide) mkX6_192 gi_6 ⟨_, rfl⟩ rfl rfl (kX6_obey _ _ _ _ _ _ hq9) rfl rfl (Nat.le_of_ble_eq_true rfl) dX6_carryOut_64 67 rfl ?_
          refine gv_if_ge C dX6_carryOut_67 73 (by decide) 70 rfl (fun c10 => ?_) (fun c10 => ?_)
          · replace h := gm_ip c10 h
            refine gv_iinc C 1 rfl rfl [(1, _), (0, _), (2, _)] (by decide) rfl dX6_carryOut_73 76 rfl ?_
            refine gv_iinc C 2 rfl rfl [(2, _), (1, _), (0, _)] (by decide) rfl dX6_carryOut_76 79 rfl ?_
            refine gv_goto C dX6_carryOut_79 26 (by decide) ?_
            refine gm_ls [2, 1, 0] rfl ?_
            exact ih26 _ _ _ h
          · replace h := gm_iq c10 h
            refine gv_goto C dX6_carryOut_70 82 (by decide) ?_
            refine gv_aload_n C rfl 0 rfl dX6_carryOut_82 83 rfl ?_
            refine gf_6_4 C gi_6 lkX6_30 dX6_carryOut_83 86 rfl ?_
            obtain ⟨q11, hq11, h⟩ := gm_bd h
            refine gv_callVi C mc_yX2_empty ⟨mi_yX2_empty, me_yX2_empty⟩ (by decide) mkX6_170 gi_2 ⟨_, rfl⟩ rfl rfl (kX2_empty _  _ _ hq11) rfl rfl (Nat.le_of_ble_eq_true rfl) dX6_carryOut_86 89 rfl ?_
            refine gv_pop C rfl dX6_carryOut_89 90 rfl ?_
            refine gv_iload_n C rfl 1 rfl dX6_carryOut_90 91 rfl ?_
            obtain rfl := Option.some.inj h
            exact gv_iret C E rfl rfl dX6_carryOut_91
  refine gm_lv (lv' := [(0, _)]) rfl ?_
  refine gv_aload_n C rfl 0 rfl dX6_carryOut_0 1 rfl ?_
  refine gf_6_4 C gi_6 lkX6_30 dX6_carryOut_1 4 rfl ?_
  obtain ⟨q1, hq1, h⟩ := gm_bd h
  refine gv_callVi C mc_yX2_firstFault ⟨mi_yX2_firstFault, me_yX2_firstFault⟩ (by decide) mkX6_173 gi_2 ⟨_, rfl⟩ rfl rfl (kX2_firstFault _  _ _ hq1) rfl rfl (Nat.le_of_ble_eq_true rfl) dX6_carryOut_4 7 rfl ?_
  refine gv_bipush C (-6) rfl dX6_carryOut_7 9 rfl ?_
  refine gv_icmp_eq C dX6_carryOut_9 15 (by decide) 12 rfl (fun c2 => ?_) (fun c2 => ?_)
  · replace h := gm_ip c2 h
    refine gv_iconst C 0 rfl dX6_carryOut_15 16 rfl ?_
    refine gv_istore_n C rfl [(1, _), (0, _)] (by decide) rfl dX6_carryOut_16 17 rfl ?_
    refine gv_aload_n C rfl 1 rfl dX6_carryOut_17 18 rfl ?_
    refine gf_6_4 C gi_6 lkX6_30 dX6_carryOut_18 21 rfl ?_
    obtain ⟨q3, hq3, h⟩ := gm_bd h
    refine gv_callVv C mc_yX2_rewind ⟨mi_yX2_rewind, me_yX2_rewind⟩ (by decide) mkX6_176 gi_2 ⟨_, rfl⟩ rfl rfl (kX2_rewind _  _ _ hq3) rfl rfl (Nat.le_of_ble_eq_true rfl) dX6_carryOut_21 24 rfl ?_
    refine gv_iconst C 0 rfl dX6_carryOut_24 25 rfl ?_
    refine gv_istore_n C rfl [(2, _), (1, _), (0, _)] (by decide) rfl dX6_carryOut_25 26 rfl ?_
    refine gm_ls [2, 1, 0] rfl ?_
    exact L26 _ _ _ _ h
  · replace h := gm_iq c2 h
    refine gv_bipush C (-3) rfl dX6_carryOut_12 14 rfl ?_
    obtain rfl := Option.some.inj h
    exact gv_iret C E rfl rfl dX6_carryOut_14
set_option maxRecDepth 100000 in
set_option maxHeartbeats 4000000 in
theorem kX6_count (w : gm_Wd) (a1 : Int32) (G : Gm) (q : Int32) (h : fX6_count a1 G = some q) : gm_C w yX6_count cX6_count 2 (some .int) 2 [.ref (gm_ad w 6 4 0), .int a1] G (some (.int q)) G := by
  refine gm_start (by decide) (Nat.le_of_ble_eq_true rfl) ?_
  intro x hw C E
  subst hw
  have C : gm_X x cX6_count 2 RX6 (some .int) 2 := C
  unfold fX6_count at h
  refine gm_lv (lv' := [(0, _), (1, _)]) rfl ?_
  refine gv_iload_n C rfl 1 rfl dX6_count_0 1 rfl ?_
  by_cases c1 : a1 = 0
  · replace h := gm_ip c1 h
    refine gv_tableIn C 0 c1 dX6_count_1 (by decide) (by decide) (o := 55) (by decide) 56 (by decide) ?_
    refine gv_aload_n C rfl 0 rfl dX6_count_56 57 rfl ?_
    refine gf_6_0 C gi_6 lkX6_12 dX6_count_57 60 rfl ?_
    refine gf_1_7 C (gi_1 (by decide)) lkX6_131 dX6_count_60 63 rfl ?_
    obtain rfl := Option.some.inj h
    exact gv_iret C E rfl rfl dX6_count_63
  · replace h := gm_iq c1 h
    by_cases c2 : a1 = 1
    · replace h := gm_ip c2 h
      refine gv_tableIn C 1 c2 dX6_count_1 (by decide) (by decide) (o := 63) (by decide) 64 (by decide) ?_
      refine gv_aload_n C rfl 0 rfl dX6_count_64 65 rfl ?_
      refine gf_6_0 C gi_6 lkX6_12 dX6_count_65 68 rfl ?_
      refine gf_1_6 C (gi_1 (by decide)) lkX6_34 dX6_count_68 71 rfl ?_
      obtain rfl := Option.some.inj h
      exact gv_iret C E rfl rfl dX6_count_71
    · replace h := gm_iq c2 h
      by_cases c3 : a1 = 2
      · replace h := gm_ip c3 h
        refine gv_tableIn C 2 c3 dX6_count_1 (by decide) (by decide) (o := 71) (by decide) 72 (by decide) ?_
        refine gv_aload_n C rfl 0 rfl dX6_count_72 73 rfl ?_
        refine gf_6_0 C gi_6 lkX6_12 dX6_count_73 76 rfl ?_
        refine gv_iconst C 3 rfl dX6_count_76 77 rfl ?_
        obtain ⟨q15, hq15, h⟩ := gm_bd h
        refine gv_callVi C mc_yX1_trainsThatAre ⟨mi_yX1_trainsThatAre, me_yX1_trainsThatAre⟩ (by decide) mkX6_226 (gi_1 (by decide)) ⟨_, rfl⟩ rfl rfl (kX1_trainsThatAre _ _ (by decide) _ _ _ hq15) rfl rfl (Nat.le_of_ble_eq_true rfl) dX6_count_77 80 rfl ?_
        obtain rfl := Option.some.inj h
        exact gv_iret C E rfl rfl dX6_count_80
      · replace h := gm_iq c3 h
        by_cases c4 : a1 = 3
        · replace h := gm_ip c4 h
          refine gv_tableIn C 3 c4 dX6_count_1 (by decide) (by decide) (o := 80) (by decide) 81 (by decide) ?_
          refine gv_aload_n C rfl 0 rfl dX6_count_81 82 rfl ?_
          refine gf_6_0 C gi_6 lkX6_12 dX6_count_82 85 rfl ?_
          refine gv_iconst C 2 rfl dX6_count_85 86 rfl ?_
          obtain ⟨q14, hq14, h⟩ := gm_bd h
          refine gv_callVi C mc_yX1_trainsThatAre ⟨mi_yX1_trainsThatAre, me_yX1_trainsThatAre⟩ (by decide) mkX6_226 (gi_1 (by decide)) ⟨_, rfl⟩ rfl rfl (kX1_trainsThatAre _ _ (by decide) _ _ _ hq14) rfl rfl (Nat.le_of_ble_eq_true rfl) dX6_count_86 89 rfl ?_
          obtain rfl := Option.some.inj h
          exact gv_iret C E rfl rfl dX6_count_89
        · replace h := gm_iq c4 h
          by_cases c5 : a1 = 4
          · replace h := gm_ip c5 h
            refine gv_tableIn C 4 c5 dX6_count_1 (by decide) (by decide) (o := 89) (by decide) 90 (by decide) ?_
            refine gv_aload_n C rfl 0 rfl dX6_count_90 91 rfl ?_
            refine gf_6_0 C gi_6 lkX6_12 dX6_count_91 94 rfl ?_
            refine gf_1_4 C (gi_1 (by decide)) lkX6_139 dX6_count_94 97 rfl ?_
            refine gf_3_1 C (gi_3 (by decide)) lkX6_229 dX6_count_97 100 rfl ?_
            obtain rfl := Option.some.inj h
            exact gv_iret C E rfl rfl dX6_count_100
          · replace h := gm_iq c5 h
            by_cases c6 : a1 = 5
            · replace h := gm_ip c6 h
              refine gv_tableIn C 5 c6 dX6_count_1 (by decide) (by decide) (o := 100) (by decide) 101 (by decide) ?_
              refine gv_aload_n C rfl 0 rfl dX6_count_101 102 rfl ?_
              refine gf_6_0 C gi_6 lkX6_12 dX6_count_102 105 rfl ?_
              refine gv_iconst C 0 rfl dX6_count_105 106 rfl ?_
              refine gv_iconst C 0 rfl dX6_count_106 107 rfl ?_
              obtain ⟨q13, hq13, h⟩ := gm_bd h
              refine gv_callVi C mc_yX1_blocksOtherThan ⟨mi_yX1_blocksOtherThan, me_yX1_blocksOtherThan⟩ (by decide) mkX6_232 (gi_1 (by decide)) ⟨_, rfl⟩ rfl rfl (kX1_blocksOtherThan _ _ (by decide) _ _ _ _ hq13) rfl rfl (Nat.le_of_ble_eq_true rfl) dX6_count_107 110 rfl ?_
              obtain rfl := Option.some.inj h
              exact gv_iret C E rfl rfl dX6_count_110
            · replace h := gm_iq c6 h
              by_cases c7 : a1 = 6
              · replace h := gm_ip c7 h
                refine gv_tableIn C 6 c7 dX6_count_1 (by decide) (by decide) (o := 110) (by decide) 111 (by decide) ?_
                refine gv_aload_n C rfl 0 rfl dX6_count_111 112 rfl ?_
                refine gf_6_0 C gi_6 lkX6_12 dX6_count_112 115 rfl ?_
                refine gf_1_5 C (gi_1 (by decide)) lkX6_235 dX6_count_115 118 rfl ?_
                obtain rfl := Option.some.inj h
                exact gv_iret C E rfl rfl dX6_count_118
              · replace h := gm_iq c7 h
                by_cases c8 : a1 = 7
                · replace h := gm_ip c8 h
                  refine gv_tableIn C 7 c8 dX6_count_1 (by decide) (by decide) (o := 118) (by decide) 119 (by decide) ?_
                  refine gv_aload_n C rfl 0 rfl dX6_count_119 120 rfl ?_
                  refine gf_6_4 C gi_6 lkX6_30 dX6_count_120 123 rfl ?_
                  refine gf_2_1 C gi_2 lkX6_238 dX6_count_123 126 rfl ?_
                  obtain rfl := Option.some.inj h
                  exact gv_iret C E rfl rfl dX6_count_126
                · replace h := gm_iq c8 h
                  by_cases c9 : a1 = 8
                  · replace h := gm_ip c9 h
                    refine gv_tableIn C 8 c9 dX6_count_1 (by decide) (by decide) (o := 126) (by decide) 127 (by decide) ?_
                    refine gv_aload_n C rfl 0 rfl dX6_count_127 128 rfl ?_
                    refine gf_6_0 C gi_6 lkX6_12 dX6_count_128 131 rfl ?_
                    refine gv_iconst C 3 rfl dX6_count_131 132 rfl ?_
                    refine gv_iconst C 0 rfl dX6_count_132 133 rfl ?_
                    obtain ⟨q12, hq12, h⟩ := gm_bd h
                    refine gv_callVi C mc_yX1_blocksOtherThan ⟨mi_yX1_blocksOtherThan, me_yX1_blocksOtherThan⟩ (by decide) mkX6_232 (gi_1 (by decide)) ⟨_, rfl⟩ rfl rfl (kX1_blocksOtherThan _ _ (by decide) _ _ _ _ hq12) rfl rfl (Nat.le_of_ble_eq_true rfl) dX6_count_133 136 rfl ?_
                    obtain rfl := Option.some.inj h
                    exact gv_iret C E rfl rfl dX6_count_136
                  · replace h := gm_iq c9 h
                    by_cases c10 : a1 = 9
                    · replace h := gm_ip c10 h
                      refine gv_tableIn C 9 c10 dX6_count_1 (by decide) (by decide) (o := 136) (by decide) 137 (by decide) ?_
                      refine gv_aload_n C rfl 0 rfl dX6_count_137 138 rfl ?_
                      refine gf_6_0 C gi_6 lkX6_12 dX6_count_138 141 rfl ?_
                      refine gv_iconst C 1 rfl dX6_count_141 142 rfl ?_
                      refine gv_bipush C (-6) rfl dX6_count_142 144 rfl ?_
                      obtain ⟨q11, hq11, h⟩ := gm_bd h
                      refine gv_callVi C mc_yX1_blocksOtherThan ⟨mi_yX1_blocksOtherThan, me_yX1_blocksOtherThan⟩ (by decide) mkX6_232 (gi_1 (by decide)) ⟨_, rfl⟩ rfl rfl (kX1_blocksOtherThan _ _ (by decide) _ _ _ _ hq11) rfl rfl (Nat.le_of_ble_eq_true rfl) dX6_count_144 147 rfl ?_
                      obtain rfl := Option.some.inj h
                      exact gv_iret C E rfl rfl dX6_count_147
                    · replace h := gm_iq c10 h
                      refine gv_tableD C dX6_count_1 [0, 1, 2, 3, 4, 5, 6, 7, 8, 9] (by decide) (by decide) (List.forall_mem_cons.mpr ⟨lv_neT c1 rfl, (List.forall_mem_cons.mpr ⟨lv_neT c2 rfl, (List.forall_mem_cons.mpr ⟨lv_neT c3 rfl, (List.forall_mem_cons.mpr ⟨lv_neT c4 rfl, (List.forall_mem_cons.mpr ⟨lv_neT c5 rfl, (List.forall_mem_cons.mpr ⟨lv_neT c6 rfl, (List.forall_mem_cons.mpr ⟨lv_neT c7 rfl, (List.forall_mem_cons.mpr ⟨lv_neT c8 rfl, (List.forall_mem_cons.mpr ⟨lv_neT c9 rfl, (List.forall_mem_cons.mpr ⟨lv_neT c10 rfl, (fun _ h => absurd h List.not_mem_nil)⟩)⟩)⟩)⟩)⟩)⟩)⟩)⟩)⟩)⟩) 148 (by decide) ?_
                      refine gv_bipush C (-2) rfl dX6_count_148 150 rfl ?_
                      obtain rfl := Option.some.inj h
                      exact gv_iret C E rfl rfl dX6_count_150
set_option maxRecDepth 100000 in
set_option maxHeartbeats 4000000 in
theorem kX6_save (w : gm_Wd) (a1 : Int32) (G : Gm) (q : Int32 × Gm) (h : fX6_save a1 G = some q) : gm_C w yX6_save cX6_save 2 (some .int) 3 [.ref (gm_ad w 6 4 0), .int a1] G (some (.int q.1)) q.2 := by
  refine gm_start (by decide) (Nat.le_of_ble_eq_true rfl) ?_
  intro x hw C E
  subst hw
  have C : gm_X x cX6_save 2 RX6 (some .int) 3 := C
  unfold fX6_save at h
  refine gm_lv (lv' := [(0, _), (1, _)]) rfl ?_
  refine gv_iload_n C rfl 1 rfl dX6_save_0 1 rfl ?_
  refine gv_if_lt C dX6_save_1 9 (by decide) 4 rfl (fun c1 => ?_) (fun c1 => ?_)
  · replace h := gm_ip c1 h
    refine gv_bipush C (-2) rfl dX6_save_9 11 rfl ?_
    obtain rfl := Option.some.inj h
    exact gv_iret C E rfl rfl dX6_save_11
  · replace h := gm_iq c1 h
    refine gv_iload_n C rfl 1 rfl dX6_save_4 5 rfl ?_
    refine gv_iconst C 2 rfl dX6_save_5 6 rfl ?_
    refine gv_icmp_lt C dX6_save_6 12 (by decide) 9 rfl (fun c2 => ?_) (fun c2 => ?_)
    · replace h := gm_ip c2 h
      refine gv_aload_n C rfl 0 rfl dX6_save_12 13 rfl ?_
      refine gf_6_2 C gi_6 lkX6_19 dX6_save_13 16 rfl ?_
      refine gv_iload_n C rfl 1 rfl dX6_save_16 17 rfl ?_
      obtain ⟨g3, h⟩ := gm_gis h
      refine gv_aald11 C gi_11 g3 dX6_save_17 18 rfl ?_
      refine gv_aload_n C rfl 0 rfl dX6_save_18 19 rfl ?_
      refine gf_6_0 C gi_6 lkX6_12 dX6_save_19 22 rfl ?_
      obtain ⟨q4, hq4, h⟩ := gm_bd h
      refine gv_callVv C mc_yX1_copyFrom ⟨mi_yX1_copyFrom, me_yX1_copyFrom⟩ (by decide) mkX6_154 (gi_1 (gm_s2 g3)) ⟨_, rfl⟩ rfl rfl (kX1_copyFrom _ _ _ (gm_s2 g3) (by decide) _ _ hq4) rfl rfl (Nat.le_of_ble_eq_true rfl) dX6_save_22 25 rfl ?_
      refine gv_aload_n C rfl 0 rfl dX6_save_25 26 rfl ?_
      refine gf_6_3 C gi_6 lkX6_23 dX6_save_26 29 rfl ?_
      refine gv_iload_n C rfl 1 rfl dX6_save_29 30 rfl ?_
      refine gv_iconst C 1 rfl dX6_save_30 31 rfl ?_
      obtain ⟨g5, h⟩ := gm_gis h
      refine gv_zast C gi_94 g5 (gm_zv (Or.inr rfl)) dX6_save_31 32 rfl ?_
      refine gv_aload_n C rfl 0 rfl dX6_save_32 33 rfl ?_
      refine gf_6_0 C gi_6 lkX6_12 dX6_save_33 36 rfl ?_
      refine gf_1_7 C (gi_1 (by decide)) lkX6_131 dX6_save_36 39 rfl ?_
      obtain rfl := Option.some.inj h
      exact gv_iret C E rfl rfl dX6_save_39
    · replace h := gm_iq c2 h
      refine gv_bipush C (-2) rfl dX6_save_9 11 rfl ?_
      obtain rfl := Option.some.inj h
      exact gv_iret C E rfl rfl dX6_save_11
set_option maxRecDepth 100000 in
set_option maxHeartbeats 4000000 in
theorem kX6_restore (w : gm_Wd) (a1 : Int32) (G : Gm) (q : Int32 × Gm) (h : fX6_restore a1 G = some q) : gm_C w yX6_restore cX6_restore 2 (some .int) 3 [.ref (gm_ad w 6 4 0), .int a1] G (some (.int q.1)) q.2 := by
  refine gm_start (by decide) (Nat.le_of_ble_eq_true rfl) ?_
  intro x hw C E
  subst hw
  have C : gm_X x cX6_restore 2 RX6 (some .int) 3 := C
  unfold fX6_restore at h
  refine gm_lv (lv' := [(0, _), (1, _)]) rfl ?_
  refine gv_iload_n C rfl 1 rfl dX6_restore_0 1 rfl ?_
  refine gv_if_lt C dX6_restore_1 9 (by decide) 4 rfl (fun c1 => ?_) (fun c1 => ?_)
  · replace h := gm_ip c1 h
    refine gv_bipush C (-2) rfl dX6_restore_9 11 rfl ?_
    obtain rfl := Option.some.inj h
    exact gv_iret C E rfl rfl dX6_restore_11
  · replace h := gm_iq c1 h
    refine gv_iload_n C rfl 1 rfl dX6_restore_4 5 rfl ?_
    refine gv_iconst C 2 rfl dX6_restore_5 6 rfl ?_
    refine gv_icmp_lt C dX6_restore_6 12 (by decide) 9 rfl (fun c2 => ?_) (fun c2 => ?_)
    · replace h := gm_ip c2 h
      refine gv_aload_n C rfl 0 rfl dX6_restore_12 13 rfl ?_
      refine gf_6_3 C gi_6 lkX6_23 dX6_restore_13 16 rfl ?_
      refine gv_iload_n C rfl 1 rfl dX6_restore_16 17 rfl ?_
      obtain ⟨g3, h⟩ := gm_gis h
      refine gv_zald C gi_94 g3 dX6_restore_17 18 rfl ?_
      refine gv_if_ne C dX6_restore_18 24 (by decide) 21 rfl (fun c4 => ?_) (fun c4 => ?_)
      · replace h := gm_ip c4 h
        refine gv_bipush C (-5) rfl dX6_restore_21 23 rfl ?_
        obtain rfl := Option.some.inj h
        exact gv_iret C E rfl rfl dX6_restore_23
      · replace h := gm_iq c4 h
        refine gv_aload_n C rfl 0 rfl dX6_restore_24 25 rfl ?_
        refine gf_6_0 C gi_6 lkX6_12 dX6_restore_25 28 rfl ?_
        refine gv_aload_n C rfl 0 rfl dX6_restore_28 29 rfl ?_
        refine gf_6_2 C gi_6 lkX6_19 dX6_restore_29 32 rfl ?_
        refine gv_iload_n C rfl 1 rfl dX6_restore_32 33 rfl ?_
        obtain ⟨g5, h⟩ := gm_gis h
        refine gv_aald11 C gi_11 g5 dX6_restore_33 34 rfl ?_
        obtain ⟨q6, hq6, h⟩ := gm_bd h
        refine gv_callVv C mc_yX1_copyFrom ⟨mi_yX1_copyFrom, me_yX1_copyFrom⟩ (by decide) mkX6_154 (gi_1 (by decide)) ⟨_, rfl⟩ rfl rfl (kX1_copyFrom _ _ _ (by decide) (gm_s2 g5) _ _ hq6) rfl rfl (Nat.le_of_ble_eq_true rfl) dX6_restore_34 37 rfl ?_
        refine gv_aload_n C rfl 0 rfl dX6_restore_37 38 rfl ?_
        refine gf_6_0 C gi_6 lkX6_12 dX6_restore_38 41 rfl ?_
        refine gf_1_7 C (gi_1 (by decide)) lkX6_131 dX6_restore_41 44 rfl ?_
        obtain rfl := Option.some.inj h
        exact gv_iret C E rfl rfl dX6_restore_44
    · replace h := gm_iq c2 h
      refine gv_bipush C (-2) rfl dX6_restore_9 11 rfl ?_
      obtain rfl := Option.some.inj h
      exact gv_iret C E rfl rfl dX6_restore_11
set_option maxRecDepth 100000 in
set_option maxHeartbeats 4000000 in
theorem kX7_layBlocks (w : gm_Wd) (G : Gm) (q : Gm) (h : fX7_layBlocks G = some q) : gm_C w yX7_layBlocks cX7_layBlocks 2 none 0 [.ref (gm_ad w 7 5 0)] G none q := by
  refine gm_start (by decide) (Nat.le_of_ble_eq_true rfl) ?_
  intro x hw C E
  subst hw
  have C : gm_X x cX7_layBlocks 2 RX7 none 0 := C
  unfold fX7_layBlocks at h
  have L2 : ∀ (n2 : Nat) (v1 : Int32) (G : Gm), fX7_layBlocks_h2 n2 v1 G = some q → gm_V x G 2 [(0, .ref (gm_ad (cx_w x) 7 5 0)), (1, .int v1)] [] := by
    intro n2
    induction n2 with
    | zero => intro v1 G h; cases h
    | succ n2 ih2 =>
      intro v1 G h
      rw [fX7_layBlocks_h2.eq_2] at h
      refine gv_iload_n C rfl 1 rfl dX7_layBlocks_2 3 rfl ?_
      refine gv_bipush C 10 rfl dX7_layBlocks_3 5 rfl ?_
      refine gv_icmp_ge C dX7_layBlocks_5 86 (by decide) 8 rfl (fun c1 => ?_) (fun c1 => ?_)
      · replace h := gm_ip c1 h
        obtain rfl := Option.some.inj h
        exact gv_vret C E rfl rfl dX7_layBlocks_86
      · replace h := gm_iq c1 h
        refine gv_aload_n C rfl 0 rfl dX7_layBlocks_8 9 rfl ?_
        refine gf_7_0 C gi_7 lkX7_7 dX7_layBlocks_9 12 rfl ?_
        refine gv_bipush C 30 rfl dX7_layBlocks_12 14 rfl ?_
        refine gv_iconst C 5 rfl dX7_layBlocks_14 15 rfl ?_
        refine gv_iload_n C rfl 1 rfl dX7_layBlocks_15 16 rfl ?_
        refine gv_imul C dX7_layBlocks_16 17 rfl ?_
        refine gv_iadd C dX7_layBlocks_17 18 rfl ?_
        refine gv_iconst C 0 rfl dX7_layBlocks_18 19 rfl ?_
        refine gv_iadd C dX7_layBlocks_19 20 rfl ?_
        refine gv_iconst C 0 rfl dX7_layBlocks_20 21 rfl ?_
        obtain ⟨g2, h⟩ := gm_gis h
        refine gv_iast C (gi_85 (c := 0) (by decide)) rfl g2 dX7_layBlocks_21 22 rfl ?_
        refine gv_aload_n C rfl 0 rfl dX7_layBlocks_22 23 rfl ?_
        refine gf_7_0 C gi_7 lkX7_7 dX7_layBlocks_23 26 rfl ?_
        refine gv_bipush C 30 rfl dX7_layBlocks_26 28 rfl ?_
        refine gv_iconst C 5 rfl dX7_layBlocks_28 29 rfl ?_
        refine gv_iload_n C rfl 1 rfl dX7_layBlocks_29 30 rfl ?_
        refine gv_imul C dX7_layBlocks_30 31 rfl ?_
        refine gv_iadd C dX7_layBlocks_31 32 rfl ?_
        refine gv_iconst C 1 rfl dX7_layBlocks_32 33 rfl ?_
        refine gv_iadd C dX7_layBlocks_33 34 rfl ?_
        refine gv_bipush C (-6) rfl dX7_layBlocks_34 36 rfl ?_
        obtain ⟨g3, h⟩ := gm_gis h
        refine gv_iast C (gi_85 (c := 0) (by decide)) rfl g3 dX7_layBlocks_36 37 rfl ?_
        refine gv_aload_n C rfl 0 rfl dX7_layBlocks_37 38 rfl ?_
        refine gf_7_0 C gi_7 lkX7_7 dX7_layBlocks_38 41 rfl ?_
        refine gv_bipush C 30 rfl dX7_layBlocks_41 43 rfl ?_
        refine gv_iconst C 5 rfl dX7_layBlocks_43 44 rfl ?_
        refine gv_iload_n C rfl 1 rfl dX7_layBlocks_44 45 rfl ?_
        refine gv_imul C dX7_layBlocks_45 46 rfl ?_
        refine gv_iadd C dX7_layBlocks_46 47 rfl ?_
        refine gv_iconst C 2 rfl dX7_layBlocks_47 48 rfl ?_
        refine gv_iadd C dX7_layBlocks_48 49 rfl ?_
        refine gv_bipush C (-6) rfl dX7_layBlocks_49 51 rfl ?_
        obtain ⟨g4, h⟩ := gm_gis h
        refine gv_iast C (gi_85 (c := 0) (by decide)) rfl g4 dX7_layBlocks_51 52 rfl ?_
        refine gv_aload_n C rfl 0 rfl dX7_layBlocks_52 53 rfl ?_
        refine gf_7_0 C gi_7 lkX7_7 dX7_layBlocks_53 56 rfl ?_
        refine gv_bipush C 30 rfl dX7_layBlocks_56 58 rfl ?_
        refine gv_iconst C 5 rfl dX7_layBlocks_58 59 rfl ?_
        refine gv_iload_n C rfl 1 rfl dX7_layBlocks_59 60 rfl ?_
        refine gv_imul C dX7_layBlocks_60 61 rfl ?_
        refine gv_iadd C dX7_layBlocks_61 62 rfl ?_
        refine gv_iconst C 3 rfl dX7_layBlocks_62 63 rfl ?_
        refine gv_iadd C dX7_layBlocks_63 64 rfl ?_
        refine gv_iconst C 0 rfl dX7_layBlocks_64 65 rfl ?_
        obtain ⟨g5, h⟩ := gm_gis h
        refine gv_iast C (gi_85 (c := 0) (by decide)) rfl g5 dX7_layBlocks_65 66 rfl ?_
        refine gv_aload_n C rfl 0 rfl dX7_layBlocks_66 67 rfl ?_
        refine gf_7_0 C gi_7 lkX7_7 dX7_layBlocks_67 70 rfl ?_
        refine gv_bipush C 30 rfl dX7_layBlocks_70 72 rfl ?_
        refine gv_iconst C 5 rfl dX7_layBlocks_72 73 rfl ?_
        refine gv_iload_n C rfl 1 rfl dX7_layBlocks_73 74 rfl ?_
        refine gv_imul C dX7_layBlocks_74 75 rfl ?_
        refine gv_iadd C dX7_layBlocks_75 76 rfl ?_
        refine gv_iconst C 4 rfl dX7_layBlocks_76 77 rfl ?_
        refine gv_iadd C dX7_layBlocks_77 78 rfl ?_
        refine gv_iconst C 0 rfl dX7_layBlocks_78 79 rfl ?_
        obtain ⟨g6, h⟩ := gm_gis h
        refine gv_iast C (gi_85 (c := 0) (by decide)) rfl g6 dX7_layBlocks_79 80 rfl ?_
        refine gv_iinc C 1 rfl rfl [(1, _), (0, _)] (by decide) rfl dX7_layBlocks_80 83 rfl ?_
        refine gv_goto C dX7_layBlocks_83 2 (by decide) ?_
        refine gm_ls [1, 0] rfl ?_
        exact ih2 _ _ h
  refine gm_lv (lv' := [(0, _)]) rfl ?_
  refine gv_iconst C 0 rfl dX7_layBlocks_0 1 rfl ?_
  refine gv_istore_n C rfl [(1, _), (0, _)] (by decide) rfl dX7_layBlocks_1 2 rfl ?_
  refine gm_ls [1, 0] rfl ?_
  exact L2 _ _ _ h
set_option maxRecDepth 100000 in
set_option maxHeartbeats 4000000 in
theorem kX7_lay (w : gm_Wd) (a1 a2 : Int32) (G : Gm) (q : Gm) (h : fX7_lay a1 a2 G = some q) : gm_C w yX7_lay cX7_lay 4 none 1 [.ref (gm_ad w 7 5 0), .int a1, .int a2] G none q := by
  refine gm_start (by decide) (Nat.le_of_ble_eq_true rfl) ?_
  intro x hw C E
  subst hw
  have C : gm_X x cX7_lay 4 RX7 none 1 := C
  unfold fX7_lay at h
  have L86 : ∀ (n86 : Nat) (v3 : Int32) (G : Gm), fX7_lay_h86 a1 a2 n86 v3 G = some q → gm_V x G 86 [(0, .ref (gm_ad (cx_w x) 7 5 0)), (1, .int a1), (2, .int a2), (3, .int v3)] [] := by
    intro n86
    induction n86 with
    | zero => intro v3 G h; cases h
    | succ n86 ih86 =>
      intro v3 G h
      rw [fX7_lay_h86.eq_2] at h
      refine gv_iload_n C rfl 3 rfl dX7_lay_86 87 rfl ?_
      refine gv_bipush C 12 rfl dX7_lay_87 89 rfl ?_
      refine gv_icmp_ge C dX7_lay_89 108 (by decide) 92 rfl (fun c3 => ?_) (fun c3 => ?_)
      · replace h := gm_ip c3 h
        refine gv_aload_n C rfl 0 rfl dX7_lay_108 109 rfl ?_
        obtain ⟨q4, hq4, h⟩ := gm_bd h
        refine gv_callVv C mc_yX7_layBlocks ⟨mi_yX7_layBlocks, me_yX7_layBlocks⟩ (by decide) mkX7_33 gi_7 ⟨_, rfl⟩ rfl rfl (kX7_layBlocks _  _ _ hq4) rfl rfl (Nat.le_of_ble_eq_true rfl) dX7_lay_109 112 rfl ?_
        obtain rfl := Option.some.inj h
        exact gv_vret C E rfl rfl dX7_lay_112
      · replace h := gm_iq c3 h
        refine gv_aload_n C rfl 0 rfl dX7_lay_92 93 rfl ?_
        refine gf_7_0 C gi_7 lkX7_7 dX7_lay_93 96 rfl ?_
        refine gv_bipush C 18 rfl dX7_lay_96 98 rfl ?_
        refine gv_iload_n C rfl 3 rfl dX7_lay_98 99 rfl ?_
        refine gv_iadd C dX7_lay_99 100 rfl ?_
        refine gv_iconst C 1 rfl dX7_lay_100 101 rfl ?_
        obtain ⟨g5, h⟩ := gm_gis h
        refine gv_iast C (gi_85 (c := 0) (by decide)) rfl g5 dX7_lay_101 102 rfl ?_
        refine gv_iinc C 3 rfl rfl [(3, _), (0, _), (1, _), (2, _)] (by decide) rfl dX7_lay_102 105 rfl ?_
        refine gv_goto C dX7_lay_105 86 (by decide) ?_
        refine gm_ls [1, 2, 3, 0] rfl ?_
        exact ih86 _ _ h
  have L38 : ∀ (n38 : Nat) (v3 : Int32) (G : Gm), fX7_lay_h38 a1 a2 n38 v3 G = some q → gm_V x G 38 [(0, .ref (gm_ad (cx_w x) 7 5 0)), (1, .int a1), (2, .int a2), (3, .int v3)] [] := by
    intro n38
    induction n38 with
    | zero => intro v3 G h; cases h
    | succ n38 ih38 =>
      intro v3 G h
      rw [fX7_lay_h38.eq_2] at h
      refine gv_iload_n C rfl 3 rfl dX7_lay_38 39 rfl ?_
      refine gv_iconst C 5 rfl dX7_lay_39 40 rfl ?_
      refine gv_icmp_ge C dX7_lay_40 84 (by decide) 43 rfl (fun c2 => ?_) (fun c2 => ?_)
      · replace h := gm_ip c2 h
        refine gv_iconst C 0 rfl dX7_lay_84 85 rfl ?_
        refine gv_istore_n C rfl [(3, _), (0, _), (1, _), (2, _)] (by decide) rfl dX7_lay_85 86 rfl ?_
        refine gm_ls [1, 2, 3, 0] rfl ?_
        exact L86 _ _ _ h
      · replace h := gm_iq c2 h
        refine gv_aload_n C rfl 0 rfl dX7_lay_43 44 rfl ?_
        refine gf_7_0 C gi_7 lkX7_7 dX7_lay_44 47 rfl ?_
        refine gv_iconst C 3 rfl dX7_lay_47 48 rfl ?_
        refine gv_iload_n C rfl 3 rfl dX7_lay_48 49 rfl ?_
        refine gv_iadd C dX7_lay_49 50 rfl ?_
        refine gv_iconst C 5 rfl dX7_lay_50 51 rfl ?_
        obtain ⟨g6, h⟩ := gm_gis h
        refine gv_iast C (gi_85 (c := 0) (by decide)) rfl g6 dX7_lay_51 52 rfl ?_
        refine gv_aload_n C rfl 0 rfl dX7_lay_52 53 rfl ?_
        refine gf_7_0 C gi_7 lkX7_7 dX7_lay_53 56 rfl ?_
        refine gv_bipush C 8 rfl dX7_lay_56 58 rfl ?_
        refine gv_iconst C 2 rfl dX7_lay_58 59 rfl ?_
        refine gv_iload_n C rfl 3 rfl dX7_lay_59 60 rfl ?_
        refine gv_imul C dX7_lay_60 61 rfl ?_
        refine gv_iadd C dX7_lay_61 62 rfl ?_
        refine gv_iconst C 5 rfl dX7_lay_62 63 rfl ?_
        obtain ⟨g7, h⟩ := gm_gis h
        refine gv_iast C (gi_85 (c := 0) (by decide)) rfl g7 dX7_lay_63 64 rfl ?_
        refine gv_aload_n C rfl 0 rfl dX7_lay_64 65 rfl ?_
        refine gf_7_0 C gi_7 lkX7_7 dX7_lay_65 68 rfl ?_
        refine gv_bipush C 8 rfl dX7_lay_68 70 rfl ?_
        refine gv_iconst C 2 rfl dX7_lay_70 71 rfl ?_
        refine gv_iload_n C rfl 3 rfl dX7_lay_71 72 rfl ?_
        refine gv_imul C dX7_lay_72 73 rfl ?_
        refine gv_iadd C dX7_lay_73 74 rfl ?_
        refine gv_iconst C 1 rfl dX7_lay_74 75 rfl ?_
        refine gv_iadd C dX7_lay_75 76 rfl ?_
        refine gv_iconst C 5 rfl dX7_lay_76 77 rfl ?_
        obtain ⟨g8, h⟩ := gm_gis h
        refine gv_iast C (gi_85 (c := 0) (by decide)) rfl g8 dX7_lay_77 78 rfl ?_
        refine gv_iinc C 3 rfl rfl [(3, _), (0, _), (1, _), (2, _)] (by decide) rfl dX7_lay_78 81 rfl ?_
        refine gv_goto C dX7_lay_81 38 (by decide) ?_
        refine gm_ls [1, 2, 3, 0] rfl ?_
        exact ih38 _ _ h
  have L2 : ∀ (n2 : Nat) (v3 : Int32) (G : Gm), fX7_lay_h2 a1 a2 n2 v3 G = some q → gm_V x G 2 [(0, .ref (gm_ad (cx_w x) 7 5 0)), (1, .int a1), (2, .int a2), (3, .int v3)] [] := by
    intro n2
    induction n2 with
    | zero => intro v3 G h; cases h
    | succ n2 ih2 =>
      intro v3 G h
      rw [fX7_lay_h2.eq_2] at h
      refine gv_iload_n C rfl 3 rfl dX7_lay_2 3 rfl ?_
      refine gv_sipush C 2862 rfl dX7_lay_3 6 rfl ?_
      refine gv_icmp_ge C dX7_lay_6 22 (by decide) 9 rfl (fun c1 => ?_) (fun c1 => ?_)
      · replace h := gm_ip c1 h
        refine gv_aload_n C rfl 0 rfl dX7_lay_22 23 rfl ?_
        refine gf_7_0 C gi_7 lkX7_7 dX7_lay_23 26 rfl ?_
        refine gv_iconst C 1 rfl dX7_lay_26 27 rfl ?_
        refine gv_iload_n C rfl 1 rfl dX7_lay_27 28 rfl ?_
        refine gv_iastK C 1 (by decide) (gi_85 (c := 0) (by decide)) rfl (by decide) dX7_lay_28 29 rfl ?_
        refine gv_aload_n C rfl 0 rfl dX7_lay_29 30 rfl ?_
        refine gf_7_0 C gi_7 lkX7_7 dX7_lay_30 33 rfl ?_
        refine gv_iconst C 2 rfl dX7_lay_33 34 rfl ?_
        refine gv_iload_n C rfl 2 rfl dX7_lay_34 35 rfl ?_
        refine gv_iastK C 2 (by decide) (gi_85 (c := 0) (by decide)) rfl (by decide) dX7_lay_35 36 rfl ?_
        refine gv_iconst C 0 rfl dX7_lay_36 37 rfl ?_
        refine gv_istore_n C rfl [(3, _), (0, _), (1, _), (2, _)] (by decide) rfl dX7_lay_37 38 rfl ?_
        refine gm_ls [1, 2, 3, 0] rfl ?_
        exact L38 _ _ _ h
      · replace h := gm_iq c1 h
        refine gv_aload_n C rfl 0 rfl dX7_lay_9 10 rfl ?_
        refine gf_7_0 C gi_7 lkX7_7 dX7_lay_10 13 rfl ?_
        refine gv_iload_n C rfl 3 rfl dX7_lay_13 14 rfl ?_
        refine gv_iconst C 0 rfl dX7_lay_14 15 rfl ?_
        obtain ⟨g9, h⟩ := gm_gis h
        refine gv_iast C (gi_85 (c := 0) (by decide)) rfl g9 dX7_lay_15 16 rfl ?_
        refine gv_iinc C 3 rfl rfl [(3, _), (0, _), (1, _), (2, _)] (by decide) rfl dX7_lay_16 19 rfl ?_
        refine gv_goto C dX7_lay_19 2 (by decide) ?_
        refine gm_ls [1, 2, 3, 0] rfl ?_
        exact ih2 _ _ h
  refine gm_lv (lv' := [(0, _), (1, _), (2, _)]) rfl ?_
  refine gv_iconst C 0 rfl dX7_lay_0 1 rfl ?_
  refine gv_istore_n C rfl [(3, _), (0, _), (1, _), (2, _)] (by decide) rfl dX7_lay_1 2 rfl ?_
  refine gm_ls [1, 2, 3, 0] rfl ?_
  exact L2 _ _ _ h
set_option maxRecDepth 100000 in
set_option maxHeartbeats 4000000 in
theorem kX7_in (w : gm_Wd) (a0 a1 a2 : Int32) (G : Gm) (q : Int32) (h : fX7_in a0 a1 a2 = some q) : gm_C w yX7_in cX7_in 3 (some .boolean) 0 [.int a0, .int a1, .int a2] G (some (.int q)) G := by
  refine gm_start (by decide) (Nat.le_of_ble_eq_true rfl) ?_
  intro x hw C E
  subst hw
  have C : gm_X x cX7_in 3 RX7 (some .boolean) 0 := C
  unfold fX7_in at h
  refine gm_lv (lv' := [(0, _), (1, _), (2, _)]) rfl ?_
  refine gv_iload_n C rfl 0 rfl dX7_in_0 1 rfl ?_
  refine gv_iload_n C rfl 1 rfl dX7_in_1 2 rfl ?_
  refine gv_icmp_lt C dX7_in_2 14 (by decide) 5 rfl (fun c1 => ?_) (fun c1 => ?_)
  · replace h := gm_ip c1 h
    refine gv_iconst C 0 rfl dX7_in_14 15 rfl ?_
    obtain rfl := Option.some.inj h
    exact gv_zret C E (Or.inl rfl) rfl rfl dX7_in_15
  · replace h := gm_iq c1 h
    refine gv_iload_n C rfl 0 rfl dX7_in_5 6 rfl ?_
    refine gv_iload_n C rfl 2 rfl dX7_in_6 7 rfl ?_
    refine gv_icmp_gt C dX7_in_7 14 (by decide) 10 rfl (fun c2 => ?_) (fun c2 => ?_)
    · replace h := gm_ip c2 h
      refine gv_iconst C 0 rfl dX7_in_14 15 rfl ?_
      obtain rfl := Option.some.inj h
      exact gv_zret C E (Or.inl rfl) rfl rfl dX7_in_15
    · replace h := gm_iq c2 h
      refine gv_iconst C 1 rfl dX7_in_10 11 rfl ?_
      refine gv_goto C dX7_in_11 15 (by decide) ?_
      obtain rfl := Option.some.inj h
      exact gv_zret C E (Or.inr rfl) rfl rfl dX7_in_15
set_option maxRecDepth 100000 in
set_option maxHeartbeats 4000000 in
theorem kX7_setUp (w : gm_Wd) (a1 a2 : Int32) (G : Gm) (q : Int32 × Gm) (h : fX7_setUp a1 a2 G = some q) : gm_C w yX7_setUp cX7_setUp 4 (some .int) 2 [.ref (gm_ad w 7 5 0), .int a1, .int a2] G (some (.int q.1)) q.2 := by
  refine gm_start (by decide) (Nat.le_of_ble_eq_true rfl) ?_
  intro x hw C E
  subst hw
  have C : gm_X x cX7_setUp 4 RX7 (some .int) 2 := C
  unfold fX7_setUp at h
  refine gm_lv (lv' := [(0, _), (1, _), (2, _)]) rfl ?_
  refine gv_iload_n C rfl 1 rfl dX7_setUp_0 1 rfl ?_
  refine gv_iconst C 2 rfl dX7_setUp_1 2 rfl ?_
  refine gv_bipush C 6 rfl dX7_setUp_2 4 rfl ?_
  obtain ⟨q1, hq1, h⟩ := gm_bd h
  refine gv_callSi C mc_yX7_in ms_yX7_in (by decide) mkX7_40 (kX7_in _ _ _ _ _ _ hq1) rfl rfl (Nat.le_of_ble_eq_true rfl) dX7_setUp_4 7 rfl ?_
  refine gv_if_eq C dX7_setUp_7 25 (by decide) 10 rfl (fun c2 => ?_) (fun c2 => ?_)
  · replace h := gm_ip c2 h
    refine gv_bipush C (-2) rfl dX7_setUp_25 27 rfl ?_
    obtain rfl := Option.some.inj h
    exact gv_iret C E rfl rfl dX7_setUp_27
  · replace h := gm_iq c2 h
    refine gv_iload_n C rfl 2 rfl dX7_setUp_10 11 rfl ?_
    refine gv_iconst C 0 rfl dX7_setUp_11 12 rfl ?_
    refine gv_iconst C 1 rfl dX7_setUp_12 13 rfl ?_
    refine gv_iload_n C rfl 1 rfl dX7_setUp_13 14 rfl ?_
    refine gv_iconst C 1 rfl dX7_setUp_14 15 rfl ?_
    refine gv_isub C dX7_setUp_15 16 rfl ?_
    refine gv_ishl C dX7_setUp_16 17 rfl ?_
    refine gv_iconst C 1 rfl dX7_setUp_17 18 rfl ?_
    refine gv_isub C dX7_setUp_18 19 rfl ?_
    obtain ⟨q3, hq3, h⟩ := gm_bd h
    refine gv_callSi C mc_yX7_in ms_yX7_in (by decide) mkX7_40 (kX7_in _ _ _ _ _ _ hq3) rfl rfl (Nat.le_of_ble_eq_true rfl) dX7_setUp_19 22 rfl ?_
    refine gv_if_ne C dX7_setUp_22 28 (by decide) 25 rfl (fun c4 => ?_) (fun c4 => ?_)
    · replace h := gm_ip c4 h
      refine gv_bipush C (-2) rfl dX7_setUp_25 27 rfl ?_
      obtain rfl := Option.some.inj h
      exact gv_iret C E rfl rfl dX7_setUp_27
    · replace h := gm_iq c4 h
      refine gv_aload_n C rfl 0 rfl dX7_setUp_28 29 rfl ?_
      refine gf_7_0 C gi_7 lkX7_7 dX7_setUp_29 32 rfl ?_
      refine gv_sipush C 381 rfl dX7_setUp_32 35 rfl ?_
      refine gv_ialdK C 381 (by decide) (gi_85 (c := 0) (by decide)) rfl (by decide) dX7_setUp_35 36 rfl ?_
      refine gv_istore_n C rfl [(3, _), (0, _), (1, _), (2, _)] (by decide) rfl dX7_setUp_36 37 rfl ?_
      refine gv_aload_n C rfl 1 rfl dX7_setUp_37 38 rfl ?_
      refine gv_iload_n C rfl 2 rfl dX7_setUp_38 39 rfl ?_
      refine gv_iload_n C rfl 3 rfl dX7_setUp_39 40 rfl ?_
      obtain ⟨q5, hq5, h⟩ := gm_bd h
      refine gv_callVv C mc_yX7_lay ⟨mi_yX7_lay, me_yX7_lay⟩ (by decide) mkX7_29 gi_7 ⟨_, rfl⟩ rfl rfl (kX7_lay _ _ _ _ _ hq5) rfl rfl (Nat.le_of_ble_eq_true rfl) dX7_setUp_40 43 rfl ?_
      refine gv_iload_n C rfl 0 rfl dX7_setUp_43 44 rfl ?_
      obtain rfl := Option.some.inj h
      exact gv_iret C E rfl rfl dX7_setUp_44
set_option maxRecDepth 100000 in
set_option maxHeartbeats 4000000 in
theorem kX7_sections (w : gm_Wd) (G : Gm) (q : Int32) (h : fX7_sections G = some q) : gm_C w yX7_sections cX7_sections 1 (some .int) 0 [.ref (gm_ad w 7 5 0)] G (some (.int q)) G := by
  refine gm_start (by decide) (Nat.le_of_ble_eq_true rfl) ?_
  intro x hw C E
  subst hw
  have C : gm_X x cX7_sections 1 RX7 (some .int) 0 := C
  unfold fX7_sections at h
  refine gm_lv (lv' := [(0, _)]) rfl ?_
  refine gv_aload_n C rfl 0 rfl dX7_sections_0 1 rfl ?_
  refine gf_7_0 C gi_7 lkX7_7 dX7_sections_1 4 rfl ?_
  refine gv_iconst C 1 rfl dX7_sections_4 5 rfl ?_
  refine gv_ialdK C 1 (by decide) (gi_85 (c := 0) (by decide)) rfl (by decide) dX7_sections_5 6 rfl ?_
  refine gv_iconst C 1 rfl dX7_sections_6 7 rfl ?_
  refine gv_isub C dX7_sections_7 8 rfl ?_
  obtain rfl := Option.some.inj h
  exact gv_iret C E rfl rfl dX7_sections_8
