set_option maxRecDepth 100000 in
set_option maxHeartbeats 4000000 in
theorem kX7_fault (w : gm_Wd) (G : Gm) (q : Int32 × Gm) (h : fX7_fault G = some q) : gm_C w yX7_fault cX7_fault 1 (some .int) 3 [.ref (gm_ad w 7 5 0)] G (some (.int q.1)) q.2 := by
  refine gm_start (by decide) (Nat.le_of_ble_eq_true rfl) ?_
  intro x hw C E
  subst hw
  have C : gm_X x cX7_fault 1 RX7 (some .int) 3 := C
  unfold fX7_fault at h
  have L19 : ∀ (n19 : Nat) (G : Gm), fX7_fault_h19 n19 G = some q → gm_V x G 19 [(0, .ref (gm_ad (cx_w x) 7 5 0))] [] := by
    intro n19
    induction n19 with
    | zero => intro G h; cases h
    | succ n19 ih19 =>
      intro G h
      rw [fX7_fault_h19.eq_2] at h
      refine gv_aload_n C rfl 0 rfl dX7_fault_19 20 rfl ?_
      refine gf_7_7 C gi_7 lkX7_187 dX7_fault_20 23 rfl ?_
      refine gv_if_ne C dX7_fault_23 52 (by decide) 26 rfl (fun c2 => ?_) (fun c2 => ?_)
      · replace h := gm_ip c2 h
        refine gv_aload_n C rfl 0 rfl dX7_fault_26 27 rfl ?_
        obtain ⟨q3, hq3, h⟩ := gm_bd h
        refine gv_callVi C mc_yX7_nextSign ⟨mi_yX7_nextSign, me_yX7_nextSign⟩ (by decide) mkX7_184 gi_7 ⟨_, rfl⟩ rfl rfl (kX7_nextSign _  _ _ hq3) rfl rfl (Nat.le_of_ble_eq_true rfl) dX7_fault_27 30 rfl ?_
        refine gv_bipush C 44 rfl dX7_fault_30 32 rfl ?_
        refine gv_icmp_ne C dX7_fault_32 52 (by decide) 35 rfl (fun c4 => ?_) (fun c4 => ?_)
        · replace h := gm_ip c4 h
          refine gv_aload_n C rfl 0 rfl dX7_fault_35 36 rfl ?_
          refine gv_dup C rfl dX7_fault_36 37 rfl ?_
          refine gf_7_6 C gi_7 lkX7_181 dX7_fault_37 40 rfl ?_
          refine gv_iconst C 1 rfl dX7_fault_40 41 rfl ?_
          refine gv_iadd C dX7_fault_41 42 rfl ?_
          refine pf_7_6 C gi_7 lkX7_181 dX7_fault_42 45 rfl ?_
          refine gv_aload_n C rfl 0 rfl dX7_fault_45 46 rfl ?_
          obtain ⟨q5, hq5, h⟩ := gm_bd h
          refine gv_callVv C mc_yX7_readOrder ⟨mi_yX7_readOrder, me_yX7_readOrder⟩ (by decide) mkX7_206 gi_7 ⟨_, rfl⟩ rfl rfl (kX7_readOrder _  _ _ hq5) rfl rfl (Nat.le_of_ble_eq_true rfl) dX7_fault_46 49 rfl ?_
          refine gv_goto C dX7_fault_49 19 (by decide) ?_
          refine gm_ls [0] rfl ?_
          exact ih19 _ h
        · replace h := gm_iq c4 h
          refine gv_aload_n C rfl 0 rfl dX7_fault_52 53 rfl ?_
          refine gf_7_7 C gi_7 lkX7_187 dX7_fault_53 56 rfl ?_
          refine gv_if_ne C dX7_fault_56 70 (by decide) 59 rfl (fun c6 => ?_) (fun c6 => ?_)
          · replace h := gm_ip c6 h
            refine gv_aload_n C rfl 0 rfl dX7_fault_59 60 rfl ?_
            refine gf_7_6 C gi_7 lkX7_181 dX7_fault_60 63 rfl ?_
            refine gv_aload_n C rfl 0 rfl dX7_fault_63 64 rfl ?_
            refine gf_7_5 C gi_7 lkX7_177 dX7_fault_64 67 rfl ?_
            refine gv_icmp_ge C dX7_fault_67 77 (by decide) 70 rfl (fun c7 => ?_) (fun c7 => ?_)
            · replace h := gm_ip c7 h
              refine gv_bipush C (-6) rfl dX7_fault_77 79 rfl ?_
              obtain rfl := Option.some.inj h
              exact gv_iret C E rfl rfl dX7_fault_79
            · replace h := gm_iq c7 h
              refine gv_aload_n C rfl 0 rfl dX7_fault_70 71 rfl ?_
              refine gf_7_6 C gi_7 lkX7_181 dX7_fault_71 74 rfl ?_
              refine gv_goto C dX7_fault_74 79 (by decide) ?_
              obtain rfl := Option.some.inj h
              exact gv_iret C E rfl rfl dX7_fault_79
          · replace h := gm_iq c6 h
            refine gv_aload_n C rfl 0 rfl dX7_fault_70 71 rfl ?_
            refine gf_7_6 C gi_7 lkX7_181 dX7_fault_71 74 rfl ?_
            refine gv_goto C dX7_fault_74 79 (by decide) ?_
            obtain rfl := Option.some.inj h
            exact gv_iret C E rfl rfl dX7_fault_79
      · replace h := gm_iq c2 h
        refine gv_aload_n C rfl 0 rfl dX7_fault_52 53 rfl ?_
        refine gf_7_7 C gi_7 lkX7_187 dX7_fault_53 56 rfl ?_
        refine gv_if_ne C dX7_fault_56 70 (by decide) 59 rfl (fun c8 => ?_) (fun c8 => ?_)
        · replace h := gm_ip c8 h
          refine gv_aload_n C rfl 0 rfl dX7_fault_59 60 rfl ?_
          refine gf_7_6 C gi_7 lkX7_181 dX7_fault_60 63 rfl ?_
          refine gv_aload_n C rfl 0 rfl dX7_fault_63 64 rfl ?_
          refine gf_7_5 C gi_7 lkX7_177 dX7_fault_64 67 rfl ?_
          refine gv_icmp_ge C dX7_fault_67 77 (by decide) 70 rfl (fun c9 => ?_) (fun c9 => ?_)
          · replace h := gm_ip c9 h
            refine gv_bipush C (-6) rfl dX7_fault_77 79 rfl ?_
            obtain rfl := Option.some.inj h
            exact gv_iret C E rfl rfl dX7_fault_79
          · replace h := gm_iq c9 h
            refine gv_aload_n C rfl 0 rfl dX7_fault_70 71 rfl ?_
            refine gf_7_6 C gi_7 lkX7_181 dX7_fault_71 74 rfl ?_
            refine gv_goto C dX7_fault_74 79 (by decide) ?_
            obtain rfl := Option.some.inj h
            exact gv_iret C E rfl rfl dX7_fault_79
        · replace h := gm_iq c8 h
          refine gv_aload_n C rfl 0 rfl dX7_fault_70 71 rfl ?_
          refine gf_7_6 C gi_7 lkX7_181 dX7_fault_71 74 rfl ?_
          refine gv_goto C dX7_fault_74 79 (by decide) ?_
          obtain rfl := Option.some.inj h
          exact gv_iret C E rfl rfl dX7_fault_79
  refine gm_lv (lv' := [(0, _)]) rfl ?_
  refine gv_aload_n C rfl 0 rfl dX7_fault_0 1 rfl ?_
  refine gv_iconst C 0 rfl dX7_fault_1 2 rfl ?_
  refine pf_7_6 C gi_7 lkX7_181 dX7_fault_2 5 rfl ?_
  refine gv_aload_n C rfl 0 rfl dX7_fault_5 6 rfl ?_
  refine gv_iconst C 0 rfl dX7_fault_6 7 rfl ?_
  refine pf_7_7 C gi_7 (Or.inl rfl) lkX7_187 dX7_fault_7 10 rfl ?_
  refine gv_aload_n C rfl 0 rfl dX7_fault_10 11 rfl ?_
  refine gv_iconst C 0 rfl dX7_fault_11 12 rfl ?_
  refine pf_7_9 C gi_7 lkX7_197 dX7_fault_12 15 rfl ?_
  refine gv_aload_n C rfl 0 rfl dX7_fault_15 16 rfl ?_
  obtain ⟨q1, hq1, h⟩ := gm_bd h
  refine gv_callVv C mc_yX7_readOrder ⟨mi_yX7_readOrder, me_yX7_readOrder⟩ (by decide) mkX7_206 gi_7 ⟨_, rfl⟩ rfl rfl (kX7_readOrder _  _ _ hq1) rfl rfl (Nat.le_of_ble_eq_true rfl) dX7_fault_16 19 rfl ?_
  refine gm_ls [0] rfl ?_
  exact L19 _ _ h
set_option maxRecDepth 100000 in
set_option maxHeartbeats 4000000 in
theorem kX7_carryOutOne (w : gm_Wd) (a1 a2 a3 : Int32) (G : Gm) (q : Int32 × Gm) (h : fX7_carryOutOne a1 a2 a3 G = some q) : gm_C w yX7_carryOutOne cX7_carryOutOne 4 (some .int) 6 [.ref (gm_ad w 7 5 0), .int a1, .int a2, .int a3] G (some (.int q.1)) q.2 := by
  refine gm_start (by decide) (Nat.le_of_ble_eq_true rfl) ?_
  intro x hw C E
  subst hw
  have C : gm_X x cX7_carryOutOne 4 RX7 (some .int) 6 := C
  unfold fX7_carryOutOne at h
  refine gm_lv (lv' := [(0, _), (1, _), (2, _), (3, _)]) rfl ?_
  refine gv_iload_n C rfl 1 rfl dX7_carryOutOne_0 1 rfl ?_
  by_cases c1 : a1 = 97
  · replace h := gm_ip c1 h
    refine gv_tableIn C 97 c1 dX7_carryOutOne_1 (by decide) (by decide) (o := 164) (by decide) 165 (by decide) ?_
    refine gv_aload_n C rfl 0 rfl dX7_carryOutOne_165 166 rfl ?_
    refine gv_iload_n C rfl 2 rfl dX7_carryOutOne_166 167 rfl ?_
    refine gv_iload_n C rfl 3 rfl dX7_carryOutOne_167 168 rfl ?_
    obtain ⟨q25, hq25, h⟩ := gm_bd h
    refine gv_callVi C mc_yX7_admit ⟨mi_yX7_admit, me_yX7_admit⟩ (by decide) mkX7_142 gi_7 ⟨_, rfl⟩ rfl rfl (kX7_admit _ _ _ _ _ hq25) rfl rfl (Nat.le_of_ble_eq_true rfl) dX7_carryOutOne_168 171 rfl ?_
    obtain rfl := Option.some.inj h
    exact gv_iret C E rfl rfl dX7_carryOutOne_171
  · replace h := gm_iq c1 h
    by_cases c2 : a1 = 99
    · replace h := gm_ip c2 h
      refine gv_tableIn C 99 c2 dX7_carryOutOne_1 (by decide) (by decide) (o := 157) (by decide) 158 (by decide) ?_
      refine gv_aload_n C rfl 0 rfl dX7_carryOutOne_158 159 rfl ?_
      refine gv_iload_n C rfl 2 rfl dX7_carryOutOne_159 160 rfl ?_
      refine gv_iload_n C rfl 3 rfl dX7_carryOutOne_160 161 rfl ?_
      obtain ⟨q24, hq24, h⟩ := gm_bd h
      refine gv_callVi C mc_yX7_cancel ⟨mi_yX7_cancel, me_yX7_cancel⟩ (by decide) mkX7_212 gi_7 ⟨_, rfl⟩ rfl rfl (kX7_cancel _ _ _ _ _ hq24) rfl rfl (Nat.le_of_ble_eq_true rfl) dX7_carryOutOne_161 164 rfl ?_
      obtain rfl := Option.some.inj h
      exact gv_iret C E rfl rfl dX7_carryOutOne_164
    · replace h := gm_iq c2 h
      by_cases c3 : a1 = 100
      · replace h := gm_ip c3 h
        refine gv_tableIn C 100 c3 dX7_carryOutOne_1 (by decide) (by decide) (o := 121) (by decide) 122 (by decide) ?_
        refine gv_aload_n C rfl 0 rfl dX7_carryOutOne_122 123 rfl ?_
        refine gv_iload_n C rfl 2 rfl dX7_carryOutOne_123 124 rfl ?_
        obtain ⟨q23, hq23, h⟩ := gm_bd h
        refine gv_callVi C mc_yX7_depart ⟨mi_yX7_depart, me_yX7_depart⟩ (by decide) mkX7_155 gi_7 ⟨_, rfl⟩ rfl rfl (kX7_depart _ _ _ _ hq23) rfl rfl (Nat.le_of_ble_eq_true rfl) dX7_carryOutOne_124 127 rfl ?_
        obtain rfl := Option.some.inj h
        exact gv_iret C E rfl rfl dX7_carryOutOne_127
      · replace h := gm_iq c3 h
        by_cases c4 : a1 = 101
        · replace h := gm_ip c4 h
          refine gv_tableIn C 101 c4 dX7_carryOutOne_1 (by decide) (by decide) (o := 178) (by decide) 179 (by decide) ?_
          refine gv_aload_n C rfl 0 rfl dX7_carryOutOne_179 180 rfl ?_
          refine gv_iload_n C rfl 2 rfl dX7_carryOutOne_180 181 rfl ?_
          refine gv_iload_n C rfl 3 rfl dX7_carryOutOne_181 182 rfl ?_
          obtain ⟨q22, hq22, h⟩ := gm_bd h
          refine gv_callVi C mc_yX7_assist ⟨mi_yX7_assist, me_yX7_assist⟩ (by decide) mkX7_139 gi_7 ⟨_, rfl⟩ rfl rfl (kX7_assist _ _ _ _ _ hq22) rfl rfl (Nat.le_of_ble_eq_true rfl) dX7_carryOutOne_182 185 rfl ?_
          obtain rfl := Option.some.inj h
          exact gv_iret C E rfl rfl dX7_carryOutOne_185
        · replace h := gm_iq c4 h
          by_cases c5 : a1 = 108
          · replace h := gm_ip c5 h
            refine gv_tableIn C 108 c5 dX7_carryOutOne_1 (by decide) (by decide) (o := 133) (by decide) 134 (by decide) ?_
            refine gv_aload_n C rfl 0 rfl dX7_carryOutOne_134 135 rfl ?_
            refine gv_iload_n C rfl 2 rfl dX7_carryOutOne_135 136 rfl ?_
            obtain ⟨q21, hq21, h⟩ := gm_bd h
            refine gv_callVi C mc_yX7_leave ⟨mi_yX7_leave, me_yX7_leave⟩ (by decide) mkX7_149 gi_7 ⟨_, rfl⟩ rfl rfl (kX7_leave _ _ _ _ hq21) rfl rfl (Nat.le_of_ble_eq_true rfl) dX7_carryOutOne_136 139 rfl ?_
            obtain rfl := Option.some.inj h
            exact gv_iret C E rfl rfl dX7_carryOutOne_139
          · replace h := gm_iq c5 h
            by_cases c6 : a1 = 110
            · replace h := gm_ip c6 h
              refine gv_tableIn C 110 c6 dX7_carryOutOne_1 (by decide) (by decide) (o := 139) (by decide) 140 (by decide) ?_
              refine gv_aload_n C rfl 0 rfl dX7_carryOutOne_140 141 rfl ?_
              refine gv_iload_n C rfl 2 rfl dX7_carryOutOne_141 142 rfl ?_
              refine gv_iload_n C rfl 3 rfl dX7_carryOutOne_142 143 rfl ?_
              refine gv_iload_n C rfl 1 rfl dX7_carryOutOne_143 144 rfl ?_
              refine gv_bipush C 121 rfl dX7_carryOutOne_144 146 rfl ?_
              refine gv_icmp_ne C dX7_carryOutOne_146 153 (by decide) 149 rfl (fun c18 => ?_) (fun c18 => ?_)
              · replace h := gm_ip c18 h
                refine gv_iconst C 1 rfl dX7_carryOutOne_149 150 rfl ?_
                refine gv_goto C dX7_carryOutOne_150 154 (by decide) ?_
                obtain ⟨q19, hq19, h⟩ := gm_bd h
                refine gv_callVi C mc_yX7_answer ⟨mi_yX7_answer, me_yX7_answer⟩ (by decide) mkX7_145 gi_7 ⟨_, rfl⟩ rfl rfl (kX7_answer _ _ _ _ _ _ hq19) rfl rfl (Nat.le_of_ble_eq_true rfl) dX7_carryOutOne_154 157 rfl ?_
                obtain rfl := Option.some.inj h
                exact gv_iret C E rfl rfl dX7_carryOutOne_157
              · replace h := gm_iq c18 h
                refine gv_iconst C 0 rfl dX7_carryOutOne_153 154 rfl ?_
                obtain ⟨q20, hq20, h⟩ := gm_bd h
                refine gv_callVi C mc_yX7_answer ⟨mi_yX7_answer, me_yX7_answer⟩ (by decide) mkX7_145 gi_7 ⟨_, rfl⟩ rfl rfl (kX7_answer _ _ _ _ _ _ hq20) rfl rfl (Nat.le_of_ble_eq_true rfl) dX7_carryOutOne_154 157 rfl ?_
                obtain rfl := Option.some.inj h
                exact gv_iret C E rfl rfl dX7_carryOutOne_157
            · replace h := gm_iq c6 h
              by_cases c7 : a1 = 111
              · replace h := gm_ip c7 h
                refine gv_tableIn C 111 c7 dX7_carryOutOne_1 (by decide) (by decide) (o := 115) (by decide) 116 (by decide) ?_
                refine gv_aload_n C rfl 0 rfl dX7_carryOutOne_116 117 rfl ?_
                refine gv_iload_n C rfl 2 rfl dX7_carryOutOne_117 118 rfl ?_
                obtain ⟨q17, hq17, h⟩ := gm_bd h
                refine gv_callVi C mc_yX7_offer ⟨mi_yX7_offer, me_yX7_offer⟩ (by decide) mkX7_152 gi_7 ⟨_, rfl⟩ rfl rfl (kX7_offer _ _ _ _ hq17) rfl rfl (Nat.le_of_ble_eq_true rfl) dX7_carryOutOne_118 121 rfl ?_
                obtain rfl := Option.some.inj h
                exact gv_iret C E rfl rfl dX7_carryOutOne_121
              · replace h := gm_iq c7 h
                by_cases c8 : a1 = 115
                · replace h := gm_ip c8 h
                  refine gv_tableIn C 115 c8 dX7_carryOutOne_1 (by decide) (by decide) (o := 127) (by decide) 128 (by decide) ?_
                  refine gv_aload_n C rfl 0 rfl dX7_carryOutOne_128 129 rfl ?_
                  refine gv_iload_n C rfl 2 rfl dX7_carryOutOne_129 130 rfl ?_
                  obtain ⟨q16, hq16, h⟩ := gm_bd h
                  refine gv_callVi C mc_yX7_shunt ⟨mi_yX7_shunt, me_yX7_shunt⟩ (by decide) mkX7_209 gi_7 ⟨_, rfl⟩ rfl rfl (kX7_shunt _ _ _ _ hq16) rfl rfl (Nat.le_of_ble_eq_true rfl) dX7_carryOutOne_130 133 rfl ?_
                  obtain rfl := Option.some.inj h
                  exact gv_iret C E rfl rfl dX7_carryOutOne_133
                · replace h := gm_iq c8 h
                  by_cases c9 : a1 = 117
                  · replace h := gm_ip c9 h
                    refine gv_tableIn C 117 c9 dX7_carryOutOne_1 (by decide) (by decide) (o := 171) (by decide) 172 (by decide) ?_
                    refine gv_aload_n C rfl 0 rfl dX7_carryOutOne_172 173 rfl ?_
                    refine gv_iload_n C rfl 2 rfl dX7_carryOutOne_173 174 rfl ?_
                    refine gv_iload_n C rfl 3 rfl dX7_carryOutOne_174 175 rfl ?_
                    obtain ⟨q15, hq15, h⟩ := gm_bd h
                    refine gv_callVi C mc_yX7_out ⟨mi_yX7_out, me_yX7_out⟩ (by decide) mkX7_136 gi_7 ⟨_, rfl⟩ rfl rfl (kX7_out _ _ _ _ _ hq15) rfl rfl (Nat.le_of_ble_eq_true rfl) dX7_carryOutOne_175 178 rfl ?_
                    obtain rfl := Option.some.inj h
                    exact gv_iret C E rfl rfl dX7_carryOutOne_178
                  · replace h := gm_iq c9 h
                    by_cases c10 : a1 = 121
                    · replace h := gm_ip c10 h
                      refine gv_tableIn C 121 c10 dX7_carryOutOne_1 (by decide) (by decide) (o := 139) (by decide) 140 (by decide) ?_
                      refine gv_aload_n C rfl 0 rfl dX7_carryOutOne_140 141 rfl ?_
                      refine gv_iload_n C rfl 2 rfl dX7_carryOutOne_141 142 rfl ?_
                      refine gv_iload_n C rfl 3 rfl dX7_carryOutOne_142 143 rfl ?_
                      refine gv_iload_n C rfl 1 rfl dX7_carryOutOne_143 144 rfl ?_
                      refine gv_bipush C 121 rfl dX7_carryOutOne_144 146 rfl ?_
                      refine gv_icmp_ne C dX7_carryOutOne_146 153 (by decide) 149 rfl (fun c12 => ?_) (fun c12 => ?_)
                      · replace h := gm_ip c12 h
                        refine gv_iconst C 1 rfl dX7_carryOutOne_149 150 rfl ?_
                        refine gv_goto C dX7_carryOutOne_150 154 (by decide) ?_
                        obtain ⟨q13, hq13, h⟩ := gm_bd h
                        refine gv_callVi C mc_yX7_answer ⟨mi_yX7_answer, me_yX7_answer⟩ (by decide) mkX7_145 gi_7 ⟨_, rfl⟩ rfl rfl (kX7_answer _ _ _ _ _ _ hq13) rfl rfl (Nat.le_of_ble_eq_true rfl) dX7_carryOutOne_154 157 rfl ?_
                        obtain rfl := Option.some.inj h
                        exact gv_iret C E rfl rfl dX7_carryOutOne_157
                      · replace h := gm_iq c12 h
                        refine gv_iconst C 0 rfl dX7_carryOutOne_153 154 rfl ?_
                        obtain ⟨q14, hq14, h⟩ := gm_bd h
                        refine gv_callVi C mc_yX7_answer ⟨mi_yX7_answer, me_yX7_answer⟩ (by decide) mkX7_145 gi_7 ⟨_, rfl⟩ rfl rfl (kX7_answer _ _ _ _ _ _ hq14) rfl rfl (Nat.le_of_ble_eq_true rfl) dX7_carryOutOne_154 157 rfl ?_
                        obtain rfl := Option.some.inj h
                        exact gv_iret C E rfl rfl dX7_carryOutOne_157
                    · replace h := gm_iq c10 h
                      refine gv_tableD C dX7_carryOutOne_1 [97, 99, 100, 101, 108, 110, 111, 115, 117, 121] (by decide) (by decide) (List.forall_mem_cons.mpr ⟨lv_neT c1 rfl, (List.forall_mem_cons.mpr ⟨lv_neT c2 rfl, (List.forall_mem_cons.mpr ⟨lv_neT c3 rfl, (List.forall_mem_cons.mpr ⟨lv_neT c4 rfl, (List.forall_mem_cons.mpr ⟨lv_neT c5 rfl, (List.forall_mem_cons.mpr ⟨lv_neT c6 rfl, (List.forall_mem_cons.mpr ⟨lv_neT c7 rfl, (List.forall_mem_cons.mpr ⟨lv_neT c8 rfl, (List.forall_mem_cons.mpr ⟨lv_neT c9 rfl, (List.forall_mem_cons.mpr ⟨lv_neT c10 rfl, (fun _ h => absurd h List.not_mem_nil)⟩)⟩)⟩)⟩)⟩)⟩)⟩)⟩)⟩)⟩) 186 (by decide) ?_
                      refine gv_aload_n C rfl 0 rfl dX7_carryOutOne_186 187 rfl ?_
                      refine gv_iload_n C rfl 2 rfl dX7_carryOutOne_187 188 rfl ?_
                      obtain ⟨q11, hq11, h⟩ := gm_bd h
                      refine gv_callVi C mc_yX7_pass ⟨mi_yX7_pass, me_yX7_pass⟩ (by decide) mkX7_215 gi_7 ⟨_, rfl⟩ rfl rfl (kX7_pass _ _ _ _ hq11) rfl rfl (Nat.le_of_ble_eq_true rfl) dX7_carryOutOne_188 191 rfl ?_
                      obtain rfl := Option.some.inj h
                      exact gv_iret C E rfl rfl dX7_carryOutOne_191
set_option maxRecDepth 100000 in
set_option maxHeartbeats 4000000 in
theorem kX7_carryOut (w : gm_Wd) (G : Gm) (q : Int32 × Gm) (h : fX7_carryOut G = some q) : gm_C w yX7_carryOut cX7_carryOut 2 (some .int) 7 [.ref (gm_ad w 7 5 0)] G (some (.int q.1)) q.2 := by
  refine gm_start (by decide) (Nat.le_of_ble_eq_true rfl) ?_
  intro x hw C E
  subst hw
  have C : gm_X x cX7_carryOut 2 RX7 (some .int) 7 := C
  unfold fX7_carryOut at h
  have L19 : ∀ (n19 : Nat) (v1 : Int32) (G : Gm), fX7_carryOut_h19 n19 v1 G = some q → gm_V x G 19 [(0, .ref (gm_ad (cx_w x) 7 5 0)), (1, .int v1)] [] := by
    intro n19
    induction n19 with
    | zero => intro v1 G h; cases h
    | succ n19 ih19 =>
      intro v1 G h
      rw [fX7_carryOut_h19.eq_2] at h
      refine gv_iload_n C rfl 1 rfl dX7_carryOut_19 20 rfl ?_
      refine gv_aload_n C rfl 0 rfl dX7_carryOut_20 21 rfl ?_
      refine gf_7_9 C gi_7 lkX7_197 dX7_carryOut_21 24 rfl ?_
      refine gv_icmp_ge C dX7_carryOut_24 70 (by decide) 27 rfl (fun c3 => ?_) (fun c3 => ?_)
      · replace h := gm_ip c3 h
        refine gv_aload_n C rfl 0 rfl dX7_carryOut_70 71 rfl ?_
        refine gf_7_9 C gi_7 lkX7_197 dX7_carryOut_71 74 rfl ?_
        obtain rfl := Option.some.inj h
        exact gv_iret C E rfl rfl dX7_carryOut_74
      · replace h := gm_iq c3 h
        refine gv_aload_n C rfl 0 rfl dX7_carryOut_27 28 rfl ?_
        refine gv_aload_n C rfl 0 rfl dX7_carryOut_28 29 rfl ?_
        refine gf_7_8 C gi_7 lkX7_26 dX7_carryOut_29 32 rfl ?_
        refine gv_iconst C 3 rfl dX7_carryOut_32 33 rfl ?_
        refine gv_iload_n C rfl 1 rfl dX7_carryOut_33 34 rfl ?_
        refine gv_imul C dX7_carryOut_34 35 rfl ?_
        obtain ⟨g4, h⟩ := gm_gis h
        refine gv_iald C (gi_85 (c := 4) (by decide)) rfl g4 dX7_carryOut_35 36 rfl ?_
        refine gv_aload_n C rfl 0 rfl dX7_carryOut_36 37 rfl ?_
        refine gf_7_8 C gi_7 lkX7_26 dX7_carryOut_37 40 rfl ?_
        refine gv_iconst C 3 rfl dX7_carryOut_40 41 rfl ?_
        refine gv_iload_n C rfl 1 rfl dX7_carryOut_41 42 rfl ?_
        refine gv_imul C dX7_carryOut_42 43 rfl ?_
        refine gv_iconst C 1 rfl dX7_carryOut_43 44 rfl ?_
        refine gv_iadd C dX7_carryOut_44 45 rfl ?_
        obtain ⟨g5, h⟩ := gm_gis h
        refine gv_iald C (gi_85 (c := 4) (by decide)) rfl g5 dX7_carryOut_45 46 rfl ?_
        refine gv_aload_n C rfl 0 rfl dX7_carryOut_46 47 rfl ?_
        refine gf_7_8 C gi_7 lkX7_26 dX7_carryOut_47 50 rfl ?_
        refine gv_iconst C 3 rfl dX7_carryOut_50 51 rfl ?_
        refine gv_iload_n C rfl 1 rfl dX7_carryOut_51 52 rfl ?_
        refine gv_imul C dX7_carryOut_52 53 rfl ?_
        refine gv_iconst C 2 rfl dX7_carryOut_53 54 rfl ?_
        refine gv_iadd C dX7_carryOut_54 55 rfl ?_
        obtain ⟨g6, h⟩ := gm_gis h
        refine gv_iald C (gi_85 (c := 4) (by decide)) rfl g6 dX7_carryOut_55 56 rfl ?_
        obtain ⟨q7, hq7, h⟩ := gm_bd h
        refine gv_callVi C mc_yX7_carryOutOne ⟨mi_yX7_carryOutOne, me_yX7_carryOutOne⟩ (by decide) mkX7_221 gi_7 ⟨_, rfl⟩ rfl rfl (kX7_carryOutOne _ _ _ _ _ _ hq7) rfl rfl (Nat.le_of_ble_eq_true rfl) dX7_carryOut_56 59 rfl ?_
        refine gv_if_ge C dX7_carryOut_59 64 (by decide) 62 rfl (fun c8 => ?_) (fun c8 => ?_)
        · replace h := gm_ip c8 h
          refine gv_iinc C 1 rfl rfl [(1, _), (0, _)] (by decide) rfl dX7_carryOut_64 67 rfl ?_
          refine gv_goto C dX7_carryOut_67 19 (by decide) ?_
          refine gm_ls [1, 0] rfl ?_
          exact ih19 _ _ h
        · replace h := gm_iq c8 h
          refine gv_iload_n C rfl 1 rfl dX7_carryOut_62 63 rfl ?_
          obtain rfl := Option.some.inj h
          exact gv_iret C E rfl rfl dX7_carryOut_63
  refine gm_lv (lv' := [(0, _)]) rfl ?_
  refine gv_aload_n C rfl 0 rfl dX7_carryOut_0 1 rfl ?_
  obtain ⟨q1, hq1, h⟩ := gm_bd h
  refine gv_callVi C mc_yX7_fault ⟨mi_yX7_fault, me_yX7_fault⟩ (by decide) mkX7_218 gi_7 ⟨_, rfl⟩ rfl rfl (kX7_fault _  _ _ hq1) rfl rfl (Nat.le_of_ble_eq_true rfl) dX7_carryOut_1 4 rfl ?_
  refine gv_bipush C (-6) rfl dX7_carryOut_4 6 rfl ?_
  refine gv_icmp_eq C dX7_carryOut_6 12 (by decide) 9 rfl (fun c2 => ?_) (fun c2 => ?_)
  · replace h := gm_ip c2 h
    refine gv_aload_n C rfl 0 rfl dX7_carryOut_12 13 rfl ?_
    refine gv_iconst C 0 rfl dX7_carryOut_13 14 rfl ?_
    refine pf_7_5 C gi_7 lkX7_177 dX7_carryOut_14 17 rfl ?_
    refine gv_iconst C 0 rfl dX7_carryOut_17 18 rfl ?_
    refine gv_istore_n C rfl [(1, _), (0, _)] (by decide) rfl dX7_carryOut_18 19 rfl ?_
    refine gm_ls [1, 0] rfl ?_
    exact L19 _ _ _ h
  · replace h := gm_iq c2 h
    refine gv_bipush C (-3) rfl dX7_carryOut_9 11 rfl ?_
    obtain rfl := Option.some.inj h
    exact gv_iret C E rfl rfl dX7_carryOut_11
set_option maxRecDepth 100000 in
set_option maxHeartbeats 4000000 in
theorem kX7_blocksWith (w : gm_Wd) (a1 : Int32) (G : Gm) (q : Int32) (h : fX7_blocksWith a1 G = some q) : gm_C w yX7_blocksWith cX7_blocksWith 5 (some .int) 1 [.ref (gm_ad w 7 5 0), .int a1] G (some (.int q)) G := by
  refine gm_start (by decide) (Nat.le_of_ble_eq_true rfl) ?_
  intro x hw C E
  subst hw
  have C : gm_X x cX7_blocksWith 5 RX7 (some .int) 1 := C
  unfold fX7_blocksWith at h
  have L4 : ∀ (n4 : Nat) (v2 v3 : Int32), fX7_blocksWith_h4 a1 G n4 v2 v3 = some q → gm_V x G 4 [(0, .ref (gm_ad (cx_w x) 7 5 0)), (1, .int a1), (2, .int v2), (3, .int v3)] [] := by
    intro n4
    induction n4 with
    | zero => intro v2 v3 h; cases h
    | succ n4 ih4 =>
      intro v2 v3 h
      rw [fX7_blocksWith_h4.eq_2] at h
      refine gv_iload_n C rfl 3 rfl dX7_blocksWith_4 5 rfl ?_
      refine gv_iconst C 2 rfl dX7_blocksWith_5 6 rfl ?_
      refine gv_aload_n C rfl 0 rfl dX7_blocksWith_6 7 rfl ?_
      obtain ⟨q1, hq1, h⟩ := gm_bd h
      refine gv_callVi C mc_yX7_sections ⟨mi_yX7_sections, me_yX7_sections⟩ (by decide) mkX7_36 gi_7 ⟨_, rfl⟩ rfl rfl (kX7_sections _  _ _ hq1) rfl rfl (Nat.le_of_ble_eq_true rfl) dX7_blocksWith_7 10 rfl ?_
      refine gv_imul C dX7_blocksWith_10 11 rfl ?_
      refine gv_icmp_ge C dX7_blocksWith_11 66 (by decide) 14 rfl (fun c2 => ?_) (fun c2 => ?_)
      · replace h := gm_ip c2 h
        refine gv_iload_n C rfl 2 rfl dX7_blocksWith_66 67 rfl ?_
        obtain rfl := Option.some.inj h
        exact gv_iret C E rfl rfl dX7_blocksWith_67
      · replace h := gm_iq c2 h
        refine gv_aload_n C rfl 0 rfl dX7_blocksWith_14 15 rfl ?_
        refine gf_7_0 C gi_7 lkX7_7 dX7_blocksWith_15 18 rfl ?_
        refine gv_bipush C 30 rfl dX7_blocksWith_18 20 rfl ?_
        refine gv_iconst C 5 rfl dX7_blocksWith_20 21 rfl ?_
        refine gv_iload_n C rfl 3 rfl dX7_blocksWith_21 22 rfl ?_
        refine gv_imul C dX7_blocksWith_22 23 rfl ?_
        refine gv_iadd C dX7_blocksWith_23 24 rfl ?_
        refine gv_iload_n C rfl 1 rfl dX7_blocksWith_24 25 rfl ?_
        refine gv_iadd C dX7_blocksWith_25 26 rfl ?_
        obtain ⟨g3, h⟩ := gm_gis h
        refine gv_iald C (gi_85 (c := 0) (by decide)) rfl g3 dX7_blocksWith_26 27 rfl ?_
        refine gv_istore C [(4, _), (0, _), (1, _), (2, _), (3, _)] (by decide) rfl dX7_blocksWith_27 29 rfl ?_
        refine gv_iload_n C rfl 3 rfl dX7_blocksWith_29 30 rfl ?_
        refine gv_iload_n C rfl 2 rfl dX7_blocksWith_30 31 rfl ?_
        refine gv_iconst C 1 rfl dX7_blocksWith_31 32 rfl ?_
        refine gv_icmp_ne C dX7_blocksWith_32 48 (by decide) 35 rfl (fun c4 => ?_) (fun c4 => ?_)
        · replace h := gm_ip c4 h
          refine gv_iload C 0 rfl dX7_blocksWith_35 37 rfl ?_
          refine gv_if_lt C dX7_blocksWith_37 44 (by decide) 40 rfl (fun c5 => ?_) (fun c5 => ?_)
          · replace h := gm_ip c5 h
            refine gv_iconst C 0 rfl dX7_blocksWith_44 45 rfl ?_
            refine gv_goto C dX7_blocksWith_45 58 (by decide) ?_
            refine gv_iadd C dX7_blocksWith_58 59 rfl ?_
            refine gv_istore_n C rfl [(2, _), (4, _), (0, _), (1, _), (3, _)] (by decide) rfl dX7_blocksWith_59 60 rfl ?_
            refine gv_iinc C 4 rfl rfl [(3, _), (2, _), (4, _), (0, _), (1, _)] (by decide) rfl dX7_blocksWith_60 63 rfl ?_
            refine gv_goto C dX7_blocksWith_63 4 (by decide) ?_
            refine gm_ls [3, 4, 1, 0] rfl ?_
            exact ih4 _ _ h
          · replace h := gm_iq c5 h
            refine gv_iconst C 1 rfl dX7_blocksWith_40 41 rfl ?_
            refine gv_goto C dX7_blocksWith_41 58 (by decide) ?_
            refine gv_iadd C dX7_blocksWith_58 59 rfl ?_
            refine gv_istore_n C rfl [(2, _), (4, _), (0, _), (1, _), (3, _)] (by decide) rfl dX7_blocksWith_59 60 rfl ?_
            refine gv_iinc C 4 rfl rfl [(3, _), (2, _), (4, _), (0, _), (1, _)] (by decide) rfl dX7_blocksWith_60 63 rfl ?_
            refine gv_goto C dX7_blocksWith_63 4 (by decide) ?_
            refine gm_ls [3, 4, 1, 0] rfl ?_
            exact ih4 _ _ h
        · replace h := gm_iq c4 h
          refine gv_iload C 0 rfl dX7_blocksWith_48 50 rfl ?_
          refine gv_if_eq C dX7_blocksWith_50 57 (by decide) 53 rfl (fun c6 => ?_) (fun c6 => ?_)
          · replace h := gm_ip c6 h
            refine gv_iconst C 0 rfl dX7_blocksWith_57 58 rfl ?_
            refine gv_iadd C dX7_blocksWith_58 59 rfl ?_
            refine gv_istore_n C rfl [(2, _), (4, _), (0, _), (1, _), (3, _)] (by decide) rfl dX7_blocksWith_59 60 rfl ?_
            refine gv_iinc C 4 rfl rfl [(3, _), (2, _), (4, _), (0, _), (1, _)] (by decide) rfl dX7_blocksWith_60 63 rfl ?_
            refine gv_goto C dX7_blocksWith_63 4 (by decide) ?_
            refine gm_ls [3, 4, 1, 0] rfl ?_
            exact ih4 _ _ h
          · replace h := gm_iq c6 h
            refine gv_iconst C 1 rfl dX7_blocksWith_53 54 rfl ?_
            refine gv_goto C dX7_blocksWith_54 58 (by decide) ?_
            refine gv_iadd C dX7_blocksWith_58 59 rfl ?_
            refine gv_istore_n C rfl [(2, _), (4, _), (0, _), (1, _), (3, _)] (by decide) rfl dX7_blocksWith_59 60 rfl ?_
            refine gv_iinc C 4 rfl rfl [(3, _), (2, _), (4, _), (0, _), (1, _)] (by decide) rfl dX7_blocksWith_60 63 rfl ?_
            refine gv_goto C dX7_blocksWith_63 4 (by decide) ?_
            refine gm_ls [3, 4, 1, 0] rfl ?_
            exact ih4 _ _ h
  refine gm_lv (lv' := [(0, _), (1, _)]) rfl ?_
  refine gv_iconst C 0 rfl dX7_blocksWith_0 1 rfl ?_
  refine gv_istore_n C rfl [(2, _), (0, _), (1, _)] (by decide) rfl dX7_blocksWith_1 2 rfl ?_
  refine gv_iconst C 0 rfl dX7_blocksWith_2 3 rfl ?_
  refine gv_istore_n C rfl [(3, _), (2, _), (0, _), (1, _)] (by decide) rfl dX7_blocksWith_3 4 rfl ?_
  refine gm_ls [2, 3, 1, 0] rfl ?_
  exact L4 _ _ _ h
set_option maxRecDepth 100000 in
set_option maxHeartbeats 4000000 in
theorem kX7_count (w : gm_Wd) (a1 : Int32) (G : Gm) (q : Int32) (h : fX7_count a1 G = some q) : gm_C w yX7_count cX7_count 2 (some .int) 2 [.ref (gm_ad w 7 5 0), .int a1] G (some (.int q)) G := by
  refine gm_start (by decide) (Nat.le_of_ble_eq_true rfl) ?_
  intro x hw C E
  subst hw
  have C : gm_X x cX7_count 2 RX7 (some .int) 2 := C
  unfold fX7_count at h
  refine gm_lv (lv' := [(0, _), (1, _)]) rfl ?_
  refine gv_iload_n C rfl 1 rfl dX7_count_0 1 rfl ?_
  by_cases c1 : a1 = 0
  · replace h := gm_ip c1 h
    refine gv_tableIn C 0 c1 dX7_count_1 (by decide) (by decide) (o := 55) (by decide) 56 (by decide) ?_
    refine gv_aload_n C rfl 0 rfl dX7_count_56 57 rfl ?_
    refine gf_7_0 C gi_7 lkX7_7 dX7_count_57 60 rfl ?_
    refine gv_iconst C 0 rfl dX7_count_60 61 rfl ?_
    refine gv_ialdK C 0 (by decide) (gi_85 (c := 0) (by decide)) rfl (by decide) dX7_count_61 62 rfl ?_
    obtain rfl := Option.some.inj h
    exact gv_iret C E rfl rfl dX7_count_62
  · replace h := gm_iq c1 h
    by_cases c2 : a1 = 1
    · replace h := gm_ip c2 h
      refine gv_tableIn C 1 c2 dX7_count_1 (by decide) (by decide) (o := 62) (by decide) 63 (by decide) ?_
      refine gv_aload_n C rfl 0 rfl dX7_count_63 64 rfl ?_
      refine gf_7_0 C gi_7 lkX7_7 dX7_count_64 67 rfl ?_
      refine gv_sipush C 381 rfl dX7_count_67 70 rfl ?_
      refine gv_ialdK C 381 (by decide) (gi_85 (c := 0) (by decide)) rfl (by decide) dX7_count_70 71 rfl ?_
      obtain rfl := Option.some.inj h
      exact gv_iret C E rfl rfl dX7_count_71
    · replace h := gm_iq c2 h
      by_cases c3 : a1 = 2
      · replace h := gm_ip c3 h
        refine gv_tableIn C 2 c3 dX7_count_1 (by decide) (by decide) (o := 71) (by decide) 72 (by decide) ?_
        refine gv_aload_n C rfl 0 rfl dX7_count_72 73 rfl ?_
        refine gv_iconst C 3 rfl dX7_count_73 74 rfl ?_
        obtain ⟨q15, hq15, h⟩ := gm_bd h
        refine gv_callVi C mc_yX7_trainsAt ⟨mi_yX7_trainsAt, me_yX7_trainsAt⟩ (by decide) mkX7_165 gi_7 ⟨_, rfl⟩ rfl rfl (kX7_trainsAt _ _ _ _ hq15) rfl rfl (Nat.le_of_ble_eq_true rfl) dX7_count_74 77 rfl ?_
        obtain rfl := Option.some.inj h
        exact gv_iret C E rfl rfl dX7_count_77
      · replace h := gm_iq c3 h
        by_cases c4 : a1 = 3
        · replace h := gm_ip c4 h
          refine gv_tableIn C 3 c4 dX7_count_1 (by decide) (by decide) (o := 77) (by decide) 78 (by decide) ?_
          refine gv_aload_n C rfl 0 rfl dX7_count_78 79 rfl ?_
          refine gv_iconst C 2 rfl dX7_count_79 80 rfl ?_
          obtain ⟨q14, hq14, h⟩ := gm_bd h
          refine gv_callVi C mc_yX7_trainsAt ⟨mi_yX7_trainsAt, me_yX7_trainsAt⟩ (by decide) mkX7_165 gi_7 ⟨_, rfl⟩ rfl rfl (kX7_trainsAt _ _ _ _ hq14) rfl rfl (Nat.le_of_ble_eq_true rfl) dX7_count_80 83 rfl ?_
          obtain rfl := Option.some.inj h
          exact gv_iret C E rfl rfl dX7_count_83
        · replace h := gm_iq c4 h
          by_cases c5 : a1 = 4
          · replace h := gm_ip c5 h
            refine gv_tableIn C 4 c5 dX7_count_1 (by decide) (by decide) (o := 83) (by decide) 84 (by decide) ?_
            refine gv_aload_n C rfl 0 rfl dX7_count_84 85 rfl ?_
            refine gf_7_0 C gi_7 lkX7_7 dX7_count_85 88 rfl ?_
            refine gv_bipush C 80 rfl dX7_count_88 90 rfl ?_
            refine gv_ialdK C 80 (by decide) (gi_85 (c := 0) (by decide)) rfl (by decide) dX7_count_90 91 rfl ?_
            obtain rfl := Option.some.inj h
            exact gv_iret C E rfl rfl dX7_count_91
          · replace h := gm_iq c5 h
            by_cases c6 : a1 = 5
            · replace h := gm_ip c6 h
              refine gv_tableIn C 5 c6 dX7_count_1 (by decide) (by decide) (o := 91) (by decide) 92 (by decide) ?_
              refine gv_aload_n C rfl 0 rfl dX7_count_92 93 rfl ?_
              refine gv_iconst C 0 rfl dX7_count_93 94 rfl ?_
              obtain ⟨q13, hq13, h⟩ := gm_bd h
              refine gv_callVi C mc_yX7_blocksWith ⟨mi_yX7_blocksWith, me_yX7_blocksWith⟩ (by decide) mkX7_224 gi_7 ⟨_, rfl⟩ rfl rfl (kX7_blocksWith _ _ _ _ hq13) rfl rfl (Nat.le_of_ble_eq_true rfl) dX7_count_94 97 rfl ?_
              obtain rfl := Option.some.inj h
              exact gv_iret C E rfl rfl dX7_count_97
            · replace h := gm_iq c6 h
              by_cases c7 : a1 = 6
              · replace h := gm_ip c7 h
                refine gv_tableIn C 6 c7 dX7_count_1 (by decide) (by decide) (o := 97) (by decide) 98 (by decide) ?_
                refine gv_aload_n C rfl 0 rfl dX7_count_98 99 rfl ?_
                refine gf_7_0 C gi_7 lkX7_7 dX7_count_99 102 rfl ?_
                refine gv_iconst C 1 rfl dX7_count_102 103 rfl ?_
                refine gv_ialdK C 1 (by decide) (gi_85 (c := 0) (by decide)) rfl (by decide) dX7_count_103 104 rfl ?_
                obtain rfl := Option.some.inj h
                exact gv_iret C E rfl rfl dX7_count_104
              · replace h := gm_iq c7 h
                by_cases c8 : a1 = 7
                · replace h := gm_ip c8 h
                  refine gv_tableIn C 7 c8 dX7_count_1 (by decide) (by decide) (o := 104) (by decide) 105 (by decide) ?_
                  refine gv_aload_n C rfl 0 rfl dX7_count_105 106 rfl ?_
                  refine gf_7_5 C gi_7 lkX7_177 dX7_count_106 109 rfl ?_
                  obtain rfl := Option.some.inj h
                  exact gv_iret C E rfl rfl dX7_count_109
                · replace h := gm_iq c8 h
                  by_cases c9 : a1 = 8
                  · replace h := gm_ip c9 h
                    refine gv_tableIn C 8 c9 dX7_count_1 (by decide) (by decide) (o := 109) (by decide) 110 (by decide) ?_
                    refine gv_aload_n C rfl 0 rfl dX7_count_110 111 rfl ?_
                    refine gv_iconst C 3 rfl dX7_count_111 112 rfl ?_
                    obtain ⟨q12, hq12, h⟩ := gm_bd h
                    refine gv_callVi C mc_yX7_blocksWith ⟨mi_yX7_blocksWith, me_yX7_blocksWith⟩ (by decide) mkX7_224 gi_7 ⟨_, rfl⟩ rfl rfl (kX7_blocksWith _ _ _ _ hq12) rfl rfl (Nat.le_of_ble_eq_true rfl) dX7_count_112 115 rfl ?_
                    obtain rfl := Option.some.inj h
                    exact gv_iret C E rfl rfl dX7_count_115
                  · replace h := gm_iq c9 h
                    by_cases c10 : a1 = 9
                    · replace h := gm_ip c10 h
                      refine gv_tableIn C 9 c10 dX7_count_1 (by decide) (by decide) (o := 115) (by decide) 116 (by decide) ?_
                      refine gv_aload_n C rfl 0 rfl dX7_count_116 117 rfl ?_
                      refine gv_iconst C 1 rfl dX7_count_117 118 rfl ?_
                      obtain ⟨q11, hq11, h⟩ := gm_bd h
                      refine gv_callVi C mc_yX7_blocksWith ⟨mi_yX7_blocksWith, me_yX7_blocksWith⟩ (by decide) mkX7_224 gi_7 ⟨_, rfl⟩ rfl rfl (kX7_blocksWith _ _ _ _ hq11) rfl rfl (Nat.le_of_ble_eq_true rfl) dX7_count_118 121 rfl ?_
                      obtain rfl := Option.some.inj h
                      exact gv_iret C E rfl rfl dX7_count_121
                    · replace h := gm_iq c10 h
                      refine gv_tableD C dX7_count_1 [0, 1, 2, 3, 4, 5, 6, 7, 8, 9] (by decide) (by decide) (List.forall_mem_cons.mpr ⟨lv_neT c1 rfl, (List.forall_mem_cons.mpr ⟨lv_neT c2 rfl, (List.forall_mem_cons.mpr ⟨lv_neT c3 rfl, (List.forall_mem_cons.mpr ⟨lv_neT c4 rfl, (List.forall_mem_cons.mpr ⟨lv_neT c5 rfl, (List.forall_mem_cons.mpr ⟨lv_neT c6 rfl, (List.forall_mem_cons.mpr ⟨lv_neT c7 rfl, (List.forall_mem_cons.mpr ⟨lv_neT c8 rfl, (List.forall_mem_cons.mpr ⟨lv_neT c9 rfl, (List.forall_mem_cons.mpr ⟨lv_neT c10 rfl, (fun _ h => absurd h List.not_mem_nil)⟩)⟩)⟩)⟩)⟩)⟩)⟩)⟩)⟩)⟩) 122 (by decide) ?_
                      refine gv_bipush C (-2) rfl dX7_count_122 124 rfl ?_
                      obtain rfl := Option.some.inj h
                      exact gv_iret C E rfl rfl dX7_count_124
set_option maxRecDepth 100000 in
set_option maxHeartbeats 4000000 in
theorem kX7_save (w : gm_Wd) (a1 : Int32) (G : Gm) (q : Int32 × Gm) (h : fX7_save a1 G = some q) : gm_C w yX7_save cX7_save 3 (some .int) 1 [.ref (gm_ad w 7 5 0), .int a1] G (some (.int q.1)) q.2 := by
  refine gm_start (by decide) (Nat.le_of_ble_eq_true rfl) ?_
  intro x hw C E
  subst hw
  have C : gm_X x cX7_save 3 RX7 (some .int) 1 := C
  unfold fX7_save at h
  have L14 : ∀ (n14 : Nat) (v2 : Int32) (G : Gm), fX7_save_h14 a1 n14 v2 G = some q → gm_V x G 14 [(0, .ref (gm_ad (cx_w x) 7 5 0)), (1, .int a1), (2, .int v2)] [] := by
    intro n14
    induction n14 with
    | zero => intro v2 G h; cases h
    | succ n14 ih14 =>
      intro v2 G h
      rw [fX7_save_h14.eq_2] at h
      refine gv_iload_n C rfl 2 rfl dX7_save_14 15 rfl ?_
      refine gv_sipush C 2862 rfl dX7_save_15 18 rfl ?_
      refine gv_icmp_ge C dX7_save_18 45 (by decide) 21 rfl (fun c3 => ?_) (fun c3 => ?_)
      · replace h := gm_ip c3 h
        refine gv_aload_n C rfl 0 rfl dX7_save_45 46 rfl ?_
        refine gf_7_3 C gi_7 lkX7_19 dX7_save_46 49 rfl ?_
        refine gv_iload_n C rfl 1 rfl dX7_save_49 50 rfl ?_
        refine gv_iconst C 1 rfl dX7_save_50 51 rfl ?_
        obtain ⟨g4, h⟩ := gm_gis h
        refine gv_zast C gi_95 g4 (gm_zv (Or.inr rfl)) dX7_save_51 52 rfl ?_
        refine gv_aload_n C rfl 0 rfl dX7_save_52 53 rfl ?_
        refine gf_7_0 C gi_7 lkX7_7 dX7_save_53 56 rfl ?_
        refine gv_iconst C 0 rfl dX7_save_56 57 rfl ?_
        refine gv_ialdK C 0 (by decide) (gi_85 (c := 0) (by decide)) rfl (by decide) dX7_save_57 58 rfl ?_
        obtain rfl := Option.some.inj h
        exact gv_iret C E rfl rfl dX7_save_58
      · replace h := gm_iq c3 h
        refine gv_aload_n C rfl 0 rfl dX7_save_21 22 rfl ?_
        refine gf_7_2 C gi_7 lkX7_16 dX7_save_22 25 rfl ?_
        refine gv_sipush C 2862 rfl dX7_save_25 28 rfl ?_
        refine gv_iload_n C rfl 1 rfl dX7_save_28 29 rfl ?_
        refine gv_imul C dX7_save_29 30 rfl ?_
        refine gv_iload_n C rfl 2 rfl dX7_save_30 31 rfl ?_
        refine gv_iadd C dX7_save_31 32 rfl ?_
        refine gv_aload_n C rfl 0 rfl dX7_save_32 33 rfl ?_
        refine gf_7_0 C gi_7 lkX7_7 dX7_save_33 36 rfl ?_
        refine gv_iload_n C rfl 2 rfl dX7_save_36 37 rfl ?_
        obtain ⟨g5, h⟩ := gm_gis h
        refine gv_iald C (gi_85 (c := 0) (by decide)) rfl g5 dX7_save_37 38 rfl ?_
        obtain ⟨g6, h⟩ := gm_gis h
        refine gv_iast C (gi_85 (c := 2) (by decide)) rfl g6 dX7_save_38 39 rfl ?_
        refine gv_iinc C 2 rfl rfl [(2, _), (0, _), (1, _)] (by decide) rfl dX7_save_39 42 rfl ?_
        refine gv_goto C dX7_save_42 14 (by decide) ?_
        refine gm_ls [1, 2, 0] rfl ?_
        exact ih14 _ _ h
  refine gm_lv (lv' := [(0, _), (1, _)]) rfl ?_
  refine gv_iload_n C rfl 1 rfl dX7_save_0 1 rfl ?_
  refine gv_iconst C 0 rfl dX7_save_1 2 rfl ?_
  refine gv_iconst C 1 rfl dX7_save_2 3 rfl ?_
  obtain ⟨q1, hq1, h⟩ := gm_bd h
  refine gv_callSi C mc_yX7_in ms_yX7_in (by decide) mkX7_40 (kX7_in _ _ _ _ _ _ hq1) rfl rfl (Nat.le_of_ble_eq_true rfl) dX7_save_3 6 rfl ?_
  refine gv_if_ne C dX7_save_6 12 (by decide) 9 rfl (fun c2 => ?_) (fun c2 => ?_)
  · replace h := gm_ip c2 h
    refine gv_bipush C (-2) rfl dX7_save_9 11 rfl ?_
    obtain rfl := Option.some.inj h
    exact gv_iret C E rfl rfl dX7_save_11
  · replace h := gm_iq c2 h
    refine gv_iconst C 0 rfl dX7_save_12 13 rfl ?_
    refine gv_istore_n C rfl [(2, _), (0, _), (1, _)] (by decide) rfl dX7_save_13 14 rfl ?_
    refine gm_ls [1, 2, 0] rfl ?_
    exact L14 _ _ _ h
set_option maxRecDepth 100000 in
set_option maxHeartbeats 4000000 in
theorem kX7_restore (w : gm_Wd) (a1 : Int32) (G : Gm) (q : Int32 × Gm) (h : fX7_restore a1 G = some q) : gm_C w yX7_restore cX7_restore 3 (some .int) 1 [.ref (gm_ad w 7 5 0), .int a1] G (some (.int q.1)) q.2 := by
  refine gm_start (by decide) (Nat.le_of_ble_eq_true rfl) ?_
  intro x hw C E
  subst hw
  have C : gm_X x cX7_restore 3 RX7 (some .int) 1 := C
  unfold fX7_restore at h
  have L26 : ∀ (n26 : Nat) (v2 : Int32) (G : Gm), fX7_restore_h26 a1 n26 v2 G = some q → gm_V x G 26 [(0, .ref (gm_ad (cx_w x) 7 5 0)), (1, .int a1), (2, .int v2)] [] := by
    intro n26
    induction n26 with
    | zero => intro v2 G h; cases h
    | succ n26 ih26 =>
      intro v2 G h
      rw [fX7_restore_h26.eq_2] at h
      refine gv_iload_n C rfl 2 rfl dX7_restore_26 27 rfl ?_
      refine gv_sipush C 2862 rfl dX7_restore_27 30 rfl ?_
      refine gv_icmp_ge C dX7_restore_30 57 (by decide) 33 rfl (fun c5 => ?_) (fun c5 => ?_)
      · replace h := gm_ip c5 h
        refine gv_aload_n C rfl 0 rfl dX7_restore_57 58 rfl ?_
        refine gf_7_0 C gi_7 lkX7_7 dX7_restore_58 61 rfl ?_
        refine gv_iconst C 0 rfl dX7_restore_61 62 rfl ?_
        refine gv_ialdK C 0 (by decide) (gi_85 (c := 0) (by decide)) rfl (by decide) dX7_restore_62 63 rfl ?_
        obtain rfl := Option.some.inj h
        exact gv_iret C E rfl rfl dX7_restore_63
      · replace h := gm_iq c5 h
        refine gv_aload_n C rfl 0 rfl dX7_restore_33 34 rfl ?_
        refine gf_7_0 C gi_7 lkX7_7 dX7_restore_34 37 rfl ?_
        refine gv_iload_n C rfl 2 rfl dX7_restore_37 38 rfl ?_
        refine gv_aload_n C rfl 0 rfl dX7_restore_38 39 rfl ?_
        refine gf_7_2 C gi_7 lkX7_16 dX7_restore_39 42 rfl ?_
        refine gv_sipush C 2862 rfl dX7_restore_42 45 rfl ?_
        refine gv_iload_n C rfl 1 rfl dX7_restore_45 46 rfl ?_
        refine gv_imul C dX7_restore_46 47 rfl ?_
        refine gv_iload_n C rfl 2 rfl dX7_restore_47 48 rfl ?_
        refine gv_iadd C dX7_restore_48 49 rfl ?_
        obtain ⟨g6, h⟩ := gm_gis h
        refine gv_iald C (gi_85 (c := 2) (by decide)) rfl g6 dX7_restore_49 50 rfl ?_
        obtain ⟨g7, h⟩ := gm_gis h
        refine gv_iast C (gi_85 (c := 0) (by decide)) rfl g7 dX7_restore_50 51 rfl ?_
        refine gv_iinc C 2 rfl rfl [(2, _), (0, _), (1, _)] (by decide) rfl dX7_restore_51 54 rfl ?_
        refine gv_goto C dX7_restore_54 26 (by decide) ?_
        refine gm_ls [1, 2, 0] rfl ?_
        exact ih26 _ _ h
  refine gm_lv (lv' := [(0, _), (1, _)]) rfl ?_
  refine gv_iload_n C rfl 1 rfl dX7_restore_0 1 rfl ?_
  refine gv_iconst C 0 rfl dX7_restore_1 2 rfl ?_
  refine gv_iconst C 1 rfl dX7_restore_2 3 rfl ?_
  obtain ⟨q1, hq1, h⟩ := gm_bd h
  refine gv_callSi C mc_yX7_in ms_yX7_in (by decide) mkX7_40 (kX7_in _ _ _ _ _ _ hq1) rfl rfl (Nat.le_of_ble_eq_true rfl) dX7_restore_3 6 rfl ?_
  refine gv_if_ne C dX7_restore_6 12 (by decide) 9 rfl (fun c2 => ?_) (fun c2 => ?_)
  · replace h := gm_ip c2 h
    refine gv_bipush C (-2) rfl dX7_restore_9 11 rfl ?_
    obtain rfl := Option.some.inj h
    exact gv_iret C E rfl rfl dX7_restore_11
  · replace h := gm_iq c2 h
    refine gv_aload_n C rfl 0 rfl dX7_restore_12 13 rfl ?_
    refine gf_7_3 C gi_7 lkX7_19 dX7_restore_13 16 rfl ?_
    refine gv_iload_n C rfl 1 rfl dX7_restore_16 17 rfl ?_
    obtain ⟨g3, h⟩ := gm_gis h
    refine gv_zald C gi_95 g3 dX7_restore_17 18 rfl ?_
    refine gv_if_ne C dX7_restore_18 24 (by decide) 21 rfl (fun c4 => ?_) (fun c4 => ?_)
    · replace h := gm_ip c4 h
      refine gv_bipush C (-5) rfl dX7_restore_21 23 rfl ?_
      obtain rfl := Option.some.inj h
      exact gv_iret C E rfl rfl dX7_restore_23
    · replace h := gm_iq c4 h
      refine gv_iconst C 0 rfl dX7_restore_24 25 rfl ?_
      refine gv_istore_n C rfl [(2, _), (0, _), (1, _)] (by decide) rfl dX7_restore_25 26 rfl ?_
      refine gm_ls [1, 2, 0] rfl ?_
      exact L26 _ _ _ h
