section
variable {G G1 G2 : Gm} {S : Sm} {B : Nat}
theorem wi_save (hW : WI B G) (x : Int32) : Two B G (fX6_save x) (fX7_save x) := by
  have hW' := hW
  obtain ⟨S, C, M1, I, h0, h80, s, p⟩ := hW
  have tn := I.tn
  rcases bs_rg x (a := 0) (b := 1) (by decide) (by decide) with ⟨z, z1, z2, rfl⟩ | hx
  · obtain ⟨Ga, ea, ca, fa⟩ := c_copy (l := z + 2) C I (by omega)
    have Ma : MA (gm_up Ga 9 4 0 z 1) S := fun k hk => by rw [gu_k (by decide), fa 8 5 0 k (by omega)]; exact M1 k hk
    obtain ⟨Gb, eb, ⟨mb, sb, fb⟩⟩ := lp (σ := Gm) (h := fun f v s => fX7_save_h14 (nI z) f v s) (P := fun i s => MA s S ∧ (∀ k, k < i → s 8 5 2 (2862 * z + k) = nI (S k)) ∧ (∀ a b c k, ¬ (a = 8 ∧ b = 5 ∧ c = 2 ∧ 2862 * z ≤ k ∧ k < 2862 * z + 2862) → s a b c k = gm_up Ga 9 4 0 z 1 a b c k)) (m := 2862) (fun i f G' hi hP => by
      obtain ⟨b1, b2, b3⟩ := hP
      have e : (2862 : Int32) * nI z + nI i = nI (2862 * z + i) := by simp only [bs_nat, bs_mul, nI_add]
      refine ⟨gm_up G' 8 5 2 (2862 * z + i) (nI (S i)), ?_, fun k hk => ?_, fun k hk => ?_, fun a b c k q => ?_⟩
      · try dsimp only
        rw [fX7_save_h14.eq_2, if_neg (by rw [show (2862 : Int32) = nI 2862 from rfl, bs_le (by decide) (by omega)]; omega), gm_gin hi (by decide), e, gm_gin (by omega) (by decide), b1 i hi, nI_1]
      · rw [gu_c (by decide)]; exact b1 k hk
      · by_cases e : k = i
        · rw [e, gu_at]
        · rw [gu_s (by omega)]; exact b2 k (by omega)
      · rw [← b3 a b c k q]
        unfold gm_up
        rw [if_neg (by omega)]) 2862 0 6000 (gm_up Ga 9 4 0 z 1) (by omega) (by omega) ⟨Ma, fun k hk => by omega, fun _ _ _ _ _ => rfl⟩
    have fc : ∀ a b c k, ¬ (a = 8 ∧ b = 5 ∧ c = 2 ∧ 2862 * z ≤ k ∧ k < 2862 * z + 2862) → ¬ (a = 9 ∧ c = 0 ∧ k = z) → gm_up Gb 9 5 0 z 1 a b c k = Ga a b c k := by
      intro a b c k q1 q2
      rw [show gm_up Gb 9 5 0 z 1 a b c k = Gb a b c k by unfold gm_up; rw [if_neg (by omega)], fb a b c k q1]
      unfold gm_up
      rw [if_neg (by omega)]
    refine ⟨nI (S 0), gm_up Ga 9 4 0 z 1, gm_up Gb 9 5 0 z 1, ?_, ?_, S, C.fr (by omega) (fun a c k => ?_), fun k hk => ?_, I, h0, by omega, fun z' hz' => ?_, p.fr ?_ (fun k => ?_) ?_ (fun k => ?_)⟩
    · unfold fX6_save
      rw [if_neg (by rw [bs_neg (by omega)]; omega), if_pos (by rw [show (2 : Int32) = nI 2 from rfl, bs_lt (by omega) (by decide)]; omega), gm_gin (by omega) (by decide), ea, gm_bs, gm_gin (by omega) (by decide), gu_k (by decide), fa 1 0 0 7 (by omega), C.1.tm]
    · unfold fX7_save
      rw [m_inr (y := 0) (z := 1) (a := 0) (b := 1) rfl rfl (by decide) (by decide) z1 z2 rfl, gm_bs, if_neg (by decide)]
      refine Eq.trans eb ?_
      try dsimp only
      rw [show (6000 - 2862 : Nat) = 3137 + 1 from rfl, fX7_save_h14.eq_2, if_pos (by decide), gm_gin (by omega) (by decide), gu_k (by decide), mb 0 (by decide)]
    · by_cases e : a = 9
      · subst e
        rw [gu_b (by decide), fb 9 0 c k (by omega), gu_b (by decide), fa 9 0 c k (by omega)]
      · rw [fc a 0 c k (by omega) (by omega), fa a 0 c k (by omega)]
    · rw [gu_k (by decide)]; exact mb k hk
    · by_cases e : z' = z
      · subst e
        refine Or.inr ⟨?_, gu_at, S, ca.fr (by omega) (fun a c k => ?_), fun k hk => ?_, I, h0, by omega⟩
        · rw [gu_b (by decide), fb 9 4 0 z' (by omega), gu_at]
        · rw [gu_b (by omega), fb a (z' + 2) c k (by omega), gu_b (by omega)]
        · rw [gu_k (by decide)]; exact sb k hk
      · rcases s z' hz' with ⟨q1, q2⟩ | ⟨q1, q2, Z, c1, c2, c3, c4, c5⟩
        · exact Or.inl ⟨by rw [fc 9 4 0 z' (by omega) (by omega), fa 9 4 0 z' (by omega)]; exact q1, by rw [fc 9 5 0 z' (by omega) (by omega), fa 9 5 0 z' (by omega)]; exact q2⟩
        · refine Or.inr ⟨by rw [fc 9 4 0 z' (by omega) (by omega), fa 9 4 0 z' (by omega)]; exact q1, by rw [fc 9 5 0 z' (by omega) (by omega), fa 9 5 0 z' (by omega)]; exact q2, Z, c1.fr (by have := c3.tn; omega) (fun a c k => ?_), fun k hk => ?_, c3, c4, by omega⟩
          · rw [gu_b (by omega), fb a (z' + 2) c k (by omega), gu_b (by omega), fa a (z' + 2) c k (by omega)]
          · rw [fc 8 5 2 _ (by omega) (by omega), fa 8 5 2 _ (by omega)]; exact c2 k hk
    · rw [fc 2 4 0 1 (by omega) (by omega), fa 2 4 0 1 (by omega)]
    · rw [fc 8 4 0 k (by omega) (by omega), fa 8 4 0 k (by omega)]
    · rw [fc 7 5 0 5 (by omega) (by omega), fa 7 5 0 5 (by omega)]
    · rw [fc 8 5 3 k (by omega) (by omega), fa 8 5 3 k (by omega)]
  · have hx : x < 0 ∨ 1 < x := hx
    refine ⟨-2, G, G, ?_, ?_, hW'.le (by omega)⟩
    · unfold fX6_save
      by_cases c : x < 0
      · rw [if_pos c]
      · rw [if_neg c, if_neg]
        obtain ⟨k, hk, rfl⟩ := nI_of c
        have := hx.resolve_left c
        rw [show (1 : Int32) = nI 1 from rfl, bs_lt (by decide) (by omega)] at this
        rw [show (2 : Int32) = nI 2 from rfl, bs_lt (by omega) (by decide)]; omega
    · unfold fX7_save
      rw [m_in0 hx, gm_bs, if_pos rfl]
theorem wi_restore (hW : WI B G) (x : Int32) : Two B G (fX6_restore x) (fX7_restore x) := by
  have hW' := hW
  obtain ⟨S, C, M1, I, h0, h80, s, p⟩ := hW
  rcases bs_rg x (a := 0) (b := 1) (by decide) (by decide) with ⟨z, z1, z2, rfl⟩ | hx
  · have y1 : ¬ nI z < 0 := by rw [bs_neg (by omega)]; omega
    have y2 : nI z < 2 := by rw [show (2 : Int32) = nI 2 from rfl, bs_lt (by omega) (by decide)]; omega
    have y3 := m_inr (x := nI z) (y := 0) (z := 1) (a := 0) (b := 1) rfl rfl (by decide) (by decide) z1 z2 rfl
    rcases s z (by omega) with ⟨q1, q2⟩ | ⟨q1, q2, Z, c1, c2, c3, c4, c5⟩
    · refine ⟨-5, G, G, ?_, ?_, hW'.le (by omega)⟩
      · unfold fX6_restore
        rw [if_neg y1, if_pos y2, gm_gin (by omega) (by decide), q1, if_pos rfl]
      · unfold fX7_restore
        rw [y3, gm_bs, if_neg (by decide), gm_gin (by omega) (by decide), q2, if_pos rfl]
    · have tn := c3.tn
      obtain ⟨Ga, ea, ca, fa⟩ := c_copy (l := 0) c1 c3 (by omega)
      obtain ⟨Gb, eb, ⟨mb, fb⟩⟩ := lp (σ := Gm) (h := fun f v s => fX7_restore_h26 (nI z) f v s) (P := fun i s => (∀ k, k < i → s 8 5 0 k = nI (Z k)) ∧ FrM Ga s) (m := 2862) (fun i f G' hi hP => by
        obtain ⟨b1, b2⟩ := hP
        have e : (2862 : Int32) * nI z + nI i = nI (2862 * z + i) := by simp only [bs_nat, bs_mul, nI_add]
        refine ⟨gm_up G' 8 5 0 i (nI (Z i)), ?_, fun k hk => ?_, b2.up⟩
        · try dsimp only
          rw [fX7_restore_h26.eq_2, if_neg (by rw [show (2862 : Int32) = nI 2862 from rfl, bs_le (by decide) (by omega)]; omega), e, gm_gin (by omega) (by decide), gm_gin hi (by decide), b2 8 5 2 _ (by omega), fa 8 5 2 _ (by decide), c2 i hi, nI_1]
        · by_cases e : k = i
          · rw [e, gu_at]
          · rw [gu_s e]; exact b1 k (by omega)) 2862 0 6000 Ga (by omega) (by omega) ⟨fun k hk => by omega, FrM.rf⟩
      refine ⟨nI (Z 0), Ga, Gb, ?_, ?_, Z, ca.fr (by omega) (fun a c k => fb a 0 c k (by omega)), mb, c3, c4, by omega, s.fr (by omega) (fun a b c k hh => by rw [fb a b c k (by omega), fa a b c k (by omega)]), p.fr (by rw [fb 2 4 0 1 (by omega), fa 2 4 0 1 (by decide)]) (fun k => by rw [fb 8 4 0 k (by omega), fa 8 4 0 k (by decide)]) (by rw [fb 7 5 0 5 (by omega), fa 7 5 0 5 (by decide)]) (fun k => by rw [fb 8 5 3 k (by omega), fa 8 5 3 k (by decide)])⟩
      · unfold fX6_restore
        rw [if_neg y1, if_pos y2, gm_gin (by omega) (by decide), q1, if_neg bs_01, gm_gin (by omega) (by decide), ea, gm_bs, ca.1.tm]
      · unfold fX7_restore
        rw [y3, gm_bs, if_neg (by decide), gm_gin (by omega) (by decide), fa 9 5 0 z (by decide), q2, if_neg bs_01]
        refine Eq.trans eb ?_
        try dsimp only
        rw [show (6000 - 2862 : Nat) = 3137 + 1 from rfl, fX7_restore_h26.eq_2, if_pos (by decide), mb 0 (by decide)]
  · have hx : x < 0 ∨ 1 < x := hx
    refine ⟨-2, G, G, ?_, ?_, hW'.le (by omega)⟩
    · unfold fX6_restore
      by_cases c : x < 0
      · rw [if_pos c]
      · rw [if_neg c, if_neg]
        obtain ⟨k, hk, rfl⟩ := nI_of c
        have := hx.resolve_left c
        rw [show (1 : Int32) = nI 1 from rfl, bs_lt (by decide) (by omega)] at this
        rw [show (2 : Int32) = nI 2 from rfl, bs_lt (by omega) (by decide)]; omega
    · unfold fX7_restore
      rw [m_in0 hx, gm_bs, if_pos rfl]
/-! the calls, one by one -/
theorem w_0 (hB : B + 1000000 < 2147483647) (hW : WI B G) (x y : Int32) : Two B G (fX6_setUp x y) (fX7_setUp x y) := wi_op hW fun S C I h0 h80 => op_setUp C I h0 x y
theorem w_1 (hB : B + 1000000 < 2147483647) (hW : WI B G) (x y : Int32) : Two B G (fX6_setTime x y) (fX7_setTime x y) := wi_op hW fun S C I h0 h80 => op_setTime C I h0 x y
theorem w_2 (hB : B + 1000000 < 2147483647) (hW : WI B G) (x y z : Int32) : Two B G (fX6_setLoops x y z) (fX7_setLoops x y z) := wi_op hW fun S C I h0 h80 => op_setLoops C I h0 x y z
theorem w_3 (hB : B + 1000000 < 2147483647) (hW : WI B G) (x y : Int32) : Two B G (fX6_moveTokens x y) (fX7_moveTokens x y) := wi_op hW fun S C I h0 h80 => op_moveTokens C I h0 x y
theorem w_4 (hB : B + 1000000 < 2147483647) (hW : WI B G) (x y : Int32) : TwoQ B G (fX6_section x y) (fX7_section x y) := wi_ask hW fun S C I h80 => q_section C I x y
theorem w_5 (hB : B + 1000000 < 2147483647) (hW : WI B G) (x y z : Int32) : TwoQ B G (fX6_block x y z) (fX7_block x y z) := wi_ask hW fun S C I h80 => q_block C I x y z
theorem w_6 (hB : B + 1000000 < 2147483647) (hW : WI B G) (x y : Int32) : Two B G (fX6_appear x y) (fX7_appear x y) := wi_op hW fun S C I h0 h80 => op_appear C I h0 x y
theorem w_7 (hB : B + 1000000 < 2147483647) (hW : WI B G) (x y : Int32) : TwoQ B G (fX6_train x y) (fX7_train x y) := wi_ask hW fun S C I h80 => q_train C I x y
theorem w_8 (hB : B + 1000000 < 2147483647) (hW : WI B G) (x : Int32) : Two B G (fX6_shunt x) (fX7_shunt x) := wi_op hW fun S C I h0 h80 => (op_shunt C I h0 x).le (by decide)
theorem w_9 (hB : B + 1000000 < 2147483647) (hW : WI B G) (x : Int32) : Two B G (fX6_leave x) (fX7_leave x) := wi_op hW fun S C I h0 h80 => (op_leave C I h0 x).le (by decide)
theorem w_10 (hB : B + 1000000 < 2147483647) (hW : WI B G) (x : Int32) : Two B G (fX6_divide x) (fX7_divide x) := wi_op hW fun S C I h0 h80 => (op_divide C I h0 x).le (by decide)
theorem w_11 (hB : B + 1000000 < 2147483647) (hW : WI B G) (x : Int32) : Two B G (fX6_offer x) (fX7_offer x) := wi_op hW fun S C I h0 h80 => (op_offer C I (by omega) h0 x).le (by decide)
theorem w_12 (hB : B + 1000000 < 2147483647) (hW : WI B G) (x y z : Int32) : Two B G (fX6_answer x y z) (fX7_answer x y z) := wi_op hW fun S C I h0 h80 => (op_answer C I (by omega) h0 x y z).le (by decide)
theorem w_13 (hB : B + 1000000 < 2147483647) (hW : WI B G) (x y : Int32) : Two B G (fX6_cancel x y) (fX7_cancel x y) := wi_op hW fun S C I h0 h80 => (op_cancel C I (by omega) h0 x y).le (by decide)
theorem w_14 (hB : B + 1000000 < 2147483647) (hW : WI B G) (x : Int32) : Two B G (fX6_depart x) (fX7_depart x) := wi_op hW fun S C I h0 h80 => (op_depart C I (by omega) h0 x).le (by decide)
theorem w_15 (hB : B + 1000000 < 2147483647) (hW : WI B G) (x y : Int32) : Two B G (fX6_admit x y) (fX7_admit x y) := wi_op hW fun S C I h0 h80 => (op_admit C I (by omega) h0 x y).le (by decide)
theorem w_16 (hB : B + 1000000 < 2147483647) (hW : WI B G) (x y : Int32) : Two B G (fX6_out x y) (fX7_out x y) := wi_op hW fun S C I h0 h80 => (op_out C I (by omega) h0 x y).le (by decide)
theorem w_17 (hB : B + 1000000 < 2147483647) (hW : WI B G) (x y : Int32) : Two B G (fX6_assist x y) (fX7_assist x y) := wi_op hW fun S C I h0 h80 => (op_assist C I (by omega) h0 x y).le (by decide)
theorem w_18 (hB : B + 1000000 < 2147483647) (hW : WI B G) (x y : Int32) : Two B G (fX6_obstruct x y) (fX7_obstruct x y) := wi_op hW fun S C I h0 h80 => (op_obst C I (by omega) h0 x y).le (by decide)
theorem w_19 (hB : B + 1000000 < 2147483647) (hW : WI B G) (x y : Int32) : Two B G (fX6_lift x y) (fX7_lift x y) := wi_op hW fun S C I h0 h80 => (op_lift C I (by omega) h0 x y).le (by decide)
theorem w_20 (hB : B + 1000000 < 2147483647) (hW : WI B G) (x : Int32) : Two B G (fX6_pass x) (fX7_pass x) := wi_op hW fun S C I h0 h80 => (op_pass C I h0 x).le (by decide)
theorem w_21 (hB : B + 1000000 < 2147483647) (hW : WI B G) (x y : Int32) : TwoQ B G (fX6_signal x y) (fX7_signal x y) := wi_ask hW fun S C I h80 => q_signal C (by omega) x y
theorem w_22 (hB : B + 1000000 < 2147483647) (hW : WI B G) (x y : Int32) : TwoQ B G (fX6_rung x y) (fX7_rung x y) := wi_ask hW fun S C I h80 => q_rung C I (by omega) x y
theorem w_23 (hB : B + 1000000 < 2147483647) (hW : WI B G) (x : Int32) : Two B G (fX6_work x) (fX7_work x) := wi_op hW fun S C I h0 h80 => op_work C I (by omega) h0 x
theorem w_24 (hB : B + 1000000 < 2147483647) (hW : WI B G) (x y : Int32) : Two B G (fX6_forecast x y) (fX7_forecast x y) := wi_tri hW fun S C I h0 h80 => op_forecast C I (by omega) h0 x y
theorem w_25 (hB : B + 1000000 < 2147483647) (hW : WI B G) (x y z : Int32) : Two B G (fX6_capacity x y z) (fX7_capacity x y z) := wi_tri hW fun S C I h0 h80 => op_capacity C I (by omega) h0 x y z
end
