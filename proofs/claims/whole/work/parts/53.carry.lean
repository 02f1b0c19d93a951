section
variable {G G1 G2 : Gm} {S : Sm} {c : Nat → Nat} {n r m l : Nat}
theorem bind_eta {r : Option (Int32 × Gm)} : (r.bind fun q => some (q.1, q.2)) = r := by cases r <;> rfl
theorem CL.fr {G' : Gm} (C : CL G l S) (hn : S 381 ≤ 12) (h : ∀ a c k, G' a l c k = G a l c k) : CL G' l S :=
  C.cp (fun k _ => h 1 0 k) (h 3 0 1) (fun s k _ _ _ => h 4 s k) (fun k _ => h 8 0 k) (fun k _ => h 8 1 k) (fun j k _ _ _ => h 0 j k) (fun t k _ _ _ => h 5 t k) hn
theorem op_obey (C : CL G 0 S) (I : Inv 12 S) (hr : S 80 + 600000 < 2147483647) (h0 : S 0 ≤ 1000000) {a : Nat} (ha : kL a ≠ 0) (x y : Int32) : Op 1 G S (fX6_obey (nI a) x y G) (fX7_carryOutOne (nI a) x y) := by
  have cases_ : a = 97 ∨ a = 99 ∨ a = 100 ∨ a = 101 ∨ a = 108 ∨ a = 110 ∨ a = 111 ∨ a = 115 ∨ a = 116 ∨ a = 117 ∨ a = 121 := by
    unfold kL at ha
    split at ha
    · omega
    · split at ha
      · omega
      · split at ha
        · omega
        · exact absurd rfl ha
  have key : ∀ (f6 : Option (Int32 × Gm)) (f7 : Gm → Option (Int32 × Gm)), fX6_obey (nI a) x y G = (f6.bind fun q => some (q.1, q.2)) → (∀ G1, fX7_carryOutOne (nI a) x y G1 = ((f7 G1).bind fun q => some (q.1, q.2))) → Op 1 G S f6 f7 → Op 1 G S (fX6_obey (nI a) x y G) (fX7_carryOutOne (nI a) x y) := by
    intro f6 f7 e6 e7 h
    rw [e6, bind_eta]
    obtain ⟨q, h1, h2, h3⟩ := h
    exact ⟨q, h1, fun G1 m => by rw [e7 G1, bind_eta]; exact h2 G1 m, h3⟩
  rcases cases_ with rfl | rfl | rfl | rfl | rfl | rfl | rfl | rfl | rfl | rfl | rfl
  · exact key _ _ rfl (fun _ => rfl) (op_admit C I hr h0 x y)
  · exact key _ _ rfl (fun _ => rfl) (op_cancel C I hr h0 x y)
  · exact key _ _ rfl (fun _ => rfl) (op_depart C I hr h0 x)
  · exact key _ _ rfl (fun _ => rfl) (op_assist C I hr h0 x y)
  · exact key _ _ rfl (fun _ => rfl) (op_leave C I h0 x)
  · exact key _ _ rfl (fun _ => rfl) (op_answer C I hr h0 x y 0)
  · exact key _ _ rfl (fun _ => rfl) (op_offer C I hr h0 x)
  · exact key _ _ rfl (fun _ => rfl) (op_shunt C I h0 x)
  · exact key _ _ rfl (fun _ => rfl) (op_pass C I h0 x)
  · exact key _ _ rfl (fun _ => rfl) (op_out C I hr h0 x y)
  · exact key _ _ rfl (fun _ => rfl) (op_answer C I hr h0 x y 1)
def FrK (G G' : Gm) : Prop := ∀ a b c k, b ≠ 0 → ¬ (a = 2 ∧ b = 4 ∧ c = 0) → G' a b c k = G a b c k
theorem FrK.tr (h : FrK G G1) (h2 : FrK G1 G2) : FrK G G2 := fun a b c k q q' => (h2 a b c k q q').trans (h a b c k q q')
theorem FrK.p (h : FrP G G1) : FrK G G1 := fun a b c k _ q => h a b c k (fun z => q ⟨z.1, z.2.1, z.2.2.1⟩)
theorem FrK.cl (h : FrC 0 G G1) : FrK G G1 := fun a b c k q _ => h a b c k q
theorem FrK.u {k : Nat} {v : Int32} : FrK G (gm_up G 2 4 0 k v) := by
  intro a b c k' _ q
  unfold gm_up
  rw [if_neg]
  rintro ⟨rfl, rfl, rfl, -⟩
  exact q ⟨rfl, rfl, rfl⟩
theorem run_ord {i0 : Nat} (h20 : i0 ≤ 20) (hg : ∀ j, j < i0 → Gd c n j) (ok0 : (oR c n (rp c n i0)).1 = true) (hend : n ≤ (oR c n (rp c n i0)).2.1) : ∀ k i (G : Gm) (S : Sm), i + k = i0 + 1 → PdC G c n → G 2 4 0 2 = nI (rp c n i) → CL G 0 S → Inv 12 S → S 0 ≤ 1000000 → S 80 + 600000 + k < 2147483647 → ∃ v G1 S', fX6_carryOut_h26 (6000 - i) (nI i) (nI i) G = some (nI v, G1) ∧ CL G1 0 S' ∧ Inv 12 S' ∧ S' 0 ≤ 1000000 ∧ S' 80 ≤ S 80 + k ∧ G1 2 4 0 1 = 0 ∧ FrK G G1 ∧ ∀ G2, MA G2 S → G2 7 5 0 9 = nI (i0 + 1) → OrdR G2 c n (i0 + 1) → ∃ G3, fX7_carryOut_h19 (6000 - i) (nI i) G2 = some (nI v, G3) ∧ MA G3 S' ∧ FrM G2 G3 := by
  intro k
  induction k with
  | zero =>
    intro i G S hi P h2 C I h0 hr
    have ei : i = i0 + 1 := by omega
    subst ei
    have n60 := P.2.1
    have rl := rp_le i0 hg
    have ol := oR_le (c := c) rl.2
    have e : rp c n (i0 + 1) = (oR c n (rp c n i0)).2.1 + 1 := rfl
    refine ⟨i0 + 1, gm_up G 2 4 0 1 0, S, ?_, C.fr (by have := I.tn; omega) (fun a c k => gu_b (by decide)), I, h0, Nat.le_refl _, gu_at, FrK.u, fun G2 m h9 ho => ⟨G2, ?_, m, FrM.rf⟩⟩
    · rw [show 6000 - (i0 + 1) = 5998 - i0 + 1 by omega, fX6_carryOut_h26.eq_2, if_neg (by rw [show (60 : Int32) = nI 60 from rfl, bs_le (by decide) (by omega)]; omega)]
      unfold fX2_readOrder
      rw [h2, P.1, if_neg (by rw [bs_lt (by omega) (by omega)]; omega), gm_bs]
      dsimp only
      rw [if_pos rfl]
      unfold fX2_empty
      rw [gm_bs]
    · rw [show 6000 - (i0 + 1) = 5998 - i0 + 1 by omega, fX7_carryOut_h19.eq_2, h9, if_pos ((bs_le (by omega) (by omega)).mpr (Nat.le_refl _))]
  | succ k ih =>
    intro i G S hi P h2 C I h0 hr
    have n60 := P.2.1
    have tn := I.tn
    have hgi : ∀ j, j < i → Gd c n j := fun j hj => hg j (by omega)
    have rl := rp_le i hgi
    have ol := oR_le (c := c) rl.2
    have okk : (oR c n (rp c n i)).1 = true ∧ (pS c n (oR c n (rp c n i)).2.1 = 44 ∨ n ≤ (oR c n (rp c n i)).2.1) := by
      by_cases e : i = i0
      · subst e; exact ⟨ok0, Or.inr hend⟩
      · have := hg i (by omega)
        exact ⟨this.1, Or.inl this.2⟩
    have kl : kL (pS c n (rp c n i)) ≠ 0 := by
      intro z
      have := okk.1
      unfold oR at this
      rw [if_pos z] at this; cases this
    obtain ⟨Ga, ea, Fa, a2, a3, a4, a5⟩ := c_ro P h2 rl.2 okk.1 okk.2
    have Ca : CL Ga 0 S := C.fr (by omega) (fun a c k => Fa a 0 c k (by omega))
    have Pa := P.fr Fa
    obtain ⟨q, ⟨Gb, eb, Cb, Fb⟩, qm, qi, q0, q80⟩ := op_obey Ca I (by omega) h0 kl (nI (oR c n (rp c n i)).2.2.1) (nI (oR c n (rp c n i)).2.2.2)
    have Pb : PdC Gb c n := ⟨by rw [Fb 2 4 0 1 (by decide)]; exact Pa.1, Pa.2.1, fun k hk => by rw [Fb 8 4 0 k (by decide)]; exact Pa.2.2.1 k hk, Pa.2.2.2⟩
    have b2 : Gb 2 4 0 2 = nI (rp c n (i + 1)) := by rw [Fb 2 4 0 2 (by decide)]; exact a2
    have i60 : ¬ (60 : Int32) ≤ nI i := by rw [show (60 : Int32) = nI 60 from rfl, bs_le (by decide) (by omega)]; omega
    have st6 : fX6_carryOut_h26 (6000 - i) (nI i) (nI i) G = (if 0 ≤ nI q.1 then fX6_carryOut_h26 (6000 - (i + 1)) (nI (i + 1)) (nI (i + 1)) Gb else some (nI i, gm_up Gb 2 4 0 1 0)) := by
      rw [show 6000 - i = 6000 - (i + 1) + 1 by omega, fX6_carryOut_h26.eq_2, if_neg i60, ea, gm_bs]
      dsimp only
      rw [if_neg bs_01, a3, a4, a5, eb, gm_bs]
      dsimp only
      rw [nI_1]
      unfold fX2_empty
      rw [gm_bs]
    have st7 : ∀ G2, MA G2 S → G2 7 5 0 9 = nI (i0 + 1) → OrdR G2 c n (i0 + 1) → ∃ Gc, MA Gc q.2 ∧ FrM G2 Gc ∧ fX7_carryOut_h19 (6000 - i) (nI i) G2 = (if 0 ≤ nI q.1 then fX7_carryOut_h19 (6000 - (i + 1)) (nI (i + 1)) Gc else some (nI i, Gc)) := by
      intro G2 mm h9 ho
      obtain ⟨Gc, ec, mc, fc⟩ := qm G2 mm
      obtain ⟨o0, o1, o2⟩ := ho i (by omega)
      refine ⟨Gc, mc, fc, ?_⟩
      have x0 : (3 : Int32) * nI i = nI (3 * i) := by simp only [bs_nat, bs_mul]
      have x1 : nI (3 * i) + 1 = nI (3 * i + 1) := nI_1 _
      have x2 : nI (3 * i) + 2 = nI (3 * i + 2) := nI_add _ _
      rw [show 6000 - i = 6000 - (i + 1) + 1 by omega, fX7_carryOut_h19.eq_2, h9, if_neg (by rw [bs_le (by omega) (by omega)]; omega), x0, x1, x2, gm_gin (by omega) (by decide), gm_gin (by omega) (by decide), gm_gin (by omega) (by decide), o0, o1, o2, ec, gm_bs]
      dsimp only
      rw [nI_1]
    by_cases pos : 0 ≤ nI q.1
    · obtain ⟨v, G1, S', e1, C1, I1, z0, z80, ze, zf, zr⟩ := ih (i + 1) Gb q.2 (by omega) Pb b2 Cb qi q0 (by omega)
      refine ⟨v, G1, S', by rw [st6, if_pos pos]; exact e1, C1, I1, z0, by omega, ze, ((FrK.p Fa).tr (FrK.cl Fb)).tr zf, fun G2 mm h9 ho => ?_⟩
      obtain ⟨Gc, mc, fc, ec⟩ := st7 G2 mm h9 ho
      obtain ⟨G3, e3, m3, f3⟩ := zr Gc mc (by rw [fc 7 5 0 9 (by omega)]; exact h9) (fun j hj => by rw [fc 8 5 4 _ (by omega), fc 8 5 4 _ (by omega), fc 8 5 4 _ (by omega)]; exact ho j hj)
      exact ⟨G3, by rw [ec, if_pos pos]; exact e3, m3, fc.tr f3⟩
    · refine ⟨i, gm_up Gb 2 4 0 1 0, q.2, by rw [st6, if_neg pos], Cb.fr (by have := qi.tn; omega) (fun a c k => gu_b (by decide)), qi, q0, by omega, gu_at, ((FrK.p Fa).tr (FrK.cl Fb)).tr FrK.u, fun G2 mm h9 ho => ?_⟩
      obtain ⟨Gc, mc, fc, ec⟩ := st7 G2 mm h9 ho
      exact ⟨Gc, by rw [ec, if_neg pos], mc, fc⟩
/-- what both sides are between two calls -/
def Pd (G : Gm) : Prop := ∃ c n, PdC G c n ∧ PdR G c n
def Sl (B : Nat) (G : Gm) : Prop := ∀ z, z < 2 → (G 9 4 0 z = 0 ∧ G 9 5 0 z = 0) ∨ (G 9 4 0 z = 1 ∧ G 9 5 0 z = 1 ∧ ∃ Z, CL G (z + 2) Z ∧ (∀ k, k < 2862 → G 8 5 2 (2862 * z + k) = nI (Z k)) ∧ Inv 12 Z ∧ Z 0 ≤ 1000000 ∧ Z 80 ≤ B)
def WI (B : Nat) (G : Gm) : Prop := ∃ S, CL G 0 S ∧ MA G S ∧ Inv 12 S ∧ S 0 ≤ 1000000 ∧ S 80 ≤ B ∧ Sl B G ∧ Pd G
theorem Sl.fr {B B' : Nat} {G' : Gm} (h : Sl B G) (hB : B ≤ B') (f : ∀ a b c k, (b = 2 ∨ b = 3 ∨ (a = 9 ∧ b = 4) ∨ (a = 9 ∧ b = 5) ∨ (a = 8 ∧ b = 5 ∧ c = 2)) → G' a b c k = G a b c k) : Sl B' G' := by
  intro z hz
  rcases h z hz with ⟨h1, h2⟩ | ⟨h1, h2, Z, z1, z2, z3, z4, z5⟩
  · exact Or.inl ⟨by rw [f 9 4 0 z (by omega)]; exact h1, by rw [f 9 5 0 z (by omega)]; exact h2⟩
  · refine Or.inr ⟨by rw [f 9 4 0 z (by omega)]; exact h1, by rw [f 9 5 0 z (by omega)]; exact h2, Z, z1.fr (by have := z3.tn; omega) (fun a c k => f a (z + 2) c k (by omega)), fun k hk => by rw [f 8 5 2 _ (by omega)]; exact z2 k hk, z3, z4, by omega⟩
theorem Pd.fr {G' : Gm} (h : Pd G) (f1 : G' 2 4 0 1 = G 2 4 0 1) (f2 : ∀ k, G' 8 4 0 k = G 8 4 0 k) (f3 : G' 7 5 0 5 = G 7 5 0 5) (f4 : ∀ k, G' 8 5 3 k = G 8 5 3 k) : Pd G' := by
  obtain ⟨c, n, P, Q⟩ := h
  exact ⟨c, n, ⟨by rw [f1]; exact P.1, P.2.1, fun k hk => by rw [f2]; exact P.2.2.1 k hk, P.2.2.2⟩, ⟨by rw [f3]; exact Q.1, Q.2.1, fun k hk => by rw [f4]; exact Q.2.2.1 k hk, Q.2.2.2⟩⟩
/-- the two answers of a call -/
def Two (B : Nat) (G : Gm) (f : Gm → Option (Int32 × Gm)) (g : Gm → Option (Int32 × Gm)) : Prop := ∃ v G1 G2, f G = some (v, G1) ∧ g G1 = some (v, G2) ∧ WI (B + 500000) G2
def TwoQ (B : Nat) (G : Gm) (f g : Gm → Option Int32) : Prop := ∃ v, f G = some v ∧ g G = some v ∧ WI (B + 500000) G
theorem wi_op {B : Nat} {f g : Gm → Option (Int32 × Gm)} (hW : WI B G) (h : ∀ S, CL G 0 S → Inv 12 S → S 0 ≤ 1000000 → S 80 ≤ B → Op 500000 G S (f G) g) : Two B G f g := by
  obtain ⟨S, C, M1, I, h0, h80, s, p⟩ := hW
  obtain ⟨q, ⟨G1, e1, C1, F1⟩, qm, qi, q0, q80⟩ := h S C I h0 h80
  obtain ⟨G2, e2, M2, F2⟩ := qm G1 (fun k hk => by rw [F1 8 5 0 k (by decide)]; exact M1 k hk)
  refine ⟨nI q.1, G1, G2, e1, e2, q.2, C1.fr (by have := qi.tn; omega) (fun a c k => F2 a 0 c k (by omega)), M2, qi, q0, by omega, s.fr (by omega) (fun a b c k hh => by rw [F2 a b c k (by omega), F1 a b c k (by omega)]), p.fr (by rw [F2 2 4 0 1 (by omega), F1 2 4 0 1 (by decide)]) (fun k => by rw [F2 8 4 0 k (by omega), F1 8 4 0 k (by decide)]) (by rw [F2 7 5 0 5 (by omega), F1 7 5 0 5 (by decide)]) (fun k => by rw [F2 8 5 3 k (by omega), F1 8 5 3 k (by decide)])⟩
theorem wi_tri {B : Nat} {f g : Gm → Option (Int32 × Gm)} (hW : WI B G) (h : ∀ S, CL G 0 S → Inv 12 S → S 0 ≤ 1000000 → S 80 ≤ B → Tri G S (f G) g) : Two B G f g := by
  obtain ⟨S, C, M1, I, h0, h80, s, p⟩ := hW
  obtain ⟨v, G1, e1, F1, qm⟩ := h S C I h0 h80
  obtain ⟨G2, e2, M2, F2⟩ := qm G1 (fun k hk => by rw [F1 8 5 0 k (by decide)]; exact M1 k hk)
  have tn := I.tn
  refine ⟨v, G1, G2, e1, e2, S, (C.fr (by omega) (fun a c k => F1 a 0 c k (by decide))).fr (by omega) (fun a c k => F2 a 0 c k (by omega)), M2, I, h0, by omega, s.fr (by omega) (fun a b c k hh => by rw [F2 a b c k (by omega), F1 a b c k (by omega)]), p.fr (by rw [F2 2 4 0 1 (by omega), F1 2 4 0 1 (by decide)]) (fun k => by rw [F2 8 4 0 k (by omega), F1 8 4 0 k (by decide)]) (by rw [F2 7 5 0 5 (by omega), F1 7 5 0 5 (by decide)]) (fun k => by rw [F2 8 5 3 k (by omega), F1 8 5 3 k (by decide)])⟩
theorem WI.le {B B' : Nat} (h : WI B G) (hB : B ≤ B') : WI B' G := by
  obtain ⟨S, C, M1, I, h0, h80, s, p⟩ := h
  exact ⟨S, C, M1, I, h0, by omega, s.fr hB (fun _ _ _ _ _ => rfl), p⟩
theorem wi_ask {B : Nat} {f g : Gm → Option Int32} (hW : WI B G) (h : ∀ S, CL G 0 S → Inv 12 S → S 80 ≤ B → Ask G S (f G) g) : TwoQ B G f g := by
  have hW' := hW
  obtain ⟨S, C, M1, I, h0, h80, s, p⟩ := hW
  obtain ⟨v, e1, e2⟩ := h S C I h80
  exact ⟨v, e1, e2 G M1, hW'.le (by omega)⟩
theorem wi_count {B : Nat} (hW : WI B G) (x : Int32) : TwoQ B G (fX6_count x) (fX7_count x) := by
  have hW' := hW
  obtain ⟨S, C, M1, I, h0, h80, s, c, n, P, Q⟩ := hW
  obtain ⟨v, e1, e2⟩ := q_count C I x
  exact ⟨v, e1, e2 G M1 (by rw [P.1, Q.1]), hW'.le (by omega)⟩
theorem wi_fault {B : Nat} (hW : WI B G) : ∃ v G2, fX6_fault G = some v ∧ fX7_fault G = some (v, G2) ∧ WI (B + 500000) G2 := by
  obtain ⟨S, C, M1, I, h0, h80, s, c, n, P, Q⟩ := hW
  have tn := I.tn
  obtain ⟨v, e1, e2⟩ := q_fault P
  obtain ⟨G2, e3, F⟩ := e2 G Q
  refine ⟨v, G2, e1, e3, S, C.fr (by omega) (fun a c k => F a 0 c k (by omega) (by omega)), fun k hk => by rw [F 8 5 0 k (by omega) (by omega)]; exact M1 k hk, I, h0, by omega, s.fr (by omega) (fun a b c k hh => F a b c k (by omega) (by omega)), c, n, ⟨by rw [F 2 4 0 1 (by omega) (by omega)]; exact P.1, P.2.1, fun k hk => by rw [F 8 4 0 k (by omega) (by omega)]; exact P.2.2.1 k hk, P.2.2.2⟩, Q.fr F⟩
theorem wi_wipe {B : Nat} (hW : WI B G) : Two B G fX6_wipe fX7_wipe := by
  obtain ⟨S, C, M1, I, h0, h80, s, c, n, P, Q⟩ := hW
  have tn := I.tn
  refine ⟨nI n, gm_up G 2 4 0 1 0, gm_up (gm_up G 2 4 0 1 0) 7 5 0 5 0, ?_, ?_, S, ?_, fun k hk => ?_, I, h0, by omega, ?_, c, 0, ⟨?_, by decide, fun k hk => absurd hk (Nat.not_lt_zero _), fun k hk => absurd hk (Nat.not_lt_zero _)⟩, ⟨?_, by decide, fun k hk => absurd hk (Nat.not_lt_zero _), fun k hk => absurd hk (Nat.not_lt_zero _)⟩⟩
  · unfold fX6_wipe fX2_empty
    rw [gm_bs, P.1]
  · unfold fX7_wipe
    rw [gu_k (by decide), Q.1]
  · exact C.fr (by omega) (fun a c k => by rw [gu_b (by decide), gu_b (by decide)])
  · rw [gu_k (by decide), gu_k (by decide)]; exact M1 k hk
  · refine s.fr (by omega) (fun a b c k hh => ?_)
    unfold gm_up
    rw [if_neg (by omega), if_neg (by omega)]
  · rw [gu_k (by decide), gu_at]; rfl
  · rw [gu_at]; rfl
theorem wi_say {B : Nat} (hW : WI B G) (x : Int32) : Two B G (fX6_say x) (fX7_say x) := by
  have hW' := hW
  obtain ⟨S, C, M1, I, h0, h80, s, c, n, P, Q⟩ := hW
  have tn := I.tn
  have n60 := P.2.1
  rcases bs_rg x (a := 33) (b := 126) (by decide) (by decide) with ⟨a, a1, a2, rfl⟩ | hx
  · have d1 : ¬ nI a < 33 := by rw [show (33 : Int32) = nI 33 from rfl, bs_lt (by omega) (by decide)]; omega
    have d2 : nI a ≤ 126 := by rw [show (126 : Int32) = nI 126 from rfl, bs_le (by omega) (by decide)]; omega
    have i1 := m_inr (x := nI a) (y := 33) (z := 126) (a := 33) (b := 126) rfl rfl (by decide) (by decide) a1 a2 rfl
    by_cases q : n < 60
    · refine ⟨nI (n + 1), gm_up (gm_up G 8 4 0 n (nI a)) 2 4 0 1 (nI (n + 1)), gm_up (gm_up (gm_up (gm_up G 8 4 0 n (nI a)) 2 4 0 1 (nI (n + 1))) 8 5 3 n (nI a)) 7 5 0 5 (nI (n + 1)), ?_, ?_, S, ?_, fun k hk => ?_, I, h0, by omega, ?_, fun k => if k = n then a else c k, n + 1, ⟨?_, by omega, fun k hk => ?_, fun k hk => ?_⟩, ⟨?_, by omega, fun k hk => ?_, fun k hk => ?_⟩⟩
      · unfold fX6_say fX2_append
        rw [if_neg d1, if_pos d2, P.1, if_pos (by rw [show (60 : Int32) = nI 60 from rfl, bs_lt (by omega) (by decide)]; exact q), gm_gin q (by decide), gm_bs, gu_k (show (2 : Nat) ≠ 8 by decide), P.1, nI_1, gu_at]
      · unfold fX7_say
        rw [i1, gm_bs, if_neg (by decide), gu_k (show (7 : Nat) ≠ 2 by decide), gu_k (show (7 : Nat) ≠ 8 by decide), Q.1, if_neg (by rw [bs_l (n := 60) (by omega) (by decide)]; omega), gm_gin q (by decide), gu_k (show (7 : Nat) ≠ 8 by decide), gu_k (show (7 : Nat) ≠ 2 by decide), gu_k (show (7 : Nat) ≠ 8 by decide), Q.1, nI_1, gu_at]
      · exact C.fr (by omega) (fun a c k => by rw [gu_b (by decide), gu_b (by decide), gu_b (by decide), gu_b (by decide)])
      · rw [gu_k (by decide), gu_c (by decide), gu_k (by decide), gu_b (by decide)]; exact M1 k hk
      · refine s.fr (by omega) (fun a b c k hh => ?_)
        unfold gm_up
        rw [if_neg (by omega), if_neg (by omega), if_neg (by omega), if_neg (by omega)]
      · rw [gu_k (by decide), gu_k (by decide), gu_at]
      · dsimp only
        rw [gu_k (by decide), gu_b (by decide), gu_k (by decide)]
        by_cases e : k = n
        · rw [e, gu_at, if_pos rfl]
        · rw [gu_s e, if_neg e]; exact P.2.2.1 k (by omega)
      · dsimp only
        by_cases e : k = n
        · rw [if_pos e]; exact a2
        · rw [if_neg e]; exact P.2.2.2 k (by omega)
      · rw [gu_at]
      · dsimp only
        rw [gu_k (by decide)]
        by_cases e : k = n
        · rw [e, gu_at, if_pos rfl]
        · rw [gu_s e, if_neg e, gu_k (by decide), gu_b (by decide)]; exact Q.2.2.1 k (by omega)
      · dsimp only
        by_cases e : k = n
        · rw [if_pos e]; exact a2
        · rw [if_neg e]; exact P.2.2.2 k (by omega)
    · have e60 : n = 60 := by omega
      refine ⟨-4, G, G, ?_, ?_, hW'.le (by omega)⟩
      · unfold fX6_say fX2_append
        rw [if_neg d1, if_pos d2, P.1, if_neg (by rw [show (60 : Int32) = nI 60 from rfl, bs_lt (by omega) (by decide)]; exact q), gm_bs]
      · unfold fX7_say
        rw [i1, gm_bs, if_neg (by decide), Q.1, e60, if_pos (show nI 60 = 60 from rfl)]
  · have hx : x < 33 ∨ 126 < x := hx
    refine ⟨-2, G, G, ?_, ?_, hW'.le (by omega)⟩
    · unfold fX6_say
      by_cases c : x < 33
      · rw [if_pos c]
      · rw [if_neg c, if_neg (Int32.not_le.mpr (hx.resolve_left c))]
    · unfold fX7_say
      rw [m_in0 hx, gm_bs, if_pos rfl]
theorem wi_carry {B : Nat} (hB : B + 1000000 < 2147483647) (hW : WI B G) : Two B G fX6_carryOut fX7_carryOut := by
  have hW' := hW
  obtain ⟨S, C, M1, I, h0, h80, s, c, n, P, Q⟩ := hW
  have tn := I.tn
  have n60 := P.2.1
  obtain ⟨i0, h20, hng, hg⟩ := stop_at (c := c) n60
  have rl := rp_le i0 hg
  have ol := oR_le (c := c) rl.2
  have ef := c_fault P hng hg
  by_cases val : (oR c n (rp c n i0)).1 = true ∧ n ≤ (oR c n (rp c n i0)).2.1
  · have efv : nI (fv c n i0) = -6 := by unfold fv; rw [if_pos val, nI_NN]
    rw [efv] at ef
    have Pr : PdC (gm_up G 2 4 0 2 0) c n := P.fr (FrP.rf.u (by omega))
    have Cr : CL (gm_up G 2 4 0 2 0) 0 S := C.fr (by omega) (fun a c k => gu_b (by decide))
    obtain ⟨v, G1, S', e1, C1, I1, z0, z80, ze, zf, zr⟩ := run_ord h20 hg val.1 val.2 (i0 + 1) 0 (gm_up G 2 4 0 2 0) S (by omega) Pr gu_at Cr I h0 (by omega)
    have FK : FrK G G1 := FrK.u.tr zf
    have Q1 : PdR G1 c n := ⟨by rw [FK 7 5 0 5 (by decide) (by omega)]; exact Q.1, n60, fun k hk => by rw [FK 8 5 3 k (by decide) (by omega)]; exact Q.2.2.1 k hk, Q.2.2.2⟩
    obtain ⟨Gf, e2, Ff, f6, ft, -⟩ := m_fault Q1 h20 hng hg
    obtain ⟨t7, t9, to⟩ := ft val.1
    have Mf : MA Gf S := fun k hk => by rw [Ff 8 5 0 k (by omega) (by omega), FK 8 5 0 k (by decide) (by omega)]; exact M1 k hk
    obtain ⟨G3, e3, M3, F3⟩ := zr (gm_up Gf 7 5 0 5 0) (fun k hk => by rw [gu_k (by decide)]; exact Mf k hk) (by rw [gu_s (by decide)]; exact t9) (fun j hj => by rw [gu_k (by decide), gu_k (by decide), gu_k (by decide)]; exact to j hj)
    have tn1 := I1.tn
    refine ⟨nI v, G1, G3, ?_, ?_, S', C1.fr (by omega) (fun a c k => by rw [F3 a 0 c k (by omega), gu_b (by decide), Ff a 0 c k (by omega) (by omega)]), M3, I1, z0, by omega, ?_, c, 0, ⟨?_, by decide, fun k hk => absurd hk (Nat.not_lt_zero _), fun k hk => absurd hk (Nat.not_lt_zero _)⟩, ⟨?_, by decide, fun k hk => absurd hk (Nat.not_lt_zero _), fun k hk => absurd hk (Nat.not_lt_zero _)⟩⟩
    · unfold fX6_carryOut fX2_rewind
      rw [ef, gm_bs, if_pos rfl, gm_bs]
      exact e1
    · unfold fX7_carryOut
      rw [e2, gm_bs]
      dsimp only
      rw [efv, if_pos rfl]
      exact e3
    · refine s.fr (by omega) (fun a b c k hh => ?_)
      rw [F3 a b c k (by omega), show gm_up Gf 7 5 0 5 0 a b c k = Gf a b c k by unfold gm_up; rw [if_neg (by omega)], Ff a b c k (by omega) (by omega), FK a b c k (by omega) (by omega)]
    · rw [F3 2 4 0 1 (by omega), gu_k (by decide), Ff 2 4 0 1 (by omega) (by omega), ze]; rfl
    · rw [F3 7 5 0 5 (by omega), gu_at]; rfl
  · have efv : ¬ nI (fv c n i0) = -6 := by
      rw [bs_n6 (by unfold fv; rw [if_neg val]; omega)]
      unfold fv
      rw [if_neg val]
      have nn : NN = 4294967290 := rfl
      omega
    obtain ⟨Gf, e2, Ff, -⟩ := m_fault Q h20 hng hg
    refine ⟨-3, G, Gf, ?_, ?_, S, C.fr (by omega) (fun a c k => Ff a 0 c k (by omega) (by omega)), fun k hk => by rw [Ff 8 5 0 k (by omega) (by omega)]; exact M1 k hk, I, h0, by omega, s.fr (by omega) (fun a b c k hh => Ff a b c k (by omega) (by omega)), c, n, ⟨by rw [Ff 2 4 0 1 (by omega) (by omega)]; exact P.1, P.2.1, fun k hk => by rw [Ff 8 4 0 k (by omega) (by omega)]; exact P.2.2.1 k hk, P.2.2.2⟩, Q.fr Ff⟩
    · unfold fX6_carryOut
      rw [ef, gm_bs, if_neg efv]
    · unfold fX7_carryOut
      rw [e2, gm_bs]
      dsimp only
      rw [if_neg efv]
end
