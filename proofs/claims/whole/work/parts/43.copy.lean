section
variable {G : Gm} {S : Sm} {M l m : Nat}
theorem gu_b {G : Gm} {a b c k : Nat} {v : Int32} {a' b' c' k' : Nat} (h : b' ≠ b) : gm_up G a b c k v a' b' c' k' = G a' b' c' k' := by unfold gm_up; rw [if_neg (fun q => h q.2.1)]
theorem cp4 (h : m ≠ l) {j p : Nat} (h1 : G 4 m p 1 = 0 ∨ G 4 m p 1 = 1) (h5 : G 4 m p 5 = 0 ∨ G 4 m p 5 = 1) : fX4_copyFrom l j m p G = some (gm_up (gm_up (gm_up (gm_up (gm_up G 4 l j 1 (G 4 m p 1)) 4 l j 2 (G 4 m p 2)) 4 l j 3 (G 4 m p 3)) 4 l j 4 (G 4 m p 4)) 4 l j 5 (G 4 m p 5)) := by
  unfold fX4_copyFrom
  simp only [gu_b h]
  rw [if_pos h1, if_pos h5]
theorem cp5 (h : m ≠ l) {j p : Nat} (h1 : G 5 m p 6 = 0 ∨ G 5 m p 6 = 1) : fX5_copyFrom l j m p G = some (gm_up (gm_up (gm_up (gm_up (gm_up (gm_up (gm_up (gm_up G 5 l j 1 (G 5 m p 1)) 5 l j 2 (G 5 m p 2)) 5 l j 3 (G 5 m p 3)) 5 l j 4 (G 5 m p 4)) 5 l j 5 (G 5 m p 5)) 5 l j 6 (G 5 m p 6)) 5 l j 7 (G 5 m p 7)) 5 l j 8 (G 5 m p 8)) := by
  unfold fX5_copyFrom
  simp only [gu_b h]
  rw [if_pos h1]
theorem cp0 (h : m ≠ l) {j p : Nat} (h1 : G 0 m p 5 = 0 ∨ G 0 m p 5 = 1) : fX0_copyFrom l j m p G = some (gm_up (gm_up (gm_up (gm_up (gm_up G 0 l j 2 (G 0 m p 2)) 0 l j 3 (G 0 m p 3)) 0 l j 4 (G 0 m p 4)) 0 l j 5 (G 0 m p 5)) 0 l j 6 (G 0 m p 6)) := by
  unfold fX0_copyFrom
  simp only [gu_b h]
  rw [if_pos h1]
theorem gm_cp_o {b c b' c' n a1 b1 c1 k1 : Nat} (h : ¬ (a1 = 8 ∧ b1 = b' ∧ c1 = c')) : gm_cp G b c b' c' n a1 b1 c1 k1 = G a1 b1 c1 k1 := by
  unfold gm_cp; rw [if_neg h]
theorem gm_cp_i {b c b' c' n k1 : Nat} (h : k1 < n) : gm_cp G b c b' c' n 8 b' c' k1 = G 8 b c k1 := by
  unfold gm_cp; rw [if_pos ⟨rfl, rfl, rfl⟩]
  unfold va_cpy
  rw [if_pos ⟨Nat.zero_le _, by omega⟩]
  simp
/-- a line that holds what another one holds -/
theorem CL.cp {G' : Gm} (C : CL G m S) (h1 : ∀ k, k = 5 ∨ k = 6 ∨ k = 7 → G' 1 l 0 k = G 1 m 0 k) (h3 : G' 3 l 0 1 = G 3 m 0 1) (h4 : ∀ s k, s < 5 → 1 ≤ k → k ≤ 5 → G' 4 l s k = G 4 m s k) (h8 : ∀ k, k < 12 → G' 8 l 0 k = G 8 m 0 k) (h81 : ∀ k, k < 300 → G' 8 l 1 k = G 8 m 1 k) (h0 : ∀ j k, j < 10 → 2 ≤ k → k ≤ 6 → G' 0 l j k = G 0 m j k) (h5 : ∀ t k, t < 12 → 1 ≤ k → k ≤ 8 → G' 5 l t k = G 5 m t k) (hn : S 381 ≤ 12) : CL G' l S := by
  obtain ⟨⟨⟨a1, a2, a3, a4⟩, hs, hk, hb, hr, ht, hy⟩, T⟩ := C
  refine ⟨⟨⟨?_, ?_, ?_, ?_⟩, ?_, ?_, ?_, ?_, ?_, ?_⟩, ?_⟩
  · rw [h1 7 (by omega)]; exact a1
  · rw [h1 5 (by omega)]; exact a2
  · rw [h1 6 (by omega)]; exact a3
  · rw [h3]; exact a4
  · intro s q
    rw [h4 s 1 q (by omega) (by omega), h4 s 2 q (by omega) (by omega), h4 s 3 q (by omega) (by omega), h4 s 4 q (by omega) (by omega)]; exact hs s q
  · intro k q; rw [h8 k q]; exact hk k q
  · intro j q w q'; rw [h0 j (w + 2) q (by omega) (by omega)]; exact hb j q w q'
  · intro k q q'; rw [h81 k q]; exact hr k q q'
  · intro t q w q'; rw [h5 t (w + 1) (by omega) (by omega) (by omega)]; exact ht t q w q'
  · intro t q; rw [h5 t 6 q (by omega) (by omega)]; exact hy t q
  · intro s q; rw [h4 s 5 q (by omega) (by omega)]; exact T s q
theorem c_copy (C : CL G m S) (I : Inv 12 S) (h : m ≠ l) : ∃ G', fX1_copyFrom l m G = some G' ∧ CL G' l S ∧ FrC l G G' := by
  have tn := I.tn
  have b01 : ∀ b : Bool, (if b then (1 : Int32) else 0) = 0 ∨ (if b then (1 : Int32) else 0) = 1 := fun b => by cases b <;> simp
  unfold fX1_copyFrom
  simp only [gu_b h]
  obtain ⟨G1, e1, ⟨f1, p1, q1⟩⟩ := lp (σ := Gm) (h := fun f v s => fX1_copyFrom_h26 l m f v s) (P := fun i s => FrC l G s ∧ (∀ j k, j < i → 1 ≤ k → k ≤ 5 → s 4 l j k = G 4 m j k) ∧ (∀ a c k, a ≠ 4 → s a l c k = gm_up (gm_up (gm_up G 1 l 0 5 (G 1 m 0 5)) 1 l 0 6 (G 1 m 0 6)) 1 l 0 7 (G 1 m 0 7) a l c k)) (m := 5) (fun i f G' hi hP => by
    obtain ⟨hF, hj, ho⟩ := hP
    have em : ∀ a c k, G' a m c k = G a m c k := fun a c k => hF a m c k h
    have c1 : G' 4 m i 1 = 0 ∨ G' 4 m i 1 = 1 := by rw [em, (C.1.sc hi).1]; exact b01 _
    have c5 : G' 4 m i 5 = 0 ∨ G' 4 m i 5 = 1 := by rw [em, C.2 i hi]; exact b01 _
    refine ⟨gm_up (gm_up (gm_up (gm_up (gm_up G' 4 l i 1 (G' 4 m i 1)) 4 l i 2 (G' 4 m i 2)) 4 l i 3 (G' 4 m i 3)) 4 l i 4 (G' 4 m i 4)) 4 l i 5 (G' 4 m i 5), ?_, hF.up.up.up.up.up, fun j k hj' k1 k2 => ?_, fun a c k q => ?_⟩
    · try dsimp only
      rw [fX1_copyFrom_h26.eq_2, if_neg (by rw [show (5 : Int32) = nI 5 from rfl, bs_le (by decide) (by omega)]; omega), gm_gin hi (by decide), gm_gin hi (by decide), cp4 h c1 c5, gm_bs, nI_1]
    · by_cases e : j = i
      · subst e
        rw [em, em, em, em, em]
        rcases (show k = 1 ∨ k = 2 ∨ k = 3 ∨ k = 4 ∨ k = 5 by omega) with rfl | rfl | rfl | rfl | rfl <;> simp [gm_up]
      · rw [gu_c e, gu_c e, gu_c e, gu_c e, gu_c e]; exact hj j k (by omega) k1 k2
    · rw [gu_k q, gu_k q, gu_k q, gu_k q, gu_k q]; exact ho a c k q) 5 0 6000 (gm_up (gm_up (gm_up G 1 l 0 5 (G 1 m 0 5)) 1 l 0 6 (G 1 m 0 6)) 1 l 0 7 (G 1 m 0 7)) (by omega) (by omega) ⟨FrC.rf.up.up.up, fun j k hj => by omega, fun _ _ _ _ => rfl⟩
  obtain ⟨G2, e2, ⟨f2, p2, q2⟩⟩ := lp (σ := Gm) (h := fun f v s => fX1_copyFrom_h54 l m f v s) (P := fun i s => FrC l G s ∧ (∀ j k, j < i → 2 ≤ k → k ≤ 6 → s 0 l j k = G 0 m j k) ∧ (∀ a c k, a ≠ 0 → s a l c k = G1 a l c k)) (m := 10) (fun i f G' hi hP => by
    obtain ⟨hF, hj, ho⟩ := hP
    have em : ∀ a c k, G' a m c k = G a m c k := fun a c k => hF a m c k h
    have c5 : G' 0 m i 5 = 0 ∨ G' 0 m i 5 = 1 := by
      rw [em, C.1.b3 hi]
      have := (I.bk hi).2.2.2.1
      rcases (show sB S i 3 = 0 ∨ sB S i 3 = 1 by omega) with e | e <;> rw [e]
      · exact Or.inl rfl
      · exact Or.inr rfl
    refine ⟨gm_up (gm_up (gm_up (gm_up (gm_up G' 0 l i 2 (G' 0 m i 2)) 0 l i 3 (G' 0 m i 3)) 0 l i 4 (G' 0 m i 4)) 0 l i 5 (G' 0 m i 5)) 0 l i 6 (G' 0 m i 6), ?_, hF.up.up.up.up.up, fun j k hj' k1 k2 => ?_, fun a c k q => ?_⟩
    · try dsimp only
      rw [fX1_copyFrom_h54.eq_2, if_neg (by rw [show (10 : Int32) = nI 10 from rfl, bs_le (by decide) (by omega)]; omega), gm_gin hi (by decide), gm_gin hi (by decide), cp0 h c5, gm_bs, nI_1]
    · by_cases e : j = i
      · subst e
        rw [em, em, em, em, em]
        rcases (show k = 2 ∨ k = 3 ∨ k = 4 ∨ k = 5 ∨ k = 6 by omega) with rfl | rfl | rfl | rfl | rfl <;> simp [gm_up]
      · rw [gu_c e, gu_c e, gu_c e, gu_c e, gu_c e]; exact hj j k (by omega) k1 k2
    · rw [gu_k q, gu_k q, gu_k q, gu_k q, gu_k q]; exact ho a c k q) 10 0 6000 G1 (by omega) (by omega) ⟨f1, fun j k hj => by omega, fun _ _ _ _ => rfl⟩
  obtain ⟨G3, e3, ⟨f3, p3, q3⟩⟩ := lp (σ := Gm) (h := fun f v s => fX1_copyFrom_h83 l m f v s) (P := fun i s => FrC l G s ∧ (∀ j k, j < i → 1 ≤ k → k ≤ 8 → s 5 l j k = G 5 m j k) ∧ (∀ a c k, a ≠ 5 → s a l c k = G2 a l c k)) (m := 12) (fun i f G' hi hP => by
    obtain ⟨hF, hj, ho⟩ := hP
    have em : ∀ a c k, G' a m c k = G a m c k := fun a c k => hF a m c k h
    have c6 : G' 5 m i 6 = 0 ∨ G' 5 m i 6 = 1 := by rw [em]; exact C.1.2.2.2.2.2.2 i hi
    refine ⟨gm_up (gm_up (gm_up (gm_up (gm_up (gm_up (gm_up (gm_up G' 5 l i 1 (G' 5 m i 1)) 5 l i 2 (G' 5 m i 2)) 5 l i 3 (G' 5 m i 3)) 5 l i 4 (G' 5 m i 4)) 5 l i 5 (G' 5 m i 5)) 5 l i 6 (G' 5 m i 6)) 5 l i 7 (G' 5 m i 7)) 5 l i 8 (G' 5 m i 8), ?_, hF.up.up.up.up.up.up.up.up, fun j k hj' k1 k2 => ?_, fun a c k q => ?_⟩
    · try dsimp only
      rw [fX1_copyFrom_h83.eq_2, if_neg (by rw [show (12 : Int32) = nI 12 from rfl, bs_le (by decide) (by omega)]; omega), gm_gin hi (by decide), gm_gin hi (by decide), cp5 h c6, gm_bs, nI_1]
    · by_cases e : j = i
      · subst e
        rw [em, em, em, em, em, em, em, em]
        rcases (show k = 1 ∨ k = 2 ∨ k = 3 ∨ k = 4 ∨ k = 5 ∨ k = 6 ∨ k = 7 ∨ k = 8 by omega) with rfl | rfl | rfl | rfl | rfl | rfl | rfl | rfl <;> simp [gm_up]
      · rw [gu_c e, gu_c e, gu_c e, gu_c e, gu_c e, gu_c e, gu_c e, gu_c e]; exact hj j k (by omega) k1 k2
    · rw [gu_k q, gu_k q, gu_k q, gu_k q, gu_k q, gu_k q, gu_k q, gu_k q]; exact ho a c k q) 12 0 6000 G2 (by omega) (by omega) ⟨f2, fun j k hj => by omega, fun _ _ _ _ => rfl⟩
  have em : ∀ a c k, G3 a m c k = G a m c k := fun a c k => f3 a m c k h
  have f4 : FrC l G (gm_up (gm_cp (gm_cp G3 m 0 l 0 12) m 1 l 1 300) 3 l 0 1 (G 3 m 0 1)) := by
    refine FrC.up ?_
    intro a b c k q
    rw [gm_cp_o (fun z => q z.2.1), gm_cp_o (fun z => q z.2.1)]
    exact f3 a b c k q
  refine ⟨gm_up (gm_cp (gm_cp G3 m 0 l 0 12) m 1 l 1 300) 3 l 0 1 (G 3 m 0 1), ?_, ?_, f4⟩
  · refine Eq.trans e1 ?_
    try dsimp only
    rw [show (6000 - 5 : Nat) = 5994 + 1 from rfl, fX1_copyFrom_h26.eq_2, if_pos (by decide)]
    refine Eq.trans e2 ?_
    try dsimp only
    rw [show (6000 - 10 : Nat) = 5989 + 1 from rfl, fX1_copyFrom_h54.eq_2, if_pos (by decide)]
    refine Eq.trans e3 ?_
    try dsimp only
    rw [show (6000 - 12 : Nat) = 5987 + 1 from rfl, fX1_copyFrom_h83.eq_2, if_pos (by decide)]
    unfold fX3_copyFrom
    rw [gm_cp_o (by omega), gm_cp_o (by omega), em, gm_bs]
  · have g1 : ∀ k, gm_up (gm_up (gm_up G 1 l 0 5 (G 1 m 0 5)) 1 l 0 6 (G 1 m 0 6)) 1 l 0 7 (G 1 m 0 7) 1 l 0 k = G3 1 l 0 k := fun k => by rw [q3 1 0 k (by decide), q2 1 0 k (by decide), q1 1 0 k (by decide)]
    refine C.cp (fun k hk => ?_) ?_ (fun s k hs k1 k2 => ?_) (fun k hk => ?_) (fun k hk => ?_) (fun j k hj k1 k2 => ?_) (fun t k ht k1 k2 => ?_) (by omega)
    · rw [gu_k (by decide), gm_cp_o (by omega), gm_cp_o (by omega), ← g1 k]
      rcases hk with rfl | rfl | rfl <;> simp [gm_up]
    · rw [gu_at]
    · rw [gu_k (by decide), gm_cp_o (by omega), gm_cp_o (by omega), q3 4 s k (by decide), q2 4 s k (by decide)]
      exact p1 s k hs k1 k2
    · rw [gu_k (by decide), gm_cp_o (by omega), gm_cp_i hk, em]
    · rw [gu_k (by decide), gm_cp_i hk, gm_cp_o (by omega), em]
    · rw [gu_k (by decide), gm_cp_o (by omega), gm_cp_o (by omega), q3 0 j k (by decide)]
      exact p2 j k hj k1 k2
    · rw [gu_k (by decide), gm_cp_o (by omega), gm_cp_o (by omega)]
      exact p3 t k ht k1 k2
/-- the reference puts its row aside, and back -/
def FrA (G G' : Gm) : Prop := ∀ a b c k, ¬ (a = 8 ∧ b = 5 ∧ c ≤ 1) → G' a b c k = G a b c k
theorem FrM.a {G' : Gm} (h : FrM G G') : FrA G G' := fun a b c k q => h a b c k (fun z => q ⟨z.1, z.2.1, by omega⟩)
theorem FrA.rf : FrA G G := fun _ _ _ _ _ => rfl
theorem FrA.tr {G1 G2 : Gm} (h : FrA G G1) (h2 : FrA G1 G2) : FrA G G2 := fun a b c k q => (h2 a b c k q).trans (h a b c k q)
theorem m_aside (h : MA G S) : ∃ G', fX7_putAside G = some G' ∧ MA G' S ∧ (∀ k, k < 2862 → G' 8 5 1 k = nI (S k)) ∧ FrA G G' := by
  unfold fX7_putAside
  obtain ⟨G1, e1, ⟨a1, a2, a3⟩⟩ := lp (σ := Gm) (h := fun f v s => fX7_putAside_h2 f v s) (P := fun i s => MA s S ∧ (∀ k, k < i → s 8 5 1 k = nI (S k)) ∧ FrA G s) (m := 2862) (fun i f G' hi hP => by
    obtain ⟨b1, b2, b3⟩ := hP
    refine ⟨gm_up G' 8 5 1 i (nI (S i)), ?_, fun k hk => ?_, fun k hk => ?_, fun a b c k q => ?_⟩
    · try dsimp only
      rw [fX7_putAside_h2.eq_2, if_neg (by rw [show (2862 : Int32) = nI 2862 from rfl, bs_le (by decide) (by omega)]; omega), gm_gin hi (by decide), gm_gin hi (by decide), b1 i hi, nI_1]
    · rw [gu_c (by decide)]; exact b1 k hk
    · by_cases e : k = i
      · rw [e, gu_at]
      · rw [gu_s e]; exact b2 k (by omega)
    · rw [← b3 a b c k q]
      unfold gm_up
      rw [if_neg (by omega)]) 2862 0 6000 G (by omega) (by omega) ⟨h, fun k hk => by omega, FrA.rf⟩
  refine ⟨G1, ?_, a1, a2, a3⟩
  refine Eq.trans e1 ?_
  try dsimp only
  rw [show (6000 - 2862 : Nat) = 3137 + 1 from rfl, fX7_putAside_h2.eq_2, if_pos (by decide)]
theorem m_back (h : ∀ k, k < 2862 → G 8 5 1 k = nI (S k)) : ∃ G', fX7_putBack G = some G' ∧ MA G' S ∧ FrM G G' := by
  unfold fX7_putBack
  obtain ⟨G1, e1, ⟨a1, a2⟩⟩ := lp (σ := Gm) (h := fun f v s => fX7_putBack_h2 f v s) (P := fun i s => (∀ k, k < i → s 8 5 0 k = nI (S k)) ∧ FrM G s) (m := 2862) (fun i f G' hi hP => by
    obtain ⟨b1, b2⟩ := hP
    refine ⟨gm_up G' 8 5 0 i (nI (S i)), ?_, fun k hk => ?_, b2.up⟩
    · try dsimp only
      rw [fX7_putBack_h2.eq_2, if_neg (by rw [show (2862 : Int32) = nI 2862 from rfl, bs_le (by decide) (by omega)]; omega), gm_gin hi (by decide), gm_gin hi (by decide), b2 8 5 1 i (by omega), h i hi, nI_1]
    · by_cases e : k = i
      · rw [e, gu_at]
      · rw [gu_s e]; exact b1 k (by omega)) 2862 0 6000 G (by omega) (by omega) ⟨fun k hk => by omega, FrM.rf⟩
  refine ⟨G1, ?_, a1, a2⟩
  refine Eq.trans e1 ?_
  try dsimp only
  rw [show (6000 - 2862 : Nat) = 3137 + 1 from rfl, fX7_putBack_h2.eq_2, if_pos (by decide)]
/-- a call that tries things out -/
def Tri (G : Gm) (S : Sm) (r : Option (Int32 × Gm)) (g : Gm → Option (Int32 × Gm)) : Prop := ∃ v G1, r = some (v, G1) ∧ FrC 1 G G1 ∧ ∀ G2, MA G2 S → ∃ G3, g G2 = some (v, G3) ∧ MA G3 S ∧ FrA G2 G3
theorem Tri.no {r : Option (Int32 × Gm)} {g : Gm → Option (Int32 × Gm)} {x : Int32} (h1 : r = some (x, G)) (h2 : ∀ G1, MA G1 S → g G1 = some (x, G1)) : Tri G S r g := ⟨x, G, h1, FrC.rf, fun G2 m => ⟨G2, h2 G2 m, m, FrA.rf⟩⟩
theorem first_of {p : Nat → Prop} (hd : ∀ k, p k ∨ ¬ p k) : ∀ n, (∃ i, i ≤ n ∧ p i ∧ ∀ k, k < i → ¬ p k) ∨ (∀ i, i ≤ n → ¬ p i) := by
  intro n
  induction n with
  | zero =>
    rcases hd 0 with h | h
    · exact Or.inl ⟨0, Nat.le_refl _, h, fun k hk => by omega⟩
    · exact Or.inr fun i hi => by rw [show i = 0 by omega]; exact h
  | succ n ih =>
    rcases ih with ⟨i, h1, h2, h3⟩ | h
    · exact Or.inl ⟨i, by omega, h2, h3⟩
    · rcases hd (n + 1) with q | q
      · exact Or.inl ⟨n + 1, Nat.le_refl _, q, fun k hk => h k (by omega)⟩
      · exact Or.inr fun i hi => by
          by_cases e : i = n + 1
          · rw [e]; exact q
          · exact h i (by omega)
theorem c_gone (C : CL0 G l S) (I : Inv 12 S) {t : Nat} (ht : t < S 381) : fX1_isGone l (nI t) G = some (if sT S t 2 = 3 then 1 else 0) := by
  unfold fX1_isGone
  rw [c_trn C I ht, gm_bs, gm_els, C.t2 ht]
  by_cases c : sT S t 2 = 3
  · rw [if_pos c, if_pos (by rw [c]; rfl)]
  · rw [if_neg c, if_neg (by rw [bs_l (n := 3) (I.lt _) (by decide)]; exact c)]
theorem op_forecast (C : CL G 0 S) (I : Inv 12 S) (hr : S 80 + 600000 < 2147483647) (h0 : S 0 ≤ 1000000) (x y : Int32) : Tri G S (fX6_forecast x y G) (fX7_forecast x y) := by
  rcases m_ctrn S x with ⟨t, ht, rfl⟩ | hx
  · rcases bs_rg y (a := 1) (b := 500) (by decide) (by decide) with ⟨n, n1, n2, rfl⟩ | hy
    · have tn := I.tn
      have y1 : ¬ nI n < 1 := by rw [show (1 : Int32) = nI 1 from rfl, bs_lt (by omega) (by decide)]; omega
      have y2 : nI n ≤ 500 := by rw [show (500 : Int32) = nI 500 from rfl, bs_le (by omega) (by decide)]; omega
      have ok := fun i (hi : i ≤ n) => ok_wb (n := i) I (by omega) hr (by omega)
      obtain ⟨G0, e0, c0, f0⟩ := c_copy (l := 1) C I (by decide)
      have pre6 : fX6_forecast (nI t) (nI n) G = fX6_forecast_h41 (nI t) (nI n) 6000 0 G0 := by
        unfold fX6_forecast
        rw [c_trn C.1 I ht, gm_bs, gm_els, if_neg y1, if_pos y2, e0, gm_bs]
      have run6 : ∀ i, i ≤ n → (∀ k, k < i → ¬ sT (sWn S k) t 2 = 3) → ∃ G1, fX6_forecast_h41 (nI t) (nI n) 6000 0 G0 = fX6_forecast_h41 (nI t) (nI n) (6000 - i) (nI i) G1 ∧ CL G1 1 (sWn S i) ∧ FrC 1 G G1 := by
        intro i hi hk
        obtain ⟨G1, e1, c1, f1⟩ := lp (σ := Gm) (h := fun f v s => fX6_forecast_h41 (nI t) (nI n) f v s) (P := fun i s => CL s 1 (sWn S i) ∧ FrC 1 G s) (m := i) (fun j f G' hj hP => by
          obtain ⟨a1, a2, a3, a4, a5⟩ := ok j (by omega)
          obtain ⟨G2, e2, c2, f2⟩ := c_tick hP.1 a1 (Nat.lt_of_le_of_lt (Nat.add_le_add_right a5 1000) (by omega)) (by rw [a2]; omega)
          refine ⟨G2, ?_, c2, hP.2.tr f2⟩
          try dsimp only
          rw [fX6_forecast_h41.eq_2, if_neg (by rw [bs_le (by omega) (by omega)]; omega), c_gone hP.1.1 a1 (by rw [a4]; exact ht), gm_bs, if_neg (hk j hj), if_pos rfl, e2, gm_bs, nI_1]) i 0 6000 G0 (by omega) (by omega) ⟨c0, f0⟩
        exact ⟨G1, e1, c1, f1⟩
      have pre7 : ∀ G2, MA G2 S → ∃ G3, MA G3 S ∧ (∀ k, k < 2862 → G3 8 5 1 k = nI (S k)) ∧ FrA G2 G3 ∧ fX7_forecast (nI t) (nI n) G2 = fX7_forecast_h48 (nI t) (nI n) 6000 (if sT S t 2 = 3 then 0 else -6) 1 G3 := by
        intro G2 m
        obtain ⟨G3, e3, m3, s3, f3⟩ := m_aside m
        refine ⟨G3, m3, s3, f3, ?_⟩
        unfold fX7_forecast
        rw [m_trn m I ht, gm_bs, if_neg (by decide), m_inr (y := 1) (z := 500) (a := 1) (b := 500) rfl rfl (by decide) (by decide) n1 n2 rfl, gm_bs, if_neg (by decide), e3, gm_bs, m_t2 m3 (by omega), gm_bs]
        by_cases c : sT S t 2 = 3
        · rw [if_pos c, if_pos (by rw [c]; rfl)]
        · rw [if_neg c, if_neg (by rw [bs_l (n := 3) (I.lt _) (by decide)]; exact c)]
      have run7 : ∀ i, 1 ≤ i → i ≤ n + 1 → (∀ k, k < i → ¬ sT (sWn S k) t 2 = 3) → ∀ G3, MA G3 S → ∃ G4, fX7_forecast_h48 (nI t) (nI n) 6000 (-6) 1 G3 = fX7_forecast_h48 (nI t) (nI n) (6000 - (i - 1)) (-6) (nI i) G4 ∧ MA G4 (sWn S (i - 1)) ∧ FrM G3 G4 := by
        intro i hi hin hk G3 m3
        obtain ⟨G4, e4, ⟨-, m4, f4⟩⟩ := lp (σ := Gm) (h := fun f v s => fX7_forecast_h48 (nI t) (nI n) f (-6) v s) (P := fun j s => 1 ≤ j ∧ MA s (sWn S (j - 1)) ∧ FrM G3 s) (m := i) (fun j f G' hj hP => by
          obtain ⟨j1, hm, hf⟩ := hP
          obtain ⟨a1, a2, a3, a4, a5⟩ := ok (j - 1) (by omega)
          obtain ⟨b1, b2, b3, b4, b5⟩ := ok j (by omega)
          obtain ⟨G2, e2, c2, f2⟩ := m_wtick hm a1 (Nat.lt_of_le_of_lt (Nat.add_le_add_right a5 1000) (by omega)) (by rw [a2]; omega)
          have ej : sWk (sWn S (j - 1)) = sWn S j := by
            obtain ⟨j', rfl⟩ : ∃ j', j = j' + 1 := ⟨j - 1, by omega⟩
            rfl
          rw [ej] at c2
          refine ⟨G2, ?_, by omega, c2, hf.tr f2⟩
          try dsimp only
          rw [fX7_forecast_h48.eq_2, if_neg (by rw [bs_lt (by omega) (by omega)]; omega), if_neg (by decide), e2, gm_bs, m_t2 c2 (by omega), gm_bs, if_neg (by rw [bs_l (n := 3) (b1.lt _) (by decide)]; exact hk j hj), nI_1]) (i - 1) 1 6000 G3 (by omega) (by omega) ⟨Nat.le_refl _, m3, FrM.rf⟩
        exact ⟨G4, e4, m4, f4⟩
      rcases first_of (p := fun k => sT (sWn S k) t 2 = 3) (fun k => Classical.em _) n with ⟨i, hi, hg, hk⟩ | hk
      · obtain ⟨a1, a2, a3, a4, a5⟩ := ok i hi
        obtain ⟨G1, e1, c1, f1⟩ := run6 i hi hk
        refine ⟨nI i, G1, ?_, f1, fun G2 m => ?_⟩
        · rw [pre6, e1]
          obtain ⟨g, hgg⟩ : ∃ g, 6000 - i = g + 1 := ⟨5999 - i, by omega⟩
          rw [hgg, fX6_forecast_h41.eq_2, c_gone c1.1 a1 (by rw [a4]; exact ht), if_pos hg, gm_bs, gm_bs, if_neg bs_01, if_neg bs_01]
          by_cases c : n ≤ i
          · rw [if_pos ((bs_le (by omega) (by omega)).mpr c), show n = i by omega]
          · rw [if_neg (by rw [bs_le (by omega) (by omega)]; exact c)]
        · obtain ⟨G3, m3, s3, f3, p3⟩ := pre7 G2 m
          by_cases i0 : i = 0
          · subst i0
            have hg : sT S t 2 = 3 := hg
            obtain ⟨G5, e5, m5, f5⟩ := m_back s3
            refine ⟨G5, ?_, m5, f3.tr f5.a⟩
            rw [p3, if_pos hg, show (6000 : Nat) = 5999 + 1 from rfl, fX7_forecast_h48.eq_2, if_neg y1, if_pos (by decide), e5, gm_bs]
            rfl
          · have hg0 : ¬ sT S t 2 = 3 := hk 0 (by omega)
            obtain ⟨G4, e4, m4, f4⟩ := run7 i (by omega) (by omega) hk G3 m3
            obtain ⟨b1, b2, b3, b4, b5⟩ := ok (i - 1) (by omega)
            obtain ⟨G6, e6, c6, f6⟩ := m_wtick m4 b1 (Nat.lt_of_le_of_lt (Nat.add_le_add_right b5 1000) (by omega)) (by rw [b2]; omega)
            have ej : sWk (sWn S (i - 1)) = sWn S i := by
              obtain ⟨j', rfl⟩ : ∃ j', i = j' + 1 := ⟨i - 1, by omega⟩
              rfl
            rw [ej] at c6
            have s6 : ∀ k, k < 2862 → G6 8 5 1 k = nI (S k) := fun k hk => by rw [f6 8 5 1 k (by omega), f4 8 5 1 k (by omega)]; exact s3 k hk
            obtain ⟨G5, e5, m5, f5⟩ := m_back s6
            refine ⟨G5, ?_, m5, f3.tr (((f4.tr f6).tr f5).a)⟩
            obtain ⟨g, hgg⟩ : ∃ g, 6000 - (i - 1) = g + 1 + 1 := ⟨5998 - (i - 1), by omega⟩
            rw [p3, if_neg hg0, e4, hgg, fX7_forecast_h48.eq_2, if_neg (by rw [bs_lt (by omega) (by omega)]; omega), if_neg (by decide), e6, gm_bs, m_t2 c6 (by omega), gm_bs, if_pos (by rw [show sT (sWn S i) t 2 = 3 from hg]; rfl), fX7_forecast_h48.eq_2, if_pos (show (0 : Int32) ≤ nI i by rw [bs_ge (by omega)]; omega), e5, gm_bs]
            split <;> rfl
      · obtain ⟨a1, a2, a3, a4, a5⟩ := ok n (Nat.le_refl _)
        obtain ⟨G1, e1, c1, f1⟩ := run6 n (Nat.le_refl _) (fun k q => hk k (by omega))
        refine ⟨-6, G1, ?_, f1, fun G2 m => ?_⟩
        · rw [pre6, e1]
          obtain ⟨g, hgg⟩ : ∃ g, 6000 - n = g + 1 := ⟨5999 - n, by omega⟩
          rw [hgg, fX6_forecast_h41.eq_2, if_pos ((bs_le (by omega) (by omega)).mpr (Nat.le_refl _)), c_gone c1.1 a1 (by rw [a4]; exact ht), gm_bs, if_neg (hk n (Nat.le_refl _)), if_pos rfl]
        · obtain ⟨G3, m3, s3, f3, p3⟩ := pre7 G2 m
          have hg0 : ¬ sT S t 2 = 3 := hk 0 (by omega)
          obtain ⟨G4, e4, m4, f4⟩ := run7 (n + 1) (by omega) (Nat.le_refl _) (fun k q => hk k (by omega)) G3 m3
          have s4 : ∀ k, k < 2862 → G4 8 5 1 k = nI (S k) := fun k hk => by rw [f4 8 5 1 k (by omega)]; exact s3 k hk
          obtain ⟨G5, e5, m5, f5⟩ := m_back s4
          refine ⟨G5, ?_, m5, f3.tr ((f4.tr f5).a)⟩
          obtain ⟨g, hgg⟩ : ∃ g, 6000 - (n + 1 - 1) = g + 1 := ⟨5999 - n, by omega⟩
          rw [p3, if_neg hg0, e4, hgg, fX7_forecast_h48.eq_2, if_pos ((bs_lt (by omega) (by omega)).mpr (by omega)), e5, gm_bs]
    · have hy : y < 1 ∨ 500 < y := hy
      refine Tri.no (x := -2) ?_ (fun G1 m => ?_)
      · unfold fX6_forecast
        rw [c_trn C.1 I ht, gm_bs, gm_els]
        by_cases c : y < 1
        · rw [if_pos c]
        · rw [if_neg c, if_neg (Int32.not_le.mpr (hy.resolve_left c))]
      · unfold fX7_forecast
        rw [m_trn m I ht, gm_bs, if_neg (by decide), m_in0 hy, gm_bs, if_pos rfl]
  · refine Tri.no (x := -1) ?_ (fun G1 m => ?_)
    · unfold fX6_forecast
      rw [c_trn0 C.1 I hx, gm_bs, gm_eln]
    · unfold fX7_forecast
      rw [m_trn0 m I hx, gm_bs, if_pos rfl]
end
