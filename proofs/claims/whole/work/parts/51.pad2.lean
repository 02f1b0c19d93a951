section
variable {G G1 G2 : Gm} {c : Nat → Nat} {n r m : Nat}
/-- the reference reads: its text, and what a reading may change -/
def PdR (G : Gm) (c : Nat → Nat) (n : Nat) : Prop := G 7 5 0 5 = nI n ∧ n ≤ 60 ∧ (∀ k, k < n → G 8 5 3 k = nI (c k)) ∧ (∀ k, k < n → c k ≤ 126)
def FrF (G G' : Gm) : Prop := ∀ a b c k, ¬ (a = 7 ∧ b = 5 ∧ c = 0 ∧ (k = 6 ∨ k = 7 ∨ k = 9)) → ¬ (a = 8 ∧ b = 5 ∧ c = 4) → G' a b c k = G a b c k
theorem FrF.rf : FrF G G := fun _ _ _ _ _ _ => rfl
theorem FrF.tr (h : FrF G G1) (h2 : FrF G1 G2) : FrF G G2 := fun a b c k q q' => (h2 a b c k q q').trans (h a b c k q q')
theorem FrF.u7 (h : FrF G G1) {k : Nat} {v : Int32} (hk : k = 6 ∨ k = 7 ∨ k = 9) : FrF G (gm_up G1 7 5 0 k v) := by
  intro a b c' k' q q'
  rw [← h a b c' k' q q']
  unfold gm_up
  rw [if_neg]
  rintro ⟨rfl, rfl, rfl, rfl⟩
  exact q ⟨rfl, rfl, rfl, hk⟩
theorem FrF.u8 (h : FrF G G1) {k : Nat} {v : Int32} : FrF G (gm_up G1 8 5 4 k v) := by
  intro a b c' k' q q'
  rw [← h a b c' k' q q']
  unfold gm_up
  rw [if_neg]
  rintro ⟨rfl, rfl, rfl, -⟩
  exact q' ⟨rfl, rfl, rfl⟩
theorem PdR.fr (P : PdR G c n) (h : FrF G G1) : PdR G1 c n := ⟨by rw [h 7 5 0 5 (by omega) (by omega)]; exact P.1, P.2.1, fun k hk => by rw [h 8 5 3 k (by omega) (by omega)]; exact P.2.2.1 k hk, P.2.2.2⟩
theorem m_nsg (P : PdR G c n) (h6 : G 7 5 0 6 = nI r) (hr : r ≤ 100) : fX7_nextSign G = some (nI (pS c n r)) := by
  have := P.2.1
  unfold fX7_nextSign
  rw [P.1, h6]
  by_cases q : r < n
  · rw [if_neg (by rw [bs_le (by omega) (by omega)]; omega), gm_gin (by omega) (by decide), P.2.2.1 r q, pS_in q]
  · rw [if_pos ((bs_le (by omega) (by omega)).mpr (by omega)), pS_out (by omega)]; rfl
theorem pSl (P : PdR G c n) (k : Nat) : pS c n k ≤ 126 := pS_le P.2.2.2 k
/-- a number: (right, where it ends, its value) -/
def tN (lo hi : Nat) (c : Nat → Nat) (n r : Nat) : Bool × Nat × Nat := if 48 + lo ≤ pS c n r ∧ pS c n r ≤ 57 ∧ pS c n r - 48 ≤ hi then (if 0 < pS c n r - 48 ∧ 48 ≤ pS c n (r + 1) ∧ pS c n (r + 1) ≤ 57 ∧ 10 * (pS c n r - 48) + (pS c n (r + 1) - 48) ≤ hi then (true, r + 2, 10 * (pS c n r - 48) + (pS c n (r + 1) - 48)) else (true, r + 1, pS c n r - 48)) else (false, r, 0)
theorem tN_t {lo hi : Nat} (h : 48 + lo ≤ pS c n r ∧ pS c n r ≤ 57 ∧ pS c n r - 48 ≤ hi) : (tN lo hi c n r).1 = true := by
  unfold tN
  rw [if_pos h]
  split <;> rfl
theorem tN_f {lo hi : Nat} (h : ¬ (48 + lo ≤ pS c n r ∧ pS c n r ≤ 57 ∧ pS c n r - 48 ≤ hi)) : (tN lo hi c n r).1 = false := by
  unfold tN
  rw [if_neg h]
theorem tn_stop (P : PdR G c n) (h6 : G 7 5 0 6 = nI r) (hr : r ≤ 100) {a : Int32} {hi v f : Nat} (hv : v ≤ 99) (hhi : hi ≤ 99) (h : ¬ (0 < v ∧ 48 ≤ pS c n r ∧ pS c n r ≤ 57 ∧ 10 * v + (pS c n r - 48) ≤ hi)) : fX7_takeNumber_h40 a (nI hi) (f + 1) (nI v) G = some (nI v, G) := by
  have pl := pSl P r
  rw [fX7_takeNumber_h40.eq_2]
  by_cases v0 : v = 0
  · rw [if_pos (by rw [v0]; decide)]
  rw [if_neg (by rw [show (0 : Int32) = nI 0 from rfl, bs_le (by omega) (by decide)]; omega), m_nsg P h6 hr, gm_bs, m_btw (x := 48) (y := 57) (lo := 48) (hi := 57) rfl rfl (by omega) (by decide) (by decide), gm_bs]
  by_cases d : 48 ≤ pS c n r ∧ pS c n r ≤ 57
  · rw [if_pos d, if_neg bs_01, gm_bs, if_pos]
    rw [show (10 : Int32) * nI v + nI (pS c n r) - 48 = nI (10 * v + pS c n r - 48) by
      rw [show (10 : Int32) * nI v + nI (pS c n r) = nI (10 * v + pS c n r) by simp only [bs_nat, bs_mul, nI_add]]
      exact bs_sub (b := 48) (by omega), bs_lt (by omega) (by omega)]
    omega
  · rw [if_neg d, if_pos rfl]
theorem tn_go (P : PdR G c n) (h6 : G 7 5 0 6 = nI r) (hr : r ≤ 100) {a : Int32} {hi v f : Nat} (hv : v ≤ 99) (hhi : hi ≤ 99) (h : 0 < v ∧ 48 ≤ pS c n r ∧ pS c n r ≤ 57 ∧ 10 * v + (pS c n r - 48) ≤ hi) : fX7_takeNumber_h40 a (nI hi) (f + 1) (nI v) G = fX7_takeNumber_h40 a (nI hi) f (nI (10 * v + (pS c n r - 48))) (gm_up G 7 5 0 6 (nI (r + 1))) := by
  have pl := pSl P r
  have e : (10 : Int32) * nI v + nI (pS c n r) - 48 = nI (10 * v + (pS c n r - 48)) := by
    rw [show (10 : Int32) * nI v + nI (pS c n r) = nI (10 * v + pS c n r) by simp only [bs_nat, bs_mul, nI_add], show (48 : Int32) = nI 48 from rfl, bs_sub (by omega)]
    congr 1; omega
  rw [fX7_takeNumber_h40.eq_2, if_neg (by rw [show (0 : Int32) = nI 0 from rfl, bs_le (by omega) (by decide)]; omega), m_nsg P h6 hr, gm_bs, m_btw (x := 48) (y := 57) (lo := 48) (hi := 57) rfl rfl (by omega) (by decide) (by decide), gm_bs, if_pos (show 48 ≤ pS c n r ∧ pS c n r ≤ 57 from ⟨h.2.1, h.2.2.1⟩), if_neg bs_01, gm_bs, e, if_neg (by rw [bs_lt (by omega) (by omega)]; omega), gm_bs, h6, nI_1, e]
theorem m_num (P : PdR G c n) (h6 : G 7 5 0 6 = nI r) (hr : r ≤ 90) {lo hi : Nat} {x y : Int32} (hx : x = nI lo) (hy : y = nI hi) (hlo : lo ≤ 1) (hhi : hi ≤ 99) : ∃ G', fX7_takeNumber x y G = some (nI (tN lo hi c n r).2.2, G') ∧ FrF G G' ∧ G' 7 5 0 6 = nI (tN lo hi c n r).2.1 ∧ G' 7 5 0 7 = (if (tN lo hi c n r).1 then G 7 5 0 7 else 1) ∧ G' 7 5 0 9 = G 7 5 0 9 ∧ (∀ k, G' 8 5 4 k = G 8 5 4 k) := by
  subst hx hy
  have pl := pSl P r
  have pl1 := pSl P (r + 1)
  unfold fX7_takeNumber
  rw [m_nsg P h6 (by omega), gm_bs]
  by_cases q : 48 + lo ≤ pS c n r ∧ pS c n r ≤ 57 ∧ pS c n r - 48 ≤ hi
  · have es : nI (pS c n r) - 48 = nI (pS c n r - 48) := bs_sub (b := 48) (by omega)
    rw [es, m_btw (x := nI lo) (y := 9) (lo := lo) (hi := 9) rfl rfl (by omega) (by omega) (by decide), gm_bs, if_pos (show lo ≤ pS c n r - 48 ∧ pS c n r - 48 ≤ 9 by omega), if_neg bs_01, if_pos ((bs_le (by omega) (by omega)).mpr q.2.2), h6, nI_1]
    have P1 : PdR (gm_up G 7 5 0 6 (nI (r + 1))) c n := P.fr (FrF.rf.u7 (Or.inl rfl))
    by_cases q2 : 0 < pS c n r - 48 ∧ 48 ≤ pS c n (r + 1) ∧ pS c n (r + 1) ≤ 57 ∧ 10 * (pS c n r - 48) + (pS c n (r + 1) - 48) ≤ hi
    · have et : tN lo hi c n r = (true, r + 2, 10 * (pS c n r - 48) + (pS c n (r + 1) - 48)) := by unfold tN; rw [if_pos q, if_pos q2]
      have P2 : PdR (gm_up (gm_up G 7 5 0 6 (nI (r + 1))) 7 5 0 6 (nI (r + 1 + 1))) c n := P1.fr (FrF.rf.u7 (Or.inl rfl))
      rw [et]
      refine ⟨gm_up (gm_up G 7 5 0 6 (nI (r + 1))) 7 5 0 6 (nI (r + 1 + 1)), ?_, (FrF.rf.u7 (Or.inl rfl)).u7 (Or.inl rfl), by rw [gu_at], by rw [gu_s (by decide), gu_s (by decide)]; rfl, by rw [gu_s (by decide), gu_s (by decide)], fun k => by rw [gu_k (by decide), gu_k (by decide)]⟩
      rw [show (6000 : Nat) = 5998 + 1 + 1 from rfl, tn_go P1 gu_at (by omega) (by omega) hhi q2, tn_stop P2 gu_at (by omega) (by omega) hhi (by omega)]
    · have et : tN lo hi c n r = (true, r + 1, pS c n r - 48) := by unfold tN; rw [if_pos q, if_neg q2]
      rw [et]
      refine ⟨gm_up G 7 5 0 6 (nI (r + 1)), ?_, FrF.rf.u7 (Or.inl rfl), by rw [gu_at], by rw [gu_s (by decide)]; rfl, by rw [gu_s (by decide)], fun k => by rw [gu_k (by decide)]⟩
      rw [show (6000 : Nat) = 5999 + 1 from rfl, tn_stop P1 gu_at (by omega) (by omega) hhi q2]
  · have et : tN lo hi c n r = (false, r, 0) := by unfold tN; rw [if_neg q]
    rw [et]
    refine ⟨gm_up G 7 5 0 7 1, ?_, FrF.rf.u7 (Or.inr (Or.inl rfl)), by rw [gu_s (by decide)]; exact h6, by rw [gu_at]; rfl, by rw [gu_s (by decide)], fun k => by rw [gu_k (by decide)]⟩
    by_cases z : 48 ≤ pS c n r
    · have es : nI (pS c n r) - 48 = nI (pS c n r - 48) := bs_sub (b := 48) (by omega)
      rw [es, m_btw (x := nI lo) (y := 9) (lo := lo) (hi := 9) rfl rfl (by omega) (by omega) (by decide), gm_bs]
      by_cases z2 : lo ≤ pS c n r - 48 ∧ pS c n r - 48 ≤ 9
      · rw [if_pos z2, if_neg bs_01, if_neg (by rw [bs_le (by omega) (by omega)]; omega)]; rfl
      · rw [if_neg z2, if_pos rfl]; rfl
    · rw [m_in0 (Or.inl ?_), gm_bs, if_pos rfl]
      · rfl
      · rw [show (48 : Int32) = nI 48 from rfl, bs_under (by omega) (by decide)]
        have : nI (4294967296 - (48 - pS c n r)) < 0 := by rw [bs_neg (by omega)]; omega
        exact Int32.lt_of_lt_of_le this (by rw [show (0 : Int32) = nI 0 from rfl, bs_le (by decide) (by omega)]; omega)
theorem m_sid (P : PdR G c n) (h6 : G 7 5 0 6 = nI r) (hr : r ≤ 90) (h7 : G 7 5 0 7 = 0) : ∃ G', fX7_takeSide G = some (nI (if pS c n r = 45 then 1 else 0), G') ∧ FrF G G' ∧ G' 7 5 0 6 = nI (if pS c n r = 43 ∨ pS c n r = 45 then r + 1 else r) ∧ G' 7 5 0 7 = (if pS c n r = 43 ∨ pS c n r = 45 then 0 else 1) ∧ G' 7 5 0 9 = G 7 5 0 9 ∧ (∀ k, G' 8 5 4 k = G 8 5 4 k) := by
  have pl := pSl P r
  have n60 := P.2.1
  have e : nI (r + 1) - 1 = nI r := by rw [show (1 : Int32) = nI 1 from rfl, bs_sub (by omega)]; rfl
  unfold fX7_takeSide
  rw [if_pos h7, m_nsg P h6 (by omega), gm_bs, gm_bs, h6, nI_1, gu_at, e]
  by_cases q : pS c n r = 43
  · have rn : r < n := pS_lt (c := c) (by omega)
    have eg : gm_up G 7 5 0 6 (nI (r + 1)) 8 5 3 r = nI 43 := by rw [gu_k (by decide), P.2.2.1 r rn, ← q, pS_in rn]
    refine ⟨gm_up G 7 5 0 6 (nI (r + 1)), ?_, FrF.rf.u7 (Or.inl rfl), by rw [gu_at, if_pos (Or.inl q)], by rw [gu_s (by decide), h7, if_pos (Or.inl q)], gu_s (by decide), fun k => gu_k (by decide)⟩
    rw [q, if_pos (show nI 43 = 43 from rfl), gm_gin (by omega) (by decide), eg, if_pos (show nI 43 = 43 from rfl)]
    rfl
  · rw [if_neg (by rw [bs_l (n := 43) (by omega) (by decide)]; exact q)]
    by_cases q2 : pS c n r = 45
    · have rn : r < n := pS_lt (c := c) (by omega)
      have eg : gm_up G 7 5 0 6 (nI (r + 1)) 8 5 3 r = nI 45 := by rw [gu_k (by decide), P.2.2.1 r rn, ← q2, pS_in rn]
      refine ⟨gm_up G 7 5 0 6 (nI (r + 1)), ?_, FrF.rf.u7 (Or.inl rfl), by rw [gu_at, if_pos (Or.inr q2)], by rw [gu_s (by decide), h7, if_pos (Or.inr q2)], gu_s (by decide), fun k => gu_k (by decide)⟩
      rw [q2, if_pos (show nI 45 = 45 from rfl), gm_gin (by omega) (by decide), eg, if_neg (show ¬ nI 45 = 43 by decide)]
      rfl
    · refine ⟨gm_up G 7 5 0 7 1, ?_, FrF.rf.u7 (Or.inr (Or.inl rfl)), by rw [gu_s (by decide), h6, if_neg (by omega)], by rw [gu_at, if_neg (by omega)], gu_s (by decide), fun k => gu_k (by decide)⟩
      rw [if_neg (by rw [bs_l (n := 45) (by omega) (by decide)]; exact q2), if_neg q2]
      rfl
/-- the reference reads an order -/
theorem m_ro (P : PdR G c n) (h6 : G 7 5 0 6 = nI r) (h7 : G 7 5 0 7 = 0) (h9 : G 7 5 0 9 = nI m) (hr : r ≤ n) (hm : m < 60) : ∃ G', fX7_readOrder G = some G' ∧ FrF G G' ∧ G' 7 5 0 6 = nI (oR c n r).2.1 ∧ ((oR c n r).1 = true → G' 7 5 0 7 = 0 ∧ G' 7 5 0 9 = nI (m + 1) ∧ G' 8 5 4 (3 * m) = nI (pS c n r) ∧ G' 8 5 4 (3 * m + 1) = nI (oR c n r).2.2.1 ∧ G' 8 5 4 (3 * m + 2) = nI (oR c n r).2.2.2 ∧ ∀ k, k < 3 * m → G' 8 5 4 k = G 8 5 4 k) ∧ ((oR c n r).1 = false → G' 7 5 0 7 = 1) := by
  have n60 := P.2.1
  have pl := pSl P r
  have pl1 := pSl P (r + 1)
  have pl2 := pSl P (r + 2)
  have i0 : (3 : Int32) * nI m = nI (3 * m) := by simp only [bs_nat, bs_mul]
  have i1 : nI (3 * m) + 1 = nI (3 * m + 1) := nI_1 _
  have i2 : nI (3 * m) + 2 = nI (3 * m + 2) := nI_add _ _
  have fT := m_fT (pS c n r) pl
  have fB := m_fB (pS c n r) pl
  have g9 : gm_up G 7 5 0 6 (nI (r + 1)) 7 5 0 9 = nI m := by rw [gu_s (by decide)]; exact h9
  have ns := m_nsg P h6 (by omega)
  have gi0 : ∀ f : Nat → Option Gm, gm_gi (nI (3 * m)) 180 f = f (3 * m) := fun f => gm_gin (by omega) (by decide)
  have gi1 : ∀ f : Nat → Option Gm, gm_gi (nI (3 * m + 1)) 180 f = f (3 * m + 1) := fun f => gm_gin (by omega) (by decide)
  have gi2 : ∀ f : Nat → Option Gm, gm_gi (nI (3 * m + 2)) 180 f = f (3 * m + 2) := fun f => gm_gin (by omega) (by decide)
  by_cases k0 : kL (pS c n r) = 0
  · have eo : oR c n r = (false, r, 0, 0) := by unfold oR; rw [if_pos k0]
    have n116 : ¬ nI (pS c n r) = 116 := by
      rw [bs_l (n := 116) (by omega) (by decide)]
      intro z; rw [z] at k0; exact absurd k0 (by decide)
    rw [k0] at fT fB
    rw [eo]
    refine ⟨gm_up G 7 5 0 7 1, ?_, FrF.rf.u7 (Or.inr (Or.inl rfl)), by rw [gu_s (by decide)]; exact h6, fun q => (by cases q), fun _ => gu_at⟩
    unfold fX7_readOrder
    rw [ns, gm_bs, fT, gm_bs, if_neg (show ¬ (0 : Nat) = 1 by decide), if_pos rfl, fB, gm_bs, if_neg (show ¬ (0 : Nat) = 2 by decide), if_pos rfl, if_neg n116]
  -- the letter is kept
  generalize hGL : gm_up (gm_up G 7 5 0 6 (nI (r + 1))) 8 5 4 (3 * m) (nI (pS c n r)) = GL
  have FL : FrF G GL := by rw [← hGL]; exact (FrF.rf.u7 (Or.inl rfl)).u8
  have PL : PdR GL c n := P.fr FL
  have L6 : GL 7 5 0 6 = nI (r + 1) := by rw [← hGL, gu_k (by decide), gu_at]
  have L7 : GL 7 5 0 7 = 0 := by rw [← hGL, gu_k (by decide), gu_s (by decide)]; exact h7
  have L9 : GL 7 5 0 9 = nI m := by rw [← hGL, gu_k (by decide), gu_s (by decide)]; exact h9
  have L8 : GL 8 5 4 (3 * m) = nI (pS c n r) := by rw [← hGL, gu_at]
  have Lk : ∀ k, k < 3 * m → GL 8 5 4 k = G 8 5 4 k := fun k hk => by rw [← hGL, gu_s (by omega), gu_k (by decide)]
  have fin : ∀ (Gn : Gm) (v s : Int32), FrF GL Gn → Gn 7 5 0 9 = GL 7 5 0 9 → (∀ k, k ≤ 3 * m → Gn 8 5 4 k = GL 8 5 4 k) → Gn 8 5 4 (3 * m + 1) = v → FrF G (gm_up (gm_up Gn 8 5 4 (3 * m + 2) s) 7 5 0 9 (gm_up Gn 8 5 4 (3 * m + 2) s 7 5 0 9 + 1)) ∧ gm_up (gm_up Gn 8 5 4 (3 * m + 2) s) 7 5 0 9 (gm_up Gn 8 5 4 (3 * m + 2) s 7 5 0 9 + 1) 7 5 0 6 = Gn 7 5 0 6 ∧ gm_up (gm_up Gn 8 5 4 (3 * m + 2) s) 7 5 0 9 (gm_up Gn 8 5 4 (3 * m + 2) s 7 5 0 9 + 1) 7 5 0 7 = Gn 7 5 0 7 ∧ gm_up (gm_up Gn 8 5 4 (3 * m + 2) s) 7 5 0 9 (gm_up Gn 8 5 4 (3 * m + 2) s 7 5 0 9 + 1) 7 5 0 9 = nI (m + 1) ∧ gm_up (gm_up Gn 8 5 4 (3 * m + 2) s) 7 5 0 9 (gm_up Gn 8 5 4 (3 * m + 2) s 7 5 0 9 + 1) 8 5 4 (3 * m) = nI (pS c n r) ∧ gm_up (gm_up Gn 8 5 4 (3 * m + 2) s) 7 5 0 9 (gm_up Gn 8 5 4 (3 * m + 2) s 7 5 0 9 + 1) 8 5 4 (3 * m + 1) = v ∧ gm_up (gm_up Gn 8 5 4 (3 * m + 2) s) 7 5 0 9 (gm_up Gn 8 5 4 (3 * m + 2) s 7 5 0 9 + 1) 8 5 4 (3 * m + 2) = s ∧ ∀ k, k < 3 * m → gm_up (gm_up Gn 8 5 4 (3 * m + 2) s) 7 5 0 9 (gm_up Gn 8 5 4 (3 * m + 2) s 7 5 0 9 + 1) 8 5 4 k = G 8 5 4 k := by
    intro Gn v s f1 f2 f3 f4
    refine ⟨((FL.tr f1).u8).u7 (Or.inr (Or.inr rfl)), ?_, ?_, ?_, ?_, ?_, ?_, fun k hk => ?_⟩
    · rw [gu_s (by decide), gu_k (by decide)]
    · rw [gu_s (by decide), gu_k (by decide)]
    · rw [gu_at, gu_k (by decide), f2, L9, nI_1]
    · rw [gu_k (by decide), gu_s (by omega), f3 _ (Nat.le_refl _), L8]
    · rw [gu_k (by decide), gu_s (by omega), f4]
    · rw [gu_k (by decide), gu_at]
    · rw [gu_k (by decide), gu_s (by omega), f3 k (by omega), Lk k hk]
  by_cases k2 : kL (pS c n r) = 2
  · have k1 : ¬ kL (pS c n r) = 1 := by omega
    rw [if_neg k1] at fT
    rw [if_pos k2] at fB
    obtain ⟨Gn, e1, f1, f6, f7, f9, f8⟩ := m_num (lo := 0) (hi := 4) (x := 0) (y := 4) PL L6 (by omega) rfl rfl (by decide) (by decide)
    have er : fX7_readOrder G = (fX7_takeSide (gm_up Gn 8 5 4 (3 * m + 1) (nI (tN 0 4 c n (r + 1)).2.2))).bind fun q => some (gm_up (gm_up q.2 8 5 4 (3 * m + 2) q.1) 7 5 0 9 (gm_up q.2 8 5 4 (3 * m + 2) q.1 7 5 0 9 + 1)) := by
      unfold fX7_readOrder
      simp only [ns, gm_bs, fT, fB, h6, nI_1, g9, i0, i1, i2, gi0, gi1, gi2, if_neg bs_01, if_true, hGL, e1]
    have FN : FrF GL (gm_up Gn 8 5 4 (3 * m + 1) (nI (tN 0 4 c n (r + 1)).2.2)) := f1.u8
    have PN : PdR (gm_up Gn 8 5 4 (3 * m + 1) (nI (tN 0 4 c n (r + 1)).2.2)) c n := PL.fr FN
    have N6 : gm_up Gn 8 5 4 (3 * m + 1) (nI (tN 0 4 c n (r + 1)).2.2) 7 5 0 6 = nI (tN 0 4 c n (r + 1)).2.1 := by rw [gu_k (by decide)]; exact f6
    have N7 : gm_up Gn 8 5 4 (3 * m + 1) (nI (tN 0 4 c n (r + 1)).2.2) 7 5 0 7 = (if (tN 0 4 c n (r + 1)).1 then 0 else 1) := by rw [gu_k (by decide), f7, L7]
    have N9 : gm_up Gn 8 5 4 (3 * m + 1) (nI (tN 0 4 c n (r + 1)).2.2) 7 5 0 9 = GL 7 5 0 9 := by rw [gu_k (by decide)]; exact f9
    have Nk : ∀ k, k ≤ 3 * m → gm_up Gn 8 5 4 (3 * m + 1) (nI (tN 0 4 c n (r + 1)).2.2) 8 5 4 k = GL 8 5 4 k := fun k hk => by rw [gu_s (by omega)]; exact f8 k
    have N1 : gm_up Gn 8 5 4 (3 * m + 1) (nI (tN 0 4 c n (r + 1)).2.2) 8 5 4 (3 * m + 1) = nI (tN 0 4 c n (r + 1)).2.2 := gu_at
    by_cases d1 : 48 ≤ pS c n (r + 1) ∧ pS c n (r + 1) ≤ 52
    · have et : tN 0 4 c n (r + 1) = (true, r + 2, pS c n (r + 1) - 48) := by unfold tN; rw [if_pos (by omega), if_neg (by omega)]
      rw [et] at er FN PN N6 N7 N9 Nk N1
      generalize gm_up Gn 8 5 4 (3 * m + 1) (nI (true, r + 2, pS c n (r + 1) - 48).2.2) = GN at *
      obtain ⟨Gs, s1, s2, s6, s7, s9, s8⟩ := m_sid (r := r + 2) PN N6 (by omega) N7
      obtain ⟨z1, z6, z7, z9, z80, z81, z82, z8k⟩ := fin Gs (nI (pS c n (r + 1) - 48)) (nI (if pS c n (r + 2) = 45 then 1 else 0)) (FN.tr s2) (by rw [s9, N9]) (fun k hk => by rw [s8, Nk k hk]) (by rw [s8]; exact N1)
      rw [s1, gm_bs] at er
      refine ⟨_, er, z1, ?_, fun ok => ?_, fun ok => ?_⟩
      · rw [z6, s6]
        unfold oR
        rw [if_neg k0, if_neg k1, if_pos k2, if_pos d1]
        by_cases z : pS c n (r + 2) = 43
        · rw [if_pos (Or.inl z), if_pos z]
        · rw [if_neg z]
          by_cases z' : pS c n (r + 2) = 45
          · rw [if_pos (Or.inr z'), if_pos z']
          · rw [if_neg (fun y => y.elim z z'), if_neg z']
      · have p4 : pS c n (r + 2) = 43 ∨ pS c n (r + 2) = 45 := by
          unfold oR at ok
          rw [if_neg k0, if_neg k1, if_pos k2, if_pos d1] at ok
          by_cases z : pS c n (r + 2) = 43
          · exact Or.inl z
          · rw [if_neg z] at ok
            by_cases z' : pS c n (r + 2) = 45
            · exact Or.inr z'
            · rw [if_neg z'] at ok; cases ok
        refine ⟨by rw [z7, s7, if_pos p4], z9, z80, ?_, ?_, z8k⟩
        · rw [z81]
          unfold oR
          rw [if_neg k0, if_neg k1, if_pos k2, if_pos d1]
          by_cases z : pS c n (r + 2) = 43
          · rw [if_pos z]
          · rw [if_neg z, if_pos (p4.resolve_left z)]
        · rw [z82]
          unfold oR
          rw [if_neg k0, if_neg k1, if_pos k2, if_pos d1]
          by_cases z : pS c n (r + 2) = 43
          · rw [if_pos z, if_neg (by omega)]
          · rw [if_neg z, if_pos (p4.resolve_left z), if_pos (p4.resolve_left z)]
      · rw [z7, s7, if_neg]
        intro p4
        unfold oR at ok
        rw [if_neg k0, if_neg k1, if_pos k2, if_pos d1] at ok
        by_cases z : pS c n (r + 2) = 43
        · rw [if_pos z] at ok; cases ok
        · rw [if_neg z, if_pos (p4.resolve_left z)] at ok; cases ok
    · have et : tN 0 4 c n (r + 1) = (false, r + 1, 0) := by unfold tN; rw [if_neg (by omega)]
      have eo : oR c n r = (false, r + 1, 0, 0) := by unfold oR; rw [if_neg k0, if_neg k1, if_pos k2, if_neg d1]
      rw [et] at er FN N6 N7
      generalize gm_up Gn 8 5 4 (3 * m + 1) (nI (false, r + 1, 0).2.2) = GN at *
      have N7' : GN 7 5 0 7 = 1 := N7
      have es : fX7_takeSide GN = some (0, gm_up GN 7 5 0 7 1) := by
        unfold fX7_takeSide
        rw [if_neg (by rw [N7']; decide)]
      rw [es, gm_bs] at er
      dsimp only at er
      rw [eo]
      refine ⟨_, er, ((FL.tr FN).u7 (Or.inr (Or.inl rfl))).u8.u7 (Or.inr (Or.inr rfl)), ?_, fun ok => (by cases ok), fun _ => ?_⟩
      · rw [gu_s (by decide), gu_k (by decide), gu_s (by decide)]; exact N6
      · rw [gu_s (by decide), gu_k (by decide), gu_at]
  by_cases k1 : kL (pS c n r) = 1
  · rw [if_pos k1] at fT
    rw [if_neg k2] at fB
    obtain ⟨Gn, e1, f1, f6, f7, f9, f8⟩ := m_num (lo := 0) (hi := 11) (x := 0) (y := 11) PL L6 (by omega) rfl rfl (by decide) (by decide)
    have er : fX7_readOrder G = some (gm_up (gm_up (gm_up Gn 8 5 4 (3 * m + 1) (nI (tN 0 11 c n (r + 1)).2.2)) 8 5 4 (3 * m + 2) 0) 7 5 0 9 (gm_up (gm_up Gn 8 5 4 (3 * m + 1) (nI (tN 0 11 c n (r + 1)).2.2)) 8 5 4 (3 * m + 2) 0 7 5 0 9 + 1)) := by
      unfold fX7_readOrder
      simp only [ns, gm_bs, fT, fB, h6, nI_1, g9, i0, i1, i2, gi0, gi1, gi2, if_neg bs_01, if_true, hGL, e1]
    obtain ⟨z1, z6, z7, z9, z80, z81, z82, z8k⟩ := fin (gm_up Gn 8 5 4 (3 * m + 1) (nI (tN 0 11 c n (r + 1)).2.2)) (nI (tN 0 11 c n (r + 1)).2.2) 0 f1.u8 (by rw [gu_k (by decide)]; exact f9) (fun k hk => by rw [gu_s (by omega)]; exact f8 k) gu_at
    have z6 := z6.trans ((gu_k (by decide)).trans f6)
    have z7 := z7.trans ((gu_k (by decide)).trans f7)
    rw [L7] at z7
    refine ⟨_, er, z1, ?_, fun ok => ⟨?_, z9, z80, ?_, ?_, z8k⟩, fun ok => ?_⟩
    all_goals
      by_cases d1 : 48 ≤ pS c n (r + 1) ∧ pS c n (r + 1) ≤ 57
    · rw [z6]
      unfold oR tN
      rw [if_neg k0, if_pos k1, if_pos d1, if_pos (by omega)]
      by_cases d2 : pS c n (r + 1) = 49 ∧ 48 ≤ pS c n (r + 2) ∧ pS c n (r + 2) ≤ 49
      · rw [if_pos d2, if_pos (show 0 < pS c n (r + 1) - 48 ∧ 48 ≤ pS c n (r + 1 + 1) ∧ pS c n (r + 1 + 1) ≤ 57 ∧ 10 * (pS c n (r + 1) - 48) + (pS c n (r + 1 + 1) - 48) ≤ 11 from ⟨by omega, d2.2.1, Nat.le_trans d2.2.2 (by decide), by have : pS c n (r + 1 + 1) ≤ 49 := d2.2.2; omega⟩)]
      · rw [if_neg d2, if_neg]
        rintro ⟨y1, y2, y3, y4⟩
        exact d2 ⟨by omega, y2, by show pS c n (r + 1 + 1) ≤ 49; omega⟩
    · rw [z6]
      unfold oR tN
      rw [if_neg k0, if_pos k1, if_neg d1, if_neg (by omega)]
    · rw [z7, tN_t (by omega)]; rfl
    · unfold oR at ok
      rw [if_neg k0, if_pos k1, if_neg d1] at ok; cases ok
    · rw [z81]
      unfold oR tN
      rw [if_neg k0, if_pos k1, if_pos d1, if_pos (by omega)]
      by_cases d2 : pS c n (r + 1) = 49 ∧ 48 ≤ pS c n (r + 2) ∧ pS c n (r + 2) ≤ 49
      · rw [if_pos d2, if_pos (show 0 < pS c n (r + 1) - 48 ∧ 48 ≤ pS c n (r + 1 + 1) ∧ pS c n (r + 1 + 1) ≤ 57 ∧ 10 * (pS c n (r + 1) - 48) + (pS c n (r + 1 + 1) - 48) ≤ 11 from ⟨by omega, d2.2.1, Nat.le_trans d2.2.2 (by decide), by have : pS c n (r + 1 + 1) ≤ 49 := d2.2.2; omega⟩)]
        dsimp only
        rw [d2.1]
      · rw [if_neg d2, if_neg]
        rintro ⟨y1, y2, y3, y4⟩
        exact d2 ⟨by omega, y2, by show pS c n (r + 1 + 1) ≤ 49; omega⟩
    · unfold oR at ok
      rw [if_neg k0, if_pos k1, if_neg d1] at ok; cases ok
    · rw [z82]
      unfold oR
      rw [if_neg k0, if_pos k1, if_pos d1]
      split <;> rfl
    · unfold oR at ok
      rw [if_neg k0, if_pos k1, if_neg d1] at ok; cases ok
    · unfold oR at ok
      rw [if_neg k0, if_pos k1, if_pos d1] at ok
      split at ok <;> cases ok
    · rw [z7, tN_f (by omega)]; rfl
  · have k3 := kL3 k0 k1 k2
    rw [if_neg k1] at fT
    rw [if_neg k2] at fB
    have p116 : nI (pS c n r) = 116 := by
      have : pS c n r = 116 := by
        unfold kL at k3
        split at k3
        · cases k3
        · split at k3
          · cases k3
          · split at k3
            · assumption
            · cases k3
      rw [this]; rfl
    obtain ⟨Gn, e1, f1, f6, f7, f9, f8⟩ := m_num (lo := 1) (hi := 99) (x := 1) (y := 99) PL L6 (by omega) rfl rfl (by decide) (by decide)
    have er : fX7_readOrder G = some (gm_up (gm_up (gm_up Gn 8 5 4 (3 * m + 1) (nI (tN 1 99 c n (r + 1)).2.2)) 8 5 4 (3 * m + 2) 0) 7 5 0 9 (gm_up (gm_up Gn 8 5 4 (3 * m + 1) (nI (tN 1 99 c n (r + 1)).2.2)) 8 5 4 (3 * m + 2) 0 7 5 0 9 + 1)) := by
      unfold fX7_readOrder
      simp only [ns, gm_bs, fT, fB, h6, nI_1, g9, i0, i1, i2, gi0, gi1, gi2, if_pos p116, if_neg bs_01, if_true, hGL, e1]
    obtain ⟨z1, z6, z7, z9, z80, z81, z82, z8k⟩ := fin (gm_up Gn 8 5 4 (3 * m + 1) (nI (tN 1 99 c n (r + 1)).2.2)) (nI (tN 1 99 c n (r + 1)).2.2) 0 f1.u8 (by rw [gu_k (by decide)]; exact f9) (fun k hk => by rw [gu_s (by omega)]; exact f8 k) gu_at
    have z6 := z6.trans ((gu_k (by decide)).trans f6)
    have z7 := z7.trans ((gu_k (by decide)).trans f7)
    rw [L7] at z7
    refine ⟨_, er, z1, ?_, fun ok => ⟨?_, z9, z80, ?_, ?_, z8k⟩, fun ok => ?_⟩
    all_goals
      by_cases d1 : 49 ≤ pS c n (r + 1) ∧ pS c n (r + 1) ≤ 57
    · rw [z6]
      unfold oR tN
      rw [if_neg k0, if_neg k1, if_neg k2, if_pos d1, if_pos (by omega)]
      by_cases d2 : 48 ≤ pS c n (r + 2) ∧ pS c n (r + 2) ≤ 57
      · rw [if_pos d2, if_pos (show 0 < pS c n (r + 1) - 48 ∧ 48 ≤ pS c n (r + 1 + 1) ∧ pS c n (r + 1 + 1) ≤ 57 ∧ 10 * (pS c n (r + 1) - 48) + (pS c n (r + 1 + 1) - 48) ≤ 99 from ⟨by omega, d2.1, d2.2, by have : pS c n (r + 1 + 1) ≤ 57 := d2.2; omega⟩)]
      · rw [if_neg d2, if_neg]
        rintro ⟨y1, y2, y3, y4⟩
        exact d2 ⟨y2, y3⟩
    · rw [z6]
      unfold oR tN
      rw [if_neg k0, if_neg k1, if_neg k2, if_neg d1, if_neg (by omega)]
    · rw [z7, tN_t (by omega)]; rfl
    · unfold oR at ok
      rw [if_neg k0, if_neg k1, if_neg k2, if_neg d1] at ok; cases ok
    · rw [z81]
      unfold oR tN
      rw [if_neg k0, if_neg k1, if_neg k2, if_pos d1, if_pos (by omega)]
      by_cases d2 : 48 ≤ pS c n (r + 2) ∧ pS c n (r + 2) ≤ 57
      · rw [if_pos d2, if_pos (show 0 < pS c n (r + 1) - 48 ∧ 48 ≤ pS c n (r + 1 + 1) ∧ pS c n (r + 1 + 1) ≤ 57 ∧ 10 * (pS c n (r + 1) - 48) + (pS c n (r + 1 + 1) - 48) ≤ 99 from ⟨by omega, d2.1, d2.2, by have : pS c n (r + 1 + 1) ≤ 57 := d2.2; omega⟩)]
      · rw [if_neg d2, if_neg]
        rintro ⟨y1, y2, y3, y4⟩
        exact d2 ⟨y2, y3⟩
    · unfold oR at ok
      rw [if_neg k0, if_neg k1, if_neg k2, if_neg d1] at ok; cases ok
    · rw [z82]
      unfold oR
      rw [if_neg k0, if_neg k1, if_neg k2, if_pos d1]
      split <;> rfl
    · unfold oR at ok
      rw [if_neg k0, if_neg k1, if_neg k2, if_neg d1] at ok; cases ok
    · unfold oR at ok
      rw [if_neg k0, if_neg k1, if_neg k2, if_pos d1] at ok
      split at ok <;> cases ok
    · rw [z7, tN_f (by omega)]; rfl
end
