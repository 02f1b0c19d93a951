/-! The text: signs c of which there are n; an order that begins at r. -/
def pS (c : Nat → Nat) (n k : Nat) : Nat := if k < n then c k else 0
def kL (a : Nat) : Nat := if a = 111 ∨ a = 100 ∨ a = 115 ∨ a = 108 then 1 else if a = 121 ∨ a = 110 ∨ a = 99 ∨ a = 97 ∨ a = 117 ∨ a = 101 then 2 else if a = 116 then 3 else 0
/-- (is it right, where it ends or fails, its number, its side) -/
def oR (c : Nat → Nat) (n r : Nat) : Bool × Nat × Nat × Nat :=
  if kL (pS c n r) = 0 then (false, r, 0, 0)
  else if kL (pS c n r) = 1 then
    (if 48 ≤ pS c n (r + 1) ∧ pS c n (r + 1) ≤ 57 then (if pS c n (r + 1) = 49 ∧ 48 ≤ pS c n (r + 2) ∧ pS c n (r + 2) ≤ 49 then (true, r + 3, 10 + (pS c n (r + 2) - 48), 0) else (true, r + 2, pS c n (r + 1) - 48, 0)) else (false, r + 1, 0, 0))
  else if kL (pS c n r) = 2 then
    (if 48 ≤ pS c n (r + 1) ∧ pS c n (r + 1) ≤ 52 then (if pS c n (r + 2) = 43 then (true, r + 3, pS c n (r + 1) - 48, 0) else if pS c n (r + 2) = 45 then (true, r + 3, pS c n (r + 1) - 48, 1) else (false, r + 2, 0, 0)) else (false, r + 1, 0, 0))
  else (if 49 ≤ pS c n (r + 1) ∧ pS c n (r + 1) ≤ 57 then (if 48 ≤ pS c n (r + 2) ∧ pS c n (r + 2) ≤ 57 then (true, r + 3, 10 * (pS c n (r + 1) - 48) + (pS c n (r + 2) - 48), 0) else (true, r + 2, pS c n (r + 1) - 48, 0)) else (false, r + 1, 0, 0))
section
variable {G : Gm} {c : Nat → Nat} {n r : Nat}
theorem pS_in {k : Nat} (h : k < n) : pS c n k = c k := if_pos h
theorem pS_out {k : Nat} (h : n ≤ k) : pS c n k = 0 := if_neg (by omega)
theorem pS_lt {k : Nat} (h : pS c n k ≠ 0) : k < n := by
  by_cases q : k < n
  · exact q
  · exact absurd (pS_out (by omega)) h
theorem kL0 : kL 0 = 0 := by decide
theorem pS_le (hc : ∀ k, k < n → c k ≤ 126) (k : Nat) : pS c n k ≤ 126 := by
  unfold pS
  split
  · rename_i h; exact hc k h
  · omega
/-- where an order ends -/
theorem oR_le (hr : r ≤ n) : r ≤ (oR c n r).2.1 ∧ (oR c n r).2.1 ≤ n ∧ ((oR c n r).1 = true → r + 2 ≤ (oR c n r).2.1 ∧ (oR c n r).2.1 ≤ r + 3) := by
  unfold oR
  by_cases k0 : kL (pS c n r) = 0
  · rw [if_pos k0]
    exact ⟨Nat.le_refl _, hr, fun q => by cases q⟩
  · have r0 : r < n := pS_lt (fun z => k0 (by rw [z]; exact kL0))
    rw [if_neg k0]
    have r1 : pS c n (r + 1) ≠ 0 → r + 1 < n := pS_lt
    have r2 : pS c n (r + 2) ≠ 0 → r + 2 < n := pS_lt
    repeat' split
    all_goals first
      | exact ⟨by dsimp only; omega, by dsimp only; omega, fun q => by first | (dsimp only; omega) | (cases q)⟩
/-- between two signs -/
theorem c_btw {a lo hi : Nat} {x y : Int32} (hx : x = nI lo) (hy : y = nI hi) (ha : a < 2147483648) (hl : lo < 2147483648) (hh : hi < 2147483648) : fX2_isBetween (nI a) x y = some (if lo ≤ a ∧ a ≤ hi then 1 else 0) := by
  unfold fX2_isBetween
  rw [hx, hy]
  by_cases c1 : lo ≤ a
  · rw [if_neg (by rw [bs_lt ha hl]; omega)]
    by_cases c2 : a ≤ hi
    · rw [if_neg (by rw [bs_lt hh ha]; omega), if_pos ⟨c1, c2⟩]
    · rw [if_pos ((bs_lt hh ha).mpr (by omega)), if_neg (fun z => c2 z.2)]
  · rw [if_pos ((bs_lt ha hl).mpr (by omega)), if_neg (fun z => c1 z.1)]
theorem m_btw {a lo hi : Nat} {x y : Int32} (hx : x = nI lo) (hy : y = nI hi) (ha : a < 2147483648) (hl : lo < 2147483648) (hh : hi < 2147483648) : fX7_in (nI a) x y = some (if lo ≤ a ∧ a ≤ hi then 1 else 0) := by
  unfold fX7_in
  rw [hx, hy]
  by_cases c1 : lo ≤ a
  · rw [if_neg (by rw [bs_lt ha hl]; omega)]
    by_cases c2 : a ≤ hi
    · rw [if_neg (by rw [bs_lt hh ha]; omega), if_pos ⟨c1, c2⟩]
    · rw [if_pos ((bs_lt hh ha).mpr (by omega)), if_neg (fun z => c2 z.2)]
  · rw [if_pos ((bs_lt ha hl).mpr (by omega)), if_neg (fun z => c1 z.1)]
theorem c_aL : ∀ a, a ≤ 126 → fX2_afterLetter (nI a) = some (if kL a = 1 then 1 else if kL a = 2 then 3 else if kL a = 3 then 5 else -1) := by decide +kernel
theorem m_fT : ∀ a, a ≤ 126 → fX7_isForTrain (nI a) = some (if kL a = 1 then 1 else 0) := by decide +kernel
theorem m_fB : ∀ a, a ≤ 126 → fX7_isForBlock (nI a) = some (if kL a = 2 then 1 else 0) := by decide +kernel
theorem c_aO {a : Nat} (ha : a ≤ 126) : fX2_afterOrder (nI a) = some (if a = 44 then 0 else -1) := by
  unfold fX2_afterOrder
  by_cases e : a = 44
  · rw [if_pos e, e]; rfl
  · rw [if_neg e, if_neg (by rw [bs_l (n := 44) (by omega) (by decide)]; exact e)]
/-- the class's automaton, sign by sign -/
def PdC (G : Gm) (c : Nat → Nat) (n : Nat) : Prop := G 2 4 0 1 = nI n ∧ n ≤ 60 ∧ (∀ k, k < n → G 8 4 0 k = nI (c k)) ∧ (∀ k, k < n → c k ≤ 126)
theorem au_s (P : PdC G c n) {k f : Nat} {e q : Int32} (hk : k < n) (h : fX2_after e (nI (c k)) = some q) (hq : ¬ q = -1) : fX2_firstFault_h4 G (f + 1) e (nI k) = fX2_firstFault_h4 G f q (nI (k + 1)) := by
  have := P.2.1
  rw [fX2_firstFault_h4.eq_2, P.1, if_neg (by rw [bs_le (by omega) (by omega)]; omega), gm_gin (by omega) (by decide), P.2.2.1 k hk, h, gm_bs, if_neg hq, nI_1]
theorem au_w (P : PdC G c n) {k f : Nat} {e : Int32} (hk : k < n) (h : fX2_after e (nI (c k)) = some (-1)) : fX2_firstFault_h4 G (f + 1) e (nI k) = some (nI k) := by
  have := P.2.1
  rw [fX2_firstFault_h4.eq_2, P.1, if_neg (by rw [bs_le (by omega) (by omega)]; omega), gm_gin (by omega) (by decide), P.2.2.1 k hk, h, gm_bs, if_pos rfl]
theorem au_e (P : PdC G c n) {f : Nat} {e : Int32} : fX2_firstFault_h4 G (f + 1) e (nI n) = if e = 7 ∨ e = 2 ∨ e = 6 then some (-6) else some (nI n) := by
  have := P.2.1
  rw [fX2_firstFault_h4.eq_2, P.1, if_pos ((bs_le (by omega) (by omega)).mpr (Nat.le_refl _))]
  by_cases e7 : e = 7
  · rw [if_pos e7, if_pos (Or.inl e7)]
  by_cases e2 : e = 2
  · rw [if_neg e7, if_pos e2, if_pos (Or.inr (Or.inl e2))]
  by_cases e6 : e = 6
  · rw [if_neg e7, if_neg e2, if_pos e6, if_pos (Or.inr (Or.inr e6))]
  · rw [if_neg e7, if_neg e2, if_neg e6, if_neg (fun z => z.elim e7 (fun z => z.elim e2 e6))]
/-- after an order that may end: a comma, the end, or a fault -/
theorem au_c (P : PdC G c n) {k f : Nat} {e : Int32} (hk : k ≤ n) (he : e = 7 ∨ e = 2 ∨ e = 6) (h : k < n → fX2_after e (nI (c k)) = fX2_afterOrder (nI (c k))) : fX2_firstFault_h4 G (f + 1) e (nI k) = if pS c n k = 44 then fX2_firstFault_h4 G f 0 (nI (k + 1)) else if n ≤ k then some (-6) else some (nI k) := by
  by_cases q : k < n
  · have a := c_aO (P.2.2.2 k q)
    rw [pS_in q]
    by_cases z : c k = 44
    · rw [if_pos z] at a ⊢
      exact au_s P q ((h q).trans a) (by decide)
    · rw [if_neg z] at a
      rw [if_neg z, if_neg (by omega)]
      exact au_w P q ((h q).trans a)
  · have : k = n := by omega
    subst this
    rw [pS_out (Nat.le_refl _), if_neg (by decide), if_pos (Nat.le_refl _), au_e P, if_pos he]
theorem c_aN {a : Nat} (ha : a ≤ 126) {lo hi : Nat} {x y : Int32} (hx : x = nI lo) (hy : y = nI hi) (hl : lo < 2147483648) (hh : hi < 2147483648) : fX2_isBetween (nI a) x y = some (if lo ≤ a ∧ a ≤ hi then 1 else 0) := c_btw hx hy (by omega) hl hh
theorem kL3 {a : Nat} (h0 : ¬ kL a = 0) (h1 : ¬ kL a = 1) (h2 : ¬ kL a = 2) : kL a = 3 := by
  unfold kL at h0 h1 h2 ⊢
  repeat' split
  all_goals simp_all
theorem af7 (x : Int32) : fX2_after 7 x = fX2_afterOrder x := by
  unfold fX2_after
  rw [if_neg (by decide), if_neg (by decide), if_neg (by decide), if_neg (by decide), if_neg (by decide), if_neg (by decide), if_neg (by decide)]
  exact some_id _
theorem af0 (x : Int32) : fX2_after 0 x = fX2_afterLetter x := by
  unfold fX2_after
  rw [if_pos rfl]
  exact some_id _
theorem af1 {a : Nat} (ha : a ≤ 126) : fX2_after 1 (nI a) = some (if a = 49 then 2 else if 48 ≤ a ∧ a ≤ 57 then 7 else -1) := by
  unfold fX2_after
  rw [if_neg (by decide), if_pos rfl, c_aN ha (x := 48) (y := 57) (lo := 48) (hi := 57) rfl rfl (by decide) (by decide), gm_bs]
  by_cases e : a = 49
  · rw [if_pos e, if_pos (by rw [e]; rfl)]
  · rw [if_neg e, if_neg (by rw [bs_l (n := 49) (by omega) (by decide)]; exact e)]
    by_cases q : 48 ≤ a ∧ a ≤ 57
    · rw [if_pos q, if_pos q, if_neg bs_01]
    · rw [if_neg q, if_neg q, if_pos rfl]
theorem af2 {a : Nat} (ha : a ≤ 126) : fX2_after 2 (nI a) = if 48 ≤ a ∧ a ≤ 49 then some 7 else fX2_afterOrder (nI a) := by
  unfold fX2_after
  rw [if_neg (by decide), if_neg (by decide), if_pos rfl, c_aN ha (x := 48) (y := 49) (lo := 48) (hi := 49) rfl rfl (by decide) (by decide), gm_bs]
  by_cases q : 48 ≤ a ∧ a ≤ 49
  · rw [if_pos q, if_pos q, if_neg bs_01]
  · rw [if_neg q, if_neg q, if_pos rfl]; exact some_id _
theorem af3 {a : Nat} (ha : a ≤ 126) : fX2_after 3 (nI a) = some (if 48 ≤ a ∧ a ≤ 52 then 4 else -1) := by
  unfold fX2_after
  rw [if_neg (by decide), if_neg (by decide), if_neg (by decide), if_pos rfl, c_aN ha (x := 48) (y := 52) (lo := 48) (hi := 52) rfl rfl (by decide) (by decide), gm_bs]
  by_cases q : 48 ≤ a ∧ a ≤ 52
  · rw [if_pos q, if_pos q, if_neg bs_01]
  · rw [if_neg q, if_neg q, if_pos rfl]
theorem af4 {a : Nat} (ha : a ≤ 126) : fX2_after 4 (nI a) = some (if a = 43 ∨ a = 45 then 7 else -1) := by
  unfold fX2_after
  rw [if_neg (by decide), if_neg (by decide), if_neg (by decide), if_neg (by decide), if_pos rfl]
  by_cases e : a = 43
  · rw [if_pos (by rw [e]; rfl), if_pos (Or.inl e)]
  · rw [if_neg (by rw [bs_l (n := 43) (by omega) (by decide)]; exact e)]
    by_cases e2 : a = 45
    · rw [if_pos (by rw [e2]; rfl), if_pos (Or.inr e2)]
    · rw [if_neg (by rw [bs_l (n := 45) (by omega) (by decide)]; exact e2), if_neg (fun z => z.elim e e2)]
theorem af5 {a : Nat} (ha : a ≤ 126) : fX2_after 5 (nI a) = some (if 49 ≤ a ∧ a ≤ 57 then 6 else -1) := by
  unfold fX2_after
  rw [if_neg (by decide), if_neg (by decide), if_neg (by decide), if_neg (by decide), if_neg (by decide), if_pos rfl, c_aN ha (x := 49) (y := 57) (lo := 49) (hi := 57) rfl rfl (by decide) (by decide), gm_bs]
  by_cases q : 49 ≤ a ∧ a ≤ 57
  · rw [if_pos q, if_pos q, if_neg bs_01]
  · rw [if_neg q, if_neg q, if_pos rfl]
theorem af6 {a : Nat} (ha : a ≤ 126) : fX2_after 6 (nI a) = if 48 ≤ a ∧ a ≤ 57 then some 7 else fX2_afterOrder (nI a) := by
  unfold fX2_after
  rw [if_neg (by decide), if_neg (by decide), if_neg (by decide), if_neg (by decide), if_neg (by decide), if_neg (by decide), if_pos rfl, c_aN ha (x := 48) (y := 57) (lo := 48) (hi := 57) rfl rfl (by decide) (by decide), gm_bs]
  by_cases q : 48 ≤ a ∧ a ≤ 57
  · rw [if_pos q, if_pos q, if_neg bs_01]
  · rw [if_neg q, if_neg q, if_pos rfl]; exact some_id _
/-- a state that can't end -/
theorem au_f (P : PdC G c n) {k f : Nat} {e : Int32} (hk : k ≤ n) (he : ¬ (e = 7 ∨ e = 2 ∨ e = 6)) (h : k < n → fX2_after e (nI (c k)) = some (-1)) : fX2_firstFault_h4 G (f + 1) e (nI k) = some (nI k) := by
  by_cases q : k < n
  · exact au_w P q (h q)
  · rw [show k = n by omega, au_e P, if_neg he]
theorem c_au (P : PdC G c n) (hr : r ≤ n) (f : Nat) : fX2_firstFault_h4 G (f + 4) 0 (nI r) = if (oR c n r).1 = true then (if pS c n (oR c n r).2.1 = 44 then fX2_firstFault_h4 G (f + 3 - ((oR c n r).2.1 - r)) 0 (nI ((oR c n r).2.1 + 1)) else if n ≤ (oR c n r).2.1 then some (-6) else some (nI (oR c n r).2.1)) else some (nI (oR c n r).2.1) := by
  have hc := P.2.2.2
  by_cases k0 : kL (pS c n r) = 0
  · have eo : oR c n r = (false, r, 0, 0) := by unfold oR; rw [if_pos k0]
    rw [eo]
    refine au_f (f := f + 3) P hr (by decide) (fun q => ?_)
    rw [pS_in q] at k0
    rw [af0, c_aL (c r) (hc r q), k0]; rfl
  have r0 : r < n := pS_lt (c := c) (fun z => k0 (by rw [z]; exact kL0))
  have e0 := pS_in (c := c) r0
  have aL := c_aL (c r) (hc r r0)
  rw [← e0] at aL
  by_cases k1 : kL (pS c n r) = 1
  · rw [if_pos k1] at aL
    have s1 : fX2_firstFault_h4 G (f + 4) 0 (nI r) = fX2_firstFault_h4 G (f + 3) 1 (nI (r + 1)) := au_s (f := f + 3) P r0 (by rw [af0, ← e0, aL]) (by decide)
    rw [s1]
    by_cases d1 : 48 ≤ pS c n (r + 1) ∧ pS c n (r + 1) ≤ 57
    · have r1 : r + 1 < n := pS_lt (c := c) (by omega)
      have e1 := pS_in (c := c) r1
      have a1 := af1 (hc _ r1)
      rw [← e1] at a1
      by_cases o1 : pS c n (r + 1) = 49
      · rw [if_pos o1] at a1
        have s2 : fX2_firstFault_h4 G (f + 3) 1 (nI (r + 1)) = fX2_firstFault_h4 G (f + 2) 2 (nI (r + 2)) := au_s (f := f + 2) P r1 (by rw [← e1]; exact a1) (by decide)
        rw [s2]
        by_cases d2 : 48 ≤ pS c n (r + 2) ∧ pS c n (r + 2) ≤ 49
        · have r2 : r + 2 < n := pS_lt (c := c) (by omega)
          have e2 := pS_in (c := c) r2
          have eo : oR c n r = (true, r + 3, 10 + (pS c n (r + 2) - 48), 0) := by unfold oR; rw [if_neg k0, if_pos k1, if_pos d1, if_pos ⟨o1, d2.1, d2.2⟩]
          have s3 : fX2_firstFault_h4 G (f + 2) 2 (nI (r + 2)) = fX2_firstFault_h4 G (f + 1) 7 (nI (r + 3)) := au_s (f := f + 1) P r2 (by rw [af2 (hc _ r2), ← e2, if_pos d2]) (by decide)
          rw [s3, eo]
          dsimp only
          rw [if_pos rfl, show f + 3 - (r + 3 - r) = f by omega]
          exact au_c (k := r + 3) P (by omega) (Or.inl rfl) (fun _ => af7 _)
        · have eo : oR c n r = (true, r + 2, pS c n (r + 1) - 48, 0) := by unfold oR; rw [if_neg k0, if_pos k1, if_pos d1, if_neg (fun z => d2 z.2)]
          rw [eo]
          dsimp only
          rw [if_pos rfl, show f + 3 - (r + 2 - r) = f + 1 by omega]
          refine au_c (k := r + 2) P (by omega) (Or.inr (Or.inl rfl)) (fun q => ?_)
          rw [pS_in q] at d2
          rw [af2 (hc _ q), if_neg d2]
      · rw [if_neg o1, if_pos d1] at a1
        have eo : oR c n r = (true, r + 2, pS c n (r + 1) - 48, 0) := by unfold oR; rw [if_neg k0, if_pos k1, if_pos d1, if_neg (fun z => o1 z.1)]
        have s2 : fX2_firstFault_h4 G (f + 3) 1 (nI (r + 1)) = fX2_firstFault_h4 G (f + 2) 7 (nI (r + 2)) := au_s (f := f + 2) P r1 (by rw [← e1]; exact a1) (by decide)
        rw [s2, eo]
        dsimp only
        rw [if_pos rfl, show f + 3 - (r + 2 - r) = f + 1 by omega]
        exact au_c (k := r + 2) P (by omega) (Or.inl rfl) (fun _ => af7 _)
    · have eo : oR c n r = (false, r + 1, 0, 0) := by unfold oR; rw [if_neg k0, if_pos k1, if_neg d1]
      rw [eo]
      refine au_f (f := f + 2) P (by omega) (by decide) (fun q => ?_)
      rw [pS_in q] at d1
      rw [af1 (hc _ q), if_neg (by omega), if_neg d1]
  rw [if_neg k1] at aL
  by_cases k2 : kL (pS c n r) = 2
  · rw [if_pos k2] at aL
    have s1 : fX2_firstFault_h4 G (f + 4) 0 (nI r) = fX2_firstFault_h4 G (f + 3) 3 (nI (r + 1)) := au_s (f := f + 3) P r0 (by rw [af0, ← e0, aL]) (by decide)
    rw [s1]
    by_cases d1 : 48 ≤ pS c n (r + 1) ∧ pS c n (r + 1) ≤ 52
    · have r1 : r + 1 < n := pS_lt (c := c) (by omega)
      have e1 := pS_in (c := c) r1
      have s2 : fX2_firstFault_h4 G (f + 3) 3 (nI (r + 1)) = fX2_firstFault_h4 G (f + 2) 4 (nI (r + 2)) := au_s (f := f + 2) P r1 (by rw [af3 (hc _ r1), ← e1, if_pos d1]) (by decide)
      rw [s2]
      by_cases p4 : pS c n (r + 2) = 43 ∨ pS c n (r + 2) = 45
      · have r2 : r + 2 < n := pS_lt (c := c) (by omega)
        have e2 := pS_in (c := c) r2
        have eo : (oR c n r).1 = true ∧ (oR c n r).2.1 = r + 3 := by
          unfold oR
          rw [if_neg k0, if_neg k1, if_pos k2, if_pos d1]
          by_cases z : pS c n (r + 2) = 43
          · rw [if_pos z]; exact ⟨rfl, rfl⟩
          · rw [if_neg z, if_pos (p4.resolve_left z)]; exact ⟨rfl, rfl⟩
        have s3 : fX2_firstFault_h4 G (f + 2) 4 (nI (r + 2)) = fX2_firstFault_h4 G (f + 1) 7 (nI (r + 3)) := au_s (f := f + 1) P r2 (by rw [af4 (hc _ r2), ← e2, if_pos p4]) (by decide)
        rw [s3, eo.1, eo.2, if_pos rfl, show f + 3 - (r + 3 - r) = f by omega]
        exact au_c (k := r + 3) P (by omega) (Or.inl rfl) (fun _ => af7 _)
      · have eo : oR c n r = (false, r + 2, 0, 0) := by unfold oR; rw [if_neg k0, if_neg k1, if_pos k2, if_pos d1, if_neg (fun z => p4 (Or.inl z)), if_neg (fun z => p4 (Or.inr z))]
        rw [eo]
        refine au_f (f := f + 1) P (by omega) (by decide) (fun q => ?_)
        rw [pS_in q] at p4
        rw [af4 (hc _ q), if_neg p4]
    · have eo : oR c n r = (false, r + 1, 0, 0) := by unfold oR; rw [if_neg k0, if_neg k1, if_pos k2, if_neg d1]
      rw [eo]
      refine au_f (f := f + 2) P (by omega) (by decide) (fun q => ?_)
      rw [pS_in q] at d1
      rw [af3 (hc _ q), if_neg d1]
  · have k3 := kL3 k0 k1 k2
    rw [if_neg k2, if_pos k3] at aL
    have s1 : fX2_firstFault_h4 G (f + 4) 0 (nI r) = fX2_firstFault_h4 G (f + 3) 5 (nI (r + 1)) := au_s (f := f + 3) P r0 (by rw [af0, ← e0, aL]) (by decide)
    rw [s1]
    by_cases d1 : 49 ≤ pS c n (r + 1) ∧ pS c n (r + 1) ≤ 57
    · have r1 : r + 1 < n := pS_lt (c := c) (by omega)
      have e1 := pS_in (c := c) r1
      have s2 : fX2_firstFault_h4 G (f + 3) 5 (nI (r + 1)) = fX2_firstFault_h4 G (f + 2) 6 (nI (r + 2)) := au_s (f := f + 2) P r1 (by rw [af5 (hc _ r1), ← e1, if_pos d1]) (by decide)
      rw [s2]
      by_cases d2 : 48 ≤ pS c n (r + 2) ∧ pS c n (r + 2) ≤ 57
      · have r2 : r + 2 < n := pS_lt (c := c) (by omega)
        have e2 := pS_in (c := c) r2
        have eo : oR c n r = (true, r + 3, 10 * (pS c n (r + 1) - 48) + (pS c n (r + 2) - 48), 0) := by unfold oR; rw [if_neg k0, if_neg k1, if_neg k2, if_pos d1, if_pos d2]
        have s3 : fX2_firstFault_h4 G (f + 2) 6 (nI (r + 2)) = fX2_firstFault_h4 G (f + 1) 7 (nI (r + 3)) := au_s (f := f + 1) P r2 (by rw [af6 (hc _ r2), ← e2, if_pos d2]) (by decide)
        rw [s3, eo]
        dsimp only
        rw [if_pos rfl, show f + 3 - (r + 3 - r) = f by omega]
        exact au_c (k := r + 3) P (by omega) (Or.inl rfl) (fun _ => af7 _)
      · have eo : oR c n r = (true, r + 2, pS c n (r + 1) - 48, 0) := by unfold oR; rw [if_neg k0, if_neg k1, if_neg k2, if_pos d1, if_neg d2]
        rw [eo]
        dsimp only
        rw [if_pos rfl, show f + 3 - (r + 2 - r) = f + 1 by omega]
        refine au_c (k := r + 2) P (by omega) (Or.inr (Or.inr rfl)) (fun q => ?_)
        rw [pS_in q] at d2
        rw [af6 (hc _ q), if_neg d2]
    · have eo : oR c n r = (false, r + 1, 0, 0) := by unfold oR; rw [if_neg k0, if_neg k1, if_neg k2, if_neg d1]
      rw [eo]
      refine au_f (f := f + 2) P (by omega) (by decide) (fun q => ?_)
      rw [pS_in q] at d1
      rw [af5 (hc _ q), if_neg d1]
end
