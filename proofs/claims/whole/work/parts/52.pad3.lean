/-- where order i begins -/
def rp (c : Nat → Nat) (n : Nat) : Nat → Nat
  | 0 => 0
  | i + 1 => (oR c n (rp c n i)).2.1 + 1
def Gd (c : Nat → Nat) (n i : Nat) : Prop := (oR c n (rp c n i)).1 = true ∧ pS c n (oR c n (rp c n i)).2.1 = 44
def fv (c : Nat → Nat) (n i : Nat) : Nat := if (oR c n (rp c n i)).1 = true ∧ n ≤ (oR c n (rp c n i)).2.1 then NN else (oR c n (rp c n i)).2.1
def OrdR (G : Gm) (c : Nat → Nat) (n i : Nat) : Prop := ∀ j, j < i → G 8 5 4 (3 * j) = nI (pS c n (rp c n j)) ∧ G 8 5 4 (3 * j + 1) = nI (oR c n (rp c n j)).2.2.1 ∧ G 8 5 4 (3 * j + 2) = nI (oR c n (rp c n j)).2.2.2
section
variable {G G1 G2 : Gm} {S : Sm} {c : Nat → Nat} {n r m : Nat}
theorem rp_le : ∀ i, (∀ j, j < i → Gd c n j) → 3 * i ≤ rp c n i ∧ rp c n i ≤ n := by
  intro i
  induction i with
  | zero => exact fun _ => ⟨Nat.le_refl _, Nat.zero_le _⟩
  | succ i ih =>
    intro h
    obtain ⟨h1, h2⟩ := ih (fun j hj => h j (by omega))
    obtain ⟨g1, g2⟩ := h i (by omega)
    obtain ⟨o1, o2, o3⟩ := oR_le (c := c) h2
    have o3 := o3 g1
    have lt : (oR c n (rp c n i)).2.1 < n := pS_lt (c := c) (by omega)
    have e : rp c n (i + 1) = (oR c n (rp c n i)).2.1 + 1 := rfl
    rw [e]
    omega
theorem stop_at (hn : n ≤ 60) : ∃ i, i ≤ 20 ∧ ¬ Gd c n i ∧ ∀ j, j < i → Gd c n j := by
  rcases first_of (p := fun i => ¬ Gd c n i) (fun k => Classical.em _) 20 with ⟨i, h1, h2, h3⟩ | h
  · exact ⟨i, h1, h2, fun j hj => Classical.not_not.mp (h3 j hj)⟩
  · have := rp_le (c := c) (n := n) 21 (fun j hj => Classical.not_not.mp (h j (by omega)))
    omega
theorem c_ft (P : PdC G c n) : ∀ i, (∀ j, j < i → Gd c n j) → fX2_firstFault G = fX2_firstFault_h4 G (6000 - rp c n i) 0 (nI (rp c n i)) := by
  have n60 := P.2.1
  intro i
  induction i with
  | zero => exact fun _ => rfl
  | succ i ih =>
    intro h
    have h' : ∀ j, j < i → Gd c n j := fun j hj => h j (by omega)
    have rl := rp_le i h'
    have rl' := rp_le (i + 1) h
    obtain ⟨g1, g2⟩ := h i (by omega)
    have ol := (oR_le (c := c) rl.2)
    have e : rp c n (i + 1) = (oR c n (rp c n i)).2.1 + 1 := rfl
    have au := c_au P rl.2 (6000 - rp c n i - 4)
    rw [ih h', show 6000 - rp c n i = 6000 - rp c n i - 4 + 4 by omega, au, if_pos g1, if_pos g2, e]
    congr 1
    omega
theorem c_fault (P : PdC G c n) {i : Nat} (hi : ¬ Gd c n i) (h : ∀ j, j < i → Gd c n j) : fX2_firstFault G = some (nI (fv c n i)) := by
  have n60 := P.2.1
  have rl := rp_le i h
  have au := c_au P rl.2 (6000 - rp c n i - 4)
  rw [c_ft P i h, show 6000 - rp c n i = 6000 - rp c n i - 4 + 4 by omega, au]
  unfold fv
  by_cases ok : (oR c n (rp c n i)).1 = true
  · rw [if_pos ok, if_neg (fun z => hi ⟨ok, z⟩)]
    by_cases q : n ≤ (oR c n (rp c n i)).2.1
    · rw [if_pos q, if_pos ⟨ok, q⟩, nI_NN]
    · rw [if_neg q, if_neg (fun z => q z.2)]
  · rw [if_neg ok, if_neg (fun z => ok z.1)]
/-- after the reference has read order i -/
def Rd (G G' : Gm) (c : Nat → Nat) (n i : Nat) : Prop := FrF G G' ∧ G' 7 5 0 6 = nI (oR c n (rp c n i)).2.1 ∧ ((oR c n (rp c n i)).1 = true → G' 7 5 0 7 = 0 ∧ G' 7 5 0 9 = nI (i + 1) ∧ OrdR G' c n (i + 1)) ∧ ((oR c n (rp c n i)).1 = false → G' 7 5 0 7 = 1)
theorem rd_next (P : PdR G c n) {i : Nat} (hi : i ≤ 20) (F : FrF G G1) (h6 : G1 7 5 0 6 = nI (rp c n i)) (h7 : G1 7 5 0 7 = 0) (h9 : G1 7 5 0 9 = nI i) (hr : rp c n i ≤ n) (ho : OrdR G1 c n i) : ∃ G', fX7_readOrder G1 = some G' ∧ Rd G G' c n i := by
  obtain ⟨G', e1, f1, f6, ft, ff⟩ := m_ro (P.fr F) h6 h7 h9 hr (by omega)
  refine ⟨G', e1, F.tr f1, f6, fun ok => ?_, ff⟩
  obtain ⟨t7, t9, t0, t1, t2, tk⟩ := ft ok
  refine ⟨t7, t9, fun j hj => ?_⟩
  by_cases e : j = i
  · subst e; exact ⟨t0, t1, t2⟩
  · obtain ⟨y0, y1, y2⟩ := ho j (by omega)
    exact ⟨by rw [tk _ (by omega)]; exact y0, by rw [tk _ (by omega)]; exact y1, by rw [tk _ (by omega)]; exact y2⟩
theorem m_ft (P : PdR G c n) : ∀ i, i ≤ 20 → (∀ j, j < i → Gd c n j) → ∃ G', fX7_fault G = fX7_fault_h19 (6000 - i) G' ∧ Rd G G' c n i := by
  have n60 := P.2.1
  intro i
  induction i with
  | zero =>
    intro _ _
    obtain ⟨G', e1, f1⟩ := rd_next (i := 0) P (by decide) (((FrF.rf.u7 (v := 0) (Or.inl rfl)).u7 (v := 0) (Or.inr (Or.inl rfl))).u7 (v := 0) (Or.inr (Or.inr rfl))) (by rw [gu_s (by decide), gu_s (by decide), gu_at]; rfl) (by rw [gu_s (by decide), gu_at]) (by rw [gu_at]; rfl) (Nat.zero_le _) (fun j hj => absurd hj (Nat.not_lt_zero _))
    refine ⟨G', ?_, f1⟩
    unfold fX7_fault
    rw [e1, gm_bs]
  | succ i ih =>
    intro hi h
    have h' : ∀ j, j < i → Gd c n j := fun j hj => h j (by omega)
    obtain ⟨g1, g2⟩ := h i (by omega)
    obtain ⟨G', e1, F, f6, ft, -⟩ := ih (by omega) h'
    obtain ⟨t7, t9, to⟩ := ft g1
    have rl := rp_le i h'
    have rl' := rp_le (i + 1) h
    have ol := (oR_le (c := c) rl.2)
    obtain ⟨G'', e2, f2⟩ := rd_next (i := i + 1) (G1 := gm_up G' 7 5 0 6 (nI ((oR c n (rp c n i)).2.1 + 1))) P (by omega) (F.u7 (Or.inl rfl)) (by rw [gu_at]; rfl) (by rw [gu_s (by decide)]; exact t7) (by rw [gu_s (by decide)]; exact t9) rl'.2 (fun j hj => by rw [gu_k (by decide), gu_k (by decide), gu_k (by decide)]; exact to j hj)
    refine ⟨G'', ?_, f2⟩
    rw [e1, show 6000 - i = 6000 - (i + 1) + 1 by omega, fX7_fault_h19.eq_2, if_pos t7, m_nsg (P.fr F) f6 (by omega), gm_bs, g2, if_pos (show nI 44 = 44 from rfl), f6, nI_1, e2, gm_bs]
theorem m_fault (P : PdR G c n) {i : Nat} (hi20 : i ≤ 20) (hi : ¬ Gd c n i) (h : ∀ j, j < i → Gd c n j) : ∃ G', fX7_fault G = some (nI (fv c n i), G') ∧ Rd G G' c n i := by
  have n60 := P.2.1
  have rl := rp_le i h
  have ol := (oR_le (c := c) rl.2)
  obtain ⟨G', e1, F, f6, ft, ff⟩ := m_ft P i hi20 h
  have P' := P.fr F
  refine ⟨G', ?_, F, f6, ft, ff⟩
  rw [e1, show 6000 - i = 5999 - i + 1 by omega, fX7_fault_h19.eq_2]
  unfold fv
  have pl := pSl P (oR c n (rp c n i)).2.1
  cases ok : (oR c n (rp c n i)).1 with
  | true =>
    obtain ⟨t7, -, -⟩ := ft ok
    have n44 : ¬ pS c n (oR c n (rp c n i)).2.1 = 44 := fun z => hi ⟨ok, z⟩
    rw [if_pos t7, m_nsg P' f6 (by omega), gm_bs, if_neg (by rw [bs_l (n := 44) (by omega) (by decide)]; exact n44), if_pos t7, P'.1, f6]
    by_cases q : n ≤ (oR c n (rp c n i)).2.1
    · rw [if_pos ((bs_le (by omega) (by omega)).mpr q), if_pos ⟨rfl, q⟩, nI_NN]
    · rw [if_neg (by rw [bs_le (by omega) (by omega)]; exact q), if_neg (fun z => q z.2)]
  | false =>
    have t7 := ff ok
    rw [if_neg (by rw [t7]; decide), if_neg (by rw [t7]; decide), f6, if_neg (fun z => by cases z.1)]
theorem q_fault (P : PdC G c n) : ∃ v, fX6_fault G = some v ∧ ∀ G1, PdR G1 c n → ∃ G', fX7_fault G1 = some (v, G') ∧ FrF G1 G' := by
  obtain ⟨i, h1, h2, h3⟩ := stop_at (c := c) P.2.1
  refine ⟨nI (fv c n i), ?_, fun G1 P1 => ?_⟩
  · unfold fX6_fault
    rw [c_fault P h2 h3, gm_bs]
  · obtain ⟨G', e1, f1⟩ := m_fault P1 h1 h2 h3
    exact ⟨G', e1, f1.1⟩
/-- the class reads an order -/
def FrP (G G' : Gm) : Prop := ∀ a b c k, ¬ (a = 2 ∧ b = 4 ∧ c = 0 ∧ 2 ≤ k ∧ k ≤ 5) → G' a b c k = G a b c k
theorem FrP.rf : FrP G G := fun _ _ _ _ _ => rfl
theorem FrP.tr (h : FrP G G1) (h2 : FrP G1 G2) : FrP G G2 := fun a b c k q => (h2 a b c k q).trans (h a b c k q)
theorem FrP.u (h : FrP G G1) {k : Nat} {v : Int32} (hk : 2 ≤ k ∧ k ≤ 5) : FrP G (gm_up G1 2 4 0 k v) := by
  intro a b c' k' q
  rw [← h a b c' k' q]
  unfold gm_up
  rw [if_neg]
  rintro ⟨rfl, rfl, rfl, rfl⟩
  exact q ⟨rfl, rfl, rfl, hk⟩
theorem PdC.fr (P : PdC G c n) (h : FrP G G1) : PdC G1 c n := ⟨by rw [h 2 4 0 1 (by omega)]; exact P.1, P.2.1, fun k hk => by rw [h 8 4 0 k (by omega)]; exact P.2.2.1 k hk, P.2.2.2⟩
def RS (G0 G : Gm) (x : Int32) (k v s : Nat) : Prop := FrP G0 G ∧ G 2 4 0 2 = nI k ∧ G 2 4 0 3 = x ∧ G 2 4 0 4 = nI v ∧ G 2 4 0 5 = nI s
theorem rs_go (P : PdC G c n) {x : Int32} {k v s f : Nat} (h : RS G G1 x k v s) (hv : v ≤ 99) (p : pS c n k ≠ 0) (p4 : pS c n k ≠ 44) (pd : (48 ≤ pS c n k ∧ pS c n k ≤ 57) ∨ pS c n k = 43 ∨ pS c n k = 45) : ∃ G', fX2_readOrder_h46 (f + 1) G1 = fX2_readOrder_h46 f G' ∧ RS G G' x (k + 1) (if 48 ≤ pS c n k ∧ pS c n k ≤ 57 then 10 * v + (pS c n k - 48) else v) (if pS c n k = 45 then 1 else s) := by
  obtain ⟨F, h2, h3, h4, h5⟩ := h
  have P1 := P.fr F
  have n60 := P.2.1
  have hk : k < n := pS_lt p
  have pe := pS_in (c := c) hk
  have hc := P.2.2.2 k hk
  have st : fX2_readOrder_h46 (f + 1) G1 = (fX2_readSign (nI (pS c n k)) G1).bind fun q7 => fX2_readOrder_h46 f (gm_up q7 2 4 0 2 ((q7 2 4 0 2) + 1)) := by
    rw [fX2_readOrder_h46.eq_2, P1.1, h2, if_neg (by rw [bs_le (by omega) (by omega)]; omega), gm_gin (by omega) (by decide), gm_gin (by omega) (by decide), P1.2.2.1 k hk, ← pe, if_neg (by rw [bs_l (n := 44) (by omega) (by decide)]; exact p4)]
  rw [st]
  unfold fX2_readSign
  rw [c_btw (x := 48) (y := 57) (lo := 48) (hi := 57) rfl rfl (by omega) (by decide) (by decide), gm_bs]
  by_cases d : 48 ≤ pS c n k ∧ pS c n k ≤ 57
  · rw [if_pos d, if_neg bs_01, gm_bs, gu_s (show (2 : Nat) ≠ 4 by decide), h2, h4, nI_1, if_pos d, if_neg (show ¬ pS c n k = 45 by omega)]
    have e : (10 : Int32) * nI v + nI (pS c n k) - 48 = nI (10 * v + (pS c n k - 48)) := by
      rw [show (10 : Int32) * nI v + nI (pS c n k) = nI (10 * v + pS c n k) by simp only [bs_nat, bs_mul, nI_add], show (48 : Int32) = nI 48 from rfl, bs_sub (by omega)]
      congr 1; omega
    rw [e]
    exact ⟨_, rfl, (F.u (by omega)).u (by omega), gu_at, by rw [gu_s (by decide), gu_s (by decide)]; exact h3, by rw [gu_s (by decide), gu_at], by rw [gu_s (by decide), gu_s (by decide)]; exact h5⟩
  · rw [if_neg d, if_pos rfl, if_neg d]
    by_cases q : pS c n k = 45
    · rw [if_pos (by rw [q]; rfl), gm_bs, gu_s (show (2 : Nat) ≠ 5 by decide), h2, nI_1, if_pos q]
      exact ⟨_, rfl, (F.u (by omega)).u (by omega), gu_at, by rw [gu_s (by decide), gu_s (by decide)]; exact h3, by rw [gu_s (by decide), gu_s (by decide)]; exact h4, by rw [gu_s (by decide), gu_at]; rfl⟩
    · rw [if_neg (by rw [bs_l (n := 45) (by omega) (by decide)]; exact q), gm_bs, h2, nI_1, if_neg q]
      exact ⟨_, rfl, F.u (by omega), gu_at, by rw [gu_s (by decide)]; exact h3, by rw [gu_s (by decide)]; exact h4, by rw [gu_s (by decide)]; exact h5⟩
theorem rs_stop (P : PdC G c n) {x : Int32} {k v s f : Nat} (h : RS G G1 x k v s) (hk : k ≤ n) (he : pS c n k = 44 ∨ n ≤ k) : ∃ G', fX2_readOrder_h46 (f + 1) G1 = some (1, G') ∧ RS G G' x (k + 1) v s := by
  obtain ⟨F, h2, h3, h4, h5⟩ := h
  have P1 := P.fr F
  have n60 := P.2.1
  refine ⟨gm_up G1 2 4 0 2 (nI (k + 1)), ?_, F.u (by omega), gu_at, by rw [gu_s (by decide)]; exact h3, by rw [gu_s (by decide)]; exact h4, by rw [gu_s (by decide)]; exact h5⟩
  rw [fX2_readOrder_h46.eq_2, P1.1, h2, nI_1]
  by_cases q : n ≤ k
  · rw [if_pos ((bs_le (by omega) (by omega)).mpr q)]
  · have p := he.resolve_right q
    rw [if_neg (by rw [bs_le (by omega) (by omega)]; exact q), gm_gin (by omega) (by decide), P1.2.2.1 k (by omega), ← pS_in (c := c) (show k < n by omega), p, if_pos (show nI 44 = 44 from rfl)]
theorem c_ro (P : PdC G c n) (h2 : G 2 4 0 2 = nI r) (hr : r ≤ n) (ok : (oR c n r).1 = true) (he : pS c n (oR c n r).2.1 = 44 ∨ n ≤ (oR c n r).2.1) : ∃ G', fX2_readOrder G = some (1, G') ∧ RS G G' (nI (pS c n r)) ((oR c n r).2.1 + 1) (oR c n r).2.2.1 (oR c n r).2.2.2 := by
  have n60 := P.2.1
  have ol := oR_le (c := c) hr
  have k0 : ¬ kL (pS c n r) = 0 := by
    intro z
    unfold oR at ok
    rw [if_pos z] at ok; cases ok
  have r0 : r < n := pS_lt (c := c) (fun z => k0 (by rw [z]; exact kL0))
  have st : ∃ G1, fX2_readOrder G = fX2_readOrder_h46 6000 G1 ∧ RS G G1 (nI (pS c n r)) (r + 1) 0 0 := by
    refine ⟨gm_up (gm_up (gm_up (gm_up G 2 4 0 3 (nI (pS c n r))) 2 4 0 4 0) 2 4 0 5 0) 2 4 0 2 (nI (r + 1)), ?_, (((FrP.rf.u (by omega)).u (by omega)).u (by omega)).u (by omega), gu_at, ?_, ?_, ?_⟩
    · unfold fX2_readOrder
      rw [h2, P.1, if_pos ((bs_lt (by omega) (by omega)).mpr r0), gm_gin (by omega) (by decide), P.2.2.1 r r0, ← pS_in (c := c) r0, gu_s (show (2 : Nat) ≠ 5 by decide), gu_s (show (2 : Nat) ≠ 4 by decide), gu_s (show (2 : Nat) ≠ 3 by decide), h2, nI_1]
    · rw [gu_s (by decide), gu_s (by decide), gu_s (by decide), gu_at]
    · rw [gu_s (by decide), gu_s (by decide), gu_at]; rfl
    · rw [gu_s (by decide), gu_at]; rfl
  obtain ⟨G1, e1, s1⟩ := st
  rw [e1]
  unfold oR at ok he ol ⊢
  rw [if_neg k0] at ok he ol ⊢
  by_cases k1 : kL (pS c n r) = 1
  · rw [if_pos k1] at ok he ol ⊢
    by_cases d1 : 48 ≤ pS c n (r + 1) ∧ pS c n (r + 1) ≤ 57
    · rw [if_pos d1] at ok he ol ⊢
      obtain ⟨G2, e2, s2⟩ := rs_go (f := 5999) P s1 (by decide) (by omega) (by omega) (Or.inl d1)
      rw [if_pos d1, if_neg (show ¬ pS c n (r + 1) = 45 by omega), Nat.mul_zero, Nat.zero_add] at s2
      by_cases d2 : pS c n (r + 1) = 49 ∧ 48 ≤ pS c n (r + 2) ∧ pS c n (r + 2) ≤ 49
      · rw [if_pos d2] at he ol ⊢
        dsimp only at he ol ⊢
        obtain ⟨G3, e3, s3⟩ := rs_go (f := 5998) (k := r + 2) P s2 (by omega) (by omega) (by omega) (Or.inl (by omega))
        rw [if_pos (show 48 ≤ pS c n (r + 2) ∧ pS c n (r + 2) ≤ 57 by omega), if_neg (show ¬ pS c n (r + 2) = 45 by omega), d2.1] at s3
        obtain ⟨G4, e4, s4⟩ := rs_stop (f := 5997) (k := r + 3) P s3 (by omega) he
        exact ⟨G4, by rw [e2, e3, e4], s4⟩
      · rw [if_neg d2] at he ol ⊢
        dsimp only at he ol ⊢
        obtain ⟨G4, e4, s4⟩ := rs_stop (f := 5998) (k := r + 2) P s2 (by omega) he
        exact ⟨G4, by rw [e2, e4], s4⟩
    · rw [if_neg d1] at ok; cases ok
  rw [if_neg k1] at ok he ol ⊢
  by_cases k2 : kL (pS c n r) = 2
  · rw [if_pos k2] at ok he ol ⊢
    by_cases d1 : 48 ≤ pS c n (r + 1) ∧ pS c n (r + 1) ≤ 52
    · rw [if_pos d1] at ok he ol ⊢
      obtain ⟨G2, e2, s2⟩ := rs_go (f := 5999) P s1 (by decide) (by omega) (by omega) (Or.inl (by omega))
      rw [if_pos (show 48 ≤ pS c n (r + 1) ∧ pS c n (r + 1) ≤ 57 by omega), if_neg (show ¬ pS c n (r + 1) = 45 by omega), Nat.mul_zero, Nat.zero_add] at s2
      by_cases p43 : pS c n (r + 2) = 43
      · rw [if_pos p43] at he ol ⊢
        dsimp only at he ol ⊢
        obtain ⟨G3, e3, s3⟩ := rs_go (f := 5998) (k := r + 2) P s2 (by omega) (by omega) (by omega) (Or.inr (Or.inl p43))
        rw [if_neg (show ¬ (48 ≤ pS c n (r + 2) ∧ pS c n (r + 2) ≤ 57) by omega), if_neg (show ¬ pS c n (r + 2) = 45 by omega)] at s3
        obtain ⟨G4, e4, s4⟩ := rs_stop (f := 5997) (k := r + 3) P s3 (by omega) he
        exact ⟨G4, by rw [e2, e3, e4], s4⟩
      · rw [if_neg p43] at ok he ol ⊢
        by_cases p45 : pS c n (r + 2) = 45
        · rw [if_pos p45] at he ol ⊢
          dsimp only at he ol ⊢
          obtain ⟨G3, e3, s3⟩ := rs_go (f := 5998) (k := r + 2) P s2 (by omega) (by omega) (by omega) (Or.inr (Or.inr p45))
          rw [if_neg (show ¬ (48 ≤ pS c n (r + 2) ∧ pS c n (r + 2) ≤ 57) by omega), if_pos p45] at s3
          obtain ⟨G4, e4, s4⟩ := rs_stop (f := 5997) (k := r + 3) P s3 (by omega) he
          exact ⟨G4, by rw [e2, e3, e4], s4⟩
        · rw [if_neg p45] at ok; cases ok
    · rw [if_neg d1] at ok; cases ok
  · rw [if_neg k2] at ok he ol ⊢
    by_cases d1 : 49 ≤ pS c n (r + 1) ∧ pS c n (r + 1) ≤ 57
    · rw [if_pos d1] at ok he ol ⊢
      obtain ⟨G2, e2, s2⟩ := rs_go (f := 5999) P s1 (by decide) (by omega) (by omega) (Or.inl (by omega))
      rw [if_pos (show 48 ≤ pS c n (r + 1) ∧ pS c n (r + 1) ≤ 57 by omega), if_neg (show ¬ pS c n (r + 1) = 45 by omega), Nat.mul_zero, Nat.zero_add] at s2
      by_cases d2 : 48 ≤ pS c n (r + 2) ∧ pS c n (r + 2) ≤ 57
      · rw [if_pos d2] at he ol ⊢
        dsimp only at he ol ⊢
        obtain ⟨G3, e3, s3⟩ := rs_go (f := 5998) (k := r + 2) P s2 (by omega) (by omega) (by omega) (Or.inl d2)
        rw [if_pos d2, if_neg (show ¬ pS c n (r + 2) = 45 by omega)] at s3
        obtain ⟨G4, e4, s4⟩ := rs_stop (f := 5997) (k := r + 3) P s3 (by omega) he
        exact ⟨G4, by rw [e2, e3, e4], s4⟩
      · rw [if_neg d2] at he ol ⊢
        dsimp only at he ol ⊢
        obtain ⟨G4, e4, s4⟩ := rs_stop (f := 5998) (k := r + 2) P s2 (by omega) he
        exact ⟨G4, by rw [e2, e4], s4⟩
    · rw [if_neg d1] at ok; cases ok
end
