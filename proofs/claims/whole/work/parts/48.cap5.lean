section
variable {G : Gm} {S S' R R' S1 R1 : Sm} {M M' k d l : Nat}
def Br (x0 : Nat) (S S1 : Sm) : Prop := (∀ i, 1 ≤ i → i < 18 → S1 i = S i) ∧ (∀ j, j < 10 → sB S1 j 0 = sB S j 0 ∧ sB S1 j 1 = sB S j 1 ∧ sIn S1 j = sIn S j ∧ (sIn S j = true → sT S1 (sB S1 j 2) 4 = sT S (sB S j 2) 4)) ∧ (∀ x, At S1 x ↔ x = x0 ∨ At S x)
theorem vw_br {x0 : Nat} (v : Vw S R) (b : Br x0 S S1) (b' : Br x0 R R1) : Vw S1 R1 := by
  obtain ⟨v1, v2, v3⟩ := v
  obtain ⟨b1, b2, b3⟩ := b
  obtain ⟨e1, e2, e3⟩ := b'
  refine ⟨fun i i1 i2 => ?_, fun j hj => ?_, fun x => ?_⟩
  · rw [b1 i i1 i2, e1 i i1 i2]; exact v1 i i1 i2
  · obtain ⟨y0, y1, y2, y3⟩ := v2 j hj
    obtain ⟨z0, z1, z2, z3⟩ := b2 j hj
    obtain ⟨u0, u1, u2, u3⟩ := e2 j hj
    rw [z0, z1, z2, u0, u1, u2]
    refine ⟨y0, y1, y2, fun q => ?_⟩
    rw [z3 q, u3 (by rw [← y2]; exact q)]; exact y3 q
  · rw [b3, e3, v3 x]
theorem br_view {t0 x0 : Nat} (I : Inv M S) (c : CI k d S) (hd : d < 2) (hh : ∀ i, i < 382 → i ≠ 381 → S1 i = S i) (hT : ∀ t w, w < 8 → t ≠ t0 → sT S1 t w = sT S t w) (h0 : sT S1 t0 0 = k ∧ sT S1 t0 1 = d ∧ sT S1 t0 2 = 0 ∧ sT S1 t0 3 = x0) (hn : (S1 381 = S 381 ∧ t0 < S 381 ∧ sT S t0 2 = 3) ∨ (S1 381 = S 381 + 1 ∧ t0 = S 381)) (hf : ¬ At S x0) : CI k d S1 ∧ Br x0 S S1 := by
  have tn := I.tn
  have nn : NN = 4294967290 := rfl
  have lt : ∀ t, t < S1 381 → t ≠ t0 → t < S 381 := by
    intro t ht ne
    rcases hn with ⟨e, -, -⟩ | ⟨e, e2⟩ <;> omega
  have lt' : ∀ t, t < S 381 → t < S1 381 := by
    intro t ht
    rcases hn with ⟨e, -, -⟩ | ⟨e, e2⟩ <;> omega
  have l0 : t0 < S1 381 := by rcases hn with ⟨e, e2, -⟩ | ⟨e, e2⟩ <;> omega
  have hB : ∀ j w, j < 10 → w < 5 → sB S1 j w = sB S j w := fun j w hj hw => hh _ (by omega) (by omega)
  have g3 : ∀ t, t < S 381 → t = t0 → sT S t 2 = 3 := by
    intro t ht e
    rcases hn with ⟨-, -, z⟩ | ⟨-, z⟩
    · rw [e]; exact z
    · omega
  obtain ⟨c1, c2, c3, c4, c5⟩ := c
  refine ⟨⟨fun t ht => ?_, fun t t' ht ht' ne q1 q2 => ?_, fun j hj q => ?_, fun j hj => ?_, fun t ht q => ?_⟩, fun i i1 i2 => hh i (by omega) (by omega), fun j hj => ⟨hB j 0 hj (by decide), hB j 1 hj (by decide), ?_⟩, fun x => ?_⟩
  · by_cases e : t = t0
    · rw [e]; exact ⟨h0.1, h0.2.1, by omega⟩
    · rw [hT t 0 (by decide) e, hT t 1 (by decide) e, hT t 2 (by decide) e]; exact c1 t (lt t ht e)
  · by_cases e : t = t0
    · have e' : t' ≠ t0 := fun z => ne (e.trans z.symm)
      rw [e, h0.2.2.1, hT t' 2 (by decide) e'] at q1
      rw [e, h0.2.2.2, hT t' 3 (by decide) e']
      exact fun z => hf ⟨t', lt t' ht' e', q1.symm, z.symm⟩
    · by_cases e' : t' = t0
      · rw [e', h0.2.2.1, hT t 2 (by decide) e] at q1
        rw [e', h0.2.2.2, hT t 3 (by decide) e]
        exact fun z => hf ⟨t, lt t ht e, q1, z⟩
      · rw [hT t 2 (by decide) e] at q1 q2
        rw [hT t' 2 (by decide) e'] at q1
        rw [hT t 3 (by decide) e, hT t' 3 (by decide) e']
        exact c2 t t' (lt t ht e) (lt t' ht' e') ne q1 q2
  · rw [hB j 0 hj (by decide), hB j 1 hj (by decide)]; exact c3 j hj q
  · rw [hB j 3 hj (by decide)]; exact c4 j hj
  · have e : t ≠ t0 := by rintro rfl; omega
    have tl := lt t ht e
    rw [hT t 2 (by decide) e] at q
    obtain ⟨r1, r2⟩ := run_lt I ⟨c1, c2, c3, c4, c5⟩ hd tl q
    rw [hT t 3 (by decide) e, hB _ 0 r1 (by decide), hB _ 2 r1 (by decide)]
    exact c5 t tl q
  · rw [hB j 2 hj (by decide)]
    by_cases e : sB S j 2 = t0
    · have ol : sB S j 2 < S 381 := by
        rcases (I.bk hj).2.2.1 with z | z
        · rcases hn with ⟨-, e2, -⟩ | ⟨-, e2⟩ <;> omega
        · exact z
      have f1 : sIn S j = false := by
        cases z : sIn S j with
        | false => rfl
        | true => have := (in_iff.mp z).2.1; rw [g3 _ ol e] at this; exact absurd this (by decide)
      have f2 : sIn S1 j = false := by
        cases z : sIn S1 j with
        | false => rfl
        | true =>
          have := (in_iff.mp z).2.1
          rw [hB j 2 hj (by decide), e, h0.2.2.1] at this; exact absurd this (by decide)
      rw [f1, f2]
      exact ⟨rfl, fun q => by cases q⟩
    · refine ⟨?_, fun _ => hT _ 4 (by decide) e⟩
      unfold sIn
      rw [hB j 2 hj (by decide), hT _ 2 (by decide) e, hT _ 3 (by decide) e]
  · constructor
    · rintro ⟨t, a1, a2, a3⟩
      by_cases e : t = t0
      · left; rw [e, h0.2.2.2] at a3; exact a3.symm
      · right
        rw [hT t 2 (by decide) e] at a2
        rw [hT t 3 (by decide) e] at a3
        exact ⟨t, lt t a1 e, a2, a3⟩
    · rintro (rfl | ⟨t, a1, a2, a3⟩)
      · exact ⟨t0, l0, h0.2.2.1, h0.2.2.2⟩
      · have e : t ≠ t0 := fun z => by have := g3 t a1 z; omega
        exact ⟨t, lt' t a1, by rw [hT t 2 (by decide) e]; exact a2, by rw [hT t 3 (by decide) e]; exact a3⟩
theorem pigeon : ∀ n (f : Nat → Nat), (∀ i, i < n + 1 → f i < n) → ∃ i j, i < j ∧ j < n + 1 ∧ f i = f j := by
  intro n
  induction n with
  | zero => intro f h; exact absurd (h 0 (by omega)) (by omega)
  | succ n ih =>
    intro f h
    by_cases c : ∃ i, i < n + 1 ∧ f i = f (n + 1)
    · obtain ⟨i, h1, h2⟩ := c
      exact ⟨i, n + 1, h1, by omega, h2⟩
    · have hl := h (n + 1) (by omega)
      obtain ⟨i, j, h1, h2, h3⟩ := ih (fun i => if f i = n then f (n + 1) else f i) (fun i hi => by
        have hi' := h i (by omega)
        have ne : f i ≠ f (n + 1) := fun z => c ⟨i, hi, z⟩
        show (if f i = n then f (n + 1) else f i) < n
        split <;> omega)
      refine ⟨i, j, h1, by omega, ?_⟩
      have h3 : (if f i = n then f (n + 1) else f i) = (if f j = n then f (n + 1) else f j) := h3
      have ni : f i ≠ f (n + 1) := fun z => c ⟨i, by omega, z⟩
      have nj : f j ≠ f (n + 1) := fun z => c ⟨j, h2, z⟩
      by_cases a : f i = n
      · by_cases b : f j = n
        · omega
        · rw [if_pos a, if_neg b] at h3; exact absurd h3.symm nj
      · by_cases b : f j = n
        · rw [if_neg a, if_pos b] at h3; exact absurd h3 ni
        · rw [if_neg a, if_neg b] at h3; exact h3
theorem room (I : Inv 12 S) (c : CI k d S) (h : ∀ t, t < S 381 → sT S t 2 ≠ 3) : S 381 < 12 := by
  have tn := I.tn
  have bx := I.bx
  by_cases e : S 381 < 12
  · exact e
  · obtain ⟨i, j, h1, h2, h3⟩ := pigeon 11 (fun t => if sT S t 2 = 0 then sT S t 3 else 6 + sT S t 3) (fun t ht => by
      have tr := I.tr (t := t) (by omega)
      have := (c.1 t (by omega)).2.2
      have := h t (by omega)
      show (if sT S t 2 = 0 then sT S t 3 else 6 + sT S t 3) < 11
      split
      · have := tr.2.2.2.2.1 (by omega); omega
      · have := tr.2.2.2.2.2.1 (by omega); omega)
    have ti := I.tr (t := i) (by omega)
    have tj := I.tr (t := j) (by omega)
    have ai := (c.1 i (by omega)).2.2
    have aj := (c.1 j (by omega)).2.2
    have gi := h i (by omega)
    have gj := h j (by omega)
    have h3 : (if sT S i 2 = 0 then sT S i 3 else 6 + sT S i 3) = (if sT S j 2 = 0 then sT S j 3 else 6 + sT S j 3) := h3
    have u := c.2.1 i j (by omega) (by omega) (by omega)
    by_cases a : sT S i 2 = 0
    · have := ti.2.2.2.2.1 (by omega)
      by_cases b : sT S j 2 = 0
      · rw [if_pos a, if_pos b] at h3
        exact absurd h3 (u (by omega) gi)
      · rw [if_pos a, if_neg b] at h3; omega
    · by_cases b : sT S j 2 = 0
      · have := tj.2.2.2.2.1 (by omega)
        rw [if_neg a, if_pos b] at h3; omega
      · rw [if_neg a, if_neg b] at h3
        exact absurd (show sT S i 3 = sT S j 3 by omega) (u (by omega) gi)
theorem i_start (I : Inv M S) {t : Nat} (ht : t < S 381) (hg : sT S t 2 = 3) (hk : 1 ≤ k ∧ k ≤ 5) (hd : d < 2) : Inv M (sStart S t k d) := by
  have bx := I.bx
  have fl : sFirst S d < S 1 := by unfold sFirst; split <;> omega
  have tn := I.tn
  refine i_trn I ht ?_ (fun i h => sStart_ne (by omega)) ?_ (fun j hj => Or.inl ⟨fun q => ?_, fun q1 q2 => ?_⟩)
  · unfold sStart
    exact su_lt (su_lt (su_lt (su_lt (su_lt (su_lt (su_lt (su_lt I.1 (by omega)) (by omega)) (by omega)) (by omega)) (by omega)) (by omega)) (I.1 0)) (by decide)
  · unfold TR
    rw [sStart_at (by decide), sStart_at (by decide), sStart_at (by decide), sStart_at (by decide), sStart_at (by decide), sStart_at (by decide), sStart_at (by decide), sStart_ne (show 1 < 382 + 8 * t ∨ _ by omega), sStart_ne (show 0 < 382 + 8 * t ∨ _ by omega)]
    simp only [if_true, if_neg (show ¬ (1 : Nat) = 0 by decide), if_neg (show ¬ (2 : Nat) = 0 by decide), if_neg (show ¬ (2 : Nat) = 1 by decide), if_neg (show ¬ (3 : Nat) = 0 by decide), if_neg (show ¬ (3 : Nat) = 1 by decide), if_neg (show ¬ (3 : Nat) = 2 by decide), if_neg (show ¬ (4 : Nat) = 0 by decide), if_neg (show ¬ (4 : Nat) = 1 by decide), if_neg (show ¬ (4 : Nat) = 2 by decide), if_neg (show ¬ (4 : Nat) = 3 by decide), if_neg (show ¬ (5 : Nat) = 0 by decide), if_neg (show ¬ (5 : Nat) = 1 by decide), if_neg (show ¬ (5 : Nat) = 2 by decide), if_neg (show ¬ (5 : Nat) = 3 by decide), if_neg (show ¬ (5 : Nat) = 4 by decide), if_neg (show ¬ (6 : Nat) = 0 by decide), if_neg (show ¬ (6 : Nat) = 1 by decide), if_neg (show ¬ (6 : Nat) = 2 by decide), if_neg (show ¬ (6 : Nat) = 3 by decide), if_neg (show ¬ (6 : Nat) = 4 by decide), if_neg (show ¬ (6 : Nat) = 5 by decide)]
    refine ⟨hk.1, hk.2, by omega, by omega, fun _ => fl, fun q => by omega, by omega, by omega, Nat.le_refl _⟩
  · have nn : NN = 4294967290 := rfl
    have := ((I.ps hj).1 (by omega)).1
    rw [q, hg] at this
    exact absurd this (by decide)
  · have := ((I.ps hj).2 q1).1
    rw [q2, hg] at this
    exact absurd this (by decide)
theorem br_same (c : CI k d S) {x0 : Nat} (h : At S x0) : Br x0 S S := ⟨fun _ _ _ => rfl, fun _ _ => ⟨rfl, rfl, rfl, fun _ => rfl⟩, fun x => ⟨fun q => Or.inr q, fun q => q.elim (fun e => by rw [e]; exact h) id⟩⟩
theorem br_add (I : Inv M S) (c : CI k d S) (hd : d < 2) (hf : sFr S (sFirst S d) d = true) : CI k d (sAdd S k d).2 ∧ Br (sFirst S d) S (sAdd S k d).2 := by
  have e : (sAdd S k d).2 = su (sStart S (S 381) k d) 381 (S 381 + 1) := rfl
  rw [e]
  refine br_view (t0 := S 381) I c hd (fun i h1 h2 => ?_) (fun t w hw ne => ?_) ⟨?_, ?_, ?_, ?_⟩ (Or.inr ⟨su_at _ _ _, rfl⟩) ((fr_at c).mp hf)
  · rw [su_ne h2, sStart_ne (by omega)]
  · show su _ _ _ _ = _
    rw [su_ne (by omega), sStart_ne (by omega)]
  · show su _ _ _ _ = _
    rw [su_ne (by omega)]; exact sStart_at (by decide)
  · show su _ _ _ _ = _
    rw [su_ne (by omega)]; exact sStart_at (by decide)
  · show su _ _ _ _ = _
    rw [su_ne (by omega)]; exact sStart_at (by decide)
  · show su _ _ _ _ = _
    rw [su_ne (by omega)]; exact sStart_at (by decide)
theorem c_spare (C : CL G l S) (I : Inv 12 S) (c : CI k d S) (hd : d < 2) (hk : 1 ≤ k ∧ k ≤ 5) : ∃ G' S1, fX1_bringSpare l (nI k) (nI d) G = some G' ∧ CL G' l S1 ∧ FrC l G G' ∧ Inv 12 S1 ∧ CI k d S1 ∧ S1 0 = S 0 ∧ S1 80 = S 80 ∧ Br (sFirst S d) S S1 := by
  have bx := I.bx
  have tn := I.tn
  have fl := sFirst_lt I d
  unfold fX1_bringSpare
  rw [c_first C.1 bx.1 hd, gm_bs, c_free C.1 I (by omega) (by omega), gm_bs]
  cases cf : sFr S (sFirst S d) d with
  | false =>
    refine ⟨G, S, by rfl, C, FrC.rf, I, c, rfl, rfl, br_same c ?_⟩
    by_cases z : At S (sFirst S d)
    · exact z
    · have := (fr_at c).mpr z
      rw [cf] at this; cases this
  | true =>
    rw [if_neg (by decide)]
    have run : ∀ i, i ≤ S 381 → (∀ j, j < i → ¬ sT S j 2 = 3) → fX1_bringSpare_h19 l (nI k) (nI d) 6000 (nI (sFirst S d)) 0 G = fX1_bringSpare_h19 l (nI k) (nI d) (6000 - i) (nI (sFirst S d)) (nI i) G := by
      intro i hi hk
      obtain ⟨-, e1, -⟩ := lp (σ := Unit) (h := fun f v _ => fX1_bringSpare_h19 l (nI k) (nI d) f (nI (sFirst S d)) v G) (P := fun _ _ => True) (m := i) (fun j f s hj _ => by
        refine ⟨(), ?_, trivial⟩
        try dsimp only
        rw [fX1_bringSpare_h19.eq_2, C.1.ap, if_neg (by rw [bs_le (by omega) (by omega)]; omega), gm_gin (by omega) (by decide), C.1.t2 (by omega), if_neg (by rw [bs_l (n := 3) (I.lt _) (by decide)]; exact hk j hj), nI_1]) i 0 6000 () (by omega) (by omega) trivial
      exact e1
    rcases first_of (p := fun t => t < S 381 ∧ sT S t 2 = 3) (fun t => Classical.em _) (S 381) with ⟨i, hi, ⟨g1, g2⟩, g3⟩ | hno
    · obtain ⟨G1, e1, c1, f1, -⟩ := c_start C (t := i) (k := k) (d := d)
      have bv := br_view (S1 := sStart S i k d) (t0 := i) (x0 := sFirst S d) I c hd (fun q h1 h2 => sStart_ne (by omega)) (fun t w hw ne => sStart_ne (by omega)) ⟨sStart_at (by decide), sStart_at (by decide), sStart_at (by decide), sStart_at (by decide)⟩ (Or.inl ⟨sStart_ne (by omega), g1, g2⟩) ((fr_at c).mp cf)
      refine ⟨G1, sStart S i k d, ?_, c1, f1, i_start I g1 g2 hk hd, bv.1, sStart_ne (by omega), sStart_ne (by omega), bv.2⟩
      rw [run i hi (fun j hj z => g3 j hj ⟨by omega, z⟩)]
      obtain ⟨g, hg⟩ : ∃ g, 6000 - i = g + 1 := ⟨5999 - i, by omega⟩
      rw [hg, fX1_bringSpare_h19.eq_2, C.1.ap, if_neg (by rw [bs_le (by omega) (by omega)]; omega), gm_gin (by omega) (by decide), C.1.t2 g1, if_pos (by rw [g2]; rfl), gm_gin (by omega) (by decide), e1, gm_bs]
    · have n12 := room I c (fun t ht z => hno t (by omega) ⟨ht, z⟩)
      obtain ⟨G1, e1, c1, f1⟩ := c_bring C I n12 hd (k := k) cf
      have bv := br_add I c hd cf
      refine ⟨G1, (sAdd S k d).2, ?_, c1, f1, i_add I (by omega) hk hd, bv.1, ?_, ?_, bv.2⟩
      · rw [run (S 381) (Nat.le_refl _) (fun j hj z => hno j (by omega) ⟨hj, z⟩)]
        obtain ⟨g, hg⟩ : ∃ g, 6000 - S 381 = g + 1 := ⟨5999 - S 381, by omega⟩
        rw [hg, fX1_bringSpare_h19.eq_2, C.1.ap, if_pos ((bs_le (by omega) (by omega)).mpr (Nat.le_refl _)), e1, gm_bs]
      · show su (sStart S (S 381) k d) 381 (S 381 + 1) 0 = _
        rw [su_ne (by omega), sStart_ne (by omega)]
      · show su (sStart S (S 381) k d) 381 (S 381 + 1) 80 = _
        rw [su_ne (by omega), sStart_ne (by omega)]
/-- the reference's rows -/
def sRb (k d : Nat) (R : Sm) : Sm := if sFr R (sFirst R d) d = true then (sAdd R k d).2 else R
def sCr (k d : Nat) (R : Sm) : Nat → Sm
  | 0 => R
  | n + 1 => sWk (sRb k d (sCr k d R n))
theorem rb_ok (I : Inv 305 R) (c : CI k d R) (hd : d < 2) (hk : 1 ≤ k ∧ k ≤ 5) (hn : R 381 < 305) : Inv 305 (sRb k d R) ∧ CI k d (sRb k d R) ∧ sRb k d R 0 = R 0 ∧ sRb k d R 80 = R 80 ∧ sRb k d R 381 ≤ R 381 + 1 ∧ Br (sFirst R d) R (sRb k d R) ∧ gC (sRb k d R) 3 (sRb k d R 381) = gC R 3 (R 381) := by
  unfold sRb
  by_cases h : sFr R (sFirst R d) d = true
  · rw [if_pos h]
    have bv := br_add I c hd h
    have e : (sAdd R k d).2 = su (sStart R (R 381) k d) 381 (R 381 + 1) := rfl
    refine ⟨i_add I (by omega) hk hd, bv.1, ?_, ?_, ?_, bv.2, ?_⟩
    · rw [e, su_ne (by omega), sStart_ne (by omega)]
    · rw [e, su_ne (by omega), sStart_ne (by omega)]
    · rw [e, su_at]; exact Nat.le_refl _
    · rw [show (sAdd R k d).2 381 = R 381 + 1 by rw [e, su_at]]
      show gC _ 3 (R 381) + _ = _
      have p0 : sT (sAdd R k d).2 (R 381) 2 = 0 := by
        rw [e]
        show su _ _ _ _ = _
        rw [su_ne (by omega)]; exact sStart_at (by decide)
      rw [if_neg (by rw [p0]; decide), gC_of (S := R) 3 (R 381) (fun t ht => by
        rw [show sT (sAdd R k d).2 t 2 = sT R t 2 by
          rw [e]
          show su _ _ _ _ = _
          rw [su_ne (by omega), sStart_ne (by omega)]])]
      rfl
  · rw [if_neg h]
    refine ⟨I, c, rfl, rfl, Nat.le_succ _, br_same c ?_, rfl⟩
    by_cases z : At R (sFirst R d)
    · exact z
    · exact absurd ((fr_at c).mpr z) h
end
