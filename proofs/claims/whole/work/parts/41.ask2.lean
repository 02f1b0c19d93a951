section
variable {G : Gm} {S : Sm} {M l : Nat}
theorem rC_s (p : Nat → Bool) (n : Nat) : rC p (n + 1) = rC p n + (if p (n % 60) then 1 else 0) := rfl
def rP (S : Sm) (x z : Int32) (k : Nat) : Bool := decide (nI (S (81 + 5 * k + 4)) = x ∧ (z = -1 ∨ nI (S (81 + 5 * k + 1)) = z))
theorem c_cnt (C : CL0 G l S) (hr : S 80 < 2147483647) (x z : Int32) : fX3_countOf l x z G = some (nI (rC (rP S x z) (S 80) - rC (rP S x z) (S 80 - 60))) := by
  unfold fX3_countOf
  rw [c_old C (by omega), gm_bs]
  generalize hp : rP S x z = p
  have mo := rC_mono p (S 80 - 60)
  obtain ⟨v, e1, -, hv⟩ := lp (σ := Int32) (h := fun f v s => fX3_countOf_h8 l x z G f s v) (P := fun i s => S 80 - 60 ≤ i ∧ s = nI (rC p i - rC p (S 80 - 60))) (m := S 80) (fun i f s hi hP => by
    obtain ⟨hle, hP⟩ := hP
    refine ⟨nI (rC p (i + 1) - rC p (S 80 - 60)), ?_, by omega, rfl⟩
    try dsimp only
    have m1 := mo (i - (S 80 - 60))
    rw [show S 80 - 60 + (i - (S 80 - 60)) = i by omega] at m1
    have e4 : nI (i % 60 * 5) + 4 = nI (i % 60 * 5 + 4) := nI_add _ _
    have e1 : nI (i % 60 * 5) + 1 = nI (i % 60 * 5 + 1) := nI_add _ _
    have g4 := C.2.2.2.2.1 (i % 60 * 5 + 4) (by omega) (by omega)
    have g1 := C.2.2.2.2.1 (i % 60 * 5 + 1) (by omega) (by omega)
    rw [show 81 + (i % 60 * 5 + 4) = 81 + 5 * (i % 60) + 4 by omega] at g4
    rw [show 81 + (i % 60 * 5 + 1) = 81 + 5 * (i % 60) + 1 by omega] at g1
    rw [fX3_countOf_h8.eq_2, C.1.2.2.2, if_neg (by rw [bs_le (by omega) (by omega)]; omega), c_row (by omega), gm_bs, e4, gm_gin (by omega) (by decide), g4, e1, gm_gin (by omega) (by decide), g1, hP, nI_1, nI_1]
    have hd : p (i % 60) = decide (nI (S (81 + 5 * (i % 60) + 4)) = x ∧ (z = -1 ∨ nI (S (81 + 5 * (i % 60) + 1)) = z)) := by rw [← hp]; rfl
    by_cases c1 : nI (S (81 + 5 * (i % 60) + 4)) = x
    · rw [if_pos c1]
      by_cases c2 : z = -1
      · rw [if_pos c2, rC_s, hd, if_pos (decide_eq_true ⟨c1, Or.inl c2⟩), show rC p i + 1 - rC p (S 80 - 60) = rC p i - rC p (S 80 - 60) + 1 by omega]
      · rw [if_neg c2]
        by_cases c3 : nI (S (81 + 5 * (i % 60) + 1)) = z
        · rw [if_pos c3, rC_s, hd, if_pos (decide_eq_true ⟨c1, Or.inr c3⟩), show rC p i + 1 - rC p (S 80 - 60) = rC p i - rC p (S 80 - 60) + 1 by omega]
        · rw [if_neg c3, rC_s, hd, if_neg (by rw [decide_eq_true_iff]; exact fun q => q.2.elim c2 c3)]
          rfl
    · rw [if_neg c1, rC_s, hd, if_neg (by rw [decide_eq_true_iff]; exact fun q => c1 q.1)]
      rfl) (S 80 - (S 80 - 60)) (S 80 - 60) 6000 0 (by omega) (by omega) ⟨Nat.le_refl _, by rw [Nat.sub_self]; rfl⟩
  try dsimp only at e1
  obtain ⟨g, hg⟩ : ∃ g, 6000 - (S 80 - (S 80 - 60)) = g + 1 := ⟨5999 - (S 80 - (S 80 - 60)), by omega⟩
  refine Eq.trans e1 ?_
  rw [hg, fX3_countOf_h8.eq_2, C.1.2.2.2, if_pos ((bs_le (by omega) (by omega)).mpr (Nat.le_refl _)), hv]
theorem m_cnt (h : MA G S) (x z : Int32) {n : Nat} (hn : n ≤ 60) : fX7_rung_h46 x z G 6000 (nI n) 0 0 = some (nI (rC (rP S x z) n)) := by
  generalize hp : rP S x z = p
  obtain ⟨v, e1, hv⟩ := lp (σ := Int32) (h := fun f v s => fX7_rung_h46 x z G f (nI n) s v) (P := fun i s => s = nI (rC p i)) (m := n) (fun i f s hi hP => by
    refine ⟨nI (rC p (i + 1)), ?_, rfl⟩
    try dsimp only
    have e4 : (81 : Int32) + 5 * nI i + 4 = nI (81 + 5 * i + 4) := by simp only [bs_nat, bs_mul, nI_add]
    have e1 : (81 : Int32) + 5 * nI i + 1 = nI (81 + 5 * i + 1) := by simp only [bs_nat, bs_mul, nI_add]
    rw [fX7_rung_h46.eq_2, if_neg (by rw [bs_le (by omega) (by omega)]; omega), e4, gm_gin (by omega) (by decide), h _ (by omega), e1, gm_gin (by omega) (by decide), h _ (by omega), hP, Int32.add_zero, nI_1, nI_1]
    have hd : p (i % 60) = decide (nI (S (81 + 5 * i + 4)) = x ∧ (z = -1 ∨ nI (S (81 + 5 * i + 1)) = z)) := by rw [← hp, show i % 60 = i by omega]; rfl
    by_cases c1 : nI (S (81 + 5 * i + 4)) = x
    · rw [if_pos c1]
      by_cases c2 : z = -1
      · rw [if_pos c2, rC_s, hd, if_pos (decide_eq_true ⟨c1, Or.inl c2⟩)]
      · rw [if_neg c2]
        by_cases c3 : nI (S (81 + 5 * i + 1)) = z
        · rw [if_pos c3, rC_s, hd, if_pos (decide_eq_true ⟨c1, Or.inr c3⟩)]
        · rw [if_neg c3, rC_s, hd, if_neg (by rw [decide_eq_true_iff]; exact fun q => q.2.elim c2 c3)]
          rfl
    · rw [if_neg c1, rC_s, hd, if_neg (by rw [decide_eq_true_iff]; exact fun q => c1 q.1)]
      rfl) n 0 6000 0 (by omega) (by omega) rfl
  try dsimp only at e1
  obtain ⟨g, hg⟩ : ∃ g, 6000 - n = g + 1 := ⟨5999 - n, by omega⟩
  refine Eq.trans e1 ?_
  rw [hg, fX7_rung_h46.eq_2, if_pos ((bs_le (by omega) (by omega)).mpr (Nat.le_refl _)), hv]
theorem q_rung (C : CL G 0 S) (I : Inv 12 S) (hr : S 80 < 2147483647) (x z : Int32) : Ask G S (fX6_rung x z G) (fX7_rung x z) := by
  have rk : rC (rP S x z) (S 80) - rC (rP S x z) (S 80 - 60) = rC (rP S x z) (if 60 ≤ S 80 then 60 else S 80) := by
    by_cases c : 60 ≤ S 80
    · have := rC_60 (rP S x z) (S 80 - 60)
      rw [show S 80 - 60 + 60 = S 80 by omega] at this
      rw [if_pos c, this]; omega
    · rw [if_neg c, show S 80 - 60 = 0 by omega]; exact Nat.sub_zero _
  have p7 : ∀ G1, MA G1 S → (if 60 ≤ G1 8 5 0 80 then fX7_rung_h46 x z G1 6000 60 0 0 else fX7_rung_h46 x z G1 6000 (G1 8 5 0 80) 0 0) = some (nI (rC (rP S x z) (if 60 ≤ S 80 then 60 else S 80))) := by
    intro G1 m
    rw [m 80 (by decide)]
    by_cases c : 60 ≤ S 80
    · rw [if_pos c, if_pos (by rw [show (60 : Int32) = nI 60 from rfl, bs_le (by decide) (by omega)]; exact c)]
      exact m_cnt m x z (Nat.le_refl 60)
    · rw [if_neg c, if_neg (by rw [show (60 : Int32) = nI 60 from rfl, bs_le (by decide) (by omega)]; exact c)]
      exact m_cnt m x z (by omega)
  by_cases c : z = -1
  · refine ⟨nI (rC (rP S x z) (if 60 ≤ S 80 then 60 else S 80)), ?_, fun G1 m => ?_⟩
    · unfold fX6_rung
      rw [if_pos c, c_cnt C.1 hr x z, gm_bs, rk]
    · unfold fX7_rung
      rw [if_pos c, p7 G1 m]
  · rcases m_csec S z with ⟨s, hs, rfl⟩ | hz
    · refine ⟨nI (rC (rP S x (nI s)) (if 60 ≤ S 80 then 60 else S 80)), ?_, fun G1 m => ?_⟩
      · unfold fX6_rung
        rw [if_neg c, c_sec C.1 I hs, gm_bs, gm_els, c_cnt C.1 hr x _, gm_bs, rk]
      · unfold fX7_rung
        rw [if_neg c, m_sec m I hs, gm_bs, if_neg (by decide), p7 G1 m]
    · refine ⟨-1, ?_, fun G1 m => ?_⟩
      · unfold fX6_rung
        rw [if_neg c, c_sec0 C.1 I hz, gm_bs, gm_eln]
      · unfold fX7_rung
        rw [if_neg c, m_sec0 m I hz, gm_bs, if_pos rfl]
/-- how many blocks -/
def bC (p : Nat → Bool) : Nat → Nat
  | 0 => 0
  | n + 1 => bC p n + (if p n then 1 else 0)
theorem c_bo (C : CL0 G l S) (I : Inv 12 S) {w : Nat} {a b : Int32} {p : Nat → Bool} (hp : ∀ j, j < 10 → fX0_property l j a G = some (nI (sB S j w))) (hq : ∀ j, j < 10 → (nI (sB S j w) = b ↔ p j = false)) : fX1_blocksOtherThan l a b G = some (nI (bC p (2 * (S 1 - 1)))) := by
  have bx := I.bx
  unfold fX1_blocksOtherThan
  obtain ⟨v, e1, hv⟩ := lp (σ := Int32) (h := fun f v s => fX1_blocksOtherThan_h5 l a b G f s v) (P := fun i s => s = nI (bC p i)) (m := 2 * (S 1 - 1)) (fun i f s hi hP => by
    refine ⟨nI (bC p (i + 1)), ?_, rfl⟩
    try dsimp only
    rw [fX1_blocksOtherThan_h5.eq_2, bc_eq C bx.1, gm_bs, if_neg (by rw [bs_le (by omega) (by omega)]; omega), gm_gin (by omega) (by decide), hp i (by omega), gm_bs, hP, nI_1, nI_1]
    have e : bC p (i + 1) = bC p i + (if p i then 1 else 0) := rfl
    rw [e]
    cases c : p i with
    | false => rw [if_pos ((hq i (by omega)).mpr c)]; rfl
    | true => rw [if_neg (fun q => by rw [(hq i (by omega)).mp q] at c; cases c)]; rfl) (2 * (S 1 - 1)) 0 6000 0 (by omega) (by omega) rfl
  try dsimp only at e1
  obtain ⟨g, hg⟩ : ∃ g, 6000 - 2 * (S 1 - 1) = g + 1 := ⟨5999 - 2 * (S 1 - 1), by omega⟩
  refine Eq.trans e1 ?_
  rw [hg, fX1_blocksOtherThan_h5.eq_2, bc_eq C bx.1, gm_bs, if_pos ((bs_le (by omega) (by omega)).mpr (Nat.le_refl _)), hv]
theorem m_bw (h : MA G S) (I : Inv 12 S) {w : Nat} {p : Nat → Bool} (hw : w < 5) (hq1 : w = 1 → ∀ j, j < 10 → (nI (sB S j w) < 0 ↔ p j = false)) (hq0 : w ≠ 1 → ∀ j, j < 10 → (nI (sB S j w) = 0 ↔ p j = false)) : fX7_blocksWith (nI w) G = some (nI (bC p (2 * (S 1 - 1)))) := by
  have bx := I.bx
  have e2 : (2 : Int32) * (nI (S 1) - 1) = nI (2 * (S 1 - 1)) := by rw [show (1 : Int32) = nI 1 from rfl, bs_sub (by omega)]; exact bs_mul 2 _
  unfold fX7_blocksWith
  obtain ⟨v, e1, hv⟩ := lp (σ := Int32) (h := fun f v s => fX7_blocksWith_h4 (nI w) G f s v) (P := fun i s => s = nI (bC p i)) (m := 2 * (S 1 - 1)) (fun i f s hi hP => by
    refine ⟨nI (bC p (i + 1)), ?_, rfl⟩
    try dsimp only
    have e4 : (30 : Int32) + 5 * nI i + nI w = nI (30 + 5 * i + w) := by simp only [bs_nat, bs_mul, nI_add]
    rw [fX7_blocksWith_h4.eq_2]
    unfold fX7_sections
    rw [gm_bs, h 1 (by decide), e2, if_neg (by rw [bs_le (by omega) (by omega)]; omega), e4, gm_gin (by omega) (by decide), h _ (by omega), hP, Int32.add_zero, nI_1, nI_1]
    have e : bC p (i + 1) = bC p i + (if p i then 1 else 0) := rfl
    rw [e]
    by_cases w1 : w = 1
    · rw [if_pos (by rw [w1]; rfl)]
      have hq := hq1 w1 i (by omega)
      cases c : p i with
      | false => rw [if_pos (hq.mpr c)]; rfl
      | true => rw [if_neg (fun q => by rw [hq.mp q] at c; cases c)]; rfl
    · rw [if_neg (by rw [bs_l (by omega) (by decide)]; exact w1)]
      have hq := hq0 w1 i (by omega)
      cases c : p i with
      | false => rw [if_pos (hq.mpr c)]; rfl
      | true => rw [if_neg (fun q => by rw [hq.mp q] at c; cases c)]; rfl) (2 * (S 1 - 1)) 0 6000 0 (by omega) (by omega) rfl
  try dsimp only at e1
  obtain ⟨g, hg⟩ : ∃ g, 6000 - 2 * (S 1 - 1) = g + 1 := ⟨5999 - 2 * (S 1 - 1), by omega⟩
  refine Eq.trans e1 ?_
  rw [hg, fX7_blocksWith_h4.eq_2]
  unfold fX7_sections
  rw [gm_bs, h 1 (by decide), e2, if_pos ((bs_le (by omega) (by omega)).mpr (Nat.le_refl _)), hv]
theorem some_id {α : Type} (r : Option α) : (r.bind fun q => some q) = r := by cases r <;> rfl
theorem q_count (C : CL G 0 S) (I : Inv 12 S) (x : Int32) : ∃ v, fX6_count x G = some v ∧ ∀ G1, MA G1 S → G1 7 5 0 5 = G 2 4 0 1 → fX7_count x G1 = some v := by
  unfold fX6_count fX7_count
  simp only [some_id]
  by_cases x0 : x = 0
  · exact ⟨_, by rw [if_pos x0, C.1.tm], fun G1 m _ => by rw [if_pos x0, m 0 (by decide)]⟩
  by_cases x1 : x = 1
  · exact ⟨_, by rw [if_neg x0, if_pos x1, C.1.ap], fun G1 m _ => by rw [if_neg x0, if_pos x1, m 381 (by decide)]⟩
  by_cases x2 : x = 2
  · exact ⟨_, by rw [if_neg x0, if_neg x1, if_pos x2]; exact c_at C.1 I (p := 3) (by decide), fun G1 m _ => by rw [if_neg x0, if_neg x1, if_pos x2]; exact m_at m I (p := 3) (by decide)⟩
  by_cases x3 : x = 3
  · exact ⟨_, by rw [if_neg x0, if_neg x1, if_neg x2, if_pos x3]; exact c_at C.1 I (p := 2) (by decide), fun G1 m _ => by rw [if_neg x0, if_neg x1, if_neg x2, if_pos x3]; exact m_at m I (p := 2) (by decide)⟩
  by_cases x4 : x = 4
  · exact ⟨_, by rw [if_neg x0, if_neg x1, if_neg x2, if_neg x3, if_pos x4, C.1.1.2.2.2], fun G1 m _ => by rw [if_neg x0, if_neg x1, if_neg x2, if_neg x3, if_pos x4, m 80 (by decide)]⟩
  by_cases x5 : x = 5
  · refine ⟨nI (bC (fun j => decide (sB S j 0 ≠ 0)) (2 * (S 1 - 1))), ?_, fun G1 m _ => ?_⟩
    · rw [if_neg x0, if_neg x1, if_neg x2, if_neg x3, if_neg x4, if_pos x5]
      exact c_bo C.1 I (w := 0) (fun j hj => by unfold fX0_property; rw [if_pos rfl, C.1.b0 hj]) (fun j hj => by rw [bs_l (I.lt _) (by decide), decide_eq_false_iff_not, Decidable.not_not])
    · rw [if_neg x0, if_neg x1, if_neg x2, if_neg x3, if_neg x4, if_pos x5]
      exact m_bw m I (w := 0) (by decide) (fun q => by cases q) (fun _ j hj => by rw [bs_l (I.lt _) (by decide), decide_eq_false_iff_not, Decidable.not_not])
  by_cases x6 : x = 6
  · exact ⟨_, by rw [if_neg x0, if_neg x1, if_neg x2, if_neg x3, if_neg x4, if_neg x5, if_pos x6, C.1.bx], fun G1 m _ => by rw [if_neg x0, if_neg x1, if_neg x2, if_neg x3, if_neg x4, if_neg x5, if_pos x6, m 1 (by decide)]⟩
  by_cases x7 : x = 7
  · exact ⟨_, by rw [if_neg x0, if_neg x1, if_neg x2, if_neg x3, if_neg x4, if_neg x5, if_neg x6, if_pos x7], fun G1 m e => by rw [if_neg x0, if_neg x1, if_neg x2, if_neg x3, if_neg x4, if_neg x5, if_neg x6, if_pos x7, e]⟩
  by_cases x8 : x = 8
  · refine ⟨nI (bC (fun j => decide (sB S j 3 ≠ 0)) (2 * (S 1 - 1))), ?_, fun G1 m _ => ?_⟩
    · rw [if_neg x0, if_neg x1, if_neg x2, if_neg x3, if_neg x4, if_neg x5, if_neg x6, if_neg x7, if_pos x8]
      exact c_bo C.1 I (w := 3) (fun j hj => by unfold fX0_property; rw [if_neg (by decide), if_neg (by decide), if_neg (by decide), if_pos rfl, C.1.b3 hj, bs_01' (I.bk hj).2.2.2.1]) (fun j hj => by rw [bs_l (I.lt _) (by decide), decide_eq_false_iff_not, Decidable.not_not])
    · rw [if_neg x0, if_neg x1, if_neg x2, if_neg x3, if_neg x4, if_neg x5, if_neg x6, if_neg x7, if_pos x8]
      exact m_bw m I (w := 3) (by decide) (fun q => absurd q (by decide)) (fun _ j hj => by rw [bs_l (I.lt _) (by decide), decide_eq_false_iff_not, Decidable.not_not])
  by_cases x9 : x = 9
  · refine ⟨nI (bC (fun j => decide (sB S j 1 ≠ NN)) (2 * (S 1 - 1))), ?_, fun G1 m _ => ?_⟩
    · rw [if_neg x0, if_neg x1, if_neg x2, if_neg x3, if_neg x4, if_neg x5, if_neg x6, if_neg x7, if_neg x8, if_pos x9]
      exact c_bo C.1 I (w := 1) (fun j hj => by unfold fX0_property; rw [if_neg (by decide), if_pos rfl, C.1.b1 hj]) (fun j hj => by rw [bs_n6 (I.lt _)]; simp)
    · rw [if_neg x0, if_neg x1, if_neg x2, if_neg x3, if_neg x4, if_neg x5, if_neg x6, if_neg x7, if_neg x8, if_pos x9]
      exact m_bw m I (w := 1) (by decide) (fun _ j hj => by rw [m_off I hj]; simp) (fun q => absurd rfl q)
  · exact ⟨-2, by rw [if_neg x0, if_neg x1, if_neg x2, if_neg x3, if_neg x4, if_neg x5, if_neg x6, if_neg x7, if_neg x8, if_neg x9], fun G1 m _ => by rw [if_neg x0, if_neg x1, if_neg x2, if_neg x3, if_neg x4, if_neg x5, if_neg x6, if_neg x7, if_neg x8, if_neg x9]⟩
/-- a train starts -/
def sStart (S : Sm) (t k d : Nat) : Sm := su (su (su (su (su (su (su (su S (382 + 8 * t + 0) k) (382 + 8 * t + 1) d) (382 + 8 * t + 2) 0) (382 + 8 * t + 3) (sFirst S d)) (382 + 8 * t + 4) 0) (382 + 8 * t + 5) 1) (382 + 8 * t + 6) (S 0)) (382 + 8 * t + 7) NN
theorem sStart_ne {t k d i : Nat} (h : i < 382 + 8 * t ∨ 382 + 8 * t + 7 < i) : sStart S t k d i = S i := by
  unfold sStart
  rw [su_ne (by omega), su_ne (by omega), su_ne (by omega), su_ne (by omega), su_ne (by omega), su_ne (by omega), su_ne (by omega), su_ne (by omega)]
theorem sStart_at {t k d w : Nat} (hw : w < 8) : sT (sStart S t k d) t w = if w = 0 then k else if w = 1 then d else if w = 2 then 0 else if w = 3 then sFirst S d else if w = 4 then 0 else if w = 5 then 1 else if w = 6 then S 0 else NN := by
  show sStart S t k d (382 + 8 * t + w) = _
  unfold sStart su
  rcases (show w = 0 ∨ w = 1 ∨ w = 2 ∨ w = 3 ∨ w = 4 ∨ w = 5 ∨ w = 6 ∨ w = 7 by omega) with rfl | rfl | rfl | rfl | rfl | rfl | rfl | rfl <;> simp
theorem c_start (C : CL G l S) {t k d : Nat} : ∃ G', fX5_start l t (nI k) (nI d) (nI (sFirst S d)) (G 1 l 0 7) G = some G' ∧ CL G' l (sStart S t k d) ∧ FrC l G G' ∧ (∀ w, w < 8 → G' 5 l t (w + 1) = nI (sT (sStart S t k d) t w)) := by
  refine ⟨gm_up (gm_up (gm_up (gm_up (gm_up (gm_up (gm_up (gm_up G 5 l t 1 (nI k)) 5 l t 2 (nI d)) 5 l t 3 0) 5 l t 4 (nI (sFirst S d))) 5 l t 5 0) 5 l t 6 1) 5 l t 7 (nI (S 0))) 5 l t 8 (-6), ?_, ⟨?_, ?_⟩, FrC.rf.up.up.up.up.up.up.up.up, ?_⟩
  · unfold fX5_start fX5_standAt
    rw [C.1.tm, gm_bs]
  · unfold sStart
    exact (((((((C.1.t (w := 0) rfl rfl (by decide) (fun q => by omega)).t (w := 1) rfl rfl (by decide) (fun q => by omega)).t (w := 2) rfl rfl (by decide) (fun q => by omega)).t (w := 3) rfl rfl (by decide) (fun q => by omega)).t (w := 4) rfl rfl (by decide) (fun q => by omega)).t (w := 5) (v := 1) rfl rfl (by decide) (fun q => Or.inr rfl)).t (w := 6) rfl rfl (by decide) (fun q => by omega)).t (w := 7) (v := NN) rfl nI_NN.symm (by decide) (fun q => by omega)
  · exact C.2.of (fun s => by rw [gu_k (by decide), gu_k (by decide), gu_k (by decide), gu_k (by decide), gu_k (by decide), gu_k (by decide), gu_k (by decide), gu_k (by decide)]) (sStart_ne (by omega)) (fun j hj => sStart_ne (by omega))
  · intro w hw
    rw [sStart_at hw]
    rcases (show w = 0 ∨ w = 1 ∨ w = 2 ∨ w = 3 ∨ w = 4 ∨ w = 5 ∨ w = 6 ∨ w = 7 by omega) with rfl | rfl | rfl | rfl | rfl | rfl | rfl | rfl <;> simp [gm_up] <;> rfl
theorem CL0.inc (h : CL0 G l S) (hn : ∀ w, w < 8 → G 5 l (S 381) (w + 1) = nI (sT S (S 381) w)) : CL0 (gm_up G 1 l 0 6 (nI (S 381 + 1))) l (su S 381 (S 381 + 1)) := by
  obtain ⟨⟨a1, a2, a3, a4⟩, hs, hk, hb, hr, ht, hy⟩ := h
  have n80 : su S 381 (S 381 + 1) 80 = S 80 := su_ne (by omega)
  refine ⟨⟨?_, ?_, ?_, ?_⟩, ?_, ?_, ?_, ?_, ?_, ?_⟩
  · rw [gu_s (by decide), su_ne (by omega)]; exact a1
  · rw [gu_s (by decide), su_ne (by omega)]; exact a2
  · rw [gu_at, su_at]
  · rw [gu_k (by decide), n80]; exact a4
  · intro s q
    rw [gu_k (by decide), gu_k (by decide), gu_k (by decide), gu_k (by decide), sSg_su (by omega), su_ne (show 3 + s ≠ _ by omega), su_ne (show 8 + 2 * s ≠ _ by omega), su_ne (show 8 + 2 * s + 1 ≠ _ by omega)]
    exact hs s q
  · intro k q
    rw [gu_k (by decide), su_ne (by omega)]; exact hk k q
  · intro j' q w' q'
    have : sB (su S 381 (S 381 + 1)) j' w' = sB S j' w' := su_ne (by omega)
    rw [gu_k (by decide), this]; exact hb j' q w' q'
  · intro k q q'
    rw [n80] at q'
    rw [gu_k (by decide), su_ne (by omega)]; exact hr k q q'
  · intro t q w' q'
    rw [su_at] at q
    have : sT (su S 381 (S 381 + 1)) t w' = sT S t w' := su_ne (by omega)
    rw [gu_k (by decide), this]
    by_cases e : t = S 381
    · rw [e]; exact hn w' q'
    · exact ht t (by omega) w' q'
  · intro t q
    rw [gu_k (by decide)]; exact hy t q
theorem c_first (C : CL0 G l S) (bx : 2 ≤ S 1) {d : Nat} (hd : d < 2) : fX1_firstBox l (nI d) G = some (nI (sFirst S d)) := by
  unfold fX1_firstBox sFirst
  rw [C.bx, show nI (S 1) - 1 = nI (S 1 - 1) from bs_sub (b := 1) (by omega)]
  rcases (show d = 0 ∨ d = 1 by omega) with rfl | rfl <;> rfl
theorem sFirst_lt (I : Inv M S) (d : Nat) : sFirst S d < 6 := by
  have := I.bx
  unfold sFirst
  split <;> omega
theorem c_bring (C : CL G l S) (I : Inv 12 S) (hn : S 381 < 12) {k d : Nat} (hd : d < 2) (hf : sFr S (sFirst S d) d = true) : CS l G (fX1_bringNew l (nI k) (nI d) G) (sAdd S k d) := by
  have bx := I.bx
  have fl := sFirst_lt I d
  obtain ⟨G1, e1, c1, f1, w1⟩ := c_start C (t := S 381) (k := k) (d := d)
  have n381 : sStart S (S 381) k d 381 = S 381 := sStart_ne (by omega)
  have a1 := c1.1.ap
  rw [n381] at a1
  have inc := c1.1.inc (by rw [n381]; exact w1)
  rw [n381] at inc
  refine ⟨gm_up G1 1 l 0 6 (nI (S 381 + 1)), ?_, ⟨inc, c1.2.of (S' := su (sStart S (S 381) k d) 381 (S 381 + 1)) (fun s => gu_k (by decide)) (su_ne (by omega)) (fun j hj => su_ne (by omega))⟩, f1.up⟩
  unfold fX1_bringNew
  rw [c_first C.1 bx.1 hd, gm_bs, C.1.ap, if_neg (by rw [show (12 : Int32) = nI 12 from rfl, bs_le (by decide) (by omega)]; omega), c_free C.1 I (by omega) (by omega), gm_bs, hf, if_neg (by decide), gm_gin hn (by decide), e1, gm_bs, a1, nI_1]
  rfl
theorem op_appear (C : CL G 0 S) (I : Inv 12 S) (h0 : S 0 ≤ 1000000) (x y : Int32) : Op 500000 G S (fX6_appear x y G) (fX7_appear x y) := by
  have bx := I.bx
  have tn := I.tn
  rcases bs_rg x (a := 1) (b := 5) (by decide) (by decide) with ⟨k, k1, k2, rfl⟩ | hx
  · have ik : fX6_isKind (nI k) = some 1 := by
      unfold fX6_isKind
      rw [if_neg (by rw [show (1 : Int32) = nI 1 from rfl, bs_lt (by omega) (by decide)]; omega), if_neg (by rw [show (5 : Int32) = nI 5 from rfl, bs_lt (by decide) (by omega)]; omega)]
    rcases c_way y with ⟨d, hd, rfl⟩ | hy
    · have fl := sFirst_lt I d
      have p7 : ∀ G1, MA G1 S → fX7_appear (nI k) (nI d) G1 = (if nI (S 381) = 12 then some ((-4), G1) else if (if sFr S (sFirst S d) d then (1 : Int32) else 0) = 0 then some (-5, G1) else (fX7_add (nI k) (nI d) G1).bind fun q9 => some (q9.1, q9.2)) := by
        intro G1 m
        unfold fX7_appear
        rw [m_inr (y := 1) (z := 5) (a := 1) (b := 5) rfl rfl (by decide) (by decide) k1 k2 rfl, gm_bs, if_neg (by decide), m_way hd, gm_bs, if_neg (by decide), m 381 (by decide), m_first m I rfl hd, gm_bs, m_free m I (by omega) (by omega), gm_bs]
      have p6 : fX6_appear (nI k) (nI d) G = (if nI (S 381) < 12 then (fX1_bringNew 0 (nI k) (nI d) G).bind fun q6 => some (q6.1, q6.2) else some (-4, G)) := by
        unfold fX6_appear
        rw [ik, gm_bs, if_neg (by decide), c_dir hd, gm_bs, if_neg (by decide), C.1.ap]
      by_cases c : S 381 < 12
      · have c6 : nI (S 381) < 12 := by rw [show (12 : Int32) = nI 12 from rfl, bs_lt (by omega) (by decide)]; exact c
        have c7 : ¬ nI (S 381) = 12 := by rw [bs_l (n := 12) (by omega) (by decide)]; omega
        cases cf : sFr S (sFirst S d) d with
        | true =>
          refine ⟨sAdd S k d, ?_, fun G1 m => ?_, i_add I (by omega) ⟨k1, k2⟩ hd, ?_, ?_⟩
          · obtain ⟨G1, e1, c1, f1⟩ := c_bring C I c hd (k := k) cf
            refine ⟨G1, ?_, c1, f1⟩
            rw [p6, if_pos c6, e1, gm_bs]
          · obtain ⟨G2, e1, c1, f1⟩ := m_add m I (by omega) hd (k := k)
            refine ⟨G2, ?_, c1, f1⟩
            rw [p7 G1 m, if_neg c7, cf, if_neg (by decide), e1, gm_bs]
          · show su (sStart S (S 381) k d) 381 (S 381 + 1) 0 ≤ _
            rw [su_ne (by omega), sStart_ne (by omega)]; exact h0
          · show su (sStart S (S 381) k d) 381 (S 381 + 1) 80 ≤ _
            rw [su_ne (by omega), sStart_ne (by omega)]; exact Nat.le_add_right _ _
        | false =>
          refine Op.no C I h0 nI_m5 ?_ (fun G1 m => ?_)
          · rw [p6, if_pos c6]
            unfold fX1_bringNew
            rw [c_first C.1 bx.1 hd, gm_bs, C.1.ap, if_neg (by rw [show (12 : Int32) = nI 12 from rfl, bs_le (by decide) (by omega)]; omega), c_free C.1 I (by omega) (by omega), gm_bs, cf, if_pos (by decide), gm_bs]
          · rw [p7 G1 m, if_neg c7, cf, if_pos (by decide)]
      · have e12 : S 381 = 12 := by omega
        refine Op.no C I h0 nI_m4 ?_ (fun G1 m => ?_)
        · rw [p6, e12, if_neg (by decide)]
        · rw [p7 G1 m, e12, if_pos (show nI 12 = 12 from rfl)]
    · refine Op.no C I h0 nI_m2 ?_ (fun G1 m => ?_)
      · unfold fX6_appear
        rw [ik, gm_bs, if_neg (by decide), c_dir0 hy, gm_bs, if_pos rfl]
      · unfold fX7_appear
        rw [m_inr (y := 1) (z := 5) (a := 1) (b := 5) rfl rfl (by decide) (by decide) k1 k2 rfl, gm_bs, if_neg (by decide), m_way0 hy, gm_bs, if_pos rfl]
  · have hx : x < 1 ∨ 5 < x := hx
    refine Op.no C I h0 nI_m2 ?_ (fun G1 m => ?_)
    · unfold fX6_appear fX6_isKind
      by_cases c : x < 1
      · rw [if_pos c, gm_bs, if_pos rfl]
      · rw [if_neg c, if_pos (hx.resolve_left c), gm_bs, if_pos rfl]
    · unfold fX7_appear
      rw [m_in0 hx, gm_bs, if_pos rfl]
end
