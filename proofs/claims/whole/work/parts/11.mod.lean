theorem gm_bs {α β : Type} {a : α} {f : α → Option β} : (some a).bind f = f a := by
  cases h : (some a).bind f with
  | none => rw [← h]; rfl
  | some b => rw [← h]; rfl
theorem bs_l {v n : Nat} (hv : v < 4294967296) (hn : n < 4294967296) : (nI v = (OfNat.ofNat n : Int32)) ↔ v = n := bs_eq hv hn
theorem bs_n6 {v : Nat} (hv : v < 4294967296) : (nI v = -6) ↔ v = NN := by rw [← nI_NN]; exact bs_eq hv (by decide)
theorem bs_ge {a : Nat} (ha : a < 4294967296) : 0 ≤ nI a ↔ a < 2147483648 := by
  have h := bs_neg ha
  rw [← Int32.not_lt, h]; omega
/-- what is true of every row that comes up: M bounds the trains -/
def Inv (M : Nat) (S : Sm) : Prop :=
  (∀ k, S k < 4294967296) ∧ (2 ≤ S 1 ∧ S 1 ≤ 6 ∧ S 2 < 32) ∧ (S 381 ≤ M ∧ M ≤ 305) ∧
  (∀ s, s < 5 → 1 ≤ S (3 + s) ∧ S (3 + s) ≤ 30 ∧ S (8 + 2 * s) + S (8 + 2 * s + 1) ≤ 10 ∧ (sTo S s = true → S (8 + 2 * s) + S (8 + 2 * s + 1) ≤ 9) ∧ ¬ (sSg S s = true ∧ sOn S (2 * s) = true ∧ sOn S (2 * s + 1) = true)) ∧
  (∀ k, k < 12 → S (18 + k) ≤ 3) ∧
  (∀ j, j < 10 → sB S j 0 ≤ 3 ∧ (sB S j 1 = NN ∨ sB S j 1 < S 381) ∧ (sB S j 2 = NN ∨ sB S j 2 < S 381) ∧ sB S j 3 ≤ 1 ∧ sB S j 4 ≤ 60 ∧ (0 < sB S j 4 → sB S j 3 = 1) ∧ (sB S j 1 ≠ NN → sB S j 0 = 0) ∧ (sB S j 2 = NN ↔ sB S j 0 = 0 ∨ sB S j 0 = 3)) ∧
  (∀ t, t < S 381 → 1 ≤ sT S t 0 ∧ sT S t 0 ≤ 5 ∧ sT S t 1 ≤ 1 ∧ sT S t 2 ≤ 3 ∧ (sT S t 2 ≤ 1 → sT S t 3 < S 1) ∧ (sT S t 2 = 2 → sT S t 3 + 1 < S 1) ∧ sT S t 4 ≤ 60 ∧ sT S t 5 ≤ 1 ∧ sT S t 6 ≤ S 0) ∧
  (∀ j, j < 10 → (sB S j 1 ≠ NN → sT S (sB S j 1) 2 = 0 ∧ sT S (sB S j 1) 3 = sRr j ∧ sT S (sB S j 1) 1 = j % 2) ∧ (sB S j 0 = 1 → sT S (sB S j 2) 2 = 0 ∧ sT S (sB S j 2) 3 = sRr j ∧ sT S (sB S j 2) 1 = j % 2)) ∧
  (∀ j, j < 10 → 2 * (S 1 - 1) ≤ j → sB S j 1 = NN ∧ sB S j 0 = 0)
theorem Inv.lt {M : Nat} {S : Sm} (h : Inv M S) (k : Nat) : S k < 4294967296 := h.1 k
theorem Inv.lb {M : Nat} {S : Sm} (h : Inv M S) (j w : Nat) : sB S j w < 4294967296 := h.1 _
theorem Inv.lq {M : Nat} {S : Sm} (h : Inv M S) (t w : Nat) : sT S t w < 4294967296 := h.1 _
theorem Inv.bx {M : Nat} {S : Sm} (h : Inv M S) : 2 ≤ S 1 ∧ S 1 ≤ 6 ∧ S 2 < 32 := h.2.1
theorem Inv.tn {M : Nat} {S : Sm} (h : Inv M S) : S 381 ≤ M ∧ M ≤ 305 := h.2.2.1
theorem Inv.sc {M : Nat} {S : Sm} (h : Inv M S) {s : Nat} (hs : s < 5) : 1 ≤ S (3 + s) ∧ S (3 + s) ≤ 30 ∧ S (8 + 2 * s) + S (8 + 2 * s + 1) ≤ 10 ∧ (sTo S s = true → S (8 + 2 * s) + S (8 + 2 * s + 1) ≤ 9) ∧ ¬ (sSg S s = true ∧ sOn S (2 * s) = true ∧ sOn S (2 * s + 1) = true) := h.2.2.2.1 s hs
theorem Inv.lp {M : Nat} {S : Sm} (h : Inv M S) {k : Nat} (hk : k < 12) : S (18 + k) ≤ 3 := h.2.2.2.2.1 k hk
theorem Inv.bk {M : Nat} {S : Sm} (h : Inv M S) {j : Nat} (hj : j < 10) : sB S j 0 ≤ 3 ∧ (sB S j 1 = NN ∨ sB S j 1 < S 381) ∧ (sB S j 2 = NN ∨ sB S j 2 < S 381) ∧ sB S j 3 ≤ 1 ∧ sB S j 4 ≤ 60 ∧ (0 < sB S j 4 → sB S j 3 = 1) ∧ (sB S j 1 ≠ NN → sB S j 0 = 0) ∧ (sB S j 2 = NN ↔ sB S j 0 = 0 ∨ sB S j 0 = 3) := h.2.2.2.2.2.1 j hj
theorem Inv.tr {M : Nat} {S : Sm} (h : Inv M S) {t : Nat} (ht : t < S 381) : 1 ≤ sT S t 0 ∧ sT S t 0 ≤ 5 ∧ sT S t 1 ≤ 1 ∧ sT S t 2 ≤ 3 ∧ (sT S t 2 ≤ 1 → sT S t 3 < S 1) ∧ (sT S t 2 = 2 → sT S t 3 + 1 < S 1) ∧ sT S t 4 ≤ 60 ∧ sT S t 5 ≤ 1 ∧ sT S t 6 ≤ S 0 := h.2.2.2.2.2.2.1 t ht
theorem Inv.ps {M : Nat} {S : Sm} (h : Inv M S) {j : Nat} (hj : j < 10) : (sB S j 1 ≠ NN → sT S (sB S j 1) 2 = 0 ∧ sT S (sB S j 1) 3 = sRr j ∧ sT S (sB S j 1) 1 = j % 2) ∧ (sB S j 0 = 1 → sT S (sB S j 2) 2 = 0 ∧ sT S (sB S j 2) 3 = sRr j ∧ sT S (sB S j 2) 1 = j % 2) := h.2.2.2.2.2.2.2.1 j hj
theorem Inv.far {M : Nat} {S : Sm} (h : Inv M S) {j : Nat} (hj : j < 10) (h2 : 2 * (S 1 - 1) ≤ j) : sB S j 1 = NN ∧ sB S j 0 = 0 := h.2.2.2.2.2.2.2.2 j hj h2
section
variable {G : Gm} {S : Sm} {M : Nat}
theorem m_ofTrain (h : MA G S) {t w : Nat} {x : Int32} (hx : x = nI w) (ht : t < 305) (hw : w < 8) : fX7_ofTrain (nI t) x G = some (nI (sT S t w)) := by
  have e : ((382 : Int32) + (8 * nI t)) + x = nI (382 + 8 * t + w) := by rw [hx]; simp only [bs_nat, bs_mul, nI_add]
  unfold fX7_ofTrain
  rw [gm_gik e (by omega) (by decide), h _ (by omega)]
theorem m_layTrain {t w : Nat} {x v : Int32} (hx : x = nI w) (ht : t < 305) (hw : w < 8) : fX7_layTrain (nI t) x v G = some (gm_up G 8 5 0 (382 + 8 * t + w) v) := by
  have e : ((382 : Int32) + (8 * nI t)) + x = nI (382 + 8 * t + w) := by rw [hx]; simp only [bs_nat, bs_mul, nI_add]
  unfold fX7_layTrain
  rw [gm_gik e (by omega) (by decide)]
theorem m_place {s d w : Nat} {x : Int32} (hx : x = nI w) : fX7_place (nI s) (nI d) x = some (nI (30 + 5 * (2 * s + d) + w)) := by
  unfold fX7_place
  rw [hx]; simp only [bs_nat, bs_mul, nI_add]
theorem m_ofBlock (h : MA G S) {s d w : Nat} {x : Int32} (hx : x = nI w) (hs : s < 5) (hd : d < 2) (hw : w < 5) : fX7_ofBlock (nI s) (nI d) x G = some (nI (sB S (2 * s + d) w)) := by
  unfold fX7_ofBlock
  rw [m_place hx, gm_bs, gm_gik rfl (by omega) (by decide), h _ (by omega)]
theorem m_t0 (h : MA G S) {t : Nat} (ht : t < 305) : fX7_ofTrain (nI t) 0 G = some (nI (sT S t 0)) := m_ofTrain h rfl ht (by decide)
theorem m_y0 {t : Nat} {v : Int32} (ht : t < 305) : fX7_layTrain (nI t) 0 v G = some (gm_up G 8 5 0 (382 + 8 * t + 0) v) := m_layTrain rfl ht (by decide)
theorem m_t1 (h : MA G S) {t : Nat} (ht : t < 305) : fX7_ofTrain (nI t) 1 G = some (nI (sT S t 1)) := m_ofTrain h rfl ht (by decide)
theorem m_y1 {t : Nat} {v : Int32} (ht : t < 305) : fX7_layTrain (nI t) 1 v G = some (gm_up G 8 5 0 (382 + 8 * t + 1) v) := m_layTrain rfl ht (by decide)
theorem m_t2 (h : MA G S) {t : Nat} (ht : t < 305) : fX7_ofTrain (nI t) 2 G = some (nI (sT S t 2)) := m_ofTrain h rfl ht (by decide)
theorem m_y2 {t : Nat} {v : Int32} (ht : t < 305) : fX7_layTrain (nI t) 2 v G = some (gm_up G 8 5 0 (382 + 8 * t + 2) v) := m_layTrain rfl ht (by decide)
theorem m_t3 (h : MA G S) {t : Nat} (ht : t < 305) : fX7_ofTrain (nI t) 3 G = some (nI (sT S t 3)) := m_ofTrain h rfl ht (by decide)
theorem m_y3 {t : Nat} {v : Int32} (ht : t < 305) : fX7_layTrain (nI t) 3 v G = some (gm_up G 8 5 0 (382 + 8 * t + 3) v) := m_layTrain rfl ht (by decide)
theorem m_t4 (h : MA G S) {t : Nat} (ht : t < 305) : fX7_ofTrain (nI t) 4 G = some (nI (sT S t 4)) := m_ofTrain h rfl ht (by decide)
theorem m_y4 {t : Nat} {v : Int32} (ht : t < 305) : fX7_layTrain (nI t) 4 v G = some (gm_up G 8 5 0 (382 + 8 * t + 4) v) := m_layTrain rfl ht (by decide)
theorem m_t5 (h : MA G S) {t : Nat} (ht : t < 305) : fX7_ofTrain (nI t) 5 G = some (nI (sT S t 5)) := m_ofTrain h rfl ht (by decide)
theorem m_y5 {t : Nat} {v : Int32} (ht : t < 305) : fX7_layTrain (nI t) 5 v G = some (gm_up G 8 5 0 (382 + 8 * t + 5) v) := m_layTrain rfl ht (by decide)
theorem m_t6 (h : MA G S) {t : Nat} (ht : t < 305) : fX7_ofTrain (nI t) 6 G = some (nI (sT S t 6)) := m_ofTrain h rfl ht (by decide)
theorem m_y6 {t : Nat} {v : Int32} (ht : t < 305) : fX7_layTrain (nI t) 6 v G = some (gm_up G 8 5 0 (382 + 8 * t + 6) v) := m_layTrain rfl ht (by decide)
theorem m_t7 (h : MA G S) {t : Nat} (ht : t < 305) : fX7_ofTrain (nI t) 7 G = some (nI (sT S t 7)) := m_ofTrain h rfl ht (by decide)
theorem m_y7 {t : Nat} {v : Int32} (ht : t < 305) : fX7_layTrain (nI t) 7 v G = some (gm_up G 8 5 0 (382 + 8 * t + 7) v) := m_layTrain rfl ht (by decide)
theorem m_b0 (h : MA G S) {s d : Nat} (hs : s < 5) (hd : d < 2) : fX7_ofBlock (nI s) (nI d) 0 G = some (nI (sB S (2 * s + d) 0)) := m_ofBlock h rfl hs hd (by decide)
theorem m_p0 {s d : Nat} : fX7_place (nI s) (nI d) 0 = some (nI (30 + 5 * (2 * s + d) + 0)) := m_place rfl
theorem m_b1 (h : MA G S) {s d : Nat} (hs : s < 5) (hd : d < 2) : fX7_ofBlock (nI s) (nI d) 1 G = some (nI (sB S (2 * s + d) 1)) := m_ofBlock h rfl hs hd (by decide)
theorem m_p1 {s d : Nat} : fX7_place (nI s) (nI d) 1 = some (nI (30 + 5 * (2 * s + d) + 1)) := m_place rfl
theorem m_b2 (h : MA G S) {s d : Nat} (hs : s < 5) (hd : d < 2) : fX7_ofBlock (nI s) (nI d) 2 G = some (nI (sB S (2 * s + d) 2)) := m_ofBlock h rfl hs hd (by decide)
theorem m_p2 {s d : Nat} : fX7_place (nI s) (nI d) 2 = some (nI (30 + 5 * (2 * s + d) + 2)) := m_place rfl
theorem m_b3 (h : MA G S) {s d : Nat} (hs : s < 5) (hd : d < 2) : fX7_ofBlock (nI s) (nI d) 3 G = some (nI (sB S (2 * s + d) 3)) := m_ofBlock h rfl hs hd (by decide)
theorem m_p3 {s d : Nat} : fX7_place (nI s) (nI d) 3 = some (nI (30 + 5 * (2 * s + d) + 3)) := m_place rfl
theorem m_b4 (h : MA G S) {s d : Nat} (hs : s < 5) (hd : d < 2) : fX7_ofBlock (nI s) (nI d) 4 G = some (nI (sB S (2 * s + d) 4)) := m_ofBlock h rfl hs hd (by decide)
theorem m_p4 {s d : Nat} : fX7_place (nI s) (nI d) 4 = some (nI (30 + 5 * (2 * s + d) + 4)) := m_place rfl
theorem m_in1 {a b c : Nat} {x y z : Int32} (hx : x = nI a) (hy : y = nI b) (hz : z = nI c) (ha : a < 2147483648) (hb : b < 2147483648) (hc : c < 2147483648) (h : b ≤ a ∧ a ≤ c) : fX7_in x y z = some 1 := by
  unfold fX7_in
  rw [hx, hy, hz, if_neg (by rw [bs_lt ha hb]; omega), if_neg (by rw [bs_lt hc ha]; omega)]
theorem m_in0 {x y z : Int32} (h : x < y ∨ z < x) : fX7_in x y z = some 0 := by
  unfold fX7_in
  by_cases c : x < y
  · rw [if_pos c]
  · rw [if_neg c, if_pos (h.resolve_left c)]
theorem m_sec (h : MA G S) (I : Inv M S) {s : Nat} (hs : s + 1 < S 1) : fX7_isSection (nI s) G = some 1 := by
  unfold fX7_isSection fX7_sections
  have := I.bx
  rw [h 1 (by decide), gm_bs, m_in1 (x := nI s) (y := 0) (z := nI (S 1) - 1 - 1) (a := s) (b := 0) (c := S 1 - 1 - 1) rfl rfl (by rw [show (1 : Int32) = nI 1 from rfl, bs_sub (by omega), bs_sub (by omega)]) (by omega) (by omega) (by omega) (by omega)]
  rfl
theorem m_sec0 (h : MA G S) (I : Inv M S) {x : Int32} (hx : ∀ s, s + 1 < S 1 → x ≠ nI s) : fX7_isSection x G = some 0 := by
  unfold fX7_isSection fX7_sections
  have := I.bx
  rw [h 1 (by decide), gm_bs]
  have e : nI (S 1) - 1 - 1 = nI (S 1 - 1 - 1) := by rw [show (1 : Int32) = nI 1 from rfl, bs_sub (by omega), bs_sub (by omega)]
  rw [e, m_in0]
  · rfl
  · by_cases c : x < 0
    · exact Or.inl c
    · right
      obtain ⟨j, hj, rfl⟩ := nI_of c
      rw [bs_lt (by omega) (by omega)]
      by_cases q : j + 1 < S 1
      · exact absurd rfl (hx j q)
      · omega
theorem m_way {d : Nat} (hd : d < 2) : fX7_isWay (nI d) = some 1 := by
  unfold fX7_isWay
  rw [m_in1 (x := nI d) (y := 0) (z := 1) (a := d) (b := 0) (c := 1) rfl rfl rfl (by omega) (by omega) (by omega) (by omega)]
  rfl
theorem m_way0 {x : Int32} (hx : ∀ d, d < 2 → x ≠ nI d) : fX7_isWay x = some 0 := by
  unfold fX7_isWay
  rw [m_in0]
  · rfl
  · by_cases c : x < 0
    · exact Or.inl c
    · right
      obtain ⟨j, hj, rfl⟩ := nI_of c
      rw [show (1 : Int32) = nI 1 from rfl, bs_lt (by omega) (by omega)]
      by_cases q : j < 2
      · exact absurd rfl (hx j q)
      · omega
theorem m_blk (h : MA G S) (I : Inv M S) {s d : Nat} (hs : s + 1 < S 1) (hd : d < 2) : fX7_isBlock (nI s) (nI d) G = some 1 := by
  unfold fX7_isBlock
  rw [m_sec h I hs, gm_bs, if_neg (by decide), m_way hd]
  rfl
theorem m_blk0 (h : MA G S) (I : Inv M S) {x y : Int32} (hx : ∀ s d, s + 1 < S 1 → d < 2 → ¬ (x = nI s ∧ y = nI d)) : fX7_isBlock x y G = some 0 := by
  unfold fX7_isBlock
  by_cases c : ∃ s, s + 1 < S 1 ∧ x = nI s
  · obtain ⟨s, hs, rfl⟩ := c
    rw [m_sec h I hs, gm_bs, if_neg (by decide), m_way0 (fun d hd e => hx s d hs hd ⟨rfl, e⟩)]
    rfl
  · rw [m_sec0 h I (fun s hs e => c ⟨s, hs, e⟩)]
    rfl
theorem m_trn (h : MA G S) (I : Inv M S) {t : Nat} (ht : t < S 381) : fX7_isTrain (nI t) G = some 1 := by
  have := I.tn
  unfold fX7_isTrain
  rw [h 381 (by decide), m_in1 (x := nI t) (y := 0) (z := nI (S 381) - 1) (a := t) (b := 0) (c := S 381 - 1) rfl rfl (by rw [show (1 : Int32) = nI 1 from rfl, bs_sub (by omega)]) (by omega) (by omega) (by omega) (by omega)]
  rfl
theorem m_trn0 (h : MA G S) (I : Inv M S) {x : Int32} (hx : ∀ t, t < S 381 → x ≠ nI t) : fX7_isTrain x G = some 0 := by
  have := I.tn
  unfold fX7_isTrain
  rw [h 381 (by decide), m_in0]
  · rfl
  · by_cases c : x < 0
    · exact Or.inl c
    · right
      obtain ⟨j, hj, rfl⟩ := nI_of c
      by_cases q : j < S 381
      · exact absurd rfl (hx j q)
      · by_cases z : S 381 = 0
        · rw [z]
          have : (nI 0 - 1 : Int32) = -1 := by decide
          rw [this]
          have h2 : (-1 : Int32) < 0 := by decide
          exact Int32.lt_of_lt_of_le h2 (Int32.not_lt.mp c)
        · rw [show (1 : Int32) = nI 1 from rfl, bs_sub (by omega), bs_lt (by omega) (by omega)]
          omega
theorem m_bit : ∀ x, x < 32 → ∀ s, s < 5 → (((nI x >>> (nI s &&& 31)) &&& 1) = 1 ↔ x / 2 ^ s % 2 = 1) := by decide +kernel
theorem m_sg (h : MA G S) (h2 : S 2 < 32) {s : Nat} (hs : s < 5) : fX7_isSingle (nI s) G = some (if sSg S s then 1 else 0) := by
  unfold fX7_isSingle
  rw [h 2 (by decide)]
  have e := m_bit (S 2) h2 s hs
  unfold sSg
  by_cases c : S 2 / 2 ^ s % 2 = 1
  · simp [c, e.mpr c]
  · simp [c, mt e.mp c]
theorem m_many_h (h : MA G S) (I : Inv M S) (x d p : Nat) (hx : x < 4294967296) (hd : d < 4294967296) (hp : p < 4294967296) :
    ∀ m i f : Nat, i + m = S 381 → m < f → fX7_many_h6 (nI x) (nI d) (nI p) G f (nI (sCn S x d p i)) (nI i) = some (nI (sCn S x d p (S 381))) := by
  have tn := I.tn
  intro m
  induction m with
  | zero =>
    intro i f hi hf
    obtain ⟨f, rfl⟩ : ∃ g, f = g + 1 := ⟨f - 1, by omega⟩
    rw [fX7_many_h6.eq_2, h 381 (by decide), if_pos ((bs_le (by omega) (by omega)).mpr (by omega)), show i = S 381 from by omega]
  | succ m ih =>
    intro i f hi hf
    obtain ⟨f, rfl⟩ : ∃ g, f = g + 1 := ⟨f - 1, by omega⟩
    rw [fX7_many_h6.eq_2, h 381 (by decide), if_neg (by rw [bs_le (by omega) (by omega)]; omega)]
    have hi5 : i < 305 := by omega
    simp only [m_t2 h hi5, m_t3 h hi5, m_t1 h hi5, gm_bs, bs_eq (I.lt _) hp, bs_eq (I.lt _) hx, bs_eq (I.lt _) hd]
    have step : ∀ y : Int32, y = nI (sCn S x d p (i + 1)) → fX7_many_h6 (nI x) (nI d) (nI p) G f y (nI i + 1) = some (nI (sCn S x d p (S 381))) := by
      intro y hy
      rw [hy, nI_1]
      exact ih (i + 1) f (by omega) (by omega)
    have e1 : sCn S x d p (i + 1) = sCn S x d p i + (if sT S i 2 = p ∧ sT S i 3 = x ∧ sT S i 1 = d then 1 else 0) := rfl
    by_cases c1 : sT S i 2 = p
    · rw [if_pos c1]
      by_cases c2 : sT S i 3 = x
      · rw [if_pos c2]
        by_cases c3 : sT S i 1 = d
        · rw [if_pos c3]
          exact step _ (by rw [e1, if_pos ⟨c1, c2, c3⟩, nI_1])
        · rw [if_neg c3]
          exact step _ (by rw [e1, if_neg (fun q => c3 q.2.2), Int32.add_zero]; rfl)
      · rw [if_neg c2]
        exact step _ (by rw [e1, if_neg (fun q => c2 q.2.1), Int32.add_zero]; rfl)
    · rw [if_neg c1]
      exact step _ (by rw [e1, if_neg (fun q => c1 q.1), Int32.add_zero]; rfl)
theorem m_many (h : MA G S) (I : Inv M S) {x d p : Nat} {y : Int32} (hy : y = nI p) (hx : x < 4294967296) (hd : d < 4294967296) (hp : p < 4294967296) : fX7_many (nI x) (nI d) y G = some (nI (sCn S x d p (S 381))) := by
  have tn := I.tn
  rw [hy]
  exact m_many_h h I x d p hx hd hp (S 381) 0 6000 (by omega) (by omega)
theorem m_free (h : MA G S) (I : Inv M S) {x d : Nat} (hx : x < 4294967296) (hd : d < 4294967296) : fX7_isFree (nI x) (nI d) G = some (if sFr S x d then 1 else 0) := by
  have tn := I.tn
  have hle := sCn_le S x d 0 (S 381)
  unfold fX7_isFree
  rw [m_many (y := 0) (p := 0) h I rfl hx hd (by decide), gm_bs]
  have e := sCn_0 S x d 0 (S 381)
  unfold sFr
  by_cases c : ∀ t, t < S 381 → ¬ (sT S t 2 = 0 ∧ sT S t 3 = x ∧ sT S t 1 = d)
  · rw [if_pos (by rw [e.mpr c]; rfl), if_pos (decide_eq_true c)]
  · rw [if_neg (by rw [bs_l (by omega) (by decide)]; exact fun q => c (e.mp q)), if_neg (by rw [decide_eq_true_iff]; exact c)]
theorem m_rear {s d : Nat} (hd : d < 2) : fX7_rear (nI s) (nI d) = some (nI (sRr (2 * s + d))) := by
  unfold fX7_rear sRr
  rw [nI_add]
  have : (2 * s + d) / 2 + (2 * s + d) % 2 = s + d := by omega
  rw [this]
theorem m_ahead {s d : Nat} (hd : d < 2) : fX7_ahead (nI s) (nI d) = some (nI (sAh (2 * s + d))) := by
  unfold fX7_ahead sAh
  rw [show (1 : Int32) = nI 1 from rfl, nI_add, bs_sub (by omega)]
  have : (2 * s + d) / 2 + 1 - (2 * s + d) % 2 = s + 1 - d := by omega
  rw [this]
theorem m_tok {s x : Nat} (hx : s ≤ x) : fX7_tokensAt (nI s) (nI x) = some (nI (8 + 2 * s + (x - s))) := by
  unfold fX7_tokensAt
  rw [bs_sub hx]
  simp only [bs_nat, bs_mul, nI_add]
theorem m_code {k : Nat} (hk : k < 4294967296) : fX7_codeOf (nI k) = some (nI (sCo k)) := by
  unfold fX7_codeOf sCo
  simp only [bs_l hk (show 1 < 4294967296 by decide), bs_l hk (show 2 < 4294967296 by decide), bs_l hk (show 3 < 4294967296 by decide), bs_l hk (show 4 < 4294967296 by decide)]
  repeat' (first | rfl | split)
/-- a remainder by 60 -/
theorem m_rem {k : Nat} (hk : k < 2147483648) : nI k - nI k / 60 * 60 = nI (k % 60) := by
  have : nI k / 60 = nI (k / 60) := by
    apply Int32.toInt_inj.mp
    rw [show (60 : Int32) = nI 60 from rfl, Int32.toInt_div, nI_toInt hk, nI_toInt (by decide), nI_toInt (by omega)]
    have e : ((k : Int).tdiv ((60 : Nat) : Int)) = ((k / 60 : Nat) : Int) := by
      rw [Int.tdiv_eq_ediv_of_nonneg (by omega)]
      norm_cast
    rw [e]
    rw [Int.bmod_def]
    omega
  rw [this, show (60 : Int32) = nI 60 from rfl, bs_mul, bs_sub (by omega)]
  congr 1
  omega
theorem m_ring (h : MA G S) {s d x c : Nat} {y : Int32} (hy : y = nI c) (hd : d < 2) (hr : S 80 < 2147483648) : ∃ G', fX7_ring (nI s) (nI d) (nI x) y G = some (y, G') ∧ MA G' (sRing S (2 * s + d) x c) ∧ FrM G G' := by
  have e0 : nI (S 80) - nI (S 80) / 60 * 60 = nI (S 80 % 60) := m_rem hr
  have e1 : (81 : Int32) + (5 * nI (S 80 % 60)) = nI (81 + 5 * (S 80 % 60)) := by simp only [bs_nat, bs_mul, nI_add]
  have e2 : ∀ w : Nat, nI (81 + 5 * (S 80 % 60)) + (OfNat.ofNat w : Int32) = nI (81 + 5 * (S 80 % 60) + w) := fun w => by simp only [bs_nat, nI_add]
  have hm : S 80 % 60 < 60 := Nat.mod_lt _ (by decide)
  have hj : (2 * s + d) / 2 = s := by omega
  have hj2 : (2 * s + d) % 2 = d := by omega
  have M5 := ((((h.up (81 + 5 * (S 80 % 60)) (S 0)).up (81 + 5 * (S 80 % 60) + 1) ((2 * s + d) / 2)).up (81 + 5 * (S 80 % 60) + 2) ((2 * s + d) % 2)).up (81 + 5 * (S 80 % 60) + 3) x).up (81 + 5 * (S 80 % 60) + 4) c
  have g80 := M5 80 (by decide)
  rw [su_ne (by omega), su_ne (by omega), su_ne (by omega), su_ne (by omega), su_ne (by omega)] at g80
  refine ⟨_, ?_, M5.up 80 (S 80 + 1), FrM.rf.up.up.up.up.up.up⟩
  unfold fX7_ring
  rw [h 80 (by decide), h 0 (by decide), e0, e1, e2 1, e2 2, e2 3, e2 4, gm_gik rfl (by omega) (by decide), gm_gik rfl (by omega) (by decide), gm_gik rfl (by omega) (by decide), gm_gik rfl (by omega) (by decide), gm_gik rfl (by omega) (by decide)]
  rw [hj, hj2, ← hy] at *
  rw [g80, nI_1]
theorem gm_gin {α : Type} {k n : Nat} {f : Nat → Option α} (h : k < n) (hn : n < 2147483648) : gm_gi (nI k) n f = f k := gm_gik rfl h hn
/-- the cases of a block, a train, a section that is asked for -/
theorem m_cblk (S : Sm) (x y : Int32) : (∃ s d, s + 1 < S 1 ∧ d < 2 ∧ x = nI s ∧ y = nI d) ∨ (∀ s d, s + 1 < S 1 → d < 2 → ¬ (x = nI s ∧ y = nI d)) := by
  by_cases c : ∃ s d, s + 1 < S 1 ∧ d < 2 ∧ x = nI s ∧ y = nI d
  · exact Or.inl c
  · exact Or.inr fun s d hs hd q => c ⟨s, d, hs, hd, q.1, q.2⟩
theorem m_ctrn (S : Sm) (x : Int32) : (∃ t, t < S 381 ∧ x = nI t) ∨ (∀ t, t < S 381 → x ≠ nI t) := by
  by_cases c : ∃ t, t < S 381 ∧ x = nI t
  · exact Or.inl c
  · exact Or.inr fun t ht q => c ⟨t, ht, q⟩
theorem m_csec (S : Sm) (x : Int32) : (∃ s, s + 1 < S 1 ∧ x = nI s) ∨ (∀ s, s + 1 < S 1 → x ≠ nI s) := by
  by_cases c : ∃ t, t + 1 < S 1 ∧ x = nI t
  · exact Or.inl c
  · exact Or.inr fun t ht q => c ⟨t, ht, q⟩
theorem m_lift (h : MA G S) (I : Inv M S) (hr : S 80 < 2147483648) {s d : Nat} (hs : s + 1 < S 1) (hd : d < 2) : MS G (fX7_lift (nI s) (nI d) G) (sLift S (2 * s + d)) := by
  have bx := I.bx
  have hs5 : s < 5 := by omega
  have i0 : 30 + 5 * (2 * s + d) + 0 < 2862 := by omega
  unfold fX7_lift sLift
  simp only [m_blk h I hs hd, m_b0 h hs5 hd, gm_bs, m_p0, m_ahead hd, bs_l (I.lt _) (show 3 < 4294967296 by decide), gm_gin i0 (by decide), if_neg (show ¬ (1 : Int32) = 0 by decide)]
  by_cases c : sB S (2 * s + d) 0 = 3
  · rw [if_pos c, if_pos c]
    obtain ⟨G', e, m1, m2⟩ := m_ring (h.up (30 + 5 * (2 * s + d) + 0) 0) (s := s) (d := d) (x := sAh (2 * s + d)) (c := 13) (y := 13) rfl hd (by rw [su_ne (by omega)]; exact hr)
    refine ⟨G', ?_, m1, (FrM.rf.up).tr m2⟩
    rw [show (0 : Int32) = nI 0 from rfl, e]
    rfl
  · rw [if_neg c, if_neg c]
    exact ⟨G, rfl, h, FrM.rf⟩
end
