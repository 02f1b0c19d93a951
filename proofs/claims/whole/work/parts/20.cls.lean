/-! The class's line l holds the row S. -/
def CL0 (G : Gm) (l : Nat) (S : Sm) : Prop :=
  (G 1 l 0 7 = nI (S 0) ∧ G 1 l 0 5 = nI (S 1) ∧ G 1 l 0 6 = nI (S 381) ∧ G 3 l 0 1 = nI (S 80)) ∧
  (∀ s, s < 5 → G 4 l s 1 = (if sSg S s then 1 else 0) ∧ G 4 l s 2 = nI (S (3 + s)) ∧ G 4 l s 3 = (if sSg S s then nI (S (8 + 2 * s)) else 0) ∧ G 4 l s 4 = (if sSg S s then nI (S (8 + 2 * s + 1)) else 0)) ∧
  (∀ k, k < 12 → G 8 l 0 k = nI (S (18 + k))) ∧
  (∀ j, j < 10 → ∀ w, w < 5 → G 0 l j (w + 2) = nI (sB S j w)) ∧
  (∀ k, k < 300 → k / 5 < S 80 → G 8 l 1 k = nI (S (81 + k))) ∧
  (∀ t, t < S 381 → ∀ w, w < 8 → G 5 l t (w + 1) = nI (sT S t w)) ∧
  (∀ t, t < 12 → G 5 l t 6 = 0 ∨ G 5 l t 6 = 1)
def TO (G : Gm) (l : Nat) (S : Sm) : Prop := ∀ s, s < 5 → G 4 l s 5 = (if sTo S s then 1 else 0)
def CL (G : Gm) (l : Nat) (S : Sm) : Prop := CL0 G l S ∧ TO G l S
def FrC (l : Nat) (G G' : Gm) : Prop := ∀ a b c k, b ≠ l → G' a b c k = G a b c k
theorem FrC.rf {l : Nat} {G : Gm} : FrC l G G := fun _ _ _ _ _ => rfl
theorem FrC.tr {l : Nat} {G G1 G2 : Gm} (h : FrC l G G1) (h2 : FrC l G1 G2) : FrC l G G2 := fun a b c k q => (h2 a b c k q).trans (h a b c k q)
theorem FrC.up {l : Nat} {G G1 : Gm} {a c k : Nat} {v : Int32} (h : FrC l G G1) : FrC l G (gm_up G1 a l c k v) := by
  intro a' b c' k' q
  rw [← h a' b c' k' q]
  unfold gm_up
  rw [if_neg]
  rintro ⟨-, h2, -⟩
  exact q h2
def CS (l : Nat) (G : Gm) (r : Option (Int32 × Gm)) (q : Nat × Sm) : Prop := ∃ G', r = some (nI q.1, G') ∧ CL G' l q.2 ∧ FrC l G G'
/-- another kind, another number, another slot -/
theorem gu_k {G : Gm} {a b c k : Nat} {v : Int32} {a' b' c' k' : Nat} (h : a' ≠ a) : gm_up G a b c k v a' b' c' k' = G a' b' c' k' := by unfold gm_up; rw [if_neg (fun q => h q.1)]
theorem gu_c {G : Gm} {a b c k : Nat} {v : Int32} {a' b' c' k' : Nat} (h : c' ≠ c) : gm_up G a b c k v a' b' c' k' = G a' b' c' k' := by unfold gm_up; rw [if_neg (fun q => h q.2.2.1)]
theorem gu_s {G : Gm} {a b c k : Nat} {v : Int32} {a' b' c' k' : Nat} (h : k' ≠ k) : gm_up G a b c k v a' b' c' k' = G a' b' c' k' := by unfold gm_up; rw [if_neg (fun q => h q.2.2.2)]
theorem gu_at {G : Gm} {a b c k : Nat} {v : Int32} : gm_up G a b c k v a b c k = v := by simp [gm_up]
theorem sSg_su {S : Sm} {i v s : Nat} (h : 2 ≠ i) : sSg (su S i v) s = sSg S s := by unfold sSg; rw [su_ne h]
section
variable {G : Gm} {S : Sm} {l : Nat}
/-- a block's number is set -/
theorem CL0.b (h : CL0 G l S) {j w v : Nat} {x : Int32} {z : Nat} (hz : z = w + 2) (hx : x = nI v) (hj : j < 10) (hw : w < 5) : CL0 (gm_up G 0 l j z x) l (su S (30 + 5 * j + w) v) := by
  subst hz hx
  obtain ⟨⟨a1, a2, a3, a4⟩, hs, hk, hb, hr, ht, hy⟩ := h
  have n80 : su S (30 + 5 * j + w) v 80 = S 80 := su_ne (by omega)
  have n381 : su S (30 + 5 * j + w) v 381 = S 381 := su_ne (by omega)
  refine ⟨⟨?_, ?_, ?_, ?_⟩, ?_, ?_, ?_, ?_, ?_, ?_⟩
  · rw [gu_k (by decide), su_ne (by omega)]; exact a1
  · rw [gu_k (by decide), su_ne (by omega)]; exact a2
  · rw [gu_k (by decide), n381]; exact a3
  · rw [gu_k (by decide), n80]; exact a4
  · intro s q
    rw [gu_k (by decide), gu_k (by decide), gu_k (by decide), gu_k (by decide), sSg_su (by omega), su_ne (show 3 + s ≠ _ by omega), su_ne (show 8 + 2 * s ≠ _ by omega), su_ne (show 8 + 2 * s + 1 ≠ _ by omega)]
    exact hs s q
  · intro k q
    rw [gu_k (by decide), su_ne (by omega)]; exact hk k q
  · intro j' q w' q'
    by_cases e : j' = j ∧ w' = w
    · obtain ⟨rfl, rfl⟩ := e
      rw [gu_at]; unfold sB; rw [su_at]
    · have : sB (su S (30 + 5 * j + w) v) j' w' = sB S j' w' := su_ne (by omega)
      rw [this]
      by_cases e1 : j' = j
      · rw [gu_s (by omega)]; exact hb j' q w' q'
      · rw [gu_c e1]; exact hb j' q w' q'
  · intro k q q'
    rw [n80] at q'
    rw [gu_k (by decide), su_ne (by omega)]; exact hr k q q'
  · intro t q w' q'
    rw [n381] at q
    have : sT (su S (30 + 5 * j + w) v) t w' = sT S t w' := su_ne (by omega)
    rw [gu_k (by decide), this]; exact ht t q w' q'
  · intro t q
    rw [gu_k (by decide)]; exact hy t q
/-- a train's number is set -/
theorem CL0.t (h : CL0 G l S) {t w v : Nat} {x : Int32} {z : Nat} (hz : z = w + 1) (hx : x = nI v) (hw : w < 8) (h5 : w = 5 → v = 0 ∨ v = 1) : CL0 (gm_up G 5 l t z x) l (su S (382 + 8 * t + w) v) := by
  subst hz hx
  obtain ⟨⟨a1, a2, a3, a4⟩, hs, hk, hb, hr, ht, hy⟩ := h
  have n80 : su S (382 + 8 * t + w) v 80 = S 80 := su_ne (by omega)
  have n381 : su S (382 + 8 * t + w) v 381 = S 381 := su_ne (by omega)
  refine ⟨⟨?_, ?_, ?_, ?_⟩, ?_, ?_, ?_, ?_, ?_, ?_⟩
  · rw [gu_k (by decide), su_ne (by omega)]; exact a1
  · rw [gu_k (by decide), su_ne (by omega)]; exact a2
  · rw [gu_k (by decide), n381]; exact a3
  · rw [gu_k (by decide), n80]; exact a4
  · intro s q
    rw [gu_k (by decide), gu_k (by decide), gu_k (by decide), gu_k (by decide), sSg_su (by omega), su_ne (show 3 + s ≠ _ by omega), su_ne (show 8 + 2 * s ≠ _ by omega), su_ne (show 8 + 2 * s + 1 ≠ _ by omega)]
    exact hs s q
  · intro k q
    rw [gu_k (by decide), su_ne (by omega)]; exact hk k q
  · intro j' q w' q'
    have : sB (su S (382 + 8 * t + w) v) j' w' = sB S j' w' := su_ne (by omega)
    rw [gu_k (by decide), this]; exact hb j' q w' q'
  · intro k q q'
    rw [n80] at q'
    rw [gu_k (by decide), su_ne (by omega)]; exact hr k q q'
  · intro t' q w' q'
    rw [n381] at q
    by_cases e : t' = t ∧ w' = w
    · obtain ⟨rfl, rfl⟩ := e
      rw [gu_at]; unfold sT; rw [su_at]
    · have : sT (su S (382 + 8 * t + w) v) t' w' = sT S t' w' := su_ne (by omega)
      rw [this]
      by_cases e1 : t' = t
      · rw [gu_s (by omega)]; exact ht t' q w' q'
      · rw [gu_c e1]; exact ht t' q w' q'
  · intro t' q
    by_cases e : t' = t ∧ 5 = w
    · obtain ⟨rfl, rfl⟩ := e
      rw [gu_at]
      rcases h5 rfl with rfl | rfl
      · exact Or.inl rfl
      · exact Or.inr rfl
    · by_cases e1 : t' = t
      · rw [gu_s (by omega)]; exact hy t' q
      · rw [gu_c e1]; exact hy t' q
/-- a section's tokens -/
theorem CL0.k (h : CL0 G l S) {s e v : Nat} {x : Int32} {z : Nat} (hz : z = e + 3) (hs5 : s < 5) (he : e < 2) (hx : sSg S s = true → x = nI v) (hx0 : sSg S s = false → x = 0) : CL0 (gm_up G 4 l s z x) l (su S (8 + 2 * s + e) v) := by
  subst hz
  obtain ⟨⟨a1, a2, a3, a4⟩, hs, hk, hb, hr, ht, hy⟩ := h
  have n80 : su S (8 + 2 * s + e) v 80 = S 80 := su_ne (by omega)
  have n381 : su S (8 + 2 * s + e) v 381 = S 381 := su_ne (by omega)
  refine ⟨⟨?_, ?_, ?_, ?_⟩, ?_, ?_, ?_, ?_, ?_, ?_⟩
  · rw [gu_k (by decide), su_ne (by omega)]; exact a1
  · rw [gu_k (by decide), su_ne (by omega)]; exact a2
  · rw [gu_k (by decide), n381]; exact a3
  · rw [gu_k (by decide), n80]; exact a4
  · intro s' q
    obtain ⟨b1, b2, b3, b4⟩ := hs s' q
    rw [gu_s (by omega), gu_s (by omega), sSg_su (by omega), su_ne (show 3 + s' ≠ _ by omega)]
    refine ⟨b1, b2, ?_, ?_⟩
    · by_cases e1 : s' = s ∧ e = 0
      · obtain ⟨rfl, rfl⟩ := e1
        rw [gu_at, Nat.add_zero, su_at]
        cases cs : sSg S s' with
        | true => rw [hx cs]; rfl
        | false => rw [hx0 cs]; rfl
      · rw [su_ne (show 8 + 2 * s' ≠ _ by omega)]
        by_cases e2 : s' = s
        · rw [gu_s (by omega)]; exact b3
        · rw [gu_c e2]; exact b3
    · by_cases e1 : s' = s ∧ e = 1
      · obtain ⟨rfl, rfl⟩ := e1
        rw [gu_at, su_at]
        cases cs : sSg S s' with
        | true => rw [hx cs]; rfl
        | false => rw [hx0 cs]; rfl
      · rw [su_ne (show 8 + 2 * s' + 1 ≠ _ by omega)]
        by_cases e2 : s' = s
        · rw [gu_s (by omega)]; exact b4
        · rw [gu_c e2]; exact b4
  · intro k q
    rw [gu_k (by decide), su_ne (by omega)]; exact hk k q
  · intro j' q w' q'
    have : sB (su S (8 + 2 * s + e) v) j' w' = sB S j' w' := su_ne (by omega)
    rw [gu_k (by decide), this]; exact hb j' q w' q'
  · intro k q q'
    rw [n80] at q'
    rw [gu_k (by decide), su_ne (by omega)]; exact hr k q q'
  · intro t q w' q'
    rw [n381] at q
    have : sT (su S (8 + 2 * s + e) v) t w' = sT S t w' := su_ne (by omega)
    rw [gu_k (by decide), this]; exact ht t q w' q'
  · intro t q
    rw [gu_k (by decide)]; exact hy t q
/-- what the row doesn't know -/
theorem CL0.o (h : CL0 G l S) {s : Nat} {x : Int32} : CL0 (gm_up G 4 l s 5 x) l S := by
  obtain ⟨⟨a1, a2, a3, a4⟩, hs, hk, hb, hr, ht, hy⟩ := h
  refine ⟨⟨?_, ?_, ?_, ?_⟩, ?_, ?_, ?_, ?_, ?_, ?_⟩
  · rw [gu_k (by decide)]; exact a1
  · rw [gu_k (by decide)]; exact a2
  · rw [gu_k (by decide)]; exact a3
  · rw [gu_k (by decide)]; exact a4
  · intro s' q
    rw [gu_s (by decide), gu_s (by decide), gu_s (by decide), gu_s (by decide)]
    exact hs s' q
  · intro k q
    rw [gu_k (by decide)]; exact hk k q
  · intro j' q w' q'
    rw [gu_k (by decide)]; exact hb j' q w' q'
  · intro k q q'
    rw [gu_k (by decide)]; exact hr k q q'
  · intro t q w' q'
    rw [gu_k (by decide)]; exact ht t q w' q'
  · intro t q
    rw [gu_k (by decide)]; exact hy t q
end
