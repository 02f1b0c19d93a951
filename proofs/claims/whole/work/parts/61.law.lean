/-! The law's own rows -/
def gl_S (x : gm_Cx) (b L : Nat) (xs : Nat → Int32) : Prop := va_X b L xs (cx_s x) (cx_s x).heap ∧ b < (cx_s x).heap.size ∧ ¬ cx_A x b ∧ L ≤ 2048
abbrev gl_lv (x : gm_Cx) (b i : Nat) : List (Nat × Value) := [(3, .int (nI i)), (2, .ref (gm_ad (cx_w x) 7 5 0)), (1, .ref (gm_ad (cx_w x) 6 4 0)), (0, .ref b)]
section
variable {x : gm_Cx} {ret : Option FieldType} {rk : Nat} {G : Gm} {pc : Nat} {lv : List (Nat × Value)} {st : List Value} {b L : Nat} {xs : Nat → Int32}
theorem gl_ld (C : gm_X x cL_law 4 RL ret rk) (S : gl_S x b L xs) {z : Int32} {j : Nat} (hz : z = nI j) (hj : j < L) (d : decode cL_law pc = .ok (.iaload, 1)) (t : Nat) (ht : pc + 1 = t) (K : gm_V x G t lv (.int (xs j) :: st)) : gm_V x G pc lv (.int z :: .ref b :: st) := by
  subst ht hz
  have hL := S.2.2.2
  intro H locs ls hP hS hl
  refine va_sld C.1 C.2.1 S.1 S.2.1 S.2.2.1 hS (nI_in hj (by omega)) d ?_
  rw [nI_clamp (by omega)]
  exact K H locs ls hP hS hl
theorem gl_len (C : gm_X x cL_law 4 RL ret rk) (S : gl_S x b L xs) (d : decode cL_law pc = .ok (.arraylength, 1)) (t : Nat) (ht : pc + 1 = t) (K : gm_V x G t lv (.int (nI L) :: st)) : gm_V x G pc lv (.ref b :: st) := by
  subst ht
  exact fun H locs ls hP hS hl => va_slen C.1 C.2.1 S.1 S.2.1 S.2.2.1 hS d (K H locs ls hP hS hl)
theorem gl_arg (C : gm_X x cL_law 4 RL ret rk) (S : gl_S x b L xs) {i : Nat} (c : Nat) (hc : Int32.ofInt c = nI c) (hi : i + c < L) (d1 : decode cL_law pc = .ok (.aload_n 0, 1)) (d2 : decode cL_law (pc + 1) = .ok (.iload_n 3, 1)) (d3 : decode cL_law (pc + 2) = .ok (.iconst c, 1)) (d4 : decode cL_law (pc + 3) = .ok (.iadd, 1)) (d5 : decode cL_law (pc + 4) = .ok (.iaload, 1)) (t : Nat) (ht : pc + 5 = t) (K : gm_V x G t (gl_lv x b i) (.int (xs (i + c)) :: st)) : gm_V x G pc (gl_lv x b i) st := by
  refine gv_aload_n C rfl 3 rfl d1 (pc + 1) rfl ?_
  refine gv_iload_n C rfl 0 rfl d2 (pc + 2) rfl ?_
  refine gv_iconst C (nI c) hc d3 (pc + 3) rfl ?_
  refine gv_iadd C d4 (pc + 4) rfl ?_
  exact gl_ld C S (nI_add i c) hi d5 t ht K
theorem gl_cmp {i L : Nat} (hL : L ≤ 2048) (hi : i ≤ 5000) : nI L - nI 4 < nI i ↔ L < i + 4 := by
  by_cases h : 4 ≤ L
  · rw [bs_sub h, bs_lt (by omega) (by omega)]
    omega
  · have h1 : (nI L - nI 4).toInt < 0 := by
      rcases (show L = 0 ∨ L = 1 ∨ L = 2 ∨ L = 3 by omega) with rfl | rfl | rfl | rfl <;> decide
    rw [Int32.lt_iff_toInt_lt, nI_toInt (by omega)]
    constructor
    · intro _
      omega
    · intro _
      omega
theorem gl_and (v : Int32) : ∃ k : Nat, k < 64 ∧ v &&& 63 = nI k := by
  refine ⟨(v &&& 63).toBitVec.toNat, ?_, ?_⟩
  · have e : (v &&& 63).toBitVec.toNat = v.toBitVec.toNat &&& 63 := by
      rw [Int32.toBitVec_and, BitVec.toNat_and]
      rfl
    rw [e]
    exact Nat.lt_of_le_of_lt Nat.and_le_right (by decide)
  · apply Int32.toBitVec_inj.mp
    rw [bs_bv, BitVec.ofNat_toNat, BitVec.setWidth_eq]
end
