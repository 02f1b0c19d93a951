/-! The line as one row of natural numbers S, laid out as the reference lays its row out; a whole number x stands for nI k with k < 2^32, so -6 stands for NN. -/
abbrev NN : Nat := 4294967290
abbrev NP : Nat := 4294967291
theorem nI_NN : nI NN = -6 := by decide +kernel
theorem nI_NP : nI NP = -5 := by decide +kernel
theorem bs_bv (k : Nat) : (nI k).toBitVec = BitVec.ofNat 32 k := rfl
theorem bs_eq {a b : Nat} (ha : a < 4294967296) (hb : b < 4294967296) : nI a = nI b ↔ a = b := by
  constructor
  · intro h
    have h1 : (nI a).toBitVec = (nI b).toBitVec := congrArg Int32.toBitVec h
    rw [bs_bv, bs_bv] at h1
    have h2 := congrArg BitVec.toNat h1
    rw [BitVec.toNat_ofNat, BitVec.toNat_ofNat, Nat.mod_eq_of_lt ha, Nat.mod_eq_of_lt hb] at h2
    exact h2
  · rintro rfl; rfl
theorem bs_neg {a : Nat} (ha : a < 4294967296) : nI a < 0 ↔ 2147483648 ≤ a := by
  rw [Int32.lt_iff_toInt_lt]
  have h : (nI a).toInt = (BitVec.ofNat 32 a).toInt := rfl
  rw [h, BitVec.toInt_eq_toNat_bmod, BitVec.toNat_ofNat, Int32.toInt_zero, Nat.mod_eq_of_lt (by simpa using ha)]
  rw [Int.bmod_def]
  have e : ((2 ^ 32 : Nat) : Int) = 4294967296 := rfl
  rw [e]
  have : (a : Int) % 4294967296 = a := by omega
  rw [this]
  split <;> omega
theorem bs_mul (a b : Nat) : nI a * nI b = nI (a * b) := (Int32.ofNat_mul a b).symm
theorem bs_sub {a b : Nat} (h : b ≤ a) : nI a - nI b = nI (a - b) := by
  have : nI a = nI (a - b) + nI b := by rw [nI_add, Nat.sub_add_cancel h]
  rw [this, Int32.add_sub_cancel]
/-- every whole number -/
def un (x : Int32) : Nat := x.toBitVec.toNat
theorem un_lt (x : Int32) : un x < 4294967296 := x.toBitVec.isLt
theorem un_nI (x : Int32) : nI (un x) = x := by
  have : (nI (un x)).toBitVec = x.toBitVec := by
    rw [bs_bv]
    show BitVec.ofNat 32 (x.toBitVec.toNat) = x.toBitVec
    simp
  exact Int32.toBitVec_inj.mp this

theorem bs_nat (n : Nat) : (OfNat.ofNat n : Int32) = nI n := rfl
theorem bs_lt {a b : Nat} (ha : a < 2147483648) (hb : b < 2147483648) : nI a < nI b ↔ a < b := nI_ltI ha hb
theorem bs_le {a b : Nat} (ha : a < 2147483648) (hb : b < 2147483648) : nI a ≤ nI b ↔ a ≤ b := nI_leI ha hb
theorem bs_cl {a : Nat} (ha : a < 2147483648) : (nI a).toNatClampNeg = a := nI_clamp ha
/-- an index that is in bounds -/
theorem bs_in {x : Int32} {k N : Nat} (hx : x = nI k) (h : k < N) (hN : N < 2147483648) : ¬ (x < 0 ∨ N ≤ x.toNatClampNeg) := by rw [hx]; exact nI_in h hN
theorem bs_ix {x : Int32} {k : Nat} (hx : x = nI k) (h : k < 2147483648) : x.toNatClampNeg = k := by rw [hx]; exact nI_clamp h
/-- rows of numbers -/
abbrev Sm : Type := Nat → Nat
def su (S : Sm) (i v : Nat) : Sm := fun k => if k = i then v else S k
theorem su_at (S : Sm) (i v : Nat) : su S i v i = v := by simp [su]
theorem su_ne {S : Sm} {i v k : Nat} (h : k ≠ i) : su S i v k = S k := by simp [su, h]
def MA (G : Gm) (S : Sm) : Prop := ∀ k, k < 2862 → G 8 5 0 k = nI (S k)
def FrM (G G' : Gm) : Prop := ∀ a b c k, ¬ (a = 8 ∧ b = 5 ∧ c = 0) → G' a b c k = G a b c k
theorem FrM.rf {G : Gm} : FrM G G := fun _ _ _ _ _ => rfl
theorem FrM.tr {G G1 G2 : Gm} (h : FrM G G1) (h2 : FrM G1 G2) : FrM G G2 := fun a b c k q => (h2 a b c k q).trans (h a b c k q)
theorem FrM.up {G G1 : Gm} {i : Nat} {v : Int32} (h : FrM G G1) : FrM G (gm_up G1 8 5 0 i v) := by
  intro a b c k q
  rw [← h a b c k q]
  unfold gm_up
  rw [if_neg]
  rintro ⟨h1, h2, h3, -⟩
  exact q ⟨h1, h2, h3⟩
theorem MA.up {G : Gm} {S : Sm} (h : MA G S) (i v : Nat) : MA (gm_up G 8 5 0 i (nI v)) (su S i v) := by
  intro k hk
  unfold gm_up su
  by_cases e : k = i
  · simp [e]
  · simp [e, h k hk]
theorem MA.up' {G : Gm} {S : Sm} (h : MA G S) {i v : Nat} {x : Int32} {i' : Nat} (hx : x = nI v) (hi : i' = i) : MA (gm_up G 8 5 0 i' x) (su S i v) := by rw [hx, hi]; exact h.up i v
def MS (G : Gm) (r : Option (Int32 × Gm)) (q : Nat × Sm) : Prop := ∃ G', r = some (nI q.1, G') ∧ MA G' q.2 ∧ FrM G G'
/-- words of the row -/
abbrev sB (S : Sm) (j w : Nat) : Nat := S (30 + 5 * j + w)
abbrev sT (S : Sm) (t w : Nat) : Nat := S (382 + 8 * t + w)
def sSg (S : Sm) (s : Nat) : Bool := decide (S 2 / 2 ^ s % 2 = 1)
def sOn (S : Sm) (j : Nat) : Bool := decide (sB S j 0 = 1 ∨ sB S j 0 = 2)
def sTo (S : Sm) (s : Nat) : Bool := sSg S s && (sOn S (2 * s) || sOn S (2 * s + 1))
def sFr (S : Sm) (x d : Nat) : Bool := decide (∀ t, t < S 381 → ¬ (sT S t 2 = 0 ∧ sT S t 3 = x ∧ sT S t 1 = d))
def sIn (S : Sm) (j : Nat) : Bool := decide (sB S j 2 ≠ NN ∧ sT S (sB S j 2) 2 = 2 ∧ sT S (sB S j 2) 3 = j / 2)
def sRr (j : Nat) : Nat := j / 2 + j % 2
def sAh (j : Nat) : Nat := j / 2 + 1 - j % 2
def sOp (j : Nat) : Nat := 2 * (j / 2) + (1 - j % 2)
def sNx (S : Sm) (x d : Nat) : Option Nat := if d ≤ x ∧ x - d + 1 < S 1 then some (2 * (x - d) + d) else none
def sBt (S : Sm) (x d : Nat) : Option Nat := if 1 ≤ x + d ∧ x + d < S 1 then some (2 * (x + d - 1) + d) else none
def sCo (k : Nat) : Nat := if k = 1 then 4 else if k = 2 then 31 else if k = 3 then 5 else if k = 4 then 32 else 41
/-- how many trains are there, of the first n -/
def sCn (S : Sm) (x d p : Nat) : Nat → Nat
  | 0 => 0
  | n + 1 => sCn S x d p n + (if sT S n 2 = p ∧ sT S n 3 = x ∧ sT S n 1 = d then 1 else 0)
theorem sCn_le (S : Sm) (x d p : Nat) : ∀ n, sCn S x d p n ≤ n
  | 0 => Nat.le_refl 0
  | n + 1 => by
    have := sCn_le S x d p n
    unfold sCn
    split <;> omega
theorem sCn_0 (S : Sm) (x d p n : Nat) : sCn S x d p n = 0 ↔ ∀ t, t < n → ¬ (sT S t 2 = p ∧ sT S t 3 = x ∧ sT S t 1 = d) := by
  induction n with
  | zero => exact ⟨fun _ t ht => absurd ht (by omega), fun _ => rfl⟩
  | succ n ih =>
    unfold sCn
    constructor
    · intro h t ht
      by_cases c : sT S n 2 = p ∧ sT S n 3 = x ∧ sT S n 1 = d
      · rw [if_pos c] at h; omega
      · by_cases e : t = n
        · rw [e]; exact c
        · exact ih.mp (by rw [if_neg c] at h; omega) t (by omega)
    · intro h
      rw [if_neg (h n (by omega)), ih.mpr (fun t ht => h t (by omega))]
/-- the steps of the line, on the row -/
def sRing (S : Sm) (j x c : Nat) : Sm := su (su (su (su (su (su S (81 + 5 * (S 80 % 60)) (S 0)) (81 + 5 * (S 80 % 60) + 1) (j / 2)) (81 + 5 * (S 80 % 60) + 2) (j % 2)) (81 + 5 * (S 80 % 60) + 3) x) (81 + 5 * (S 80 % 60) + 4) c) 80 (S 80 + 1)
abbrev q_ (c : Nat) (S : Sm) : Nat × Sm := (c, S)
def sLift (S : Sm) (j : Nat) : Nat × Sm := if sB S j 0 = 3 then (13, sRing (su S (30 + 5 * j + 0) 0) j (sAh j) 13) else (NP, S)
def sOffer (S : Sm) (t : Nat) : Nat × Sm := if sT S t 2 = 0 then (match sNx S (sT S t 3) (sT S t 1) with
  | none => (NP, S)
  | some j => if sB S j 0 = 0 ∧ sB S j 1 = NN then (sCo (sT S t 0), sRing (su S (30 + 5 * j + 1) t) j (sRr j) (sCo (sT S t 0))) else (NP, S)) else (NP, S)
def sRefuse (S : Sm) (j : Nat) : Nat × Sm := if sB S j 1 = NN then (NP, S) else (1, sRing (su S (30 + 5 * j + 1) NN) j (sAh j) 1)
def sTk (S : Sm) (j : Nat) : Bool := !sSg S (j / 2) || (decide (sB S (sOp j) 0 = 0) && (!sTo S (j / 2) && decide (0 < S (8 + 2 * (j / 2) + j % 2))))
def sAccept (S : Sm) (j : Nat) : Nat × Sm := if sB S j 1 ≠ NN ∧ sFr S (sAh j) (j % 2) ∧ sTk S j then
    (sCo (sT S (sB S j 1) 0), sRing (su (su (su (su S (30 + 5 * j + 1) NN) (30 + 5 * j + 0) 1) (30 + 5 * j + 2) (sB S j 1)) (8 + 2 * (j / 2) + j % 2) (S (8 + 2 * (j / 2) + j % 2) - (if sSg S (j / 2) then 1 else 0))) j (sAh j) (sCo (sT S (sB S j 1) 0)))
  else (NP, S)
/-- a block that is clear is so no more -/
def sUnc (S : Sm) (j : Nat) : Sm := if sB S j 0 = 1 then su (su S (30 + 5 * j + 2) NN) (8 + 2 * (j / 2) + j % 2) (S (8 + 2 * (j / 2) + j % 2) + (if sSg S (j / 2) then 1 else 0)) else S
def sCancel (S : Sm) (j : Nat) : Nat × Sm := if sB S j 1 = NN ∧ sB S j 0 ≠ 1 then (NP, S) else (35, sRing (su (sUnc (su S (30 + 5 * j + 1) NN) j) (30 + 5 * j + 0) 0) j (sRr j) 35)
def sDepart (S : Sm) (t : Nat) : Nat × Sm := if sT S t 2 = 0 then (match sNx S (sT S t 3) (sT S t 1) with
  | none => (NP, S)
  | some j => if sB S j 0 = 1 ∧ sB S j 2 = t then (S (3 + j / 2) + sT S t 0 - 1, sRing (su (su (su (su S (382 + 8 * t + 2) 2) (382 + 8 * t + 3) (j / 2)) (382 + 8 * t + 4) (S (3 + j / 2) + sT S t 0 - 1)) (30 + 5 * j + 0) 2) j (sRr j) 2) else (NP, S)) else (NP, S)
def sAdmit (S : Sm) (j : Nat) : Nat × Sm := if sIn S j ∧ sT S (sB S j 2) 4 = 0 ∧ sFr S (sAh j) (j % 2) then (sB S j 2, su (su S (382 + 8 * sB S j 2 + 2) 0) (382 + 8 * sB S j 2 + 3) (sAh j)) else (NP, S)
def sOut (S : Sm) (j : Nat) : Nat × Sm := if sB S j 0 = 2 ∧ sIn S j = false ∧ sB S j 3 ≠ 1 then (21, sRing (su (su (su S (30 + 5 * j + 0) 0) (30 + 5 * j + 2) NN) (8 + 2 * (j / 2) + (1 - j % 2)) (S (8 + 2 * (j / 2) + (1 - j % 2)) + (if sSg S (j / 2) then 1 else 0))) j (sAh j) 21) else (NP, S)
def sAssist (S : Sm) (j : Nat) : Nat × Sm := if sB S j 3 ≠ 0 ∧ sIn S j = false ∧ sB S j 4 = 0 then (2 * S (3 + j / 2), sRing (su S (30 + 5 * j + 4) (2 * S (3 + j / 2))) j (sRr j) 22) else (NP, S)
def sObst (S : Sm) (j : Nat) : Nat × Sm := if sB S j 0 ≤ 1 then (sB S j 0, sRing (su (su (sUnc S j) (30 + 5 * j + 1) NN) (30 + 5 * j + 0) 3) j (sAh j) 6) else (NP, S)
def sLast (S : Sm) (d : Nat) : Nat := if d = 1 then 0 else S 1 - 1
def sFirst (S : Sm) (d : Nat) : Nat := if d = 0 then 0 else S 1 - 1
def sLeave (S : Sm) (t : Nat) : Nat × Sm := if sT S t 2 = 0 ∧ sT S t 3 = sLast S (sT S t 1) then (S 0 - sT S t 6, su (su (su S (382 + 8 * t + 2) 3) (382 + 8 * t + 3) NN) (382 + 8 * t + 7) (S 0)) else (NP, S)
def sDivide (S : Sm) (t : Nat) : Nat × Sm := if sT S t 2 = 2 ∧ sT S t 5 ≠ 0 then (sT S t 3, su (su S (382 + 8 * t + 5) 0) (30 + 5 * (2 * sT S t 3 + sT S t 1) + 3) 1) else (NP, S)
def sHeld (S : Sm) (t : Nat) : Bool := match sNx S (sT S t 3) (sT S t 1) with
  | none => false
  | some j => decide (sB S j 1 = t ∨ (sB S j 0 = 1 ∧ sB S j 2 = t))
def sCalm (S : Sm) (t : Nat) : Bool := match sBt S (sT S t 3) (sT S t 1) with
  | none => true
  | some j => decide (sB S j 0 = 0 ∨ sB S j 0 = 3)
def sAdd (S : Sm) (k d : Nat) : Nat × Sm := (S 381, su (su (su (su (su (su (su (su (su S (382 + 8 * S 381 + 0) k) (382 + 8 * S 381 + 1) d) (382 + 8 * S 381 + 2) 0) (382 + 8 * S 381 + 3) (sFirst S d)) (382 + 8 * S 381 + 4) 0) (382 + 8 * S 381 + 5) 1) (382 + 8 * S 381 + 6) (S 0)) (382 + 8 * S 381 + 7) NN) 381 (S 381 + 1))
def sShunt (S : Sm) (t : Nat) : Nat × Sm := if sT S t 2 = 0 then (if sHeld S t = false ∧ sCn S (sT S t 3) (sT S t 1) 1 (S 381) < S (18 + 2 * sT S t 3 + sT S t 1) then (1, su S (382 + 8 * t + 2) 1) else (NP, S))
  else if sT S t 2 = 1 then (if sFr S (sT S t 3) (sT S t 1) = true ∧ sCalm S t = true then (0, su S (382 + 8 * t + 2) 0) else (NP, S)) else (NP, S)
/-- x ticks go by: the first i trains, the first i blocks -/
def sP1 (S : Sm) (x i : Nat) : Sm := fun k => if 382 ≤ k ∧ k < 382 + 8 * i ∧ (k - 382) % 8 = 4 ∧ S (k - 2) = 2 then S k - x else S k
def sP2 (S : Sm) (x i : Nat) : Sm := fun k => if 30 ≤ k ∧ k < 30 + 5 * i ∧ (k - 30) % 5 = 4 then S k - x
  else if 30 ≤ k ∧ k < 30 + 5 * i ∧ (k - 30) % 5 = 3 ∧ 0 < S (k + 1) ∧ S (k + 1) ≤ x then 0 else S k
def sPass (S : Sm) (x : Nat) : Sm := su (sP2 (sP1 S x (S 381)) x (2 * (S 1 - 1))) 0 (S 0 + x)
