section
variable {G : Gm} {S S' : Sm} {l M : Nat}
/-- no train changes -/
def Tq (S S' : Sm) : Prop := ∀ i, 382 ≤ i → S' i = S i
theorem Tq.rf : Tq S S := fun _ _ => rfl
theorem Tq.su (h : Tq S S') {i v : Nat} (hi : i < 382) : Tq S (su S' i v) := fun k q => by rw [su_ne (by omega)]; exact h k q
theorem Tq.ring (h : Tq S S') {j x c : Nat} : Tq S (sRing S' j x c) := fun k q => by rw [sRing_ne (by omega)]; exact h k q
theorem tq_out {j : Nat} (hj : j < 10) : Tq S (sOut S j).2 := by
  unfold sOut; split
  · exact (((Tq.rf.su (by omega)).su (by omega)).su (by omega)).ring
  · exact Tq.rf
theorem tq_assist {j : Nat} (hj : j < 10) : Tq S (sAssist S j).2 := by
  unfold sAssist; split
  · exact (Tq.rf.su (by omega)).ring
  · exact Tq.rf
theorem tq_refuse {j : Nat} (hj : j < 10) : Tq S (sRefuse S j).2 := by
  unfold sRefuse; split
  · exact Tq.rf
  · exact (Tq.rf.su (by omega)).ring
theorem tq_accept {j : Nat} (hj : j < 10) : Tq S (sAccept S j).2 := by
  unfold sAccept; split
  · exact ((((Tq.rf.su (by omega)).su (by omega)).su (by omega)).su (by omega)).ring
  · exact Tq.rf
theorem tq_ans {j : Nat} (hj : j < 10) : Tq S (sAns S j).2 := by
  unfold sAns; split
  · exact tq_refuse hj
  · exact tq_accept hj
theorem tq_offer (I : Inv M S) {t : Nat} (ht : t < S 381) : Tq S (sOffer S t).2 := by
  have bx := I.bx
  have tr := I.tr ht
  unfold sOffer; split
  · cases e : sNx S (sT S t 3) (sT S t 1) with
    | none => exact Tq.rf
    | some j =>
      have := m_nxj (by omega) e
      dsimp only; split
      · exact (Tq.rf.su (by omega)).ring
      · exact Tq.rf
  · exact Tq.rf
/-- who is gone stays so, and nobody else goes -/
def Gq (S S' : Sm) : Prop := ∀ t, sT S' t 2 = 3 ↔ sT S t 2 = 3
theorem Tq.gq (h : Tq S S') : Gq S S' := fun t => by rw [show sT S' t 2 = sT S t 2 from h _ (by omega)]
theorem gq_admit {j : Nat} : Gq S (sAdmit S j).2 := by
  intro t
  unfold sAdmit; split
  · rename_i c
    have c1 := c.1
    unfold sIn at c1
    have c2 := (of_decide_eq_true c1).2.1
    try dsimp only
    by_cases e : t = sB S j 2
    · rw [show sT (su (su S (382 + 8 * sB S j 2 + 2) 0) (382 + 8 * sB S j 2 + 3) (sAh j)) t 2 = 0 by
        show su _ _ _ _ = _
        rw [su_ne (by omega), e, su_at], e, c2]
      decide
    · rw [show sT (su (su S (382 + 8 * sB S j 2 + 2) 0) (382 + 8 * sB S j 2 + 3) (sAh j)) t 2 = sT S t 2 by
        show su _ _ _ _ = _
        rw [su_ne (by omega), su_ne (by omega)]]
  · rfl
theorem gq_depart (I : Inv M S) {t : Nat} (ht : t < S 381) : Gq S (sDepart S t).2 := by
  have bx := I.bx
  have tr := I.tr ht
  intro t'
  unfold sDepart; split
  · rename_i c
    cases e : sNx S (sT S t 3) (sT S t 1) with
    | none => rfl
    | some j =>
      have := m_nxj (by omega) e
      dsimp only; split
      · dsimp only
        have g : ∀ Z : Sm, ∀ x y, sT (sRing Z j x y) t' 2 = sT Z t' 2 := fun Z x y => sRing_ne (by omega)
        rw [g]
        by_cases q : t' = t
        · rw [show sT (su (su (su (su S (382 + 8 * t + 2) 2) (382 + 8 * t + 3) (j / 2)) (382 + 8 * t + 4) (S (3 + j / 2) + sT S t 0 - 1)) (30 + 5 * j + 0) 2) t' 2 = 2 by
            show su _ _ _ _ = _
            rw [su_ne (by omega), su_ne (by omega), su_ne (by omega), q, su_at], q, c]
          decide
        · rw [show sT (su (su (su (su S (382 + 8 * t + 2) 2) (382 + 8 * t + 3) (j / 2)) (382 + 8 * t + 4) (S (3 + j / 2) + sT S t 0 - 1)) (30 + 5 * j + 0) 2) t' 2 = sT S t' 2 by
            show su _ _ _ _ = _
            rw [su_ne (by omega), su_ne (by omega), su_ne (by omega), su_ne (by omega)]]
      · rfl
  · rfl
theorem gq_it {op : Sm → Nat → Nat × Sm} {m : Nat} (h : ∀ i, i < m → Gq (sIt op S i) (op (sIt op S i) i).2) : ∀ i, i ≤ m → Gq S (sIt op S i) := by
  intro i
  induction i with
  | zero => exact fun _ t => Iff.rfl
  | succ i ih => exact fun hi t => (h i (by omega) t).trans (ih (by omega) t)
theorem gC_set : ∀ n t, t < n → sT S t 2 ≠ 3 → sT S' t 2 = 3 → (∀ t', t' ≠ t → sT S' t' 2 = sT S t' 2) → gC S' 3 n = gC S 3 n + 1 := by
  intro n
  induction n with
  | zero => intro t ht; omega
  | succ n ih =>
    intro t ht h1 h2 h3
    unfold gC
    by_cases e : t = n
    · subst e
      rw [if_pos h2, if_neg h1, gC_of (S := S) 3 t (fun t' q => by rw [h3 t' (by omega)])]
    · rw [ih t (by omega) h1 h2 h3, h3 n (fun q => e q.symm)]
      omega
theorem lv_count (I : Inv M S) (hr : S 80 + 305 < 2147483647) (h0 : S 0 < 2147483648) : ∀ i, i ≤ S 381 → gC (sIt sLeave S i) 3 (S 381) = gC S 3 (S 381) + sLc S i := by
  have tn := I.tn
  have p := ph_trn I hr ho_leave
  intro i
  induction i with
  | zero => exact fun _ => rfl
  | succ i ih =>
    intro hi
    have o := p i (by omega)
    have tr := o.1.tr (t := i) (by rw [o.2.2.2.1]; omega)
    have hh : sLc S (i + 1) = sLc S i + (if (sLeave (sIt sLeave S i) i).1 = NP then 0 else 1) := rfl
    have hg : sIt sLeave S (i + 1) = (sLeave (sIt sLeave S i) i).2 := rfl
    rw [hh, hg, ← Nat.add_assoc, ← ih (by omega)]
    have o0 := o.2.1
    generalize sIt sLeave S i = Z at *
    have nn : NP = 4294967291 := rfl
    unfold sLeave
    by_cases c : sT Z i 2 = 0 ∧ sT Z i 3 = sLast Z (sT Z i 1)
    · rw [if_pos c, if_neg (by dsimp only; omega)]
      refine gC_set (S 381) i (by omega) (by omega) ?_ ?_
      · show su _ _ _ _ = _
        rw [su_ne (by omega), su_ne (by omega), su_at]
      · intro t' q
        show su _ _ _ _ = _
        rw [su_ne (by omega), su_ne (by omega), su_ne (by omega)]
    · rw [if_neg c, if_pos rfl]; rfl
theorem wk_count (I : Inv M S) (hr : S 80 + 1000 < 2147483647) (h0 : S 0 < 2147483647) : gC (sWk S) 3 (S 381) = gC S 3 (S 381) + sWl S := by
  have bx := I.bx
  have o1 := ok_1 I hr
  have o2 := ok_2 I hr
  have o3 := ok_3 I hr
  have o4 := ok_4 I hr
  have o5 := ok_5 I hr
  have o6 := ok_6 I hr
  have o7 := ok_7 I hr
  have r1 := o1.2.2.2.2
  have r2 := o2.2.2.2.2
  have r3 := o3.2.2.2.2
  have r4 := o4.2.2.2.2
  have r5 := o5.2.2.2.2
  have r6 := o6.2.2.2.2
  have g1 : Gq S (sQ1 S) := gq_it (fun i hi => (tq_out (by omega)).gq) _ (Nat.le_refl (2 * (S 1 - 1)))
  have g2 : Gq (sQ1 S) (sQ2 S) := gq_it (fun i hi => (tq_assist (by omega)).gq) _ (Nat.le_refl (2 * (S 1 - 1)))
  have g3 : Gq (sQ2 S) (sQ3 S) := gq_it (fun i hi => gq_admit) _ (Nat.le_refl (2 * (S 1 - 1)))
  have g4 := lv_count o3.1 (by omega) (by rw [o3.2.1]; omega) (S 381) (by rw [o3.2.2.2.1]; exact Nat.le_refl _)
  rw [o3.2.2.2.1] at g4
  have p5 := ph_trn o4.1 (by omega) ho_offer
  rw [o4.2.2.2.1] at p5
  have g5 : Gq (sQ4 S) (sQ5 S) := gq_it (fun i hi => (tq_offer (p5 i (by omega)).1 (by rw [(p5 i (by omega)).2.2.2.1, o4.2.2.2.1]; exact hi)).gq) _ (Nat.le_refl (S 381))
  have g6 : Gq (sQ5 S) (sQ6 S) := gq_it (fun i hi => (tq_ans (by omega)).gq) _ (Nat.le_refl (2 * (S 1 - 1)))
  have p7 := ph_trn o6.1 (by omega) ho_depart
  rw [o6.2.2.2.1] at p7
  have g7 : Gq (sQ6 S) (sQ7 S) := gq_it (fun i hi => gq_depart (p7 i (by omega)).1 (by rw [(p7 i (by omega)).2.2.2.1, o6.2.2.2.1]; exact hi)) _ (Nat.le_refl (S 381))
  have e71 := o7.2.2.1
  have g8 : Gq (sQ7 S) (sWk S) := fun t => by
    rw [show sT (sWk S) t 2 = sT (sQ7 S) t 2 from sPass_o (by omega) (by omega) (by omega)]
  rw [gC_of (S := sQ4 S) 3 (S 381) (fun t _ => (((g8 t).trans (g7 t)).trans (g6 t)).trans (g5 t)), show gC (sQ4 S) 3 (S 381) = _ from g4, gC_of (S := S) 3 (S 381) (fun t _ => ((g3 t).trans (g2 t)).trans (g1 t))]
  rfl
theorem wn_count (I : Inv M S) {n : Nat} (hn : n ≤ 500) (hr : S 80 + 600000 < 2147483647) (h0 : S 0 + 600 < 2147483647) : gC (sWn S n) 3 (S 381) = gC S 3 (S 381) + sWc S n := by
  induction n with
  | zero => rfl
  | succ n ih =>
    obtain ⟨a1, a2, a3, a4, a5⟩ := ok_wb (n := n) I (by omega) hr h0
    have k := wk_count a1 (Nat.lt_of_le_of_lt (Nat.add_le_add_right a5 1000) (by omega)) (by rw [a2]; omega)
    rw [a4, ih (by omega)] at k
    show gC (sWk (sWn S n)) 3 (S 381) = _
    rw [k, Nat.add_assoc]
    rfl
/-- a number of a range -/
theorem bs_rg (x : Int32) {a b : Nat} (hb : b < 2147483648) (ha : a < 2147483648) : (∃ k, a ≤ k ∧ k ≤ b ∧ x = nI k) ∨ x < nI a ∨ nI b < x := by
  by_cases c : x < nI a
  · exact Or.inr (Or.inl c)
  by_cases c2 : nI b < x
  · exact Or.inr (Or.inr c2)
  · left
    have c0 : ¬ x < 0 := fun q => c (Int32.lt_of_lt_of_le q (by rw [show (0 : Int32) = nI 0 from rfl, bs_le (by decide) ha]; omega))
    obtain ⟨k, hk, rfl⟩ := nI_of c0
    exact ⟨k, by rw [bs_lt (by omega) ha] at c; omega, by rw [bs_lt hb (by omega)] at c2; omega, rfl⟩
def Op (n : Nat) (G : Gm) (S : Sm) (r : Option (Int32 × Gm)) (g : Gm → Option (Int32 × Gm)) : Prop := ∃ q : Nat × Sm, CS 0 G r q ∧ (∀ G1, MA G1 S → MS G1 (g G1) q) ∧ Inv 12 q.2 ∧ q.2 0 ≤ 1000000 ∧ q.2 80 ≤ S 80 + n
theorem Op.no {n : Nat} (C : CL G 0 S) (I : Inv 12 S) (h0 : S 0 ≤ 1000000) {r : Option (Int32 × Gm)} {g : Gm → Option (Int32 × Gm)} {v : Nat} {x : Int32} (hx : x = nI v) (h1 : r = some (x, G)) (h2 : ∀ G1, MA G1 S → g G1 = some (x, G1)) : Op n G S r g :=
  ⟨(v, S), ⟨G, by rw [h1, hx], C, FrC.rf⟩, fun G1 m => ⟨G1, by rw [h2 G1 m, hx], m, FrM.rf⟩, I, h0, Nat.le_add_right _ _⟩
theorem nI_m1 : (-1 : Int32) = nI 4294967295 := by decide +kernel
theorem nI_m2 : (-2 : Int32) = nI 4294967294 := by decide +kernel
theorem nI_m3 : (-3 : Int32) = nI 4294967293 := by decide +kernel
theorem nI_m4 : (-4 : Int32) = nI 4294967292 := by decide +kernel
theorem nI_m5 : (-5 : Int32) = nI 4294967291 := by decide +kernel
theorem nI_m6 : (-6 : Int32) = nI 4294967290 := by decide +kernel
theorem m_at (h : MA G S) (I : Inv M S) {p : Nat} (hp : p < 4294967296) : fX7_trainsAt (nI p) G = some (nI (gC S p (S 381))) := by
  have tn := I.tn
  unfold fX7_trainsAt
  obtain ⟨v, e1, hv⟩ := lp (σ := Int32) (h := fun f v s => fX7_trainsAt_h4 (nI p) G f s v) (P := fun i s => s = nI (gC S p i)) (m := S 381) (fun i f s hi hP => by
    refine ⟨nI (gC S p (i + 1)), ?_, rfl⟩
    try dsimp only
    rw [fX7_trainsAt_h4.eq_2, h 381 (by decide), if_neg (by rw [bs_le (by omega) (by omega)]; omega), m_t2 h (by omega), gm_bs, hP, nI_1, nI_1, Int32.add_zero]
    have e : gC S p (i + 1) = gC S p i + (if sT S i 2 = p then 1 else 0) := rfl
    rw [e]
    by_cases c : sT S i 2 = p
    · rw [if_pos c, if_pos (by rw [c])]
    · rw [if_neg c, if_neg (by rw [bs_eq (I.lt _) hp]; exact c)]; rfl) (S 381) 0 6000 0 (by omega) (by omega) rfl
  try dsimp only at e1
  obtain ⟨g, hg⟩ : ∃ g, 6000 - S 381 = g + 1 := ⟨5999 - S 381, by omega⟩
  refine Eq.trans e1 ?_
  rw [hg, fX7_trainsAt_h4.eq_2, h 381 (by decide), if_pos ((bs_le (by omega) (by omega)).mpr (Nat.le_refl _)), hv]
theorem c_at (C : CL0 G l S) (I : Inv 12 S) {p : Nat} (hp : p < 4294967296) : fX1_trainsThatAre l (nI p) G = some (nI (gC S p (S 381))) := by
  have tn := I.tn
  unfold fX1_trainsThatAre
  obtain ⟨v, e1, hv⟩ := lp (σ := Int32) (h := fun f v s => fX1_trainsThatAre_h4 l (nI p) G f s v) (P := fun i s => s = nI (gC S p i)) (m := S 381) (fun i f s hi hP => by
    refine ⟨nI (gC S p (i + 1)), ?_, rfl⟩
    try dsimp only
    rw [fX1_trainsThatAre_h4.eq_2, C.ap, if_neg (by rw [bs_le (by omega) (by omega)]; omega), gm_gin (by omega) (by decide), C.t2 hi, hP, nI_1, nI_1]
    have e : gC S p (i + 1) = gC S p i + (if sT S i 2 = p then 1 else 0) := rfl
    rw [e]
    by_cases c : sT S i 2 = p
    · rw [if_pos c, if_pos (by rw [c])]
    · rw [if_neg c, if_neg (by rw [bs_eq (I.lt _) hp]; exact c)]; rfl) (S 381) 0 6000 0 (by omega) (by omega) rfl
  try dsimp only at e1
  obtain ⟨g, hg⟩ : ∃ g, 6000 - S 381 = g + 1 := ⟨5999 - S 381, by omega⟩
  refine Eq.trans e1 ?_
  rw [hg, fX1_trainsThatAre_h4.eq_2, C.ap, if_pos ((bs_le (by omega) (by omega)).mpr (Nat.le_refl _)), hv]
theorem m_inr {x : Int32} {a b : Nat} {y z : Int32} (hy : y = nI a) (hz : z = nI b) (ha : a < 2147483648) (hb : b < 2147483648) {k : Nat} (h1 : a ≤ k) (h2 : k ≤ b) (hx : x = nI k) : fX7_in x y z = some 1 := m_in1 hx hy hz (by omega) ha hb ⟨h1, h2⟩
theorem op_work (C : CL G 0 S) (I : Inv 12 S) (hr : S 80 + 600000 < 2147483647) (h0 : S 0 ≤ 1000000) (x : Int32) : Op 500000 G S (fX6_work x G) (fX7_work x) := by
  rcases bs_rg x (a := 1) (b := 300) (by decide) (by decide) with ⟨n, n1, n2, rfl⟩ | hx
  · by_cases ht : S 0 + n ≤ 1000000
    · refine ⟨(sWc S n, sWn S n), ?_, fun G1 m => ?_, ?_⟩
      · unfold fX6_work
        obtain ⟨⟨v1, G1⟩, e1, ⟨hv, c1, f1⟩⟩ := lp (σ := Int32 × Gm) (h := fun f v s => fX6_work_h36 (nI n) f s.1 v s.2) (P := fun i s => s.1 = nI (sWc S i) ∧ CL s.2 0 (sWn S i) ∧ FrC 0 G s.2) (m := n) (fun i f s hi hP => by
          obtain ⟨v, G'⟩ := s
          obtain ⟨hv, hC, hF⟩ := hP
          try dsimp only at hv hC hF
          obtain ⟨a1, a2, a3, a4, a5⟩ := ok_wb (n := i) I (by omega) hr (by omega)
          obtain ⟨G2, e2, c2, f2⟩ := c_tick hC a1 (Nat.lt_of_le_of_lt (Nat.add_le_add_right a5 1000) (by omega)) (by rw [a2]; omega)
          refine ⟨(nI (sWc S (i + 1)), G2), ?_, rfl, c2, hF.tr f2⟩
          try dsimp only
          rw [fX6_work_h36.eq_2, if_neg (by rw [bs_le (by omega) (by omega)]; omega), e2, gm_bs, hv]
          try dsimp only
          rw [nI_add, nI_1]
          rfl) n 0 6000 (0, G) (by omega) (by omega) ⟨rfl, C, FrC.rf⟩
        try dsimp only at e1 hv c1 f1
        obtain ⟨g, hg⟩ : ∃ g, 6000 - n = g + 1 := ⟨5999 - n, by omega⟩
        refine ⟨G1, ?_, c1, f1⟩
        rw [if_neg (by rw [show (1 : Int32) = nI 1 from rfl, bs_lt (by omega) (by decide)]; omega), if_pos (by rw [show (300 : Int32) = nI 300 from rfl, bs_le (by omega) (by decide)]; omega), C.1.tm, nI_add, if_pos (by rw [show (1000000 : Int32) = nI 1000000 from rfl, bs_le (by omega) (by decide)]; omega)]
        refine Eq.trans e1 ?_
        rw [hg, fX6_work_h36.eq_2, if_pos ((bs_le (by omega) (by omega)).mpr (Nat.le_refl _)), hv]
      · unfold fX7_work
        obtain ⟨G2, e1, ⟨c1, f1⟩⟩ := lp (σ := Gm) (h := fun f v s => fX7_work_h38 (nI n) f (nI (gC S 3 (S 381))) v s) (P := fun i s => MA s (sWn S i) ∧ FrM G1 s) (m := n) (fun i f G' hi hP => by
          obtain ⟨a1, a2, a3, a4, a5⟩ := ok_wb (n := i) I (by omega) hr (by omega)
          obtain ⟨G2, e2, c2, f2⟩ := m_wtick hP.1 a1 (Nat.lt_of_le_of_lt (Nat.add_le_add_right a5 1000) (by omega)) (by rw [a2]; omega)
          refine ⟨G2, ?_, c2, hP.2.tr f2⟩
          try dsimp only
          rw [fX7_work_h38.eq_2, if_neg (by rw [bs_le (by omega) (by omega)]; omega), e2, gm_bs, nI_1]) n 0 6000 G1 (by omega) (by omega) ⟨m, FrM.rf⟩
        try dsimp only at e1
        obtain ⟨g, hg⟩ : ∃ g, 6000 - n = g + 1 := ⟨5999 - n, by omega⟩
        obtain ⟨a1, a2, a3, a4, a5⟩ := ok_wb (n := n) I (by omega) hr (by omega)
        have ga := m_at c1 a1 (p := 3) (by decide)
        rw [a4, wn_count I (by omega) hr (by omega)] at ga
        refine ⟨G2, ?_, c1, f1⟩
        rw [m_inr (y := 1) (z := 300) (a := 1) (b := 300) rfl rfl (by decide) (by decide) n1 n2 rfl, gm_bs, if_neg (by decide), m 0 (by decide), nI_add, if_pos (by rw [show (1000000 : Int32) = nI 1000000 from rfl, bs_le (by omega) (by decide)]; omega), show (3 : Int32) = nI 3 from rfl, m_at m I (by decide), gm_bs]
        refine Eq.trans e1 ?_
        rw [hg, fX7_work_h38.eq_2, if_pos ((bs_le (by omega) (by omega)).mpr (Nat.le_refl _)), show (3 : Int32) = nI 3 from rfl, ga, gm_bs, bs_sub (by omega), Nat.add_sub_cancel_left]
      · obtain ⟨a1, a2, a3, a4, a5⟩ := ok_wb (n := n) I (by omega) hr (by omega)
        exact ⟨a1, by dsimp only; rw [a2]; exact ht, a5⟩
    · refine Op.no C I h0 nI_m5 ?_ (fun G1 m => ?_)
      · unfold fX6_work
        rw [if_neg (by rw [show (1 : Int32) = nI 1 from rfl, bs_lt (by omega) (by decide)]; omega), if_pos (by rw [show (300 : Int32) = nI 300 from rfl, bs_le (by omega) (by decide)]; omega), C.1.tm, nI_add, if_neg (by rw [show (1000000 : Int32) = nI 1000000 from rfl, bs_le (by omega) (by decide)]; omega)]
      · unfold fX7_work
        rw [m_inr (y := 1) (z := 300) (a := 1) (b := 300) rfl rfl (by decide) (by decide) n1 n2 rfl, gm_bs, if_neg (by decide), m 0 (by decide), nI_add, if_neg (by rw [show (1000000 : Int32) = nI 1000000 from rfl, bs_le (by omega) (by decide)]; omega)]
  · have hx : x < 1 ∨ 300 < x := hx
    refine Op.no C I h0 nI_m2 ?_ (fun G1 m => ?_)
    · unfold fX6_work
      by_cases c : x < 1
      · rw [if_pos c]
      · rw [if_neg c, if_neg (Int32.not_le.mpr (hx.resolve_left c))]
    · unfold fX7_work
      rw [m_in0 hx, gm_bs, if_pos rfl]
theorem op_pass (C : CL G 0 S) (I : Inv 12 S) (h0 : S 0 ≤ 1000000) (x : Int32) : Op 1 G S (fX6_pass x G) (fX7_pass x) := by
  have bx := I.bx
  rcases bs_rg x (a := 1) (b := 1000) (by decide) (by decide) with ⟨n, n1, n2, rfl⟩ | hx
  · by_cases ht : S 0 + n ≤ 1000000
    · refine ⟨(S 0 + n, sPass S n), ?_, fun G1 m => ?_, ?_⟩
      · unfold fX6_pass
        obtain ⟨G1, e1, c1, f1⟩ := c_pass C I (x := n) (by omega)
        refine ⟨G1, ?_, c1, f1⟩
        rw [if_neg (by rw [show (1 : Int32) = nI 1 from rfl, bs_lt (by omega) (by decide)]; omega), if_pos (by rw [show (1000 : Int32) = nI 1000 from rfl, bs_le (by omega) (by decide)]; omega), C.1.tm, nI_add, if_pos (by rw [show (1000000 : Int32) = nI 1000000 from rfl, bs_le (by omega) (by decide)]; omega), e1, gm_bs, c1.1.tm, sPass_0]
      · unfold fX7_pass
        obtain ⟨G2, e1, ⟨c1, f1⟩⟩ := lp (σ := Gm) (h := fun f v s => fX7_pass_h32 (nI n) f v s) (P := fun i s => MA s (sPass S i) ∧ FrM G1 s) (m := n) (fun i f G' hi hP => by
          obtain ⟨G2, e2, c2, f2⟩ := m_tick hP.1 (i_pass I (by omega)) (by rw [sPass_0]; omega)
          rw [sPass_add bx.2.1] at c2
          refine ⟨G2, ?_, c2, hP.2.tr f2⟩
          try dsimp only
          rw [fX7_pass_h32.eq_2, if_neg (by rw [bs_le (by omega) (by omega)]; omega), e2, gm_bs, nI_1]) n 0 6000 G1 (by omega) (by omega) ⟨by
            rw [show sPass S 0 = S by
              unfold sPass
              rw [show sP1 S 0 (S 381) = S by funext k; unfold sP1; split <;> rfl, show sP2 S 0 (2 * (S 1 - 1)) = S by
                funext k; unfold sP2; split
                · rfl
                · rw [if_neg (by omega)]]
              exact su_self S 0]
            exact m, FrM.rf⟩
        try dsimp only at e1
        obtain ⟨g, hg⟩ : ∃ g, 6000 - n = g + 1 := ⟨5999 - n, by omega⟩
        refine ⟨G2, ?_, c1, f1⟩
        rw [m_inr (y := 1) (z := 1000) (a := 1) (b := 1000) rfl rfl (by decide) (by decide) n1 n2 rfl, gm_bs, if_neg (by decide), m 0 (by decide), nI_add, if_pos (by rw [show (1000000 : Int32) = nI 1000000 from rfl, bs_le (by omega) (by decide)]; omega)]
        refine Eq.trans e1 ?_
        rw [hg, fX7_pass_h32.eq_2, if_pos ((bs_le (by omega) (by omega)).mpr (Nat.le_refl _)), c1 0 (by decide), sPass_0]
      · refine ⟨i_pass I (by omega), by dsimp only; rw [sPass_0]; exact ht, ?_⟩
        try dsimp only
        rw [sPass_o (by omega) (by omega) (by omega)]; omega
    · refine Op.no C I h0 nI_m5 ?_ (fun G1 m => ?_)
      · unfold fX6_pass
        rw [if_neg (by rw [show (1 : Int32) = nI 1 from rfl, bs_lt (by omega) (by decide)]; omega), if_pos (by rw [show (1000 : Int32) = nI 1000 from rfl, bs_le (by omega) (by decide)]; omega), C.1.tm, nI_add, if_neg (by rw [show (1000000 : Int32) = nI 1000000 from rfl, bs_le (by omega) (by decide)]; omega)]
      · unfold fX7_pass
        rw [m_inr (y := 1) (z := 1000) (a := 1) (b := 1000) rfl rfl (by decide) (by decide) n1 n2 rfl, gm_bs, if_neg (by decide), m 0 (by decide), nI_add, if_neg (by rw [show (1000000 : Int32) = nI 1000000 from rfl, bs_le (by omega) (by decide)]; omega)]
  · have hx : x < 1 ∨ 1000 < x := hx
    refine Op.no C I h0 nI_m2 ?_ (fun G1 m => ?_)
    · unfold fX6_pass
      by_cases c : x < 1
      · rw [if_pos c]
      · rw [if_neg c, if_neg (Int32.not_le.mpr (hx.resolve_left c))]
    · unfold fX7_pass
      rw [m_in0 hx, gm_bs, if_pos rfl]
theorem Op.le {a b : Nat} (hab : a ≤ b) {r : Option (Int32 × Gm)} {g : Gm → Option (Int32 × Gm)} (h : Op a G S r g) : Op b G S r g := by
  obtain ⟨q, h1, h2, h3, h4, h5⟩ := h
  exact ⟨q, h1, h2, h3, h4, Nat.le_trans h5 (by omega)⟩
end
