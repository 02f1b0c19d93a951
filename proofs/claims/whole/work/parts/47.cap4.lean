section
variable {S S' R R' : Sm} {M M' k d : Nat}
theorem dp_v (c : CI k d S) (I : Inv M S) (hd : d < 2) : CI k d (sIt sDepart S (S 381)) ∧ (∀ j, j < 10 → sIn (sIt sDepart S (S 381)) j = (if sB S j 0 = 1 then true else sIn S j)) ∧ (∀ j, j < 10 → sB S j 0 = 1 → sT (sIt sDepart S (S 381)) (sB S j 2) 4 = S (3 + j / 2) + k - 1) ∧ (∀ j, j < 10 → sB S j 0 ≠ 1 → sIn S j = true → sT (sIt sDepart S (S 381)) (sB S j 2) 4 = sT S (sB S j 2) 4) ∧ (∀ x, At (sIt sDepart S (S 381)) x ↔ At S x ∧ ¬ ∃ j, j < 10 ∧ j % 2 = d ∧ sRr j = x ∧ sB S j 0 = 1) := by
  have bx := I.bx
  have tn := I.tn
  have nn : NN = 4294967290 := rfl
  obtain ⟨h1, h2, h3, h4⟩ := dp_ch c I hd (S 381) (Nat.le_refl _)
  generalize sIt sDepart S (S 381) = Z at *
  have n : Z 381 = S 381 := h1 _ (by omega)
  have ol : ∀ j, j < 10 → sB S j 0 = 1 → sB S j 2 < S 381 := by
    intro j hj e
    have bk := I.bk hj
    rcases bk.2.2.1 with z | z
    · have := bk.2.2.2.2.2.2.2.mp z; omega
    · exact z
  have jd : ∀ j, j < 10 → sB S j 0 = 1 → j % 2 = d := by
    intro j hj e
    by_cases z : j % 2 = d
    · exact z
    · have := (c.2.2.1 j hj z).1; omega
  have no : ∀ t, ¬ (∃ j, j < 10 ∧ sB S j 0 = 1 ∧ sB S j 2 = t) → ∀ w, w < 8 → sT Z t w = sT S t w := fun t p w hw => h3 t w hw (fun j hj e1 e2 => absurd ⟨j, hj, e1, e2⟩ p)
  have yes : ∀ j, j < 10 → sB S j 0 = 1 → sT Z (sB S j 2) 0 = k ∧ sT Z (sB S j 2) 1 = d ∧ sT Z (sB S j 2) 2 = 2 ∧ sT Z (sB S j 2) 3 = j / 2 ∧ sT Z (sB S j 2) 4 = S (3 + j / 2) + k - 1 := fun j hj e => h4 j hj e (ol j hj e)
  have b0 : ∀ j, j < 10 → sB Z j 0 = if sB S j 0 = 1 then 2 else sB S j 0 := by
    intro j hj
    rw [h2 j 0 hj (by decide)]
    by_cases e : sB S j 0 = 1
    · rw [if_pos e, if_pos ⟨rfl, e, ol j hj e⟩]
    · rw [if_neg e, if_neg (fun z => e z.2.1)]
  have bo : ∀ j w, j < 10 → w < 5 → w ≠ 0 → sB Z j w = sB S j w := fun j w hj hw q => by rw [h2 j w hj hw, if_neg (fun z => q z.1)]
  refine ⟨?_, fun j hj => ?_, fun j hj e => (yes j hj e).2.2.2.2, fun j hj e q => ?_, fun x => ?_⟩
  · obtain ⟨c1, c2, c3, c4, c5⟩ := c
    refine ⟨fun t ht => ?_, fun t t' ht ht' ne q1 q2 => ?_, fun j hj q => ?_, fun j hj => ?_, fun t ht q => ?_⟩
    · rw [n] at ht
      by_cases p : ∃ j, j < 10 ∧ sB S j 0 = 1 ∧ sB S j 2 = t
      · obtain ⟨j, hj, e1, rfl⟩ := p
        obtain ⟨y0, y1, y2, -⟩ := yes j hj e1
        exact ⟨y0, y1, by omega⟩
      · rw [no t p 0 (by decide), no t p 1 (by decide), no t p 2 (by decide)]; exact c1 t ht
    · rw [n] at ht ht'
      by_cases p : ∃ j, j < 10 ∧ sB S j 0 = 1 ∧ sB S j 2 = t
      · obtain ⟨j, hj, e1, rfl⟩ := p
        obtain ⟨-, -, y2, y3, -⟩ := yes j hj e1
        have dj := jd j hj e1
        by_cases p' : ∃ j, j < 10 ∧ sB S j 0 = 1 ∧ sB S j 2 = t'
        · obtain ⟨j', hj', e1', rfl⟩ := p'
          obtain ⟨-, -, -, y3', -⟩ := yes j' hj' e1'
          have dj' := jd j' hj' e1'
          rw [y3, y3']
          intro z
          exact ne (by rw [show j = j' by omega])
        · rw [no t' p' 2 (by decide), y2] at q1
          rw [y3, no t' p' 3 (by decide)]
          intro z
          have := (c5 t' ht' q1.symm).1
          rw [← z, show 2 * (j / 2) + d = j by omega] at this
          omega
      · by_cases p' : ∃ j, j < 10 ∧ sB S j 0 = 1 ∧ sB S j 2 = t'
        · obtain ⟨j', hj', e1', rfl⟩ := p'
          obtain ⟨-, -, y2', y3', -⟩ := yes j' hj' e1'
          have dj' := jd j' hj' e1'
          rw [no t p 2 (by decide), y2'] at q1
          rw [y3', no t p 3 (by decide)]
          intro z
          have := (c5 t ht q1).1
          rw [z, show 2 * (j' / 2) + d = j' by omega] at this
          omega
        · rw [no t p 2 (by decide)] at q1 q2
          rw [no t' p' 2 (by decide)] at q1
          rw [no t p 3 (by decide), no t' p' 3 (by decide)]
          exact c2 t t' ht ht' ne q1 q2
    · have := c3 j hj q
      rw [b0 j hj, bo j 1 hj (by decide) (by decide), if_neg (by omega)]; exact this
    · rw [bo j 3 hj (by decide) (by decide)]; exact c4 j hj
    · rw [n] at ht
      by_cases p : ∃ j, j < 10 ∧ sB S j 0 = 1 ∧ sB S j 2 = t
      · obtain ⟨j, hj, e1, rfl⟩ := p
        obtain ⟨-, -, -, y3, -⟩ := yes j hj e1
        have dj := jd j hj e1
        rw [y3, show 2 * (j / 2) + d = j by omega, b0 j hj, if_pos e1, bo j 2 hj (by decide) (by decide)]
        exact ⟨rfl, rfl⟩
      · rw [no t p 2 (by decide)] at q
        obtain ⟨r1, r2⟩ := run_lt I ⟨c1, c2, c3, c4, c5⟩ hd ht q
        obtain ⟨e1, e2⟩ := c5 t ht q
        rw [no t p 3 (by decide), b0 _ r1, bo _ 2 r1 (by decide) (by decide), if_neg (by omega)]
        exact ⟨e1, e2⟩
  · by_cases e : sB S j 0 = 1
    · rw [if_pos e]
      obtain ⟨-, -, y2, y3, -⟩ := yes j hj e
      have := ol j hj e
      exact in_iff.mpr ⟨by rw [bo j 2 hj (by decide) (by decide)]; omega, by rw [bo j 2 hj (by decide) (by decide)]; exact y2, by rw [bo j 2 hj (by decide) (by decide)]; exact y3⟩
    · rw [if_neg e]
      by_cases p : ∃ j', j' < 10 ∧ sB S j' 0 = 1 ∧ sB S j' 2 = sB S j 2
      · obtain ⟨j', hj', e1, e2⟩ := p
        obtain ⟨-, -, y2, y3, -⟩ := yes j' hj' e1
        obtain ⟨p1, -, -⟩ := (I.ps hj').2 e1
        have dj := jd j' hj' e1
        have oj := ol j' hj' e1
        have f1 : sIn S j = false := by
          cases z : sIn S j with
          | false => rfl
          | true => have := (in_iff.mp z).2.1; rw [← e2] at this; omega
        rw [f1]
        cases z : sIn Z j with
        | false => rfl
        | true =>
          have z3 := (in_iff.mp z).2.2
          rw [bo j 2 hj (by decide) (by decide), ← e2, y3] at z3
          by_cases q : j % 2 = d
          · rw [show j' = j by omega] at e1; exact absurd e1 e
          · have := (I.bk hj).2.2.2.2.2.2.2.mpr (Or.inl (c.2.2.1 j hj q).1)
            omega
      · unfold sIn
        rw [bo j 2 hj (by decide) (by decide), no _ p 2 (by decide), no _ p 3 (by decide)]
  · refine no _ ?_ 4 (by decide)
    rintro ⟨j', hj', e1, e2⟩
    obtain ⟨p1, -, -⟩ := (I.ps hj').2 e1
    have := (in_iff.mp q).2.1
    rw [← e2] at this
    omega
  · unfold At
    rw [n]
    constructor
    · rintro ⟨t, t1, t2, t3⟩
      have p : ¬ ∃ j, j < 10 ∧ sB S j 0 = 1 ∧ sB S j 2 = t := by
        rintro ⟨j, hj, e1, rfl⟩
        have := (yes j hj e1).2.2.1; omega
      rw [no t p 2 (by decide)] at t2
      rw [no t p 3 (by decide)] at t3
      refine ⟨⟨t, t1, t2, t3⟩, ?_⟩
      rintro ⟨j, hj, j1, j2, j3⟩
      obtain ⟨p1, p2, p3⟩ := (I.ps hj).2 j3
      by_cases e : sB S j 2 = t
      · exact p ⟨j, hj, j3, e⟩
      · exact c.2.1 _ t (ol j hj j3) t1 e (by rw [p1, t2]) (by omega) (by rw [p2, t3, j2])
    · rintro ⟨⟨t, t1, t2, t3⟩, hno⟩
      have p : ¬ ∃ j, j < 10 ∧ sB S j 0 = 1 ∧ sB S j 2 = t := by
        rintro ⟨j, hj, e1, rfl⟩
        obtain ⟨p1, p2, p3⟩ := (I.ps hj).2 e1
        exact hno ⟨j, hj, jd j hj e1, p2.symm.trans t3, e1⟩
      exact ⟨t, t1, by rw [no t p 2 (by decide)]; exact t2, by rw [no t p 3 (by decide)]; exact t3⟩
theorem vw_dp (I : Inv M S) (J : Inv M' R) (c : CI k d S) (c' : CI k d R) (hd : d < 2) (v : Vw S R) : Vw (sIt sDepart S (S 381)) (sIt sDepart R (R 381)) := by
  obtain ⟨v1, v2, v3⟩ := v
  obtain ⟨-, a2, a3, a4, a5⟩ := dp_v c I hd
  obtain ⟨-, b2, b3, b4, b5⟩ := dp_v c' J hd
  obtain ⟨h1, h2, -, -⟩ := dp_ch c I hd (S 381) (Nat.le_refl _)
  obtain ⟨g1, g2, -, -⟩ := dp_ch c' J hd (R 381) (Nat.le_refl _)
  have nn : NN = 4294967290 := rfl
  have ol : ∀ {M : Nat} {S : Sm}, Inv M S → ∀ j, j < 10 → sB S j 0 = 1 → sB S j 2 < S 381 := by
    intro M S I j hj e
    have bk := I.bk hj
    rcases bk.2.2.1 with z | z
    · have := bk.2.2.2.2.2.2.2.mp z; omega
    · exact z
  refine ⟨fun i i1 i2 => ?_, fun j hj => ?_, fun x => ?_⟩
  · rw [h1 i (by omega), g1 i (by omega)]; exact v1 i i1 i2
  · obtain ⟨y0, y1, y2, y3⟩ := v2 j hj
    rw [h2 j 1 hj (by decide), g2 j 1 hj (by decide), h2 j 2 hj (by decide), g2 j 2 hj (by decide), if_neg (by omega), if_neg (by omega), if_neg (by omega), if_neg (by omega), a2 j hj, b2 j hj, h2 j 0 hj (by decide), g2 j 0 hj (by decide)]
    by_cases e : sB S j 0 = 1
    · have e' : sB R j 0 = 1 := by rw [← y0]; exact e
      rw [if_pos ⟨rfl, e, ol I j hj e⟩, if_pos ⟨rfl, e', ol J j hj e'⟩, if_pos e, if_pos e', a3 j hj e, b3 j hj e', v1 (3 + j / 2) (by omega) (by omega)]
      exact ⟨rfl, y1, rfl, fun _ => rfl⟩
    · have e' : ¬ sB R j 0 = 1 := by rw [← y0]; exact e
      rw [if_neg (fun z => e z.2.1), if_neg (fun z => e' z.2.1), if_neg e, if_neg e']
      refine ⟨y0, y1, y2, fun q => ?_⟩
      rw [a4 j hj e q, b4 j hj e' (by rw [← y2]; exact q)]
      exact y3 q
  · rw [a5, b5, v3 x]
    constructor
    · rintro ⟨z1, z2⟩
      exact ⟨z1, fun ⟨j, hj, q1, q2, q3⟩ => z2 ⟨j, hj, q1, q2, by rw [(v2 j hj).1]; exact q3⟩⟩
    · rintro ⟨z1, z2⟩
      exact ⟨z1, fun ⟨j, hj, q1, q2, q3⟩ => z2 ⟨j, hj, q1, q2, by rw [← (v2 j hj).1]; exact q3⟩⟩
/-- ticks -/
theorem pa_v (c : CI k d S) (I : Inv M S) (hd : d < 2) {x : Nat} : CI k d (sPass S x) ∧ (∀ i, 1 ≤ i → i < 30 → sPass S x i = S i) ∧ sPass S x 381 = S 381 ∧ (∀ j w, j < 10 → w < 3 → sB (sPass S x) j w = sB S j w) ∧ (∀ i, 382 ≤ i → (i - 382) % 8 ≠ 4 → sPass S x i = S i) ∧ (∀ j, j < 10 → sIn S j = true → sT (sPass S x) (sB S j 2) 4 = sT S (sB S j 2) 4 - x) := by
  have bx := I.bx
  have hb : ∀ j w, j < 10 → w < 3 → sB (sPass S x) j w = sB S j w := fun j w hj hw => sPass_o (by omega) (by omega) (by omega)
  have h381 : sPass S x 381 = S 381 := sPass_o (by omega) (by omega) (by omega)
  have ht : ∀ i, 382 ≤ i → (i - 382) % 8 ≠ 4 → sPass S x i = S i := fun i h1 h2 => sPass_o (by omega) (by omega) (by omega)
  refine ⟨c.of h381 ht (fun j hj => ?_) (fun j hj _ => ⟨hb j 0 hj (by decide), hb j 1 hj (by decide)⟩) (fun t h q => ?_), fun i i1 i2 => sPass_o (by omega) (by omega) (by omega), h381, hb, ht, fun j hj q => ?_⟩
  · have := c.2.2.2.1 j hj
    by_cases e : j < 2 * (S 1 - 1)
    · rw [show sB (sPass S x) j 3 = _ from sPass_p (k := 30 + 5 * j + 3) (by omega) bx.2.1]
      split
      · exact this.symm
      · rfl
    · exact sPass_o (by omega) (by omega) (by omega)
  · obtain ⟨r1, r2⟩ := run_lt I c hd h q
    rw [hb _ 0 r1 (by decide), hb _ 2 r1 (by decide)]; exact c.2.2.2.2 t h q
  · obtain ⟨z1, z2, z3⟩ := in_iff.mp q
    have lt : sB S j 2 < S 381 := ((I.bk hj).2.2.1).resolve_left z1
    rw [show sT (sPass S x) (sB S j 2) 4 = _ from sPass_l (k := 382 + 8 * sB S j 2 + 4) (by omega) bx.2.1]
    rw [show 382 + 8 * sB S j 2 + 4 - 2 = 382 + 8 * sB S j 2 + 2 by omega, if_pos z2]
theorem vw_pass (I : Inv M S) (J : Inv M' R) (c : CI k d S) (c' : CI k d R) (hd : d < 2) (v : Vw S R) {x : Nat} : Vw (sPass S x) (sPass R x) := by
  obtain ⟨v1, v2, v3⟩ := v
  obtain ⟨-, a1, a2, a3, a4, a5⟩ := pa_v c I hd (x := x)
  obtain ⟨-, b1, b2, b3, b4, b5⟩ := pa_v c' J hd (x := x)
  refine ⟨fun i i1 i2 => ?_, fun j hj => ?_, fun y => ?_⟩
  · rw [a1 i i1 (by omega), b1 i i1 (by omega)]; exact v1 i i1 i2
  · obtain ⟨y0, y1, y2, y3⟩ := v2 j hj
    rw [a3 j 0 hj (by decide), a3 j 1 hj (by decide), a3 j 2 hj (by decide), b3 j 0 hj (by decide), b3 j 1 hj (by decide), b3 j 2 hj (by decide), in_of (a3 j 2 hj (by decide)) a4, in_of (b3 j 2 hj (by decide)) b4]
    refine ⟨y0, y1, y2, fun q => ?_⟩
    rw [a5 j hj q, b5 j hj (by rw [← y2]; exact q), y3 q]
  · rw [At.of a2 a4, At.of b2 b4]; exact v3 y
/-- blocks one after the other -/
theorem vw_it {op : Sm → Nat → Nat × Sm} {m : Nat} (hm : m ≤ 10) (c : CI k d S) (c' : CI k d R) (v : Vw S R) (i1 : ∀ i, i ≤ m → Inv M (sIt op S i)) (i2 : ∀ i, i ≤ m → Inv M' (sIt op R i))
    (h1 : ∀ (M : Nat) (S : Sm) (j : Nat), Inv M S → CI k d S → j < 10 → CI k d (op S j).2) (h2 : ∀ (M M' : Nat) (S R : Sm) (j : Nat), Inv M S → Inv M' R → CI k d S → CI k d R → Vw S R → j < 10 → Vw (op S j).2 (op R j).2) : ∀ i, i ≤ m → CI k d (sIt op S i) ∧ CI k d (sIt op R i) ∧ Vw (sIt op S i) (sIt op R i) := by
  intro i
  induction i with
  | zero => exact fun _ => ⟨c, c', v⟩
  | succ i ih =>
    intro hi
    obtain ⟨a1, a2, a3⟩ := ih (by omega)
    exact ⟨h1 M _ i (i1 i (by omega)) a1 (by omega), h1 M' _ i (i2 i (by omega)) a2 (by omega), h2 M M' _ _ i (i1 i (by omega)) (i2 i (by omega)) a1 a2 a3 (by omega)⟩
theorem as_it (c : CI k d S) : ∀ m, m ≤ 10 → sIt sAssist S m = S := by
  intro m
  induction m with
  | zero => exact fun _ => rfl
  | succ m ih =>
    intro hm
    show (sAssist (sIt sAssist S m) m).2 = S
    rw [ih (by omega), assist_id c (by omega)]
theorem vw_tick (I : Inv M S) (J : Inv M' R) (c : CI k d S) (c' : CI k d R) (hd : d < 2) (v : Vw S R) (hr : S 80 + 1000 < 2147483647) (hr' : R 80 + 1000 < 2147483647) (h0 : S 0 < 2147483647) (h0' : R 0 < 2147483647) : CI k d (sWk S) ∧ CI k d (sWk R) ∧ Vw (sWk S) (sWk R) ∧ sWl S = sWl R := by
  have bx := I.bx
  have e1 : R 1 = S 1 := (v.1 1 (by decide) (by decide)).symm
  have m10 : 2 * (S 1 - 1) ≤ 10 := by omega
  have o1 := ok_1 I hr
  have o2 := ok_2 I hr
  have o3 := ok_3 I hr
  have o4 := ok_4 I hr
  have o5 := ok_5 I hr
  have o6 := ok_6 I hr
  have o7 := ok_7 I hr
  have q1 := ok_1 J hr'
  have q2 := ok_2 J hr'
  have q3 := ok_3 J hr'
  have q4 := ok_4 J hr'
  have q5 := ok_5 J hr'
  have q6 := ok_6 J hr'
  have q7 := ok_7 J hr'
  have r2 := o2.2.2.2.2
  have r5 := o5.2.2.2.2
  have t2 := q2.2.2.2.2
  have t5 := q5.2.2.2.2
  have p1 := ph_blk I (by omega) ho_out
  have p1' := ph_blk J (by omega) ho_out
  rw [e1] at p1'
  obtain ⟨a1, a2, a3⟩ := vw_it m10 c c' v (fun i hi => (p1 i hi).1) (fun i hi => (p1' i hi).1) (fun M S j I c hj => ci_out I c hd hj) (fun M M' S R j I J c c' v hj => vw_out I J c c' v hj) _ (Nat.le_refl (2 * (S 1 - 1)))
  have a1 : CI k d (sQ1 S) := a1
  have a2 : CI k d (sQ1 R) := by unfold sQ1; rw [e1]; exact a2
  have a3 : Vw (sQ1 S) (sQ1 R) := by unfold sQ1; rw [e1]; exact a3
  have s2 : sQ2 S = sQ1 S := as_it a1 _ m10
  have s2' : sQ2 R = sQ1 R := as_it a2 _ (by omega)
  rw [← s2] at a1 a3
  rw [← s2'] at a2 a3
  have p3 := ph_blk o2.1 (by omega) ho_admit
  have p3' := ph_blk q2.1 (by omega) ho_admit
  rw [o2.2.2.1] at p3
  rw [q2.2.2.1, e1] at p3'
  obtain ⟨b1, b2, b3⟩ := vw_it m10 a1 a2 a3 (fun i hi => (p3 i hi).1) (fun i hi => (p3' i hi).1) (fun M S j I c hj => ci_admit I c hd hj) (fun M M' S R j I J c c' v hj => vw_admit I J c c' v hj) _ (Nat.le_refl (2 * (S 1 - 1)))
  have b1 : CI k d (sQ3 S) := b1
  have b2 : CI k d (sQ3 R) := by unfold sQ3; rw [e1]; exact b2
  have b3 : Vw (sQ3 S) (sQ3 R) := by unfold sQ3; rw [e1]; exact b3
  obtain ⟨c4, c4n⟩ := vw_lv o3.1 q3.1 b1 b2 b3 (by rw [o3.2.1]; omega) (by rw [q3.2.1]; omega)
  have c1 := (lv_v b1 o3.1).1
  have c2 := (lv_v b2 q3.1).1
  rw [o3.2.2.2.1] at c1 c4 c4n
  rw [q3.2.2.2.1] at c2 c4 c4n
  have c1 : CI k d (sQ4 S) := c1
  have c2 : CI k d (sQ4 R) := c2
  have c4 : Vw (sQ4 S) (sQ4 R) := c4
  have d1 := (of_v c1 o4.1 hd).1
  have d2 := (of_v c2 q4.1 hd).1
  have d3 := vw_of o4.1 q4.1 c1 c2 hd c4
  rw [o4.2.2.2.1] at d1 d3
  rw [q4.2.2.2.1] at d2 d3
  have d1 : CI k d (sQ5 S) := d1
  have d2 : CI k d (sQ5 R) := d2
  have d3 : Vw (sQ5 S) (sQ5 R) := d3
  have p6 := ph_blk o5.1 (by omega) ho_ans
  have p6' := ph_blk q5.1 (by omega) ho_ans
  rw [o5.2.2.1] at p6
  rw [q5.2.2.1, e1] at p6'
  obtain ⟨f1, f2, f3⟩ := vw_it m10 d1 d2 d3 (fun i hi => (p6 i hi).1) (fun i hi => (p6' i hi).1) (fun M S j I c hj => ci_ans I c hd hj) (fun M M' S R j I J c c' v hj => vw_ans I J c c' v hj) _ (Nat.le_refl (2 * (S 1 - 1)))
  have f1 : CI k d (sQ6 S) := f1
  have f2 : CI k d (sQ6 R) := by unfold sQ6; rw [e1]; exact f2
  have f3 : Vw (sQ6 S) (sQ6 R) := by unfold sQ6; rw [e1]; exact f3
  have g1 := (dp_v f1 o6.1 hd).1
  have g2 := (dp_v f2 q6.1 hd).1
  have g3 := vw_dp o6.1 q6.1 f1 f2 hd f3
  rw [o6.2.2.2.1] at g1 g3
  rw [q6.2.2.2.1] at g2 g3
  have g1 : CI k d (sQ7 S) := g1
  have g2 : CI k d (sQ7 R) := g2
  have g3 : Vw (sQ7 S) (sQ7 R) := g3
  exact ⟨(pa_v g1 o7.1 hd).1, (pa_v g2 q7.1 hd).1, vw_pass o7.1 q7.1 g1 g2 hd g3, c4n⟩
end
