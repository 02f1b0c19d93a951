section
variable {G : Gm} {S R Z : Sm} {M M' k d l : Nat}
theorem Vw.rf : Vw S S := ⟨fun _ _ _ => rfl, fun _ _ => ⟨rfl, Iff.rfl, rfl, fun _ => rfl⟩, fun _ => Iff.rfl⟩
theorem th_le {i : Nat} (h : i ≤ 300) (a : Nat) : a + i * 1000 ≤ a + 300000 := Nat.add_le_add_left (Nat.mul_le_mul_right 1000 h) a
theorem cr_ok (I : Inv 305 R) (c : CI k d R) (hd : d < 2) (hk : 1 ≤ k ∧ k ≤ 5) (h0 : R 0 = 0) (hn : R 381 = 0) (hr : R 80 = 0) (i : Nat) : i ≤ 300 → Inv 305 (sCr k d R i) ∧ CI k d (sCr k d R i) ∧ sCr k d R i 0 = i ∧ sCr k d R i 381 ≤ i ∧ sCr k d R i 80 ≤ 0 + i * 1000 := by
  induction i with
  | zero => exact fun _ => ⟨I, c, h0, by rw [show sCr k d R 0 = R from rfl, hn]; exact Nat.le_refl _, by rw [show sCr k d R 0 = R from rfl, hr]; exact Nat.zero_le _⟩
  | succ i ih =>
    intro hi
    have hi0 : i ≤ 300 := by clear ih; omega
    have hi5 : i < 305 := by clear ih; omega
    obtain ⟨a1, a2, a3, a4, a5⟩ := ih hi0
    obtain ⟨b1, b2, b3, b4, b5, -, -⟩ := rb_ok a1 a2 hd hk (Nat.lt_of_le_of_lt a4 hi5)
    have r1 : sRb k d (sCr k d R i) 80 + 1000 < 2147483647 := by
      rw [b4]
      exact Nat.lt_of_le_of_lt (Nat.add_le_add_right (Nat.le_trans a5 (th_le hi0 0)) 1000) (by decide)
    have r0 : sRb k d (sCr k d R i) 0 < 2147483647 := by
      rw [b3, a3]; exact Nat.lt_of_le_of_lt hi0 (by decide)
    obtain ⟨d1, d2, d3, d4, d5⟩ := ok_wk b1 r1 r0
    obtain ⟨e1, -, -, -⟩ := vw_tick b1 b1 b2 b2 hd Vw.rf r1 r1 r0 r0
    refine ⟨d1, e1, d2.trans (by rw [b3, a3]), ?_, ?_⟩
    · show sWk (sRb k d (sCr k d R i)) 381 ≤ i + 1
      rw [d4]
      exact Nat.le_trans b5 (Nat.add_le_add_right a4 1)
    · show sWk (sRb k d (sCr k d R i)) 80 ≤ 0 + (i + 1) * 1000
      refine Nat.le_trans d5 ?_
      rw [b4, Nat.succ_mul, ← Nat.add_assoc]
      exact Nat.add_le_add_right a5 1000
/-- a row without trains -/
def Emp (S Z : Sm) : Prop := (∀ i, 1 ≤ i → i < 30 → Z i = S i) ∧ (∀ j w, j < 10 → w < 5 → sB Z j w = if w = 1 ∨ w = 2 then NN else 0) ∧ Z 381 = 0
theorem emp_in (h : Emp S Z) {j : Nat} (hj : j < 10) : sIn Z j = false := by
  cases z : sIn Z j with
  | false => rfl
  | true => exact absurd (by rw [h.2.1 j 2 hj (by decide), if_pos (Or.inr rfl)]) (in_iff.mp z).1
theorem emp_i (I : Inv M S) (h : Emp S Z) (hlt : ∀ i, Z i < 4294967296) (hM : M' ≤ 305) : Inv M' Z ∧ CI k d Z := by
  obtain ⟨h1, h2, h3⟩ := h
  have e1 := h1 1 (by decide) (by decide)
  have e2 := h1 2 (by decide) (by decide)
  refine ⟨⟨hlt, by rw [e1, e2]; exact I.bx, by rw [h3]; omega, fun s hs => ?_, fun i hi => ?_, fun j hj => ?_, fun t ht => ?_, fun j hj => ?_, fun j hj q => ?_⟩, fun t ht => ?_, fun t t' ht => ?_, fun j hj q => ?_, fun j hj => ?_, fun t ht => ?_⟩
  · have sc := I.sc hs
    rw [h1 (3 + s) (by omega) (by omega), h1 (8 + 2 * s) (by omega) (by omega), h1 (8 + 2 * s + 1) (by omega) (by omega)]
    unfold sTo sOn
    rw [h2 (2 * s) 0 (by omega) (by decide), h2 (2 * s + 1) 0 (by omega) (by decide)]
    refine ⟨sc.1, sc.2.1, sc.2.2.1, ?_, ?_⟩ <;> simp
  · rw [h1 (18 + i) (by omega) (by omega)]; exact I.lp hi
  · rw [h2 j 0 hj (by decide), h2 j 1 hj (by decide), h2 j 2 hj (by decide), h2 j 3 hj (by decide), h2 j 4 hj (by decide)]
    simp
  · rw [h3] at ht; exact absurd ht (Nat.not_lt_zero _)
  · rw [h2 j 0 hj (by decide), h2 j 1 hj (by decide)]
    simp
  · rw [h2 j 0 hj (by decide), h2 j 1 hj (by decide)]
    simp
  · rw [h3] at ht; exact absurd ht (Nat.not_lt_zero _)
  · rw [h3] at ht; exact absurd ht (Nat.not_lt_zero _)
  · rw [h2 j 0 hj (by decide), h2 j 1 hj (by decide)]
    simp
  · rw [h2 j 3 hj (by decide)]
    simp
  · rw [h3] at ht; exact absurd ht (Nat.not_lt_zero _)
theorem emp_v (h : Emp S Z) (h' : Emp S R) : Vw Z R := by
  refine ⟨fun i i1 i2 => ?_, fun j hj => ?_, fun x => ?_⟩
  · rw [h.1 i i1 (by omega), h'.1 i i1 (by omega)]
  · rw [h.2.1 j 0 hj (by decide), h'.2.1 j 0 hj (by decide), h.2.1 j 1 hj (by decide), h'.2.1 j 1 hj (by decide), emp_in h hj, emp_in h' hj]
    exact ⟨rfl, Iff.rfl, rfl, fun q => by cases q⟩
  · constructor
    · rintro ⟨t, ht, -⟩
      rw [h.2.2] at ht; exact absurd ht (Nat.not_lt_zero _)
    · rintro ⟨t, ht, -⟩
      rw [h'.2.2] at ht; exact absurd ht (Nat.not_lt_zero _)
theorem sClr_B {j w : Nat} (hj : j < 10) (hw : w < 5) : sB (sClr S) j w = if w = 1 ∨ w = 2 then NN else 0 := by
  show sClr S (30 + 5 * j + w) = _
  unfold sClr
  rw [if_pos (by omega)]
  by_cases c : w = 1 ∨ w = 2
  · rw [if_pos c, if_pos (by omega)]
  · rw [if_neg c, if_neg (by omega)]
theorem sClr_ne {i : Nat} (h : i < 30 ∨ 80 ≤ i) : sClr S i = S i := by unfold sClr; rw [if_neg (by omega)]
theorem sClr_lt (h : ∀ i, S i < 4294967296) (i : Nat) : sClr S i < 4294967296 := by
  have nn : NN = 4294967290 := rfl
  have := h i
  unfold sClr
  repeat' split
  all_goals omega
theorem c_clr (C : CL G l S) (I : Inv 12 S) : ∃ G', fX1_clearTraffic l G = some G' ∧ CL G' l (su (sClr S) 381 0) ∧ FrC l G G' := by
  obtain ⟨G1, e1, f1, t1, t2, t3, t4⟩ := c_clrT (l := l) (G := G)
  obtain ⟨⟨⟨a1, a2, a3, a4⟩, hs, hk, hb, hr, ht, hy⟩, T⟩ := C
  have z : ∀ i, i ≠ 381 → i < 30 ∨ 80 ≤ i → su (sClr S) 381 0 i = S i := fun i q1 q2 => by rw [su_ne q1, sClr_ne q2]
  have e2 : su (sClr S) 381 0 2 = S 2 := z 2 (by omega) (by omega)
  have zb : ∀ j w, j < 10 → w < 5 → sB (su (sClr S) 381 0) j w = if w = 1 ∨ w = 2 then NN else 0 := fun j w hj hw => by
    show su _ _ _ _ = _
    rw [su_ne (by omega)]; exact sClr_B hj hw
  refine ⟨G1, e1, ⟨⟨⟨?_, ?_, ?_, ?_⟩, ?_, ?_, ?_, ?_, ?_, ?_⟩, ?_⟩, f1⟩
  · rw [t4 1 0 7 (by decide) (by decide) (by decide), z 0 (by omega) (by omega)]; exact a1
  · rw [t4 1 0 5 (by decide) (by decide) (by decide), z 1 (by omega) (by omega)]; exact a2
  · rw [t1, su_at]; rfl
  · rw [t4 3 0 1 (by decide) (by decide) (by decide), z 80 (by omega) (by omega)]; exact a4
  · intro s q
    rw [t4 4 s 1 (by decide) (by decide) (by decide), t4 4 s 2 (by decide) (by decide) (by decide), t4 4 s 3 (by decide) (by decide) (by decide), t4 4 s 4 (by decide) (by decide) (by decide), sSg_of e2, z (3 + s) (by omega) (by omega), z (8 + 2 * s) (by omega) (by omega), z (8 + 2 * s + 1) (by omega) (by omega)]
    exact hs s q
  · intro i q
    rw [t4 8 0 i (by decide) (by omega) (by omega), z (18 + i) (by omega) (by omega)]; exact hk i q
  · intro j q w q'
    obtain ⟨r0, r1, r2, r3, r4⟩ := t3 j q
    rw [zb j w q q']
    rcases (show w = 0 ∨ w = 1 ∨ w = 2 ∨ w = 3 ∨ w = 4 by omega) with rfl | rfl | rfl | rfl | rfl
    · exact r0
    · exact r1.trans nI_NN.symm
    · exact r2.trans nI_NN.symm
    · exact r3
    · exact r4
  · intro i q q'
    rw [z 80 (by omega) (by omega)] at q'
    rw [t4 8 1 i (by decide) (by omega) (by omega), z (81 + i) (by omega) (by omega)]; exact hr i q q'
  · intro t q
    rw [su_at] at q; exact absurd q (Nat.not_lt_zero _)
  · intro t q
    rw [t4 5 t 6 (by decide) (by decide) (by decide)]; exact hy t q
  · intro s q
    rw [t2 s q]
    have v : sTo (su (sClr S) 381 0) s = false := by
      unfold sTo sOn
      rw [zb _ 0 (by omega) (by decide), zb _ 0 (by omega) (by decide)]
      simp
    rw [v]; rfl
theorem op_capacity (C : CL G 0 S) (I : Inv 12 S) (hr : S 80 + 600000 < 2147483647) (h0 : S 0 ≤ 1000000) (x y z : Int32) : Tri G S (fX6_capacity x y z G) (fX7_capacity x y z) := by
  rcases bs_rg x (a := 1) (b := 5) (by decide) (by decide) with ⟨k, k1, k2, rfl⟩ | hx
  · have ik : fX6_isKind (nI k) = some 1 := by
      unfold fX6_isKind
      rw [if_neg (by rw [show (1 : Int32) = nI 1 from rfl, bs_lt (by omega) (by decide)]; omega), if_neg (by rw [show (5 : Int32) = nI 5 from rfl, bs_lt (by decide) (by omega)]; omega)]
    have jk := m_inr (x := nI k) (y := 1) (z := 5) (a := 1) (b := 5) rfl rfl (by decide) (by decide) k1 k2 rfl
    rcases c_way y with ⟨d, hd, rfl⟩ | hy
    · rcases bs_rg z (a := 1) (b := 300) (by decide) (by decide) with ⟨n, n1, n2, rfl⟩ | hz
      · -- the rows with which both begin
        have eS : Emp S (su (sClr S) 381 0) := ⟨fun i i1 i2 => by rw [su_ne (by omega), sClr_ne (by omega)], fun j w hj hw => by
          show su _ _ _ _ = _
          rw [su_ne (by omega)]; exact sClr_B hj hw, su_at _ _ _⟩
        have eR : Emp S (sClr (su (su (su S 0 0) 381 0) 80 0)) := ⟨fun i i1 i2 => by rw [sClr_ne (by omega), su_ne (by omega), su_ne (by omega), su_ne (by omega)], fun j w hj hw => sClr_B hj hw, by rw [sClr_ne (by omega), su_ne (by omega), su_at]⟩
        have iS := emp_i (k := k) (d := d) (M' := 12) I eS (su_lt (sClr_lt I.1) (by decide)) (by decide)
        have iR := emp_i (k := k) (d := d) (M' := 305) I eR (sClr_lt (su_lt (su_lt (su_lt I.1 (by decide)) (by decide)) (by decide))) (by decide)
        have vv : Vw (su (sClr S) 381 0) (sClr (su (su (su S 0 0) 381 0) 80 0)) := emp_v eS eR
        have s0 : su (sClr S) 381 0 0 = S 0 := by rw [su_ne (by omega), sClr_ne (by omega)]
        have s80 : su (sClr S) 381 0 80 = S 80 := by rw [su_ne (by omega), sClr_ne (by omega)]
        have ok := fun i hi => cr_ok iR.1 iR.2 hd ⟨k1, k2⟩ (by rw [sClr_ne (by omega), su_ne (by omega), su_ne (by omega), su_at]) (by rw [sClr_ne (by omega), su_ne (by omega), su_at]) (by rw [sClr_ne (by omega), su_at]) i hi
        generalize hR0 : sClr (su (su (su S 0 0) 381 0) 80 0) = R0 at *
        have y1 : ¬ nI n < 1 := by rw [show (1 : Int32) = nI 1 from rfl, bs_lt (by omega) (by decide)]; omega
        have y2 : nI n ≤ 300 := by rw [show (300 : Int32) = nI 300 from rfl, bs_le (by omega) (by decide)]; omega
        obtain ⟨Ga, ea, ca, fa⟩ := c_copy (l := 1) C I (by decide)
        obtain ⟨Gb, eb, cb, fb⟩ := c_clr ca I
        generalize hS0 : su (sClr S) 381 0 = S0 at *
        have hb : S 80 + 300000 + 1000 < 2147483647 := by clear ok; omega
        obtain ⟨⟨v1, G1⟩, e1, Si, c1, f1, -, -, -, -, -, hv⟩ := lp (σ := Int32 × Gm) (h := fun f v s => fX6_capacity_h53 (nI k) (nI d) (nI n) f s.1 v s.2) (P := fun i s => ∃ Si, CL s.2 1 Si ∧ FrC 1 G s.2 ∧ Inv 12 Si ∧ CI k d Si ∧ Vw Si (sCr k d R0 i) ∧ Si 0 = S 0 + i ∧ Si 80 ≤ S 80 + i * 1000 ∧ s.1 = nI (gC (sCr k d R0 i) 3 (sCr k d R0 i 381))) (m := n) (fun i f s hi hP => by
          obtain ⟨v, G'⟩ := s
          obtain ⟨Si, hC, hF, hI, hc, hV, hS0, hS80, hv⟩ := hP
          dsimp only at hC hF hv
          have hi3 : i ≤ 300 := by clear ok; omega
          have hi5 : i < 305 := by clear ok; omega
          obtain ⟨a1, a2, a3, a4, a5⟩ := ok i hi3
          obtain ⟨b1, b2, b3, b4, b5, b6, b7⟩ := rb_ok a1 a2 hd ⟨k1, k2⟩ (Nat.lt_of_le_of_lt a4 hi5)
          obtain ⟨G2, S1, g1, g2, g3, g4, g5, g6, g7, g8⟩ := c_spare hC hI hc hd ⟨k1, k2⟩
          have ef : sFirst Si d = sFirst (sCr k d R0 i) d := by unfold sFirst; rw [hV.1 1 (by decide) (by decide)]
          rw [ef] at g8
          have hV1 := vw_br hV g8 b6
          have r1 : S1 80 + 1000 < 2147483647 := by
            rw [g7]
            exact Nat.lt_of_le_of_lt (Nat.add_le_add_right (Nat.le_trans hS80 (th_le hi3 _)) 1000) hb
          have r1' : sRb k d (sCr k d R0 i) 80 + 1000 < 2147483647 := by
            rw [b4]
            exact Nat.lt_of_le_of_lt (Nat.add_le_add_right (Nat.le_trans a5 (th_le hi3 0)) 1000) (by decide)
          have r0 : S1 0 < 2147483647 := by rw [g6, hS0]; clear ok; omega
          have r0' : sRb k d (sCr k d R0 i) 0 < 2147483647 := by rw [b3, a3]; clear ok; omega
          obtain ⟨d1, d2, d3, d4, d5⟩ := ok_wk g4 r1 r0
          obtain ⟨p1, p2, p3, p4⟩ := vw_tick g4 b1 g5 b2 hd hV1 r1 r1' r0 r0'
          obtain ⟨G3, q1, q2, q3⟩ := c_tick g2 g4 r1 r0
          have ct := wk_count b1 r1' r0'
          have kk := ok_wk b1 r1' r0'
          have es : sCr k d R0 (i + 1) = sWk (sRb k d (sCr k d R0 i)) := rfl
          refine ⟨(nI (gC (sCr k d R0 (i + 1)) 3 (sCr k d R0 (i + 1) 381)), G3), ?_, sWk S1, q2, (hF.tr g3).tr q3, d1, p1, p3, ?_, ?_, rfl⟩
          · dsimp only
            rw [fX6_capacity_h53.eq_2, if_neg (by rw [bs_le (by clear ok; omega) (by clear ok; omega)]; clear ok; omega), g1, gm_bs, q1, gm_bs]
            dsimp only
            rw [hv, nI_add, nI_1, es, kk.2.2.2.1, ct, b7, p4]
          · rw [d2, g6, hS0, Nat.add_assoc]
          · refine Nat.le_trans d5 ?_
            rw [g7, Nat.succ_mul, ← Nat.add_assoc]
            exact Nat.add_le_add_right hS80 1000) n 0 6000 (0, Gb) (by clear ok; omega) (by clear ok; omega) ⟨S0, cb, fa.tr fb, iS.1, iS.2, vv, s0, by rw [s80]; exact Nat.le_add_right _ _, by
            have : sCr k d R0 0 381 = 0 := Nat.le_zero.mp (ok 0 (Nat.zero_le _)).2.2.2.1
            rw [this]; rfl⟩
        dsimp only at e1 c1 f1 hv
        obtain ⟨g, hg⟩ : ∃ g, 6000 - n = g + 1 := ⟨5999 - n, by clear ok; omega⟩
        refine ⟨nI (gC (sCr k d R0 n) 3 (sCr k d R0 n 381)), G1, ?_, f1, fun G2 m => ?_⟩
        · unfold fX6_capacity
          rw [ik, gm_bs, if_neg (by decide), c_dir hd, gm_bs, if_neg (by decide), if_neg y1, if_pos y2, ea, gm_bs, eb, gm_bs]
          refine Eq.trans e1 ?_
          rw [hg, fX6_capacity_h53.eq_2, if_pos ((bs_le (by clear ok; omega) (by clear ok; omega)).mpr (Nat.le_refl _)), hv]
        · obtain ⟨Gc, ec, mc, sc, fc⟩ := m_aside m
          have M1 : MA (gm_up (gm_up (gm_up Gc 8 5 0 0 0) 8 5 0 381 0) 8 5 0 80 0) (su (su (su S 0 0) 381 0) 80 0) := ((mc.up' (i := 0) (v := 0) rfl rfl).up' (i := 381) (v := 0) rfl rfl).up' (i := 80) (v := 0) rfl rfl
          obtain ⟨Gd, ed, md, fd⟩ := m_lyb M1
          rw [hR0] at md
          have fcd : FrM Gc Gd := (FrM.rf.up.up.up).tr fd
          obtain ⟨Ge, ee, me, fe⟩ := lp (σ := Gm) (h := fun f v s => fX7_capacity_h65 (nI k) (nI d) (nI n) f v s) (P := fun i s => MA s (sCr k d R0 i) ∧ FrM Gc s) (m := n) (fun i f G' hi hP => by
            have hi3 : i ≤ 300 := by clear ok; omega
            have hi5 : i < 305 := by clear ok; omega
            obtain ⟨a1, a2, a3, a4, a5⟩ := ok i hi3
            have a45 := Nat.lt_of_le_of_lt a4 hi5
            obtain ⟨b1, b2, b3, b4, b5, b6, b7⟩ := rb_ok a1 a2 hd ⟨k1, k2⟩ a45
            have r1' : sRb k d (sCr k d R0 i) 80 + 1000 < 2147483647 := by
              rw [b4]
              exact Nat.lt_of_le_of_lt (Nat.add_le_add_right (Nat.le_trans a5 (th_le hi3 0)) 1000) (by decide)
            have r0' : sRb k d (sCr k d R0 i) 0 < 2147483647 := by rw [b3, a3]; clear ok; omega
            have fl := sFirst_lt a1 d
            have es : sCr k d R0 (i + 1) = sWk (sRb k d (sCr k d R0 i)) := rfl
            rw [es]
            generalize sCr k d R0 i = Ri at *
            have hd' : d < 4294967296 := by clear ok; omega
            have fl' : sFirst Ri d < 4294967296 := Nat.lt_trans fl (by decide)
            have ni : ¬ nI n ≤ nI i := by rw [bs_le (by clear ok; omega) (by clear ok; omega)]; clear ok; omega
            unfold sRb at r1' r0' b1 ⊢
            by_cases q : sFr Ri (sFirst Ri d) d = true
            · rw [if_pos q] at r1' r0' b1 ⊢
              obtain ⟨G3, x1, x2, x3⟩ := m_add hP.1 a1 a45 hd (k := k)
              obtain ⟨G4, z1, z2, z3⟩ := m_wtick x2 b1 r1' r0'
              refine ⟨G4, ?_, z2, (hP.2.tr x3).tr z3⟩
              try dsimp only
              rw [fX7_capacity_h65.eq_2, if_neg ni, m_first hP.1 a1 rfl hd, gm_bs, m_free hP.1 a1 fl' hd', gm_bs, if_pos q, if_neg bs_01, x1, gm_bs]
              try dsimp only
              rw [z1, gm_bs, nI_1]
            · rw [if_neg q] at r1' r0' b1 ⊢
              obtain ⟨G4, z1, z2, z3⟩ := m_wtick hP.1 b1 r1' r0'
              refine ⟨G4, ?_, z2, hP.2.tr z3⟩
              try dsimp only
              rw [fX7_capacity_h65.eq_2, if_neg ni, m_first hP.1 a1 rfl hd, gm_bs, m_free hP.1 a1 fl' hd', gm_bs, if_neg q, if_pos rfl, z1, gm_bs, nI_1]) n 0 6000 Gd (by clear ok; omega) (by clear ok; omega) ⟨md, fcd⟩
          obtain ⟨a1, -, -, -, -⟩ := ok n n2
          have se : ∀ q, q < 2862 → Ge 8 5 1 q = nI (S q) := fun q hq => by rw [fe 8 5 1 q (by clear ok; omega)]; exact sc q hq
          obtain ⟨Gf, ef, mf, ff⟩ := m_back se
          refine ⟨Gf, ?_, mf, fc.tr ((fe.tr ff).a)⟩
          unfold fX7_capacity
          rw [jk, gm_bs, if_neg (by decide), m_way hd, gm_bs, if_neg (by decide), m_inr (y := 1) (z := 300) (a := 1) (b := 300) rfl rfl (by decide) (by decide) n1 n2 rfl, gm_bs, if_neg (by decide), ec, gm_bs, ed, gm_bs]
          refine Eq.trans ee ?_
          try dsimp only
          rw [hg, fX7_capacity_h65.eq_2, if_pos ((bs_le (by clear ok; omega) (by clear ok; omega)).mpr (Nat.le_refl _)), show (3 : Int32) = nI 3 from rfl, m_at me a1 (by decide), gm_bs, ef, gm_bs]
      · have hz : z < 1 ∨ 300 < z := hz
        refine Tri.no (x := -2) ?_ (fun G1 m => ?_)
        · unfold fX6_capacity
          rw [ik, gm_bs, if_neg (by decide), c_dir hd, gm_bs, if_neg (by decide)]
          by_cases c : z < 1
          · rw [if_pos c]
          · rw [if_neg c, if_neg (Int32.not_le.mpr (hz.resolve_left c))]
        · unfold fX7_capacity
          rw [jk, gm_bs, if_neg (by decide), m_way hd, gm_bs, if_neg (by decide), m_in0 hz, gm_bs, if_pos rfl]
    · refine Tri.no (x := -2) ?_ (fun G1 m => ?_)
      · unfold fX6_capacity
        rw [ik, gm_bs, if_neg (by decide), c_dir0 hy, gm_bs, if_pos rfl]
      · unfold fX7_capacity
        rw [jk, gm_bs, if_neg (by decide), m_way0 hy, gm_bs, if_pos rfl]
  · have hx : x < 1 ∨ 5 < x := hx
    refine Tri.no (x := -2) ?_ (fun G1 m => ?_)
    · unfold fX6_capacity fX6_isKind
      by_cases c : x < 1
      · rw [if_pos c, gm_bs, if_pos rfl]
      · rw [if_neg c, if_pos (hx.resolve_left c), gm_bs, if_pos rfl]
    · unfold fX7_capacity
      rw [m_in0 hx, gm_bs, if_pos rfl]
end
