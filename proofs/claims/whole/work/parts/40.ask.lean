section
variable {G : Gm} {S : Sm} {M l : Nat}
theorem op_moveTokens (C : CL G 0 S) (I : Inv 12 S) (h0 : S 0 ≤ 1000000) (x y : Int32) : Op 500000 G S (fX6_moveTokens x y G) (fX7_moveTokens x y) := by
  have bx := I.bx
  rcases m_csec S x with ⟨s, hs, rfl⟩ | hx
  · by_cases hy : y < -10 ∨ 10 < y
    · refine Op.no C I h0 nI_m2 ?_ (fun G1 m => ?_)
      · unfold fX6_moveTokens
        rw [c_sec C.1 I hs, gm_bs, gm_els]
        by_cases c : y < -10
        · rw [if_pos c]
        · rw [if_neg c, if_neg (Int32.not_le.mpr (hy.resolve_left c))]
      · unfold fX7_moveTokens
        rw [m_sec m I hs, gm_bs, if_neg (by decide), m_in0 hy, gm_bs, if_pos rfl]
    · have y1 : ¬ y < -10 := fun q => hy (Or.inl q)
      have y2 : ¬ 10 < y := fun q => hy (Or.inr q)
      have hs5 : s < 5 := by omega
      have sc := I.sc hs5
      obtain ⟨s1, s2, s3, s4⟩ := C.1.sc hs5
      have i1 : (8 : Int32) + 2 * nI s = nI (8 + 2 * s) := by simp only [bs_nat, bs_mul, nI_add]
      have i2 : nI (8 + 2 * s) + 1 = nI (8 + 2 * s + 1) := nI_1 _
      have pre6 : fX6_moveTokens (nI s) y G = (fX4_moveUp 0 s y G).bind fun q5 => some (q5.1, q5.2) := by
        unfold fX6_moveTokens
        rw [c_sec C.1 I hs, gm_bs, gm_els, if_neg y1, if_pos (Int32.not_lt.mp y2)]
      have pin : fX7_in y (-10) 10 = some 1 := by
        unfold fX7_in
        rw [if_neg y1, if_neg y2]
      have pre7 : ∀ G1, MA G1 S → fX7_moveTokens (nI s) y G1 = (if (if sSg S s then (1 : Int32) else 0) = 0 then some (-5, G1) else if nI (S (8 + 2 * s)) - y < 0 then some (-5, G1) else if 0 ≤ nI (S (8 + 2 * s + 1)) + y then some (nI (S (8 + 2 * s)) - y, gm_up (gm_up G1 8 5 0 (8 + 2 * s) (nI (S (8 + 2 * s)) - y)) 8 5 0 (8 + 2 * s + 1) (nI (S (8 + 2 * s + 1)) + y)) else some (-5, G1)) := by
        intro G1 m
        unfold fX7_moveTokens
        rw [m_sec m I hs, gm_bs, if_neg (by decide), pin, gm_bs, if_neg (by decide), i1, i2, gm_gin (by omega) (by decide), gm_gin (by omega) (by decide), m_sg m bx.2.2 hs5, gm_bs, gm_gin (by omega) (by decide), gm_gin (by omega) (by decide), m _ (by omega), m _ (by omega)]
      cases cs : sSg S s with
      | false =>
        rw [cs] at s1
        refine Op.no C I h0 nI_m5 ?_ (fun G1 m => ?_)
        · rw [pre6]
          unfold fX4_moveUp
          rw [s1, if_pos (show (if false = true then (1 : Int32) else 0) = 0 by decide), gm_bs]
        · rw [pre7 G1 m, cs, if_pos (show (if false = true then (1 : Int32) else 0) = 0 by decide)]
      | true =>
        rw [cs] at s1 s3 s4
        rw [if_pos rfl] at s1 s3 s4
        have w1 : ¬ ((if true = true then (1 : Int32) else 0) = 0) := by decide
        by_cases c1 : nI (S (8 + 2 * s)) - y < 0
        · refine Op.no C I h0 nI_m5 ?_ (fun G1 m => ?_)
          · rw [pre6]
            unfold fX4_moveUp
            rw [s1, s3, if_neg (by decide), if_pos c1, gm_bs]
          · rw [pre7 G1 m, cs, if_neg w1, if_pos c1]
        by_cases c2 : 0 ≤ nI (S (8 + 2 * s + 1)) + y
        · have ea := un_nI (nI (S (8 + 2 * s)) - y)
          have eb := un_nI (nI (S (8 + 2 * s + 1)) + y)
          have la := un_lt (nI (S (8 + 2 * s)) - y)
          have lb := un_lt (nI (S (8 + 2 * s + 1)) + y)
          have sum : nI (un (nI (S (8 + 2 * s)) - y)) + nI (un (nI (S (8 + 2 * s + 1)) + y)) = nI (S (8 + 2 * s)) + nI (S (8 + 2 * s + 1)) := by
            rw [ea, eb, Int32.sub_eq_add_neg, Int32.add_assoc, Int32.add_comm (nI (S (8 + 2 * s + 1))) y, ← Int32.add_assoc (-y) y, Int32.add_left_neg, Int32.zero_add]
          generalize un (nI (S (8 + 2 * s)) - y) = a at *
          generalize un (nI (S (8 + 2 * s + 1)) + y) = b at *
          have ha : a < 2147483648 := by
            rw [← ea, bs_neg la] at c1; omega
          have hb : b < 2147483648 := by
            rw [← eb, bs_ge lb] at c2; exact c2
          have hab : a + b = S (8 + 2 * s) + S (8 + 2 * s + 1) := by
            rw [nI_add, nI_add] at sum
            exact (bs_eq (by omega) (by omega)).mp sum
          refine ⟨(a, su (su S (8 + 2 * s) a) (8 + 2 * s + 1) b), ?_, fun G1 m => ?_, ?_, ?_, ?_⟩
          · refine ⟨gm_up (gm_up G 4 0 s 3 (nI a)) 4 0 s 4 (nI b), ?_, ⟨?_, ?_⟩, FrC.rf.up.up⟩
            · rw [pre6]
              unfold fX4_moveUp
              rw [gu_s (show (4 : Nat) ≠ 3 by decide), gu_s (show (3 : Nat) ≠ 4 by decide), gu_at, s1, s3, s4, if_neg (by decide), if_neg c1, if_pos c2, ea, eb, gm_bs]
            · exact (C.1.k (e := 0) (v := a) rfl hs5 (by decide) (fun _ => rfl) (fun q => by rw [cs] at q; cases q)).k (e := 1) rfl hs5 (by decide) (fun _ => rfl) (fun q => by rw [sSg_su (by omega), cs] at q; cases q)
            · exact C.2.of (fun s' => by rw [gu_s (by decide), gu_s (by decide)]) (by dsimp only; rw [su_ne (by omega), su_ne (by omega)]) (fun j hj => by show su _ _ _ _ = _; rw [su_ne (by omega), su_ne (by omega)])
          · refine ⟨_, ?_, (m.up (8 + 2 * s) a).up (8 + 2 * s + 1) b, FrM.rf.up.up⟩
            rw [pre7 G1 m, cs, if_neg w1, if_neg c1, if_pos c2, ea, eb]
          · dsimp only
            refine i_head I (su_lt (su_lt I.1 la) lb) (fun k q => by rw [su_ne (by omega), su_ne (by omega)]) (fun s' hs' => ?_) (fun k q => by rw [su_ne (by omega), su_ne (by omega)]; exact I.lp q)
            rw [su_ne (show 3 + s' ≠ _ by omega), su_ne (show 3 + s' ≠ _ by omega)]
            refine ⟨(I.sc hs').1, (I.sc hs').2.1, ?_⟩
            by_cases e : s' = s
            · subst e
              rw [su_ne (show 8 + 2 * s' ≠ 8 + 2 * s' + 1 by omega), su_at, su_at]; exact hab
            · rw [su_ne (by omega), su_ne (by omega), su_ne (by omega), su_ne (by omega)]
          · dsimp only; rw [su_ne (by omega), su_ne (by omega)]; exact h0
          · dsimp only; rw [su_ne (by omega), su_ne (by omega)]; exact Nat.le_add_right _ _
        · refine Op.no C I h0 nI_m5 ?_ (fun G1 m => ?_)
          · rw [pre6]
            unfold fX4_moveUp
            rw [s1, s3, s4, if_neg (by decide), if_neg c1, if_neg c2, gm_bs]
          · rw [pre7 G1 m, cs, if_neg w1, if_neg c1, if_neg c2]
  · refine Op.no C I h0 nI_m1 ?_ (fun G1 m => ?_)
    · unfold fX6_moveTokens
      rw [c_sec0 C.1 I hx, gm_bs, gm_eln]
    · unfold fX7_moveTokens
      rw [m_sec0 m I hx, gm_bs, if_pos rfl]
/-- a call that only asks -/
def Ask (G : Gm) (S : Sm) (r : Option Int32) (g : Gm → Option Int32) : Prop := ∃ v, r = some v ∧ ∀ G1, MA G1 S → g G1 = some v
theorem q_section (C : CL G 0 S) (I : Inv 12 S) (x y : Int32) : Ask G S (fX6_section x y G) (fX7_section x y) := by
  have bx := I.bx
  rcases m_csec S x with ⟨s, hs, rfl⟩ | hx
  · have hs5 : s < 5 := by omega
    obtain ⟨s1, s2, s3, s4⟩ := C.1.sc hs5
    have s5 := C.2 s hs5
    have i3 : (3 : Int32) + nI s = nI (3 + s) := by simp only [bs_nat, nI_add]
    have pre6 : fX6_section (nI s) y G = fX4_property 0 s y G := by
      unfold fX6_section
      rw [c_sec C.1 I hs, gm_bs, gm_els]
      cases fX4_property 0 s y G <;> rfl
    have i1 : (8 : Int32) + 2 * nI s + 2 - 2 = nI (8 + 2 * s) := by rw [Int32.add_sub_cancel]; simp only [bs_nat, bs_mul, nI_add]
    have i2 : (8 : Int32) + 2 * nI s + 3 - 2 = nI (8 + 2 * s + 1) := by
      rw [show (8 : Int32) + 2 * nI s + 3 = nI (8 + 2 * s + 3) by simp only [bs_nat, bs_mul, nI_add], show (2 : Int32) = nI 2 from rfl, bs_sub (by omega)]
      rfl
    by_cases y0 : y = 0
    · subst y0
      refine ⟨if sSg S s then 1 else 0, ?_, fun G1 m => ?_⟩
      · rw [pre6]; unfold fX4_property; rw [s1]; cases sSg S s <;> rfl
      · unfold fX7_section
        rw [m_sec m I hs, gm_bs, if_neg (by decide), m_sg m bx.2.2 hs5, gm_bs, if_pos rfl]; cases sSg S s <;> rfl
    by_cases y1 : y = 1
    · subst y1
      refine ⟨nI (S (3 + s)), ?_, fun G1 m => ?_⟩
      · rw [pre6]; unfold fX4_property; rw [s2]; rfl
      · unfold fX7_section
        rw [m_sec m I hs, gm_bs, if_neg (by decide), m_sg m bx.2.2 hs5, gm_bs, if_neg (by decide), if_pos rfl, i3, gm_gin (by omega) (by decide), m _ (by omega)]
    by_cases y2 : y = 2
    · subst y2
      refine ⟨if sSg S s then nI (S (8 + 2 * s)) else 0, ?_, fun G1 m => ?_⟩
      · rw [pre6]; unfold fX4_property; rw [s3]; rfl
      · unfold fX7_section
        rw [m_sec m I hs, gm_bs, if_neg (by decide), m_sg m bx.2.2 hs5, gm_bs, if_neg (by decide), if_neg (by decide), if_pos rfl, i1, gm_gin (by omega) (by decide), m _ (by omega)]; cases sSg S s <;> rfl
    by_cases y3 : y = 3
    · subst y3
      refine ⟨if sSg S s then nI (S (8 + 2 * s + 1)) else 0, ?_, fun G1 m => ?_⟩
      · rw [pre6]; unfold fX4_property; rw [s4]; rfl
      · unfold fX7_section
        rw [m_sec m I hs, gm_bs, if_neg (by decide), m_sg m bx.2.2 hs5, gm_bs, if_neg (by decide), if_neg (by decide), if_neg (by decide), if_pos rfl, i2, gm_gin (by omega) (by decide), m _ (by omega)]; cases sSg S s <;> rfl
    by_cases y4 : y = 4
    · subst y4
      refine ⟨if sTo S s then 1 else 0, ?_, fun G1 m => ?_⟩
      · rw [pre6]; unfold fX4_property; rw [s5]; cases sTo S s <;> rfl
      · unfold fX7_section
        rw [m_sec m I hs, gm_bs, if_neg (by decide), m_sg m bx.2.2 hs5, gm_bs, if_neg (by decide), if_neg (by decide), if_neg (by decide), if_neg (by decide), if_pos rfl, m_to_h m I hs5, gm_bs]; cases sTo S s <;> rfl
    · refine ⟨-2, ?_, fun G1 m => ?_⟩
      · rw [pre6]; unfold fX4_property; rw [if_neg y0, if_neg y1, if_neg y2, if_neg y3, if_neg y4]
      · unfold fX7_section
        rw [m_sec m I hs, gm_bs, if_neg (by decide), m_sg m bx.2.2 hs5, gm_bs, if_neg y0, if_neg y1, if_neg y2, if_neg y3, if_neg y4]
  · refine ⟨-1, ?_, fun G1 m => ?_⟩
    · unfold fX6_section
      rw [c_sec0 C.1 I hx, gm_bs, gm_eln]
    · unfold fX7_section
      rw [m_sec0 m I hx, gm_bs, if_pos rfl]
theorem bs_01' {v : Nat} (h : v ≤ 1) : (if nI v = 0 then some (0 : Int32) else some 1) = some (nI v) := by
  rcases (show v = 0 ∨ v = 1 by omega) with rfl | rfl <;> rfl
theorem out_rg {y : Int32} {b : Nat} (hb : b < 2147483648) (h : y < nI 0 ∨ nI b < y) {k : Nat} (hk : k ≤ b) : ¬ y = nI k := by
  rintro rfl
  rcases h with h | h
  · rw [bs_lt (by omega) (by decide)] at h; omega
  · rw [bs_lt (by omega) (by omega)] at h; omega
theorem q_block (C : CL G 0 S) (I : Inv 12 S) (x y z : Int32) : Ask G S (fX6_block x y z G) (fX7_block x y z) := by
  have bx := I.bx
  rcases m_cblk S x y with ⟨s, d, hs, hd, rfl, rfl⟩ | hx
  · have hj : 2 * s + d < 10 := by omega
    have bk := I.bk hj
    have pre6 : fX6_block (nI s) (nI d) z G = fX0_property 0 (2 * s + d) z G := by
      unfold fX6_block
      rw [c_blk C.1 I hs hd, gm_bs, gm_els]
      cases fX0_property 0 (2 * s + d) z G <;> rfl
    rcases bs_rg z (a := 0) (b := 4) (by decide) (by decide) with ⟨k, k1, k2, rfl⟩ | hz
    · refine ⟨nI (sB S (2 * s + d) k), ?_, fun G1 m => ?_⟩
      · rw [pre6]
        unfold fX0_property
        rw [C.1.b0 hj, C.1.b1 hj, C.1.b2 hj, C.1.b3 hj, C.1.b4 hj, bs_01' bk.2.2.2.1]
        rcases (show k = 0 ∨ k = 1 ∨ k = 2 ∨ k = 3 ∨ k = 4 by omega) with rfl | rfl | rfl | rfl | rfl <;> rfl
      · unfold fX7_block
        rw [m_blk m I hs hd, gm_bs, if_neg (by decide), m_inr (y := 0) (z := 4) (a := 0) (b := 4) rfl rfl (by decide) (by decide) k1 k2 rfl, gm_bs, if_neg (by decide), m_ofBlock m rfl (by omega) hd (by omega), gm_bs]
    · refine ⟨-2, ?_, fun G1 m => ?_⟩
      · rw [pre6]
        unfold fX0_property
        rw [if_neg (show ¬ z = 0 from out_rg (k := 0) (by decide) hz (by decide)), if_neg (show ¬ z = 1 from out_rg (k := 1) (by decide) hz (by decide)), if_neg (show ¬ z = 2 from out_rg (k := 2) (by decide) hz (by decide)), if_neg (show ¬ z = 3 from out_rg (k := 3) (by decide) hz (by decide)), if_neg (show ¬ z = 4 from out_rg (k := 4) (by decide) hz (by decide))]
      · have hz : z < 0 ∨ 4 < z := hz
        unfold fX7_block
        rw [m_blk m I hs hd, gm_bs, if_neg (by decide), m_in0 hz, gm_bs, if_pos rfl]
  · refine ⟨-1, ?_, fun G1 m => ?_⟩
    · unfold fX6_block
      rw [c_blk0 C.1 I hx, gm_bs, gm_eln]
    · unfold fX7_block
      rw [m_blk0 m I hx, gm_bs, if_pos rfl]
theorem q_train (C : CL G 0 S) (I : Inv 12 S) (x z : Int32) : Ask G S (fX6_train x z G) (fX7_train x z) := by
  have tn := I.tn
  rcases m_ctrn S x with ⟨t, ht, rfl⟩ | hx
  · have tr := I.tr ht
    have pre6 : fX6_train (nI t) z G = fX5_property 0 t z G := by
      unfold fX6_train
      rw [c_trn C.1 I ht, gm_bs, gm_els]
      cases fX5_property 0 t z G <;> rfl
    rcases bs_rg z (a := 0) (b := 7) (by decide) (by decide) with ⟨k, k1, k2, rfl⟩ | hz
    · refine ⟨nI (sT S t k), ?_, fun G1 m => ?_⟩
      · rw [pre6]
        unfold fX5_property
        rw [C.1.t0 ht, C.1.t1 ht, C.1.t2 ht, C.1.t3 ht, C.1.t4 ht, C.1.t5 ht, C.1.t6 ht, C.1.t7 ht, bs_01' tr.2.2.2.2.2.2.2.1]
        rcases (show k = 0 ∨ k = 1 ∨ k = 2 ∨ k = 3 ∨ k = 4 ∨ k = 5 ∨ k = 6 ∨ k = 7 by omega) with rfl | rfl | rfl | rfl | rfl | rfl | rfl | rfl <;> rfl
      · unfold fX7_train
        rw [m_trn m I ht, gm_bs, if_neg (by decide), m_inr (y := 0) (z := 7) (a := 0) (b := 7) rfl rfl (by decide) (by decide) k1 k2 rfl, gm_bs, if_neg (by decide), m_ofTrain m rfl (by omega) (by omega), gm_bs]
    · refine ⟨-2, ?_, fun G1 m => ?_⟩
      · rw [pre6]
        unfold fX5_property
        rw [if_neg (show ¬ z = 0 from out_rg (k := 0) (by decide) hz (by decide)), if_neg (show ¬ z = 1 from out_rg (k := 1) (by decide) hz (by decide)), if_neg (show ¬ z = 2 from out_rg (k := 2) (by decide) hz (by decide)), if_neg (show ¬ z = 3 from out_rg (k := 3) (by decide) hz (by decide)), if_neg (show ¬ z = 4 from out_rg (k := 4) (by decide) hz (by decide)), if_neg (show ¬ z = 5 from out_rg (k := 5) (by decide) hz (by decide)), if_neg (show ¬ z = 6 from out_rg (k := 6) (by decide) hz (by decide)), if_neg (show ¬ z = 7 from out_rg (k := 7) (by decide) hz (by decide))]
      · have hz : z < 0 ∨ 7 < z := hz
        unfold fX7_train
        rw [m_trn m I ht, gm_bs, if_neg (by decide), m_in0 hz, gm_bs, if_pos rfl]
  · refine ⟨-1, ?_, fun G1 m => ?_⟩
    · unfold fX6_train
      rw [c_trn0 C.1 I hx, gm_bs, gm_eln]
    · unfold fX7_train
      rw [m_trn0 m I hx, gm_bs, if_pos rfl]
theorem c_old (C : CL0 G l S) (hr : S 80 < 2147483648) : fX3_oldest l G = some (nI (S 80 - 60)) := by
  unfold fX3_oldest
  rw [C.1.2.2.2, show (60 : Int32) = nI 60 from rfl, bs_max hr (by decide)]
theorem q_signal (C : CL G 0 S) (hr : S 80 < 2147483648) (x z : Int32) : Ask G S (fX6_signal x z G) (fX7_signal x z) := by
  rcases bs_rg z (a := 0) (b := 4) (by decide) (by decide) with ⟨w, w1, w2, rfl⟩ | hz
  · have pre6 : fX6_signal x (nI w) G = fX3_property 0 x (nI w) G := by
      unfold fX6_signal
      rw [if_neg (by rw [bs_neg (by omega)]; omega), if_pos (by rw [show (5 : Int32) = nI 5 from rfl, bs_lt (by omega) (by decide)]; omega)]
      cases fX3_property 0 x (nI w) G <;> rfl
    have pre7 : ∀ G1, MA G1 S → fX7_signal x (nI w) G1 = (fX7_in x 0 (nI (S 80) - 1)).bind fun q3 => if q3 = 0 then some (-6) else if x < (nI (S 80) - 60) then some (-6) else gm_gi ((81 + (5 * (x - x / 60 * 60))) + nI w) 2862 fun z9 => some (G1 8 5 0 z9) := by
      intro G1 m
      unfold fX7_signal
      rw [m_inr (y := 0) (z := 4) (a := 0) (b := 4) rfl rfl (by decide) (by decide) w1 w2 rfl, gm_bs, if_neg (by decide), m 80 (by decide)]
    by_cases cx : ∃ k, k < S 80 ∧ x = nI k
    · obtain ⟨k, hk, rfl⟩ := cx
      have in1 : fX7_in (nI k) 0 (nI (S 80) - 1) = some 1 := m_inr (a := 0) (b := S 80 - 1) rfl (bs_sub (b := 1) (by omega)) (by decide) (by omega) (Nat.zero_le k) (by omega) rfl
      have neg60 : (nI k < nI (S 80) - 60) ↔ k < S 80 - 60 := by
        by_cases c : 60 ≤ S 80
        · rw [show (60 : Int32) = nI 60 from rfl, bs_sub c, bs_lt (by omega) (by omega)]
        · rw [show (60 : Int32) = nI 60 from rfl, bs_under (by omega) (by decide)]
          have : nI (4294967296 - (60 - S 80)) < 0 := by rw [bs_neg (by omega)]; omega
          constructor
          · intro q
            have := Int32.lt_trans q this
            rw [bs_neg (by omega)] at this; omega
          · intro q; omega
      by_cases c : k < S 80 - 60
      · refine ⟨-6, ?_, fun G1 m => ?_⟩
        · rw [pre6]
          unfold fX3_property
          rw [c_old C.1 hr, gm_bs, if_pos ((bs_lt (by omega) (by omega)).mpr c)]
        · rw [pre7 G1 m, in1, gm_bs, if_neg (by decide), if_pos (neg60.mpr c)]
      · have e1 : nI (k % 60 * 5) + nI w = nI (k % 60 * 5 + w) := nI_add _ _
        have e2 : (81 : Int32) + (5 * (nI k - nI k / 60 * 60)) + nI w = nI (81 + (k % 60 * 5 + w)) := by
          rw [m_rem (by omega), show (81 : Int32) + 5 * nI (k % 60) + nI w = nI (81 + 5 * (k % 60) + w) by simp only [bs_nat, bs_mul, nI_add]]
          congr 1; omega
        refine ⟨nI (S (81 + (k % 60 * 5 + w))), ?_, fun G1 m => ?_⟩
        · rw [pre6]
          unfold fX3_property
          rw [c_old C.1 hr, gm_bs, if_neg (by rw [bs_lt (by omega) (by omega)]; exact c), C.1.1.2.2.2, if_pos ((bs_lt (by omega) hr).mpr hk), c_row (by omega), gm_bs, e1, gm_gin (by omega) (by decide), C.1.2.2.2.2.1 (k % 60 * 5 + w) (by omega) (by omega)]
        · rw [pre7 G1 m, in1, gm_bs, if_neg (by decide), if_neg (fun q => c (neg60.mp q)), e2, gm_gin (by omega) (by decide), m _ (by omega)]
    · refine ⟨-6, ?_, fun G1 m => ?_⟩
      · rw [pre6]
        unfold fX3_property
        rw [c_old C.1 hr, gm_bs, C.1.1.2.2.2]
        by_cases c : x < nI (S 80 - 60)
        · rw [if_pos c]
        · rw [if_neg c, if_neg]
          intro q
          have c0 : ¬ x < 0 := fun z => c (Int32.lt_of_lt_of_le z (by rw [show (0 : Int32) = nI 0 from rfl, bs_le (by decide) (by omega)]; omega))
          obtain ⟨k, hk, rfl⟩ := nI_of c0
          exact cx ⟨k, (bs_lt (by omega) hr).mp q, rfl⟩
      · have in0 : fX7_in x 0 (nI (S 80) - 1) = some 0 := by
          refine m_in0 ?_
          by_cases c0 : x < 0
          · exact Or.inl c0
          · right
            have c0' := c0
            obtain ⟨k, hk, rfl⟩ := nI_of c0
            have : ¬ k < S 80 := fun q => cx ⟨k, q, rfl⟩
            by_cases z : S 80 = 0
            · rw [z, show (nI 0 - 1 : Int32) = -1 by decide]
              exact Int32.lt_of_lt_of_le (by decide) (Int32.not_lt.mp c0')
            · rw [show (1 : Int32) = nI 1 from rfl, bs_sub (by omega), bs_lt (by omega) (by omega)]; omega
        rw [pre7 G1 m, in0, gm_bs, if_pos rfl]
  · refine ⟨-2, ?_, fun G1 m => ?_⟩
    · unfold fX6_signal
      by_cases c : z < 0
      · rw [if_pos c]
      · rw [if_neg c, if_neg]
        intro q
        obtain ⟨k, hk, rfl⟩ := nI_of c
        rw [show (5 : Int32) = nI 5 from rfl, bs_lt (by omega) (by decide)] at q
        exact out_rg (k := k) (b := 4) (by decide) hz (by omega) rfl
    · have hz : z < 0 ∨ 4 < z := hz
      unfold fX7_signal
      rw [m_in0 hz, gm_bs, if_pos rfl]
/-- how often p holds, round and round -/
def rC (p : Nat → Bool) : Nat → Nat
  | 0 => 0
  | n + 1 => rC p n + (if p (n % 60) then 1 else 0)
theorem rC_le (p : Nat → Bool) : ∀ n, rC p n ≤ n
  | 0 => Nat.le_refl _
  | n + 1 => by
    have := rC_le p n
    unfold rC
    split <;> omega
theorem rC_mono (p : Nat → Bool) (o : Nat) : ∀ k, rC p o ≤ rC p (o + k)
  | 0 => Nat.le_refl _
  | k + 1 => Nat.le_trans (rC_mono p o k) (Nat.le_add_right _ _)
theorem rC_60 (p : Nat → Bool) : ∀ a, rC p (a + 60) = rC p a + rC p 60
  | 0 => by rw [Nat.zero_add]; exact (Nat.zero_add _).symm
  | a + 1 => by
    have := rC_60 p a
    rw [show a + 1 + 60 = (a + 60) + 1 by omega]
    show rC p (a + 60) + _ = rC p a + _ + _
    rw [this, show (a + 60) % 60 = a % 60 by omega]
    omega
end
