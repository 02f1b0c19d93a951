section
variable {G : Gm} {S : Sm} {M : Nat}
theorem op_trn {f6 : Int32 → Gm → Option (Int32 × Gm)} {f7 : Int32 → Gm → Option (Int32 × Gm)} {fc : Nat → Gm → Option (Int32 × Gm)} {sp : Sm → Nat → Nat × Sm}
    (h6 : ∀ x G, f6 x G = (fX1_trainAt 0 x G).bind fun q1 => gm_el q1 (some ((-1), G)) fun t2 => (fc t2 G).bind fun q3 => some (q3.1, q3.2))
    (C : CL G 0 S) (I : Inv 12 S) (h0 : S 0 ≤ 1000000)
    (hc : ∀ t, t < S 381 → CS 0 G (fc t G) (sp S t)) (hm : ∀ G1 t, MA G1 S → t < S 381 → MS G1 (f7 (nI t) G1) (sp S t))
    (hm0 : ∀ x G1, MA G1 S → (∀ t, t < S 381 → x ≠ nI t) → f7 x G1 = some (-1, G1)) (hi : ∀ t, t < S 381 → Inv 12 (sp S t).2 ∧ Kp S (sp S t).2) (x : Int32) : Op 1 G S (f6 x G) (f7 x) := by
  rcases m_ctrn S x with ⟨t, ht, rfl⟩ | hx
  · obtain ⟨i1, k0, k1, k2, k3⟩ := hi t ht
    refine ⟨sp S t, ?_, fun G1 m => hm G1 t m ht, i1, by rw [k0]; exact h0, by omega⟩
    obtain ⟨G1, e1, c1, f1⟩ := hc t ht
    refine ⟨G1, ?_, c1, f1⟩
    rw [h6, c_trn C.1 I ht, gm_bs, gm_els, e1, gm_bs]
  · refine Op.no C I h0 nI_m1 ?_ (fun G1 m => hm0 x G1 m hx)
    rw [h6, c_trn0 C.1 I hx, gm_bs, gm_eln]
theorem op_blk {f6 : Int32 → Int32 → Gm → Option (Int32 × Gm)} {f7 : Int32 → Int32 → Gm → Option (Int32 × Gm)} {fc : Nat → Gm → Option (Int32 × Gm)} {sp : Sm → Nat → Nat × Sm}
    (h6 : ∀ x y G, f6 x y G = (fX1_blockAt 0 x y G).bind fun q1 => gm_el q1 (some ((-1), G)) fun t2 => (fc t2 G).bind fun q3 => some (q3.1, q3.2))
    (C : CL G 0 S) (I : Inv 12 S) (h0 : S 0 ≤ 1000000)
    (hc : ∀ j, j / 2 + 1 < S 1 → CS 0 G (fc j G) (sp S j)) (hm : ∀ G1 s d, MA G1 S → s + 1 < S 1 → d < 2 → MS G1 (f7 (nI s) (nI d) G1) (sp S (2 * s + d)))
    (hm0 : ∀ x y G1, MA G1 S → (∀ s d, s + 1 < S 1 → d < 2 → ¬ (x = nI s ∧ y = nI d)) → f7 x y G1 = some (-1, G1)) (hi : ∀ j, j + 2 < 2 * S 1 → Inv 12 (sp S j).2 ∧ Kp S (sp S j).2) (x y : Int32) : Op 1 G S (f6 x y G) (f7 x y) := by
  rcases m_cblk S x y with ⟨s, d, hs, hd, rfl, rfl⟩ | hx
  · obtain ⟨i1, k0, k1, k2, k3⟩ := hi (2 * s + d) (by omega)
    refine ⟨sp S (2 * s + d), ?_, fun G1 m => hm G1 s d m hs hd, i1, by rw [k0]; exact h0, by omega⟩
    obtain ⟨G1, e1, c1, f1⟩ := hc (2 * s + d) (by omega)
    refine ⟨G1, ?_, c1, f1⟩
    rw [h6, c_blk C.1 I hs hd, gm_bs, gm_els, e1, gm_bs]
  · refine Op.no C I h0 nI_m1 ?_ (fun G1 m => hm0 x y G1 m hx)
    rw [h6, c_blk0 C.1 I hx, gm_bs, gm_eln]
theorem op_shunt (C : CL G 0 S) (I : Inv 12 S) (h0 : S 0 ≤ 1000000) (x : Int32) : Op 1 G S (fX6_shunt x G) (fX7_shunt x) :=
  op_trn (f6 := fX6_shunt) (f7 := fX7_shunt) (sp := sShunt) (fun _ _ => rfl) C I h0 (fun t ht => c_shunt C I ht) (fun G1 t m ht => m_shunt m I ht) (fun x G1 m hx => by unfold fX7_shunt; rw [m_trn0 m I hx, gm_bs, if_pos rfl]) (fun t ht => ⟨i_shunt I ht, k_shunt⟩) x
theorem op_leave (C : CL G 0 S) (I : Inv 12 S) (h0 : S 0 ≤ 1000000) (x : Int32) : Op 1 G S (fX6_leave x G) (fX7_leave x) :=
  op_trn (f6 := fX6_leave) (f7 := fX7_leave) (sp := sLeave) (fun _ _ => rfl) C I h0 (fun t ht => c_leave C I ht) (fun G1 t m ht => m_leave m I ht) (fun x G1 m hx => by unfold fX7_leave; rw [m_trn0 m I hx, gm_bs, if_pos rfl]) (fun t ht => ⟨i_leave I ht, k_leave⟩) x
theorem op_divide (C : CL G 0 S) (I : Inv 12 S) (h0 : S 0 ≤ 1000000) (x : Int32) : Op 1 G S (fX6_divide x G) (fX7_divide x) :=
  op_trn (f6 := fX6_divide) (f7 := fX7_divide) (sp := sDivide) (fun _ _ => rfl) C I h0 (fun t ht => c_divide C I ht) (fun G1 t m ht => m_divide m I ht) (fun x G1 m hx => by unfold fX7_divide; rw [m_trn0 m I hx, gm_bs, if_pos rfl]) (fun t ht => ⟨i_divide I ht, k_divide I ht⟩) x
theorem op_offer (C : CL G 0 S) (I : Inv 12 S) (hr : S 80 + 600000 < 2147483647) (h0 : S 0 ≤ 1000000) (x : Int32) : Op 1 G S (fX6_offer x G) (fX7_offer x) :=
  op_trn (f6 := fX6_offer) (f7 := fX7_offer) (sp := sOffer) (fun _ _ => rfl) C I h0 (fun t ht => c_offer C I (by omega) ht) (fun G1 t m ht => m_offer m I (by omega) ht) (fun x G1 m hx => by unfold fX7_offer; rw [m_trn0 m I hx, gm_bs, if_pos rfl]) (fun t ht => ⟨i_offer I (by omega) ht, k_offer I ht⟩) x
theorem op_depart (C : CL G 0 S) (I : Inv 12 S) (hr : S 80 + 600000 < 2147483647) (h0 : S 0 ≤ 1000000) (x : Int32) : Op 1 G S (fX6_depart x G) (fX7_depart x) :=
  op_trn (f6 := fX6_depart) (f7 := fX7_depart) (sp := sDepart) (fun _ _ => rfl) C I h0 (fun t ht => c_depart C I (by omega) ht) (fun G1 t m ht => m_depart m I (by omega) ht) (fun x G1 m hx => by unfold fX7_depart; rw [m_trn0 m I hx, gm_bs, if_pos rfl]) (fun t ht => ⟨i_depart I (by omega) ht, k_depart I ht⟩) x
theorem op_cancel (C : CL G 0 S) (I : Inv 12 S) (hr : S 80 + 600000 < 2147483647) (h0 : S 0 ≤ 1000000) (x y : Int32) : Op 1 G S (fX6_cancel x y G) (fX7_cancel x y) := by
  have bx := I.bx
  exact op_blk (f6 := fX6_cancel) (f7 := fX7_cancel) (sp := sCancel) (fun _ _ _ => rfl) C I h0 (fun j hj => c_cancel C I (by omega) (by omega)) (fun G1 s d m hs hd => m_cancel m I (by omega) hs hd) (fun x y G1 m hx => by unfold fX7_cancel; rw [m_blk0 m I hx, gm_bs, if_pos rfl]) (fun j hj => ⟨i_cancel I (by omega) hj, k_cancel (by omega)⟩) x y
theorem op_admit (C : CL G 0 S) (I : Inv 12 S) (hr : S 80 + 600000 < 2147483647) (h0 : S 0 ≤ 1000000) (x y : Int32) : Op 1 G S (fX6_admit x y G) (fX7_admit x y) := by
  have bx := I.bx
  exact op_blk (f6 := fX6_admit) (f7 := fX7_admit) (sp := sAdmit) (fun _ _ _ => rfl) C I h0 (fun j hj => c_admit C I (by omega)) (fun G1 s d m hs hd => m_admit m I hs hd) (fun x y G1 m hx => by unfold fX7_admit; rw [m_blk0 m I hx, gm_bs, if_pos rfl]) (fun j hj => ⟨i_admit I hj, k_admit⟩) x y
theorem op_out (C : CL G 0 S) (I : Inv 12 S) (hr : S 80 + 600000 < 2147483647) (h0 : S 0 ≤ 1000000) (x y : Int32) : Op 1 G S (fX6_out x y G) (fX7_out x y) := by
  have bx := I.bx
  exact op_blk (f6 := fX6_out) (f7 := fX7_out) (sp := sOut) (fun _ _ _ => rfl) C I h0 (fun j hj => c_out C I (by omega) (by omega)) (fun G1 s d m hs hd => m_out m I (by omega) hs hd) (fun x y G1 m hx => by unfold fX7_out; rw [m_blk0 m I hx, gm_bs, if_pos rfl]) (fun j hj => ⟨i_out I (by omega) hj, k_out (by omega)⟩) x y
theorem op_assist (C : CL G 0 S) (I : Inv 12 S) (hr : S 80 + 600000 < 2147483647) (h0 : S 0 ≤ 1000000) (x y : Int32) : Op 1 G S (fX6_assist x y G) (fX7_assist x y) := by
  have bx := I.bx
  exact op_blk (f6 := fX6_assist) (f7 := fX7_assist) (sp := sAssist) (fun _ _ _ => rfl) C I h0 (fun j hj => c_assist C I (by omega) (by omega)) (fun G1 s d m hs hd => m_assist m I (by omega) hs hd) (fun x y G1 m hx => by unfold fX7_assist; rw [m_blk0 m I hx, gm_bs, if_pos rfl]) (fun j hj => ⟨i_assist I (by omega) hj, k_assist (by omega)⟩) x y
theorem op_obst (C : CL G 0 S) (I : Inv 12 S) (hr : S 80 + 600000 < 2147483647) (h0 : S 0 ≤ 1000000) (x y : Int32) : Op 1 G S (fX6_obstruct x y G) (fX7_obstruct x y) := by
  have bx := I.bx
  exact op_blk (f6 := fX6_obstruct) (f7 := fX7_obstruct) (sp := sObst) (fun _ _ _ => rfl) C I h0 (fun j hj => c_obst C I (by omega) (by omega)) (fun G1 s d m hs hd => m_obst m I (by omega) hs hd) (fun x y G1 m hx => by unfold fX7_obstruct; rw [m_blk0 m I hx, gm_bs, if_pos rfl]) (fun j hj => ⟨i_obst I (by omega) hj, k_obst (by omega)⟩) x y
theorem op_lift (C : CL G 0 S) (I : Inv 12 S) (hr : S 80 + 600000 < 2147483647) (h0 : S 0 ≤ 1000000) (x y : Int32) : Op 1 G S (fX6_lift x y G) (fX7_lift x y) := by
  have bx := I.bx
  exact op_blk (f6 := fX6_lift) (f7 := fX7_lift) (sp := sLift) (fun _ _ _ => rfl) C I h0 (fun j hj => c_lift C I (by omega) (by omega)) (fun G1 s d m hs hd => m_lift m I (by omega) hs hd) (fun x y G1 m hx => by unfold fX7_lift; rw [m_blk0 m I hx, gm_bs, if_pos rfl]) (fun j hj => ⟨i_lift I (by omega) hj, k_lift (by omega)⟩) x y
theorem op_ans0 (C : CL G 0 S) (I : Inv 12 S) (hr : S 80 + 600000 < 2147483647) (h0 : S 0 ≤ 1000000) (x y : Int32) : Op 1 G S (fX6_answer x y 0 G) (fX7_answer x y 0) := by
  have bx := I.bx
  exact op_blk (f6 := fun x y G => fX6_answer x y 0 G) (f7 := fun x y G => fX7_answer x y 0 G) (fc := fX1_refuse 0) (sp := sRefuse) (fun _ _ _ => rfl) C I h0 (fun j hj => c_refuse C I (by omega) (by omega)) (fun G1 s d m hs hd => m_refuse m I (by omega) hs hd) (fun x y G1 m hx => by unfold fX7_answer; rw [m_blk0 m I hx, gm_bs, if_pos rfl]) (fun j hj => ⟨i_refuse I (by omega) hj, k_refuse (by omega)⟩) x y
theorem op_ans1 (C : CL G 0 S) (I : Inv 12 S) (hr : S 80 + 600000 < 2147483647) (h0 : S 0 ≤ 1000000) (x y z : Int32) (hz : ¬ z = 0) : Op 1 G S (fX6_answer x y z G) (fX7_answer x y z) := by
  have bx := I.bx
  exact op_blk (f6 := fun x y G => fX6_answer x y z G) (f7 := fun x y G => fX7_answer x y z G) (fc := fX1_accept 0) (sp := sAccept) (fun x y G => by
    unfold fX6_answer
    simp only [if_neg hz]) C I h0 (fun j hj => c_accept C I (by omega) hj) (fun G1 s d m hs hd => m_accept m I (by omega) hs hd hz) (fun x y G1 m hx => by unfold fX7_answer; rw [m_blk0 m I hx, gm_bs, if_pos rfl]) (fun j hj => ⟨i_accept I (by omega) hj, k_accept (by omega)⟩) x y
theorem op_answer (C : CL G 0 S) (I : Inv 12 S) (hr : S 80 + 600000 < 2147483647) (h0 : S 0 ≤ 1000000) (x y z : Int32) : Op 1 G S (fX6_answer x y z G) (fX7_answer x y z) := by
  by_cases c : z = 0
  · rw [c]; exact op_ans0 C I hr h0 x y
  · exact op_ans1 C I hr h0 x y z c
/-- the section that is asked for -/
theorem c_sec {l : Nat} (C : CL0 G l S) (I : Inv M S) {s : Nat} (hs : s + 1 < S 1) : fX1_sectionAt l (nI s) G = some (some s) := by
  have bx := I.bx
  unfold fX1_sectionAt
  rw [if_neg (by rw [bs_neg (by omega)]; omega), C.bx, show (1 : Int32) = nI 1 from rfl, bs_sub (by omega), if_neg (by rw [bs_le (by omega) (by omega)]; omega), gm_gin (by omega) (by decide)]
theorem c_sec0 {l : Nat} (C : CL0 G l S) (I : Inv M S) {x : Int32} (hx : ∀ s, s + 1 < S 1 → x ≠ nI s) : fX1_sectionAt l x G = some none := by
  have bx := I.bx
  unfold fX1_sectionAt
  by_cases c : x < 0
  · rw [if_pos c]
  · rw [if_neg c, C.bx, show (1 : Int32) = nI 1 from rfl, bs_sub (by omega)]
    obtain ⟨k, hk, rfl⟩ := nI_of c
    rw [if_pos]
    rw [bs_le (by omega) (by omega)]
    by_cases q : k + 1 < S 1
    · exact absurd rfl (hx k q)
    · omega
/-- a section's running time is set -/
theorem CL0.rt {l : Nat} (h : CL0 G l S) {s v : Nat} {x : Int32} (hx : x = nI v) (hs5 : s < 5) : CL0 (gm_up G 4 l s 2 x) l (su S (3 + s) v) := by
  subst hx
  obtain ⟨⟨a1, a2, a3, a4⟩, hs, hk, hb, hr, ht, hy⟩ := h
  have n80 : su S (3 + s) v 80 = S 80 := su_ne (by omega)
  have n381 : su S (3 + s) v 381 = S 381 := su_ne (by omega)
  refine ⟨⟨?_, ?_, ?_, ?_⟩, ?_, ?_, ?_, ?_, ?_, ?_⟩
  · rw [gu_k (by decide), su_ne (by omega)]; exact a1
  · rw [gu_k (by decide), su_ne (by omega)]; exact a2
  · rw [gu_k (by decide), n381]; exact a3
  · rw [gu_k (by decide), n80]; exact a4
  · intro s' q
    obtain ⟨b1, b2, b3, b4⟩ := hs s' q
    rw [gu_s (by decide), gu_s (show (3 : Nat) ≠ 2 by decide), gu_s (show (4 : Nat) ≠ 2 by decide), sSg_su (by omega), su_ne (show 8 + 2 * s' ≠ _ by omega), su_ne (show 8 + 2 * s' + 1 ≠ _ by omega)]
    refine ⟨b1, ?_, b3, b4⟩
    by_cases e : s' = s
    · subst e; rw [gu_at, su_at]
    · rw [gu_c e, su_ne (by omega)]; exact b2
  · intro k q
    rw [gu_k (by decide), su_ne (by omega)]; exact hk k q
  · intro j' q w' q'
    have : sB (su S (3 + s) v) j' w' = sB S j' w' := su_ne (by omega)
    rw [gu_k (by decide), this]; exact hb j' q w' q'
  · intro k q q'
    rw [n80] at q'
    rw [gu_k (by decide), su_ne (by omega)]; exact hr k q q'
  · intro t q w' q'
    rw [n381] at q
    have : sT (su S (3 + s) v) t w' = sT S t w' := su_ne (by omega)
    rw [gu_k (by decide), this]; exact ht t q w' q'
  · intro t q
    rw [gu_k (by decide)]; exact hy t q
/-- a number of loops is set -/
theorem CL0.lu {l : Nat} (h : CL0 G l S) {i v : Nat} {x : Int32} (hx : x = nI v) (hi : i < 12) : CL0 (gm_up G 8 l 0 i x) l (su S (18 + i) v) := by
  subst hx
  obtain ⟨⟨a1, a2, a3, a4⟩, hs, hk, hb, hr, ht, hy⟩ := h
  have n80 : su S (18 + i) v 80 = S 80 := su_ne (by omega)
  have n381 : su S (18 + i) v 381 = S 381 := su_ne (by omega)
  refine ⟨⟨?_, ?_, ?_, ?_⟩, ?_, ?_, ?_, ?_, ?_, ?_⟩
  · rw [gu_k (by decide), su_ne (by omega)]; exact a1
  · rw [gu_k (by decide), su_ne (by omega)]; exact a2
  · rw [gu_k (by decide), n381]; exact a3
  · rw [gu_k (by decide), n80]; exact a4
  · intro s q
    rw [gu_k (by decide), gu_k (by decide), gu_k (by decide), gu_k (by decide), sSg_su (by omega), su_ne (show 3 + s ≠ _ by omega), su_ne (show 8 + 2 * s ≠ _ by omega), su_ne (show 8 + 2 * s + 1 ≠ _ by omega)]
    exact hs s q
  · intro k q
    by_cases e : k = i
    · subst e; rw [gu_at, su_at]
    · rw [gu_s e, su_ne (by omega)]; exact hk k q
  · intro j' q w' q'
    have : sB (su S (18 + i) v) j' w' = sB S j' w' := su_ne (by omega)
    rw [gu_k (by decide), this]; exact hb j' q w' q'
  · intro k q q'
    rw [n80] at q'
    rw [gu_c (by decide), su_ne (by omega)]; exact hr k q q'
  · intro t q w' q'
    rw [n381] at q
    have : sT (su S (18 + i) v) t w' = sT S t w' := su_ne (by omega)
    rw [gu_k (by decide), this]; exact ht t q w' q'
  · intro t q
    rw [gu_k (by decide)]; exact hy t q
/-- only the times, the tokens and the loops change -/
theorem i_head {S' : Sm} (I : Inv M S) (hlt : ∀ k, S' k < 4294967296) (h : ∀ k, k < 3 ∨ 30 ≤ k → S' k = S k) (h1 : ∀ s, s < 5 → 1 ≤ S' (3 + s) ∧ S' (3 + s) ≤ 30 ∧ S' (8 + 2 * s) + S' (8 + 2 * s + 1) = S (8 + 2 * s) + S (8 + 2 * s + 1)) (h2 : ∀ k, k < 12 → S' (18 + k) ≤ 3) : Inv M S' := by
  have hB : ∀ j w, sB S' j w = sB S j w := fun j w => h _ (by omega)
  have hT : ∀ t w, sT S' t w = sT S t w := fun t w => h _ (by omega)
  have e2 : S' 2 = S 2 := h 2 (by omega)
  have e1 : S' 1 = S 1 := h 1 (by omega)
  have e0 : S' 0 = S 0 := h 0 (by omega)
  have en : S' 381 = S 381 := h _ (by omega)
  refine ⟨hlt, by rw [e1, e2]; exact I.bx, by rw [en]; exact I.tn, fun s hs => ?_, h2, fun j hj => ?_, fun t ht => ?_, fun j hj => ?_, fun j hj q => ?_⟩
  · obtain ⟨a1, a2, a3⟩ := h1 s hs
    have sc := I.sc hs
    rw [a3, sTo_of e2 (fun j _ => hB j 0) hs, sSg_of e2]
    unfold sOn
    rw [hB, hB]
    exact ⟨a1, a2, sc.2.2⟩
  · rw [hB, hB, hB, hB, hB, en]; exact I.bk hj
  · rw [en] at ht
    rw [hT, hT, hT, hT, hT, hT, hT, e1, e0]; exact I.tr ht
  · rw [hB, hB, hB, hT, hT, hT, hT, hT, hT]; exact I.ps hj
  · rw [e1] at q
    rw [hB, hB]; exact I.far hj q
theorem op_setTime (C : CL G 0 S) (I : Inv 12 S) (h0 : S 0 ≤ 1000000) (x y : Int32) : Op 500000 G S (fX6_setTime x y G) (fX7_setTime x y) := by
  have bx := I.bx
  rcases m_csec S x with ⟨s, hs, rfl⟩ | hx
  · rcases bs_rg y (a := 1) (b := 30) (by decide) (by decide) with ⟨k, k1, k2, rfl⟩ | hy
    · refine ⟨(S (3 + s), su S (3 + s) k), ?_, fun G1 m => ?_, ?_, ?_, ?_⟩
      · refine ⟨gm_up G 4 0 s 2 (nI k), ?_, ⟨C.1.rt rfl (by omega), C.2.of (fun s' => gu_s (by decide)) (su_ne (by omega)) (fun j hj => su_ne (by omega))⟩, FrC.rf.up⟩
        unfold fX6_setTime
        rw [c_sec C.1 I hs, gm_bs, gm_els, if_neg (by rw [show (1 : Int32) = nI 1 from rfl, bs_lt (by omega) (by decide)]; omega), if_pos (by rw [show (30 : Int32) = nI 30 from rfl, bs_le (by omega) (by decide)]; omega), (C.1.sc (show s < 5 by omega)).2.1]
      · refine ⟨_, ?_, m.up (3 + s) k, FrM.rf.up⟩
        unfold fX7_setTime
        have e3 : (3 : Int32) + nI s = nI (3 + s) := by simp only [bs_nat, nI_add]
        rw [m_sec m I hs, gm_bs, if_neg (by decide), m_inr (y := 1) (z := 30) (a := 1) (b := 30) rfl rfl (by decide) (by decide) k1 k2 rfl, gm_bs, if_neg (by decide), e3, gm_gin (by omega) (by decide), gm_gin (by omega) (by decide), m _ (by omega)]
      · dsimp only
        refine i_head I (su_lt I.1 (by omega)) (fun k q => su_ne (by omega)) (fun s' hs' => ?_) (fun k q => by rw [su_ne (by omega)]; exact I.lp q)
        rw [su_ne (show 8 + 2 * s' ≠ _ by omega), su_ne (show 8 + 2 * s' + 1 ≠ _ by omega)]
        by_cases e : s' = s
        · subst e; rw [su_at]; exact ⟨k1, k2, rfl⟩
        · rw [su_ne (by omega)]; exact ⟨(I.sc hs').1, (I.sc hs').2.1, rfl⟩
      · dsimp only; rw [su_ne (by omega)]; exact h0
      · dsimp only; rw [su_ne (by omega)]; exact Nat.le_add_right _ _
    · have hy : y < 1 ∨ 30 < y := hy
      refine Op.no C I h0 nI_m2 ?_ (fun G1 m => ?_)
      · unfold fX6_setTime
        rw [c_sec C.1 I hs, gm_bs, gm_els]
        by_cases c : y < 1
        · rw [if_pos c]
        · rw [if_neg c, if_neg (Int32.not_le.mpr (hy.resolve_left c))]
      · unfold fX7_setTime
        rw [m_sec m I hs, gm_bs, if_neg (by decide), m_in0 hy, gm_bs, if_pos rfl]
  · refine Op.no C I h0 nI_m1 ?_ (fun G1 m => ?_)
    · unfold fX6_setTime
      rw [c_sec0 C.1 I hx, gm_bs, gm_eln]
    · unfold fX7_setTime
      rw [m_sec0 m I hx, gm_bs, if_pos rfl]
theorem c_hb0 (C : CL0 G 0 S) (I : Inv M S) {x : Int32} (hx : x < 0 ∨ nI (S 1 - 1) < x) : fX1_hasBox 0 x G = some 0 := by
  have bx := I.bx
  unfold fX1_hasBox
  by_cases c : x < 0
  · rw [if_pos c]
  · rw [if_neg c, C.bx, if_pos]
    obtain ⟨k, hk, rfl⟩ := nI_of c
    have := hx.resolve_left c
    rw [bs_lt (by omega) (by omega)] at this
    rw [bs_le (by omega) (by omega)]; omega
theorem c_dir0 {x : Int32} (hx : ∀ d, d < 2 → x ≠ nI d) : fX6_isDirection x = some 0 := by
  unfold fX6_isDirection
  rw [if_neg (show ¬ x = 0 from hx 0 (by decide)), if_neg (show ¬ x = 1 from hx 1 (by decide))]
theorem c_way (x : Int32) : (∃ d, d < 2 ∧ x = nI d) ∨ (∀ d, d < 2 → x ≠ nI d) := by
  by_cases c : ∃ d, d < 2 ∧ x = nI d
  · exact Or.inl c
  · exact Or.inr fun d hd q => c ⟨d, hd, q⟩
theorem op_setLoops (C : CL G 0 S) (I : Inv 12 S) (h0 : S 0 ≤ 1000000) (x y z : Int32) : Op 500000 G S (fX6_setLoops x y z G) (fX7_setLoops x y z) := by
  have bx := I.bx
  have tn := I.tn
  have e1 : nI (S 1) - 1 = nI (S 1 - 1) := bs_sub (b := 1) (by omega)
  rcases bs_rg x (a := 0) (b := S 1 - 1) (by omega) (by decide) with ⟨b, b1, b2, rfl⟩ | hx
  · rcases c_way y with ⟨d, hd, rfl⟩ | hy
    · rcases bs_rg z (a := 0) (b := 3) (by decide) (by decide) with ⟨k, k1, k2, rfl⟩ | hz
      · have hcn := sCn_le S b d 1 (S 381)
        have cm := c_many C.1 I (x := b) (d := d) (p := 1) (y := 1) rfl (by omega) (by omega) (by decide)
        have e2 : (2 : Int32) * nI b + nI d = nI (2 * b + d) := by simp only [bs_nat, bs_mul, nI_add]
        have e3 : (18 : Int32) + 2 * nI b + nI d = nI (18 + 2 * b + d) := by simp only [bs_nat, bs_mul, nI_add]
        have pre6 : fX6_setLoops (nI b) (nI d) (nI k) G = (if nI (sCn S b d 1 (S 381)) ≤ nI k then some (nI (S (18 + (2 * b + d))), gm_up G 8 0 0 (2 * b + d) (nI k)) else some (-5, G)) := by
          unfold fX6_setLoops fX1_changeLoops
          rw [c_hb C.1 I (by omega), gm_bs, if_neg (by decide), c_dir hd, gm_bs, if_neg (by decide), if_neg (by rw [bs_neg (by omega)]; omega), if_pos (by rw [show (3 : Int32) = nI 3 from rfl, bs_le (by omega) (by decide)]; omega), cm, gm_bs, e2, gm_gin (by omega) (by decide), gm_gin (by omega) (by decide), C.1.2.2.1 _ (by omega)]
          split <;> rfl
        have pre7 : ∀ G1, MA G1 S → fX7_setLoops (nI b) (nI d) (nI k) G1 = (if nI (sCn S b d 1 (S 381)) ≤ nI k then some (nI (S (18 + 2 * b + d)), gm_up G1 8 5 0 (18 + 2 * b + d) (nI k)) else some (-5, G1)) := by
          intro G1 m
          unfold fX7_setLoops
          rw [m 1 (by decide), e1, m_inr (y := 0) (z := nI (S 1 - 1)) (a := 0) (b := S 1 - 1) rfl rfl (by decide) (by omega) b1 b2 rfl, gm_bs, if_neg (by decide), m_way hd, gm_bs, if_neg (by decide), m_inr (y := 0) (z := 3) (a := 0) (b := 3) rfl rfl (by decide) (by decide) k1 k2 rfl, gm_bs, if_neg (by decide), m_many (p := 1) (y := 1) m I rfl (by omega) (by omega) (by decide), gm_bs, e3, gm_gin (by omega) (by decide), gm_gin (by omega) (by decide), m _ (by omega)]
        rw [show 18 + 2 * b + d = 18 + (2 * b + d) by omega] at pre7
        by_cases c : sCn S b d 1 (S 381) ≤ k
        · refine ⟨(S (18 + (2 * b + d)), su S (18 + (2 * b + d)) k), ?_, fun G1 m => ?_, ?_, ?_, ?_⟩
          · refine ⟨_, ?_, ⟨C.1.lu (i := 2 * b + d) (v := k) rfl (by omega), C.2.of (fun s' => gu_k (by decide)) (su_ne (by omega)) (fun j hj => su_ne (by omega))⟩, FrC.rf.up⟩
            rw [pre6, if_pos ((bs_le (by omega) (by omega)).mpr c)]
          · refine ⟨_, ?_, m.up (18 + (2 * b + d)) k, FrM.rf.up⟩
            rw [pre7 G1 m, if_pos ((bs_le (by omega) (by omega)).mpr c)]
          · dsimp only
            refine i_head I (su_lt I.1 (by omega)) (fun k q => su_ne (by omega)) (fun s' hs' => ?_) (fun k' q => ?_)
            · rw [su_ne (by omega), su_ne (by omega), su_ne (by omega)]; exact ⟨(I.sc hs').1, (I.sc hs').2.1, rfl⟩
            · by_cases e : k' = 2 * b + d
              · rw [e, su_at]; exact k2
              · rw [su_ne (by omega)]; exact I.lp q
          · dsimp only; rw [su_ne (by omega)]; exact h0
          · dsimp only; rw [su_ne (by omega)]; exact Nat.le_add_right _ _
        · have c' : ¬ nI (sCn S b d 1 (S 381)) ≤ nI k := by rw [bs_le (by omega) (by omega)]; exact c
          refine Op.no C I h0 nI_m5 (by rw [pre6, if_neg c']) (fun G1 m => by rw [pre7 G1 m, if_neg c'])
      · have hz : z < 0 ∨ 3 < z := hz
        refine Op.no C I h0 nI_m2 ?_ (fun G1 m => ?_)
        · unfold fX6_setLoops
          rw [c_hb C.1 I (by omega), gm_bs, if_neg (by decide), c_dir hd, gm_bs, if_neg (by decide)]
          by_cases c : z < 0
          · rw [if_pos c]
          · rw [if_neg c, if_neg (Int32.not_le.mpr (hz.resolve_left c))]
        · unfold fX7_setLoops
          rw [m 1 (by decide), e1, m_inr (y := 0) (z := nI (S 1 - 1)) (a := 0) (b := S 1 - 1) rfl rfl (by decide) (by omega) b1 b2 rfl, gm_bs, if_neg (by decide), m_way hd, gm_bs, if_neg (by decide), m_in0 hz, gm_bs, if_pos rfl]
    · refine Op.no C I h0 nI_m1 ?_ (fun G1 m => ?_)
      · unfold fX6_setLoops
        rw [c_hb C.1 I (by omega), gm_bs, if_neg (by decide), c_dir0 hy, gm_bs, if_pos rfl]
      · unfold fX7_setLoops
        rw [m 1 (by decide), e1, m_inr (y := 0) (z := nI (S 1 - 1)) (a := 0) (b := S 1 - 1) rfl rfl (by decide) (by omega) b1 b2 rfl, gm_bs, if_neg (by decide), m_way0 hy, gm_bs, if_pos rfl]
  · have hx : x < 0 ∨ nI (S 1 - 1) < x := hx
    refine Op.no C I h0 nI_m1 ?_ (fun G1 m => ?_)
    · unfold fX6_setLoops
      rw [c_hb0 C.1 I hx, gm_bs, if_pos rfl]
    · unfold fX7_setLoops
      rw [m 1 (by decide), e1, m_in0 hx, gm_bs, if_pos rfl]
end
