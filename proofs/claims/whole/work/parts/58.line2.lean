/-! The maker of a line, whole -/
abbrev wd (w : gm_Wd) (ad : Nat → Nat → Nat → Nat) : gm_Wd := (w.1, w.2.1, w.2.2.1, w.2.2.2.1, ad)
def gz : Gm := fun _ _ _ _ => 0
theorem gn_D {A : Nat → Prop} {w : gm_Wd} {G G1 : Gm} (h : va_D A (gmn_w w G)) : va_D A (gmn_w w G1) := by
  have e : (gmn_w w G1).map Prod.fst = (gmn_w w G).map Prod.fst := by
    unfold gmn_w
    rw [List.map_map, List.map_map]
    rfl
  obtain ⟨h1, h2⟩ := vq_D.mp h
  refine vq_D.mpr ⟨by rw [e]; exact h1, fun q hq => ?_⟩
  have h3 : q.1 ∈ (gmn_w w G).map Prod.fst := by rw [← e]; exact List.mem_map.mpr ⟨q, hq, rfl⟩
  obtain ⟨p, hp, he⟩ := List.mem_map.mp h3
  rw [← he]
  exact h2 p hp
theorem gn_J {A : Nat → Prop} {w : gm_Wd} {G : Gm} (h : va_D A (gmn_w w G)) : gmn_J w := by
  intro a b c a' b' c' h1 h2 he
  obtain ⟨i, hi⟩ := gmn_at h1
  obtain ⟨j, hj⟩ := gmn_at h2
  have e := h.1 i j _ _ (gmn_w_at w G hi) (gmn_w_at w G hj) he
  subst e
  exact Option.some.inj (hi.symm.trans hj)
theorem gn_A {A : Nat → Prop} {w : gm_Wd} {G : Gm} (h : va_D A (gmn_w w G)) : ∀ q, gmn_A w q → A q := by
  rintro q ⟨a, b, c, h1, rfl⟩
  obtain ⟨i, hi⟩ := gmn_at h1
  exact h.2 i _ (gmn_w_at w G hi)
theorem cv_callN {x : gm_Cx} {cc : ByteArray} {nL : Nat} {own : String} {rk kc ks k n pc : Nat} {lv : List (Nat × Value)} {st st0 : List Value} (C : cv_X x cc nL own rk kc ks) {bytes : ByteArray} {y : MethodName} {mL kn k' idx : Nat} {As : List Value} {ad : Nat → Nat → Nat → Nat} {G G1 : Gm} (M : gm_M y bytes mL none kn) (M2 : Cond.instanceMethod y ∈ TB ∧ Cond.selects y.cls y y ∈ TB) (hy : y.cls = RX1) (hk' : k' + 1 ≤ rk) (hlk : Cond.methodLink own idx y ∈ TB)
    (hM : gmn_C (wd (cx_w x) ad) y bytes mL none k' (.ref (ad 1 0 0) :: As) G none G1) (hn : As.length = kn) (hst : st0 = As.reverse ++ .ref (ad 1 0 0) :: st) (hs : (st.map fun v => v.category).sum ≤ 8) (hkc : k ≤ kc) (hks : n ≤ ks) (d : decode cc pc = .ok (.invokevirtual idx, 3)) (t : Nat) (ht : pc + 3 = t)
    (K : cv_V x (gmn_w (wd (cx_w x) ad) G1) k n t lv st) : cv_V x (gmn_w (wd (cx_w x) ad) G) k n pc lv st0 := by
  subst ht
  obtain ⟨r1, r2, r3, r4⟩ := C.2.2.2.2.2.2.2
  obtain ⟨m1, m2, m3, m4⟩ := M
  intro H locs ls hP hD hS hl
  have hJ := gn_J hD
  have hA := gn_A hD
  have hrv := va_recv (q0 := 0) (a := ad 1 0 0) (q := (RX1, TX1, 8)) C.2.2.2.2.2.1.1.1 hP (ci := 1) rfl rfl
  have hr := va_runV (b := ad 1 0 0) (As := As) (rest := st) (C := y.cls) (e := cx_e x) (below := cx_below x) (meth := cx_meth x) (locs := locs) (cells := k) (slots := n) (g := F0 (cx_m x) pc ls st0) ⟨C.1, C.2.1, rfl, C.2.2.2.1, C.2.2.2.2.1⟩ hM ⟨callB_of kn C.2.2.2.2.1 (gm_in m1) rfl rfl rfl (C.2.2.2.2.1 _ m2) (C.2.2.2.2.1 _ hlk) m3 ⟨by show k' + 1 ≤ _; omega, by show 8 + (mL + 11) + 36 * k' ≤ _; omega⟩, C.2.2.2.2.1 _ M2.1, C.2.2.2.2.1 _ M2.2⟩
    ⟨fun a U g mk q => by obtain ⟨q0, qP, qK, qJ⟩ := q; exact ⟨q0, qP, gm_K_same (s := U) (U := U.calling g mk a) rfl qK, qJ⟩, by rw [hy]; exact hrv, fun U hU hW => ⟨rfl, by rw [hU]; exact hP, gm_K_warm hW C.2.2.2.2.2.1.1, hJ⟩⟩ rfl hn hl.1 hst (lv_room hs) d ⟨Nat.le_trans hkc r3, Nat.le_trans hks r4⟩
  intro T hT X
  obtain ⟨v, st₀, t, T', L, h0, X', hL, e1, e2, ⟨⟨hv, hP1⟩, hz, hk⟩, sp⟩ := hr T hT X
  cases hv
  rw [h0] at hz hk
  obtain ⟨t2, a1, b1⟩ := K T'.heap (locs ++ L) ls (by rw [e1]; exact hP1) (gn_D hD)
    ⟨Nat.le_trans hS.1 (by rw [e1]; exact hz), fun q h1 h2 => by rw [e1, hk q (Nat.lt_of_lt_of_le h1 hS.1) (fun z => h2 (hA q z))]; exact hS.2.1 q h1 h2, fun q hq => by
      rcases List.mem_append.mp hq with h | h
      · exact hS.2.2 q h
      · exact hA _ (hL q h)⟩ hl T' rfl X'
  exact ⟨t2, sp t2 a1, b1⟩
def ln_ad (h0 r la ra ba sa ta : Nat) (bs ss ts : List Nat) : Nat → Nat → Nat → Nat := fun a _ c => match a with
  | 0 => bs.getD c 0
  | 1 => h0
  | 3 => r
  | 4 => ss.getD c 0
  | 5 => ts.getD c 0
  | 8 => match c with
    | 0 => la
    | _ => ra
  | 10 => ba
  | 12 => sa
  | 13 => ta
  | _ => 0
/-- what a line is, made -/
def F_lin (w : gm_Wd) (h0 : Nat) (Gl : Gm) : va_W → Prop := fun w1 => ∃ ad : Nat → Nat → Nat → Nat, ad 1 0 0 = h0 ∧ w1 = gmn_w (wd w ad) Gl
set_option maxHeartbeats 4000000 in
set_option maxRecDepth 20000 in
theorem zc_lin (w : gm_Wd) (h0 : Nat) (Gl : Gm) (hG : fX1_layOut 0 (nI 4) (nI 0) gz = some Gl) : cc_C w yX1_init cX1_init 2 3 33 549 [.ref h0] [(h0, z_lin .null .null .null .null .null)] (F_lin w h0 Gl) := by
  refine cc_start (by decide) rfl (Nat.le_of_ble_eq_true rfl) fun x hw C E => ?_
  subst hw
  refine cv_aload_n C rfl 0 rfl dX1_init_0 1 rfl ?_
  refine cv_obj C mkX1_3 (by decide) dX1_init_1 4 rfl ?_
  refine cv_aload_n C rfl 0 rfl dX1_init_4 5 rfl ?_
  refine cv_iconst C (nI 5) (by decide +kernel) dX1_init_5 6 rfl ?_
  refine cv_newq C 4 rfl C.2.2.2.2.2.1.2.2.2.1 clX1_9 5 rfl (by decide) (by decide) (by decide) dX1_init_6 9 rfl fun sa => ?_
  refine cv_putF (ci := 1) (i := 0) (T := TX1) (N := 8) (ty := .array (.object "BlockBells$Section")) C E.1 1 rfl rfl iwX1 tyX1 tyX1_ok nmX1 (by decide) rfl rfl (by decide +kernel) rfl rfl (Nat.le_of_ble_eq_true rfl) lkX1_11 [(sa, z_sa (cx_w x) fun _ => none), (h0, z_lin (.ref sa) .null .null .null .null)] rfl dX1_init_9 12 rfl ?_
  refine cv_aload_n C rfl 0 rfl dX1_init_12 13 rfl ?_
  refine cv_bipush C (nI 10) (by decide +kernel) dX1_init_13 15 rfl ?_
  refine cv_newq C 2 rfl C.2.2.2.2.2.1.2.1 clX1_17 10 rfl (by decide) (by decide) (by decide) dX1_init_15 18 rfl fun ba => ?_
  refine cv_putF (ci := 1) (i := 1) (T := TX1) (N := 8) (ty := .array (.object "BlockBells$Block")) C E.1 2 rfl rfl iwX1 tyX1 tyX1_ok nmX1 (by decide) rfl rfl (by decide +kernel) rfl rfl (Nat.le_of_ble_eq_true rfl) lkX1_19 [(ba, z_ba (cx_w x) fun _ => none), (sa, z_sa (cx_w x) fun _ => none), (h0, z_lin (.ref sa) (.ref ba) .null .null .null)] rfl dX1_init_18 21 rfl ?_
  refine cv_iconst C (nI 0) (by decide +kernel) dX1_init_21 22 rfl ?_
  refine cv_istore_n C rfl [(1, .int (nI 0)), (0, .ref h0)] (by decide) rfl dX1_init_22 23 rfl ?_
  refine cv_sub [2, 1, 0] rfl [(h0, z_lin (.ref sa) (.ref ba) .null .null .null), (sa, z_sa (cx_w x) fun _ => none), (ba, z_ba (cx_w x) fun _ => none)] rfl ?_
  refine zl_body (i := 0) C (by decide) (by decide) (by decide) fun s0 b0 b1 => ?_
  refine zl_body (i := 1) C (by decide) (by decide) (by decide) fun s1 b2 b3 => ?_
  refine zl_body (i := 2) C (by decide) (by decide) (by decide) fun s2 b4 b5 => ?_
  refine zl_body (i := 3) C (by decide) (by decide) (by decide) fun s3 b6 b7 => ?_
  refine zl_body (i := 4) C (by decide) (by decide) (by decide) fun s4 b8 b9 => ?_
  refine cv_iload_n C rfl 0 rfl dX1_init_23 24 rfl ?_
  refine cv_iconst C (nI 5) (by decide +kernel) dX1_init_24 25 rfl ?_
  refine cv_geT C (nI_le (by decide) (by decide)) dX1_init_25 94 (by decide) ?_
  refine cv_aload_n C rfl 1 rfl dX1_init_94 95 rfl ?_
  refine cv_bipush C (nI 12) (by decide +kernel) dX1_init_95 97 rfl ?_
  refine cv_newq C 5 rfl C.2.2.2.2.2.1.2.2.2.2 clX1_29 12 rfl (by decide) (by decide) (by decide) dX1_init_97 100 rfl fun ta => ?_
  refine cv_putF (ci := 1) (i := 2) (T := TX1) (N := 8) (ty := .array (.object "BlockBells$Train")) C E.1 1 rfl rfl iwX1 tyX1 tyX1_ok nmX1 (by decide) rfl rfl (by decide +kernel) rfl rfl (Nat.le_of_ble_eq_true rfl) lkX1_31 [(ta, z_ta (cx_w x) fun _ => none), (h0, z_lin (.ref sa) (.ref ba) (.ref ta) .null .null), (sa, z_sa (cx_w x) (va_up (va_up (va_up (va_up (va_up (fun _ => none) 0 (some s0)) 1 (some s1)) 2 (some s2)) 3 (some s3)) 4 (some s4))), (ba, z_ba (cx_w x) (va_up (va_up (va_up (va_up (va_up (va_up (va_up (va_up (va_up (va_up (fun _ => none) 0 (some b0)) 1 (some b1)) 2 (some b2)) 3 (some b3)) 4 (some b4)) 5 (some b5)) 6 (some b6)) 7 (some b7)) 8 (some b8)) 9 (some b9))), (b9, z_blk (.ref s4) (nI 1)), (b8, z_blk (.ref s4) (nI 0)), (s4, z_sec (nI 4)), (b7, z_blk (.ref s3) (nI 1)), (b6, z_blk (.ref s3) (nI 0)), (s3, z_sec (nI 3)), (b5, z_blk (.ref s2) (nI 1)), (b4, z_blk (.ref s2) (nI 0)), (s2, z_sec (nI 2)), (b3, z_blk (.ref s1) (nI 1)), (b2, z_blk (.ref s1) (nI 0)), (s1, z_sec (nI 1)), (b1, z_blk (.ref s0) (nI 1)), (b0, z_blk (.ref s0) (nI 0)), (s0, z_sec (nI 0))] rfl dX1_init_100 103 rfl ?_
  refine cv_iconst C (nI 0) (by decide +kernel) dX1_init_103 104 rfl ?_
  refine cv_istore_n C rfl [(1, .int (nI 0)), (0, .ref h0)] (by decide) rfl dX1_init_104 105 rfl ?_
  refine cv_perm (List.Perm.swap _ _ _) ?_
  refine zl_train (i := 0) C (by decide) (by decide) (by decide) fun t0 => ?_
  refine zl_train (i := 1) C (by decide) (by decide) (by decide) fun t1 => ?_
  refine zl_train (i := 2) C (by decide) (by decide) (by decide) fun t2 => ?_
  refine zl_train (i := 3) C (by decide) (by decide) (by decide) fun t3 => ?_
  refine zl_train (i := 4) C (by decide) (by decide) (by decide) fun t4 => ?_
  refine zl_train (i := 5) C (by decide) (by decide) (by decide) fun t5 => ?_
  refine zl_train (i := 6) C (by decide) (by decide) (by decide) fun t6 => ?_
  refine zl_train (i := 7) C (by decide) (by decide) (by decide) fun t7 => ?_
  refine zl_train (i := 8) C (by decide) (by decide) (by decide) fun t8 => ?_
  refine zl_train (i := 9) C (by decide) (by decide) (by decide) fun t9 => ?_
  refine zl_train (i := 10) C (by decide) (by decide) (by decide) fun t10 => ?_
  refine zl_train (i := 11) C (by decide) (by decide) (by decide) fun t11 => ?_
  refine cv_iload_n C rfl 0 rfl dX1_init_105 106 rfl ?_
  refine cv_bipush C (nI 12) (by decide +kernel) dX1_init_106 108 rfl ?_
  refine cv_geT C (nI_le (by decide) (by decide)) dX1_init_108 131 (by decide) ?_
  refine cv_aload_n C rfl 1 rfl dX1_init_131 132 rfl ?_
  refine cv_bipush C (nI 12) (by decide +kernel) dX1_init_132 134 rfl ?_
  refine cv_newi C 12 rfl (by decide) (by decide) (by decide) dX1_init_134 136 rfl fun la => ?_
  refine cv_putF (ci := 1) (i := 3) (T := TX1) (N := 8) (ty := .array .int) C E.1 1 rfl rfl iwX1 tyX1 tyX1_ok nmX1 (by decide) rfl rfl (by decide +kernel) rfl rfl (Nat.le_of_ble_eq_true rfl) lkX1_36 [(la, .inl (gm_cy (cx_w x) 0, 12, .inl fun _ => 0)), (h0, z_lin (.ref sa) (.ref ba) (.ref ta) (.ref la) .null), (ta, z_ta (cx_w x) (va_up (va_up (va_up (va_up (va_up (va_up (va_up (va_up (va_up (va_up (va_up (va_up (fun _ => none) 0 (some t0)) 1 (some t1)) 2 (some t2)) 3 (some t3)) 4 (some t4)) 5 (some t5)) 6 (some t6)) 7 (some t7)) 8 (some t8)) 9 (some t9)) 10 (some t10)) 11 (some t11))), (t11, z_trn (nI 11)), (t10, z_trn (nI 10)), (t9, z_trn (nI 9)), (t8, z_trn (nI 8)), (t7, z_trn (nI 7)), (t6, z_trn (nI 6)), (t5, z_trn (nI 5)), (t4, z_trn (nI 4)), (t3, z_trn (nI 3)), (t2, z_trn (nI 2)), (t1, z_trn (nI 1)), (t0, z_trn (nI 0)), (sa, z_sa (cx_w x) (va_up (va_up (va_up (va_up (va_up (fun _ => none) 0 (some s0)) 1 (some s1)) 2 (some s2)) 3 (some s3)) 4 (some s4))), (ba, z_ba (cx_w x) (va_up (va_up (va_up (va_up (va_up (va_up (va_up (va_up (va_up (va_up (fun _ => none) 0 (some b0)) 1 (some b1)) 2 (some b2)) 3 (some b3)) 4 (some b4)) 5 (some b5)) 6 (some b6)) 7 (some b7)) 8 (some b8)) 9 (some b9))), (b9, z_blk (.ref s4) (nI 1)), (b8, z_blk (.ref s4) (nI 0)), (s4, z_sec (nI 4)), (b7, z_blk (.ref s3) (nI 1)), (b6, z_blk (.ref s3) (nI 0)), (s3, z_sec (nI 3)), (b5, z_blk (.ref s2) (nI 1)), (b4, z_blk (.ref s2) (nI 0)), (s2, z_sec (nI 2)), (b3, z_blk (.ref s1) (nI 1)), (b2, z_blk (.ref s1) (nI 0)), (s1, z_sec (nI 1)), (b1, z_blk (.ref s0) (nI 1)), (b0, z_blk (.ref s0) (nI 0)), (s0, z_sec (nI 0))] rfl dX1_init_136 139 rfl ?_
  refine cv_aload_n C rfl 1 rfl dX1_init_139 140 rfl ?_
  refine cv_new (ci := 3) (T := TX3) (N := 2) C rfl iwX3 tyX3 tyX3_ok clX1_40 nwX3 in_BlockBells_Register zf_3 (by decide) (by decide) dX1_init_140 143 rfl fun r => ?_
  refine cv_dup C rfl dX1_init_143 144 rfl ?_
  refine cv_callI (wc := [(r, z_reg .null)]) C mc_yX3_init mi_yX3_init rfl (by decide) mkX1_42 (zc_reg (cx_w x) r) rfl rfl rfl (Nat.le_of_ble_eq_true rfl) (by decide) (by decide) dX1_init_144 147 rfl fun w1 hF => ?_
  obtain ⟨ra, rfl⟩ := hF
  refine cv_putF (ci := 1) (i := 4) (T := TX1) (N := 8) (ty := .object "BlockBells$Register") C E.1 3 rfl rfl iwX1 tyX1 tyX1_ok nmX1 (by decide) rfl rfl (by decide +kernel) rfl rfl (Nat.le_of_ble_eq_true rfl) lkX1_43 [(ra, .inl (gm_cy (cx_w x) 0, 300, .inl fun _ => 0)), (r, z_reg (.ref ra)), (la, .inl (gm_cy (cx_w x) 0, 12, .inl fun _ => 0)), (h0, z_lin (.ref sa) (.ref ba) (.ref ta) (.ref la) (.ref r)), (ta, z_ta (cx_w x) (va_up (va_up (va_up (va_up (va_up (va_up (va_up (va_up (va_up (va_up (va_up (va_up (fun _ => none) 0 (some t0)) 1 (some t1)) 2 (some t2)) 3 (some t3)) 4 (some t4)) 5 (some t5)) 6 (some t6)) 7 (some t7)) 8 (some t8)) 9 (some t9)) 10 (some t10)) 11 (some t11))), (t11, z_trn (nI 11)), (t10, z_trn (nI 10)), (t9, z_trn (nI 9)), (t8, z_trn (nI 8)), (t7, z_trn (nI 7)), (t6, z_trn (nI 6)), (t5, z_trn (nI 5)), (t4, z_trn (nI 4)), (t3, z_trn (nI 3)), (t2, z_trn (nI 2)), (t1, z_trn (nI 1)), (t0, z_trn (nI 0)), (sa, z_sa (cx_w x) (va_up (va_up (va_up (va_up (va_up (fun _ => none) 0 (some s0)) 1 (some s1)) 2 (some s2)) 3 (some s3)) 4 (some s4))), (ba, z_ba (cx_w x) (va_up (va_up (va_up (va_up (va_up (va_up (va_up (va_up (va_up (va_up (fun _ => none) 0 (some b0)) 1 (some b1)) 2 (some b2)) 3 (some b3)) 4 (some b4)) 5 (some b5)) 6 (some b6)) 7 (some b7)) 8 (some b8)) 9 (some b9))), (b9, z_blk (.ref s4) (nI 1)), (b8, z_blk (.ref s4) (nI 0)), (s4, z_sec (nI 4)), (b7, z_blk (.ref s3) (nI 1)), (b6, z_blk (.ref s3) (nI 0)), (s3, z_sec (nI 3)), (b5, z_blk (.ref s2) (nI 1)), (b4, z_blk (.ref s2) (nI 0)), (s2, z_sec (nI 2)), (b3, z_blk (.ref s1) (nI 1)), (b2, z_blk (.ref s1) (nI 0)), (s1, z_sec (nI 1)), (b1, z_blk (.ref s0) (nI 1)), (b0, z_blk (.ref s0) (nI 0)), (s0, z_sec (nI 0))] rfl dX1_init_147 150 rfl ?_
  refine cv_aload_n C rfl 1 rfl dX1_init_150 151 rfl ?_
  refine cv_iconst C (nI 4) (by decide +kernel) dX1_init_151 152 rfl ?_
  refine cv_iconst C (nI 0) (by decide +kernel) dX1_init_152 153 rfl ?_
  refine cv_arr 4 rfl (fun k => some (ln_ad h0 r la ra ba sa ta [b0, b1, b2, b3, b4, b5, b6, b7, b8, b9] [s0, s1, s2, s3, s4] [t0, t1, t2, t3, t4, t5, t6, t7, t8, t9, t10, t11] 5 0 k)) (fun k hk => by
    match k, hk with
    | 0, _ => rfl
    | 1, _ => rfl
    | 2, _ => rfl
    | 3, _ => rfl
    | 4, _ => rfl
    | 5, _ => rfl
    | 6, _ => rfl
    | 7, _ => rfl
    | 8, _ => rfl
    | 9, _ => rfl
    | 10, _ => rfl
    | 11, _ => rfl
    | k + 12, h => exact absurd h (by omega)) [(ra, .inl (gm_cy (cx_w x) 0, 300, .inl fun _ => 0)), (r, z_reg (.ref ra)), (la, .inl (gm_cy (cx_w x) 0, 12, .inl fun _ => 0)), (h0, z_lin (.ref sa) (.ref ba) (.ref ta) (.ref la) (.ref r)), (ta, z_ta (cx_w x) (fun k => some (ln_ad h0 r la ra ba sa ta [b0, b1, b2, b3, b4, b5, b6, b7, b8, b9] [s0, s1, s2, s3, s4] [t0, t1, t2, t3, t4, t5, t6, t7, t8, t9, t10, t11] 5 0 k))), (t11, z_trn (nI 11)), (t10, z_trn (nI 10)), (t9, z_trn (nI 9)), (t8, z_trn (nI 8)), (t7, z_trn (nI 7)), (t6, z_trn (nI 6)), (t5, z_trn (nI 5)), (t4, z_trn (nI 4)), (t3, z_trn (nI 3)), (t2, z_trn (nI 2)), (t1, z_trn (nI 1)), (t0, z_trn (nI 0)), (sa, z_sa (cx_w x) (va_up (va_up (va_up (va_up (va_up (fun _ => none) 0 (some s0)) 1 (some s1)) 2 (some s2)) 3 (some s3)) 4 (some s4))), (ba, z_ba (cx_w x) (va_up (va_up (va_up (va_up (va_up (va_up (va_up (va_up (va_up (va_up (fun _ => none) 0 (some b0)) 1 (some b1)) 2 (some b2)) 3 (some b3)) 4 (some b4)) 5 (some b5)) 6 (some b6)) 7 (some b7)) 8 (some b8)) 9 (some b9))), (b9, z_blk (.ref s4) (nI 1)), (b8, z_blk (.ref s4) (nI 0)), (s4, z_sec (nI 4)), (b7, z_blk (.ref s3) (nI 1)), (b6, z_blk (.ref s3) (nI 0)), (s3, z_sec (nI 3)), (b5, z_blk (.ref s2) (nI 1)), (b4, z_blk (.ref s2) (nI 0)), (s2, z_sec (nI 2)), (b3, z_blk (.ref s1) (nI 1)), (b2, z_blk (.ref s1) (nI 0)), (s1, z_sec (nI 1)), (b1, z_blk (.ref s0) (nI 1)), (b0, z_blk (.ref s0) (nI 0)), (s0, z_sec (nI 0))] rfl ?_
  refine cv_arr 17 rfl (fun k => some (ln_ad h0 r la ra ba sa ta [b0, b1, b2, b3, b4, b5, b6, b7, b8, b9] [s0, s1, s2, s3, s4] [t0, t1, t2, t3, t4, t5, t6, t7, t8, t9, t10, t11] 4 0 k)) (fun k hk => by
    match k, hk with
    | 0, _ => rfl
    | 1, _ => rfl
    | 2, _ => rfl
    | 3, _ => rfl
    | 4, _ => rfl
    | k + 5, h => exact absurd h (by omega)) [(ra, .inl (gm_cy (cx_w x) 0, 300, .inl fun _ => 0)), (r, z_reg (.ref ra)), (la, .inl (gm_cy (cx_w x) 0, 12, .inl fun _ => 0)), (h0, z_lin (.ref sa) (.ref ba) (.ref ta) (.ref la) (.ref r)), (ta, z_ta (cx_w x) (fun k => some (ln_ad h0 r la ra ba sa ta [b0, b1, b2, b3, b4, b5, b6, b7, b8, b9] [s0, s1, s2, s3, s4] [t0, t1, t2, t3, t4, t5, t6, t7, t8, t9, t10, t11] 5 0 k))), (t11, z_trn (nI 11)), (t10, z_trn (nI 10)), (t9, z_trn (nI 9)), (t8, z_trn (nI 8)), (t7, z_trn (nI 7)), (t6, z_trn (nI 6)), (t5, z_trn (nI 5)), (t4, z_trn (nI 4)), (t3, z_trn (nI 3)), (t2, z_trn (nI 2)), (t1, z_trn (nI 1)), (t0, z_trn (nI 0)), (sa, z_sa (cx_w x) (fun k => some (ln_ad h0 r la ra ba sa ta [b0, b1, b2, b3, b4, b5, b6, b7, b8, b9] [s0, s1, s2, s3, s4] [t0, t1, t2, t3, t4, t5, t6, t7, t8, t9, t10, t11] 4 0 k))), (ba, z_ba (cx_w x) (va_up (va_up (va_up (va_up (va_up (va_up (va_up (va_up (va_up (va_up (fun _ => none) 0 (some b0)) 1 (some b1)) 2 (some b2)) 3 (some b3)) 4 (some b4)) 5 (some b5)) 6 (some b6)) 7 (some b7)) 8 (some b8)) 9 (some b9))), (b9, z_blk (.ref s4) (nI 1)), (b8, z_blk (.ref s4) (nI 0)), (s4, z_sec (nI 4)), (b7, z_blk (.ref s3) (nI 1)), (b6, z_blk (.ref s3) (nI 0)), (s3, z_sec (nI 3)), (b5, z_blk (.ref s2) (nI 1)), (b4, z_blk (.ref s2) (nI 0)), (s2, z_sec (nI 2)), (b3, z_blk (.ref s1) (nI 1)), (b2, z_blk (.ref s1) (nI 0)), (s1, z_sec (nI 1)), (b1, z_blk (.ref s0) (nI 1)), (b0, z_blk (.ref s0) (nI 0)), (s0, z_sec (nI 0))] rfl ?_
  refine cv_arr 18 rfl (fun k => some (ln_ad h0 r la ra ba sa ta [b0, b1, b2, b3, b4, b5, b6, b7, b8, b9] [s0, s1, s2, s3, s4] [t0, t1, t2, t3, t4, t5, t6, t7, t8, t9, t10, t11] 0 0 k)) (fun k hk => by
    match k, hk with
    | 0, _ => rfl
    | 1, _ => rfl
    | 2, _ => rfl
    | 3, _ => rfl
    | 4, _ => rfl
    | 5, _ => rfl
    | 6, _ => rfl
    | 7, _ => rfl
    | 8, _ => rfl
    | 9, _ => rfl
    | k + 10, h => exact absurd h (by omega)) [(ra, .inl (gm_cy (cx_w x) 0, 300, .inl fun _ => 0)), (r, z_reg (.ref ra)), (la, .inl (gm_cy (cx_w x) 0, 12, .inl fun _ => 0)), (h0, z_lin (.ref sa) (.ref ba) (.ref ta) (.ref la) (.ref r)), (ta, z_ta (cx_w x) (fun k => some (ln_ad h0 r la ra ba sa ta [b0, b1, b2, b3, b4, b5, b6, b7, b8, b9] [s0, s1, s2, s3, s4] [t0, t1, t2, t3, t4, t5, t6, t7, t8, t9, t10, t11] 5 0 k))), (t11, z_trn (nI 11)), (t10, z_trn (nI 10)), (t9, z_trn (nI 9)), (t8, z_trn (nI 8)), (t7, z_trn (nI 7)), (t6, z_trn (nI 6)), (t5, z_trn (nI 5)), (t4, z_trn (nI 4)), (t3, z_trn (nI 3)), (t2, z_trn (nI 2)), (t1, z_trn (nI 1)), (t0, z_trn (nI 0)), (sa, z_sa (cx_w x) (fun k => some (ln_ad h0 r la ra ba sa ta [b0, b1, b2, b3, b4, b5, b6, b7, b8, b9] [s0, s1, s2, s3, s4] [t0, t1, t2, t3, t4, t5, t6, t7, t8, t9, t10, t11] 4 0 k))), (ba, z_ba (cx_w x) (fun k => some (ln_ad h0 r la ra ba sa ta [b0, b1, b2, b3, b4, b5, b6, b7, b8, b9] [s0, s1, s2, s3, s4] [t0, t1, t2, t3, t4, t5, t6, t7, t8, t9, t10, t11] 0 0 k))), (b9, z_blk (.ref s4) (nI 1)), (b8, z_blk (.ref s4) (nI 0)), (s4, z_sec (nI 4)), (b7, z_blk (.ref s3) (nI 1)), (b6, z_blk (.ref s3) (nI 0)), (s3, z_sec (nI 3)), (b5, z_blk (.ref s2) (nI 1)), (b4, z_blk (.ref s2) (nI 0)), (s2, z_sec (nI 2)), (b3, z_blk (.ref s1) (nI 1)), (b2, z_blk (.ref s1) (nI 0)), (s1, z_sec (nI 1)), (b1, z_blk (.ref s0) (nI 1)), (b0, z_blk (.ref s0) (nI 0)), (s0, z_sec (nI 0))] rfl ?_
  refine cv_sub [3, 1, 2, 0, 18, 17, 4, 32, 31, 29, 28, 26, 25, 23, 22, 20, 19, 33, 30, 27, 24, 21, 16, 15, 14, 13, 12, 11, 10, 9, 8, 7, 6, 5] (by decide) (gmn_w (wd (cx_w x) (ln_ad h0 r la ra ba sa ta [b0, b1, b2, b3, b4, b5, b6, b7, b8, b9] [s0, s1, s2, s3, s4] [t0, t1, t2, t3, t4, t5, t6, t7, t8, t9, t10, t11])) gz) rfl ?_
  refine cv_callN (ad := ln_ad h0 r la ra ba sa ta [b0, b1, b2, b3, b4, b5, b6, b7, b8, b9] [s0, s1, s2, s3, s4] [t0, t1, t2, t3, t4, t5, t6, t7, t8, t9, t10, t11]) C mc_yX1_layOut ⟨mi_yX1_layOut, me_yX1_layOut⟩ rfl (by decide) mkX1_47 (knX1_layOut (wd (cx_w x) (ln_ad h0 r la ra ba sa ta [b0, b1, b2, b3, b4, b5, b6, b7, b8, b9] [s0, s1, s2, s3, s4] [t0, t1, t2, t3, t4, t5, t6, t7, t8, t9, t10, t11])) 0 (by decide) (nI 4) (nI 0) gz Gl hG) rfl rfl (Nat.le_of_ble_eq_true rfl) (by decide) (by decide) dX1_init_153 156 rfl ?_
  exact cv_vret C E ⟨_, rfl, rfl⟩ (by decide) (by decide) dX1_init_156
