/-! The maker of the reference -/
theorem go_D {A : Nat → Prop} {w : gm_Wd} {G G1 : Gm} (h : va_D A (gmo_w w G)) : va_D A (gmo_w w G1) := by
  have e : (gmo_w w G1).map Prod.fst = (gmo_w w G).map Prod.fst := by
    unfold gmo_w
    rw [List.map_map, List.map_map]
    rfl
  obtain ⟨h1, h2⟩ := vq_D.mp h
  refine vq_D.mpr ⟨by rw [e]; exact h1, fun q hq => ?_⟩
  have h3 : q.1 ∈ (gmo_w w G).map Prod.fst := by rw [← e]; exact List.mem_map.mpr ⟨q, hq, rfl⟩
  obtain ⟨p, hp, he⟩ := List.mem_map.mp h3
  rw [← he]
  exact h2 p hp
theorem go_J {A : Nat → Prop} {w : gm_Wd} {G : Gm} (h : va_D A (gmo_w w G)) : gmo_J w := by
  intro a b c a' b' c' h1 h2 he
  obtain ⟨i, hi⟩ := gmo_at h1
  obtain ⟨j, hj⟩ := gmo_at h2
  have e := h.1 i j _ _ (gmo_w_at w G hi) (gmo_w_at w G hj) he
  subst e
  exact Option.some.inj (hi.symm.trans hj)
theorem go_A {A : Nat → Prop} {w : gm_Wd} {G : Gm} (h : va_D A (gmo_w w G)) : ∀ q, gmo_A w q → A q := by
  rintro q ⟨a, b, c, h1, rfl⟩
  obtain ⟨i, hi⟩ := gmo_at h1
  exact h.2 i _ (gmo_w_at w G hi)
theorem cv_callO {x : gm_Cx} {cc : ByteArray} {nL : Nat} {own : String} {rk kc ks k n pc : Nat} {lv : List (Nat × Value)} {st st0 : List Value} (C : cv_X x cc nL own rk kc ks) {bytes : ByteArray} {y : MethodName} {mL kn k' idx : Nat} {As : List Value} {ad : Nat → Nat → Nat → Nat} {G G1 : Gm} (M : gm_M y bytes mL none kn) (M2 : Cond.instanceMethod y ∈ TB ∧ Cond.selects y.cls y y ∈ TB) (hy : y.cls = RX7) (hk' : k' + 1 ≤ rk) (hlk : Cond.methodLink own idx y ∈ TB)
    (hM : gmo_C (wd (cx_w x) ad) y bytes mL none k' (.ref (ad 7 5 0) :: As) G none G1) (hn : As.length = kn) (hst : st0 = As.reverse ++ .ref (ad 7 5 0) :: st) (hs : (st.map fun v => v.category).sum ≤ 8) (hkc : k ≤ kc) (hks : n ≤ ks) (d : decode cc pc = .ok (.invokevirtual idx, 3)) (t : Nat) (ht : pc + 3 = t)
    (K : cv_V x (gmo_w (wd (cx_w x) ad) G1) k n t lv st) : cv_V x (gmo_w (wd (cx_w x) ad) G) k n pc lv st0 := by
  subst ht
  obtain ⟨r1, r2, r3, r4⟩ := C.2.2.2.2.2.2.2
  obtain ⟨m1, m2, m3, m4⟩ := M
  intro H locs ls hP hD hS hl
  have hJ := go_J hD
  have hA := go_A hD
  have hrv := va_recv (q0 := 0) (a := ad 7 5 0) (q := (RX7, TX7, 10)) C.2.2.2.2.2.1.1.1 hP (ci := 7) rfl rfl
  have hr := va_runV (b := ad 7 5 0) (As := As) (rest := st) (C := y.cls) (e := cx_e x) (below := cx_below x) (meth := cx_meth x) (locs := locs) (cells := k) (slots := n) (g := F0 (cx_m x) pc ls st0) ⟨C.1, C.2.1, rfl, C.2.2.2.1, C.2.2.2.2.1⟩ hM ⟨callB_of kn C.2.2.2.2.1 (gm_in m1) rfl rfl rfl (C.2.2.2.2.1 _ m2) (C.2.2.2.2.1 _ hlk) m3 ⟨by show k' + 1 ≤ _; omega, by show 8 + (mL + 11) + 36 * k' ≤ _; omega⟩, C.2.2.2.2.1 _ M2.1, C.2.2.2.2.1 _ M2.2⟩
    ⟨fun a U g mk q => by obtain ⟨q0, qP, qK, qJ⟩ := q; exact ⟨q0, qP, gm_K_same (s := U) (U := U.calling g mk a) rfl qK, qJ⟩, by rw [hy]; exact hrv, fun U hU hW => ⟨rfl, by rw [hU]; exact hP, gm_K_warm hW C.2.2.2.2.2.1.1, hJ⟩⟩ rfl hn hl.1 hst (lv_room hs) d ⟨Nat.le_trans hkc r3, Nat.le_trans hks r4⟩
  intro T hT X
  obtain ⟨v, st₀, t, T', L, h0, X', hL, e1, e2, ⟨⟨hv, hP1⟩, hz, hk⟩, sp⟩ := hr T hT X
  cases hv
  rw [h0] at hz hk
  obtain ⟨t2, a1, b1⟩ := K T'.heap (locs ++ L) ls (by rw [e1]; exact hP1) (go_D hD)
    ⟨Nat.le_trans hS.1 (by rw [e1]; exact hz), fun q h1 h2 => by rw [e1, hk q (Nat.lt_of_lt_of_le h1 hS.1) (fun z => h2 (hA q z))]; exact hS.2.1 q h1 h2, fun q hq => by
      rcases List.mem_append.mp hq with h | h
      · exact hS.2.2 q h
      · exact hA _ (hL q h)⟩ hl T' rfl X'
  exact ⟨t2, sp t2 a1, b1⟩
abbrev z_mo (a b c d f g : Value) : va_E := .inr (7, [a, b, c, d, f, .int 0, .int 0, .int 0, g, .int 0])
def mo_ad (h0 a0 a1 a2 z a3 a4 : Nat) : Nat → Nat → Nat → Nat := fun a _ c => match a with
  | 7 => h0
  | 8 => match c with
    | 0 => a0
    | 1 => a1
    | 2 => a2
    | 3 => a3
    | _ => a4
  | 9 => z
  | _ => 0
def F_mo (w : gm_Wd) (h0 : Nat) (Gm7 : Gm) : va_W → Prop := fun w1 => ∃ ad : Nat → Nat → Nat → Nat, ad 7 5 0 = h0 ∧ w1 = gmo_w (wd w ad) Gm7
set_option maxHeartbeats 4000000 in
theorem zc_mo (w : gm_Wd) (h0 : Nat) (G7 : Gm) (hG : fX7_lay (nI 4) (nI 0) gz = some G7) : cc_C w yX7_init cX7_init 1 2 6 11690 [.ref h0] [(h0, z_mo .null .null .null .null .null .null)] (F_mo w h0 G7) := by
  refine cc_start (by decide) rfl (Nat.le_of_ble_eq_true rfl) fun x hw C E => ?_
  subst hw
  refine cv_aload_n C rfl 0 rfl dX7_init_0 1 rfl ?_
  refine cv_obj C mkX7_1 (by decide) dX7_init_1 4 rfl ?_
  refine cv_aload_n C rfl 0 rfl dX7_init_4 5 rfl ?_
  refine cv_sipush C (nI 2862) (by decide +kernel) dX7_init_5 8 rfl ?_
  refine cv_newi C 2862 rfl (by decide) (by decide) (by decide) dX7_init_8 10 rfl fun a0 => ?_
  refine cv_putF (ci := 7) (i := 0) (T := TX7) (N := 10) (ty := .array .int) C E.1 1 rfl rfl iwX7 tyX7 tyX7_ok nmX7 (by decide) rfl rfl (by decide +kernel) rfl rfl (Nat.le_of_ble_eq_true rfl) lkX7_7 [(a0, .inl (gm_cy (cx_w x) 0, 2862, .inl fun _ => 0)), (h0, z_mo (.ref a0) .null .null .null .null .null)] rfl dX7_init_10 13 rfl ?_
  refine cv_aload_n C rfl 0 rfl dX7_init_13 14 rfl ?_
  refine cv_sipush C (nI 2862) (by decide +kernel) dX7_init_14 17 rfl ?_
  refine cv_newi C 2862 rfl (by decide) (by decide) (by decide) dX7_init_17 19 rfl fun a1 => ?_
  refine cv_putF (ci := 7) (i := 1) (T := TX7) (N := 10) (ty := .array .int) C E.1 2 rfl rfl iwX7 tyX7 tyX7_ok nmX7 (by decide) rfl rfl (by decide +kernel) rfl rfl (Nat.le_of_ble_eq_true rfl) lkX7_13 [(a1, .inl (gm_cy (cx_w x) 0, 2862, .inl fun _ => 0)), (a0, .inl (gm_cy (cx_w x) 0, 2862, .inl fun _ => 0)), (h0, z_mo (.ref a0) (.ref a1) .null .null .null .null)] rfl dX7_init_19 22 rfl ?_
  refine cv_aload_n C rfl 0 rfl dX7_init_22 23 rfl ?_
  refine cv_sipush C (nI 5724) (by decide +kernel) dX7_init_23 26 rfl ?_
  refine cv_newi C 5724 rfl (by decide) (by decide) (by decide) dX7_init_26 28 rfl fun a2 => ?_
  refine cv_putF (ci := 7) (i := 2) (T := TX7) (N := 10) (ty := .array .int) C E.1 3 rfl rfl iwX7 tyX7 tyX7_ok nmX7 (by decide) rfl rfl (by decide +kernel) rfl rfl (Nat.le_of_ble_eq_true rfl) lkX7_16 [(a2, .inl (gm_cy (cx_w x) 0, 5724, .inl fun _ => 0)), (a1, .inl (gm_cy (cx_w x) 0, 2862, .inl fun _ => 0)), (a0, .inl (gm_cy (cx_w x) 0, 2862, .inl fun _ => 0)), (h0, z_mo (.ref a0) (.ref a1) (.ref a2) .null .null .null)] rfl dX7_init_28 31 rfl ?_
  refine cv_aload_n C rfl 0 rfl dX7_init_31 32 rfl ?_
  refine cv_iconst C (nI 2) (by decide +kernel) dX7_init_32 33 rfl ?_
  refine cv_newz C 2 rfl (by decide) (by decide) (by decide) dX7_init_33 35 rfl fun z => ?_
  refine cv_putF (ci := 7) (i := 3) (T := TX7) (N := 10) (ty := .array .boolean) C E.1 4 rfl rfl iwX7 tyX7 tyX7_ok nmX7 (by decide) rfl rfl (by decide +kernel) rfl rfl (Nat.le_of_ble_eq_true rfl) lkX7_19 [(z, .inl (gm_cy (cx_w x) 1, 2, .inl fun _ => 0)), (a2, .inl (gm_cy (cx_w x) 0, 5724, .inl fun _ => 0)), (a1, .inl (gm_cy (cx_w x) 0, 2862, .inl fun _ => 0)), (a0, .inl (gm_cy (cx_w x) 0, 2862, .inl fun _ => 0)), (h0, z_mo (.ref a0) (.ref a1) (.ref a2) (.ref z) .null .null)] rfl dX7_init_35 38 rfl ?_
  refine cv_aload_n C rfl 0 rfl dX7_init_38 39 rfl ?_
  refine cv_bipush C (nI 60) (by decide +kernel) dX7_init_39 41 rfl ?_
  refine cv_newi C 60 rfl (by decide) (by decide) (by decide) dX7_init_41 43 rfl fun a3 => ?_
  refine cv_putF (ci := 7) (i := 4) (T := TX7) (N := 10) (ty := .array .int) C E.1 5 rfl rfl iwX7 tyX7 tyX7_ok nmX7 (by decide) rfl rfl (by decide +kernel) rfl rfl (Nat.le_of_ble_eq_true rfl) lkX7_23 [(a3, .inl (gm_cy (cx_w x) 0, 60, .inl fun _ => 0)), (z, .inl (gm_cy (cx_w x) 1, 2, .inl fun _ => 0)), (a2, .inl (gm_cy (cx_w x) 0, 5724, .inl fun _ => 0)), (a1, .inl (gm_cy (cx_w x) 0, 2862, .inl fun _ => 0)), (a0, .inl (gm_cy (cx_w x) 0, 2862, .inl fun _ => 0)), (h0, z_mo (.ref a0) (.ref a1) (.ref a2) (.ref z) (.ref a3) .null)] rfl dX7_init_43 46 rfl ?_
  refine cv_aload_n C rfl 0 rfl dX7_init_46 47 rfl ?_
  refine cv_sipush C (nI 180) (by decide +kernel) dX7_init_47 50 rfl ?_
  refine cv_newi C 180 rfl (by decide) (by decide) (by decide) dX7_init_50 52 rfl fun a4 => ?_
  refine cv_putF (ci := 7) (i := 8) (T := TX7) (N := 10) (ty := .array .int) C E.1 6 rfl rfl iwX7 tyX7 tyX7_ok nmX7 (by decide) rfl rfl (by decide +kernel) rfl rfl (Nat.le_of_ble_eq_true rfl) lkX7_26 [(a4, .inl (gm_cy (cx_w x) 0, 180, .inl fun _ => 0)), (a3, .inl (gm_cy (cx_w x) 0, 60, .inl fun _ => 0)), (z, .inl (gm_cy (cx_w x) 1, 2, .inl fun _ => 0)), (a2, .inl (gm_cy (cx_w x) 0, 5724, .inl fun _ => 0)), (a1, .inl (gm_cy (cx_w x) 0, 2862, .inl fun _ => 0)), (a0, .inl (gm_cy (cx_w x) 0, 2862, .inl fun _ => 0)), (h0, z_mo (.ref a0) (.ref a1) (.ref a2) (.ref z) (.ref a3) (.ref a4))] rfl dX7_init_52 55 rfl ?_
  refine cv_aload_n C rfl 0 rfl dX7_init_55 56 rfl ?_
  refine cv_iconst C (nI 4) (by decide +kernel) dX7_init_56 57 rfl ?_
  refine cv_iconst C (nI 0) (by decide +kernel) dX7_init_57 58 rfl ?_
  refine cv_sub [6, 5, 4, 3, 1, 0, 2] (by decide) (gmo_w (wd (cx_w x) (mo_ad h0 a0 a1 a2 z a3 a4)) gz) rfl ?_
  refine cv_callO (ad := mo_ad h0 a0 a1 a2 z a3 a4) C mc_yX7_lay ⟨mi_yX7_lay, me_yX7_lay⟩ rfl (by decide) mkX7_29 (koX7_lay (wd (cx_w x) (mo_ad h0 a0 a1 a2 z a3 a4)) (nI 4) (nI 0) gz G7 hG) rfl rfl (Nat.le_of_ble_eq_true rfl) (by decide) (by decide) dX7_init_58 61 rfl ?_
  exact cv_vret C E ⟨_, rfl, rfl⟩ (by decide) (by decide) dX7_init_61
