/-! The maker of the class -/
abbrev z_bb (a b c d f : Value) : va_E := .inr (6, [a, b, c, d, f])
abbrev z_la (w : gm_Wd) (f : Nat → Option Nat) : va_E := .inl (gm_cy w 3, 2, gm_Rf f)
abbrev z_L (w : gm_Wd) (Gl : Gm) (ad : Nat → Nat → Nat → Nat) : va_W := gmn_w (wd w ad) Gl
theorem zn_head (w : gm_Wd) (ad : Nat → Nat → Nat → Nat) (G : Gm) : ∃ vs, (ad 1 0 0, .inr (1, vs)) ∈ gmn_w (wd w ad) G := ⟨_, List.mem_of_getElem? (i := 0) rfl⟩
theorem zb_line {x : gm_Cx} (C : cv_X x cX6_init 2 RX6 4 140 2298) {Gl : Gm} (hG : fX1_layOut 0 (nI 4) (nI 0) gz = some Gl) {pc k n : Nat} {ws : va_W} {lv : List (Nat × Value)} {st : List Value} (d1 : decode cX6_init pc = .ok (.new 9, 3)) (d2 : decode cX6_init (pc + 3) = .ok (.dup, 1)) (d3 : decode cX6_init (pc + 4) = .ok (.invokespecial 11, 3)) (hs : (st.map fun v => v.category).sum ≤ 7) (hk : k + 34 ≤ 140) (hn : n + 557 ≤ 2298) (t : Nat) (ht : pc + 7 = t)
    (K : ∀ ad : Nat → Nat → Nat → Nat, cv_V x (ws ++ z_L (cx_w x) Gl ad) (k + 34) (n + 557) t lv (.ref (ad 1 0 0) :: st)) : cv_V x ws k n pc lv st := by
  subst ht
  refine cv_new (ci := 1) (T := TX1) (N := 8) C rfl iwX1 tyX1 tyX1_ok clX6_9 nwX1 in_BlockBells_Line zf_1 (by omega) (by omega) d1 (pc + 3) rfl fun q => ?_
  refine cv_dup C rfl d2 (pc + 4) rfl ?_
  refine cv_callI (wc := [(q, z_lin .null .null .null .null .null)]) C mc_yX1_init mi_yX1_init rfl (by decide) mkX6_11 (zc_lin (cx_w x) q Gl hG) rfl rfl rfl (by show 1 + (st.map fun v => v.category).sum ≤ 8; omega) (by omega) (by omega) d3 (pc + 7) rfl fun w1 hF => ?_
  obtain ⟨ad, rfl, rfl⟩ := hF
  refine cv_perm List.perm_append_comm ?_
  exact cv_kn (by omega) (by omega) (K ad)
def gmb_t : List (Nat × Nat × Nat) := [(2, 4, 0), (6, 4, 0), (8, 4, 0), (9, 4, 0), (11, 4, 0)]
def gmb_l (b : Nat) : List (Nat × Nat × Nat) := [(1, b, 0), (3, b, 0), (8, b, 0), (8, b, 1), (10, b, 0), (12, b, 0), (13, b, 0)] ++ (List.range 10).map (fun c => (0, b, c)) ++ (List.range 5).map (fun c => (4, b, c)) ++ (List.range 12).map (fun c => (5, b, c))
def gmb_ids : List (Nat × Nat × Nat) := gmb_l 0 ++ (gmb_l 1 ++ (gmb_l 2 ++ (gmb_l 3 ++ gmb_t)))
def gmb_w (w : gm_Wd) (G : Gm) : va_W := gmb_ids.map fun o => (gm_ad w o.1 o.2.1 o.2.2, gm_cel (gm_cy w) (gm_ad w) (G o.1 o.2.1 o.2.2) o.1 o.2.1 o.2.2)
def bb_ad (h0 sa zv pd qs : Nat) (ad0 ad1 ad2 ad3 : Nat → Nat → Nat → Nat) : Nat → Nat → Nat → Nat := fun a b c => match b with
  | 0 => ad0 a 0 c
  | 1 => ad1 a 0 c
  | 2 => ad2 a 0 c
  | 3 => ad3 a 0 c
  | _ => match a with
    | 2 => pd
    | 6 => h0
    | 8 => qs
    | 9 => zv
    | 11 => sa
    | _ => 0
def gb (Gl : Gm) : Gm := fun a b c => match b with
  | 0 => Gl a 0 c
  | 1 => Gl a 0 c
  | 2 => Gl a 0 c
  | 3 => Gl a 0 c
  | _ => fun _ => 0
theorem zb_w (w : gm_Wd) (Gl : Gm) (h0 sa zv pd qs : Nat) (ad0 ad1 ad2 ad3 : Nat → Nat → Nat → Nat) : gmb_w (wd w (bb_ad h0 sa zv pd qs ad0 ad1 ad2 ad3)) (gb Gl) = z_L w Gl ad0 ++ (z_L w Gl ad1 ++ (z_L w Gl ad2 ++ (z_L w Gl ad3 ++ [(pd, z_pad (.ref qs)), (h0, z_bb (.ref (ad0 1 0 0)) (.ref (ad1 1 0 0)) (.ref sa) (.ref zv) (.ref pd)), (qs, .inl (gm_cy w 0, 60, .inl fun _ => 0)), (zv, .inl (gm_cy w 1, 2, .inl fun _ => 0)), (sa, z_la w fun k => some (bb_ad h0 sa zv pd qs ad0 ad1 ad2 ad3 1 (k + 2) 0))]))) := by
  unfold gmb_w gmb_ids
  rw [List.map_append, List.map_append, List.map_append, List.map_append]
  rfl
theorem zb_5 {α : Type} (a b c d f : α) : [a, b, c, d, f].Perm [b, f, a, c, d] := (List.Perm.swap b a [c, d, f]).trans (List.Perm.cons b (List.perm_append_comm (l₁ := [a, c, d]) (l₂ := [f])))
theorem zb_p {α : Type} (a b c d f : α) (L0 L1 L2 L3 : List α) : (a :: b :: c :: d :: f :: (L0 ++ L1 ++ L2 ++ L3)).Perm (L0 ++ (L1 ++ (L2 ++ (L3 ++ [b, f, a, c, d])))) := by
  have h1 : (L0 ++ (L1 ++ (L2 ++ (L3 ++ [b, f, a, c, d])))) = (L0 ++ L1 ++ L2 ++ L3) ++ [b, f, a, c, d] := by simp only [List.append_assoc]
  rw [h1]
  exact (List.perm_append_comm (l₁ := [a, b, c, d, f]) (l₂ := L0 ++ L1 ++ L2 ++ L3)).trans ((zb_5 a b c d f).append_left _)
def F_bb (w : gm_Wd) (h0 : Nat) (Gl : Gm) : va_W → Prop := fun w1 => ∃ ad : Nat → Nat → Nat → Nat, ad 6 4 0 = h0 ∧ w1 = gmb_w (wd w ad) (gb Gl)
set_option maxHeartbeats 4000000 in
theorem zc_bb (w : gm_Wd) (h0 : Nat) (Gl : Gm) (hG : fX1_layOut 0 (nI 4) (nI 0) gz = some Gl) : cc_C w yX6_init cX6_init 2 4 140 2298 [.ref h0] [(h0, z_bb .null .null .null .null .null)] (F_bb w h0 Gl) := by
  refine cc_start (by decide) rfl (Nat.le_of_ble_eq_true rfl) fun x hw C E => ?_
  subst hw
  refine cv_aload_n C rfl 0 rfl dX6_init_0 1 rfl ?_
  refine cv_obj C mkX6_3 (by decide) dX6_init_1 4 rfl ?_
  refine cv_aload_n C rfl 0 rfl dX6_init_4 5 rfl ?_
  refine zb_line C hG dX6_init_5 dX6_init_8 dX6_init_9 (Nat.le_of_ble_eq_true rfl) (by decide) (by decide) 12 rfl fun ad0 => ?_
  refine cv_putF (ci := 6) (i := 0) (T := TX6) (N := 5) (ty := .object "BlockBells$Line") C E.1 0 rfl rfl iwX6 tyX6 tyX6_ok nmX6 (by decide) rfl rfl (by decide +kernel) rfl rfl (Nat.le_of_ble_eq_true rfl) lkX6_12 ((h0, z_bb (.ref (ad0 1 0 0)) .null .null .null .null) :: z_L (cx_w x) Gl ad0) rfl dX6_init_12 15 rfl ?_
  refine cv_aload_n C rfl 0 rfl dX6_init_15 16 rfl ?_
  refine zb_line C hG dX6_init_16 dX6_init_19 dX6_init_20 (Nat.le_of_ble_eq_true rfl) (by decide) (by decide) 23 rfl fun ad1 => ?_
  refine cv_putF (ci := 6) (i := 1) (T := TX6) (N := 5) (ty := .object "BlockBells$Line") C E.1 0 rfl rfl iwX6 tyX6 tyX6_ok nmX6 (by decide) rfl rfl (by decide +kernel) rfl rfl (Nat.le_of_ble_eq_true rfl) lkX6_16 ((h0, z_bb (.ref (ad0 1 0 0)) (.ref (ad1 1 0 0)) .null .null .null) :: (z_L (cx_w x) Gl ad0 ++ z_L (cx_w x) Gl ad1)) rfl dX6_init_23 26 rfl ?_
  refine cv_aload_n C rfl 0 rfl dX6_init_26 27 rfl ?_
  refine cv_iconst C (nI 2) (by decide +kernel) dX6_init_27 28 rfl ?_
  refine cv_newq C 3 rfl C.2.2.2.2.2.1.2.2.1 clX6_9 2 rfl (by decide) (by decide) (by decide) dX6_init_28 31 rfl fun sa => ?_
  refine cv_putF (ci := 6) (i := 2) (T := TX6) (N := 5) (ty := .array (.object "BlockBells$Line")) C E.1 1 rfl rfl iwX6 tyX6 tyX6_ok nmX6 (by decide) rfl rfl (by decide +kernel) rfl rfl (Nat.le_of_ble_eq_true rfl) lkX6_19 ((sa, z_la (cx_w x) fun _ => none) :: (h0, z_bb (.ref (ad0 1 0 0)) (.ref (ad1 1 0 0)) (.ref sa) .null .null) :: (z_L (cx_w x) Gl ad0 ++ z_L (cx_w x) Gl ad1)) rfl dX6_init_31 34 rfl ?_
  refine cv_iconst C (nI 0) (by decide +kernel) dX6_init_34 35 rfl ?_
  refine cv_istore_n C rfl [(1, .int (nI 0)), (0, .ref h0)] (by decide) rfl dX6_init_35 36 rfl ?_
  refine cv_iload_n C rfl 0 rfl dX6_init_36 37 rfl ?_
  refine cv_iconst C (nI 2) (by decide +kernel) dX6_init_37 38 rfl ?_
  refine cv_geN C (nI_ge (by decide) (by decide)) dX6_init_38 60 (by decide) 41 rfl ?_
  refine cv_aload_n C rfl 1 rfl dX6_init_41 42 rfl ?_
  refine cv_getf (ci := 6) (i := 2) (T := TX6) (N := 5) C (List.mem_of_getElem? (i := 1) rfl) rfl iwX6 (by decide) rfl lkX6_19 dX6_init_42 45 rfl ?_
  refine cv_iload_n C rfl 0 rfl dX6_init_45 46 rfl ?_
  refine zb_line C hG dX6_init_46 dX6_init_49 dX6_init_50 (Nat.le_of_ble_eq_true rfl) (by decide) (by decide) 53 rfl fun ad2 => ?_
  obtain ⟨vs0, hv0⟩ := zn_head (cx_w x) ad2 Gl
  refine cv_astq (i := 0) (r := (RX1, TX1, 8)) (ci := 1) C 3 rfl 0 rfl (List.mem_append_right _ hv0) rfl rfl (by decide) (by decide) ((sa, z_la (cx_w x) (va_up (fun _ => none) 0 (some (ad2 1 0 0)))) :: (h0, z_bb (.ref (ad0 1 0 0)) (.ref (ad1 1 0 0)) (.ref sa) .null .null) :: ((z_L (cx_w x) Gl ad0 ++ z_L (cx_w x) Gl ad1) ++ z_L (cx_w x) Gl ad2)) rfl dX6_init_53 54 rfl ?_
  refine cv_iinc (z := 1) (u := nI 1) C 0 rfl (nI_1 0) [(1, .int (nI 1)), (0, .ref h0)] (by decide) rfl dX6_init_54 57 rfl ?_
  refine cv_goto C dX6_init_57 36 (by decide) ?_
  refine cv_iload_n C rfl 0 rfl dX6_init_36 37 rfl ?_
  refine cv_iconst C (nI 2) (by decide +kernel) dX6_init_37 38 rfl ?_
  refine cv_geN C (nI_ge (by decide) (by decide)) dX6_init_38 60 (by decide) 41 rfl ?_
  refine cv_aload_n C rfl 1 rfl dX6_init_41 42 rfl ?_
  refine cv_getf (ci := 6) (i := 2) (T := TX6) (N := 5) C (List.mem_of_getElem? (i := 1) rfl) rfl iwX6 (by decide) rfl lkX6_19 dX6_init_42 45 rfl ?_
  refine cv_iload_n C rfl 0 rfl dX6_init_45 46 rfl ?_
  refine zb_line C hG dX6_init_46 dX6_init_49 dX6_init_50 (Nat.le_of_ble_eq_true rfl) (by decide) (by decide) 53 rfl fun ad3 => ?_
  obtain ⟨vs1, hv1⟩ := zn_head (cx_w x) ad3 Gl
  refine cv_astq (i := 1) (r := (RX1, TX1, 8)) (ci := 1) C 3 rfl 0 rfl (List.mem_append_right _ hv1) rfl rfl (by decide) (by decide) ((sa, z_la (cx_w x) (va_up (va_up (fun _ => none) 0 (some (ad2 1 0 0))) 1 (some (ad3 1 0 0)))) :: (h0, z_bb (.ref (ad0 1 0 0)) (.ref (ad1 1 0 0)) (.ref sa) .null .null) :: (((z_L (cx_w x) Gl ad0 ++ z_L (cx_w x) Gl ad1) ++ z_L (cx_w x) Gl ad2) ++ z_L (cx_w x) Gl ad3)) rfl dX6_init_53 54 rfl ?_
  refine cv_iinc (z := 1) (u := nI 2) C 0 rfl (nI_1 1) [(1, .int (nI 2)), (0, .ref h0)] (by decide) rfl dX6_init_54 57 rfl ?_
  refine cv_goto C dX6_init_57 36 (by decide) ?_
  refine cv_iload_n C rfl 0 rfl dX6_init_36 37 rfl ?_
  refine cv_iconst C (nI 2) (by decide +kernel) dX6_init_37 38 rfl ?_
  refine cv_geT C (nI_le (by decide) (by decide)) dX6_init_38 60 (by decide) ?_
  refine cv_aload_n C rfl 1 rfl dX6_init_60 61 rfl ?_
  refine cv_iconst C (nI 2) (by decide +kernel) dX6_init_61 62 rfl ?_
  refine cv_newz C 2 rfl (by decide) (by decide) (by decide) dX6_init_62 64 rfl fun zv => ?_
  refine cv_putF (ci := 6) (i := 3) (T := TX6) (N := 5) (ty := .array .boolean) C E.1 2 rfl rfl iwX6 tyX6 tyX6_ok nmX6 (by decide) rfl rfl (by decide +kernel) rfl rfl (Nat.le_of_ble_eq_true rfl) lkX6_23 ((zv, .inl (gm_cy (cx_w x) 1, 2, .inl fun _ => 0)) :: (sa, z_la (cx_w x) (va_up (va_up (fun _ => none) 0 (some (ad2 1 0 0))) 1 (some (ad3 1 0 0)))) :: (h0, z_bb (.ref (ad0 1 0 0)) (.ref (ad1 1 0 0)) (.ref sa) (.ref zv) .null) :: (((z_L (cx_w x) Gl ad0 ++ z_L (cx_w x) Gl ad1) ++ z_L (cx_w x) Gl ad2) ++ z_L (cx_w x) Gl ad3)) rfl dX6_init_64 67 rfl ?_
  refine cv_aload_n C rfl 1 rfl dX6_init_67 68 rfl ?_
  refine cv_new (ci := 2) (T := TX2) (N := 6) C rfl iwX2 tyX2 tyX2_ok clX6_27 nwX2 in_BlockBells_Pad zf_2 (by decide) (by decide) dX6_init_68 71 rfl fun pd => ?_
  refine cv_dup C rfl dX6_init_71 72 rfl ?_
  refine cv_callI (wc := [(pd, z_pad .null)]) C mc_yX2_init mi_yX2_init rfl (by decide) mkX6_29 (zc_pad (cx_w x) pd) rfl rfl rfl (Nat.le_of_ble_eq_true rfl) (by decide) (by decide) dX6_init_72 75 rfl fun w1 hF => ?_
  obtain ⟨qs, rfl⟩ := hF
  refine cv_putF (ci := 6) (i := 4) (T := TX6) (N := 5) (ty := .object "BlockBells$Pad") C E.1 4 rfl rfl iwX6 tyX6 tyX6_ok nmX6 (by decide) rfl rfl (by decide +kernel) rfl rfl (Nat.le_of_ble_eq_true rfl) lkX6_30 ((qs, .inl (gm_cy (cx_w x) 0, 60, .inl fun _ => 0)) :: (pd, z_pad (.ref qs)) :: (zv, .inl (gm_cy (cx_w x) 1, 2, .inl fun _ => 0)) :: (sa, z_la (cx_w x) (va_up (va_up (fun _ => none) 0 (some (ad2 1 0 0))) 1 (some (ad3 1 0 0)))) :: (h0, z_bb (.ref (ad0 1 0 0)) (.ref (ad1 1 0 0)) (.ref sa) (.ref zv) (.ref pd)) :: (((z_L (cx_w x) Gl ad0 ++ z_L (cx_w x) Gl ad1) ++ z_L (cx_w x) Gl ad2) ++ z_L (cx_w x) Gl ad3)) rfl dX6_init_75 78 rfl ?_
  refine cv_arr 3 rfl (fun k => some (bb_ad h0 sa zv pd qs ad0 ad1 ad2 ad3 1 (k + 2) 0)) (fun k hk => by
    match k, hk with
    | 0, _ => rfl
    | 1, _ => rfl
    | k + 2, h => exact absurd h (by omega)) ((qs, .inl (gm_cy (cx_w x) 0, 60, .inl fun _ => 0)) :: (pd, z_pad (.ref qs)) :: (zv, .inl (gm_cy (cx_w x) 1, 2, .inl fun _ => 0)) :: (sa, z_la (cx_w x) fun k => some (bb_ad h0 sa zv pd qs ad0 ad1 ad2 ad3 1 (k + 2) 0)) :: (h0, z_bb (.ref (ad0 1 0 0)) (.ref (ad1 1 0 0)) (.ref sa) (.ref zv) (.ref pd)) :: (((z_L (cx_w x) Gl ad0 ++ z_L (cx_w x) Gl ad1) ++ z_L (cx_w x) Gl ad2) ++ z_L (cx_w x) Gl ad3)) rfl ?_
  refine cv_perm (zb_p _ _ _ _ _ _ _ _ _) ?_
  exact cv_vret C E ⟨bb_ad h0 sa zv pd qs ad0 ad1 ad2 ad3, rfl, (zb_w (cx_w x) Gl h0 sa zv pd qs ad0 ad1 ad2 ad3).symm⟩ (by decide) (by decide) dX6_init_78
