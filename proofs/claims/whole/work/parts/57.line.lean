/-! The maker of a line -/
abbrev z_sa (w : gm_Wd) (f : Nat → Option Nat) : va_E := .inl (gm_cy w 4, 5, gm_Rf f)
abbrev z_ba (w : gm_Wd) (f : Nat → Option Nat) : va_E := .inl (gm_cy w 2, 10, gm_Rf f)
abbrev z_ta (w : gm_Wd) (f : Nat → Option Nat) : va_E := .inl (gm_cy w 5, 12, gm_Rf f)
theorem zu_at {f : Nat → Option Nat} {i : Nat} {v : Option Nat} : va_up f i v i = v := by simp [va_up]
theorem cv_kn {x : gm_Cx} {ws : va_W} {k k' n n' pc : Nat} {lv : List (Nat × Value)} {st : List Value} (hk : k = k') (hn : n = n') (K : cv_V x ws k' n' pc lv st) : cv_V x ws k n pc lv st := by subst hk hn; exact K
theorem cv_sub {x : gm_Cx} {ws : va_W} {k n pc : Nat} {lv : List (Nat × Value)} {st : List Value} (is : List Nat) (hn : va_nd is = true) (ws' : va_W) (hs : is.map (fun i => ws[i]?) = ws'.map some) (K : cv_V x ws' k n pc lv st) : cv_V x ws k n pc lv st := by
  intro H locs ls hP hD hS hl
  refine K H locs ls (vq_P.mpr fun q hq => vq_P.mp hP q ?_) (hD.sub is hn hs) hS hl
  have h1 : some q ∈ ws'.map some := List.mem_map.mpr ⟨q, hq, rfl⟩
  rw [← hs] at h1
  obtain ⟨i, -, hi⟩ := List.mem_map.mp h1
  exact List.mem_of_getElem? hi
theorem zl_body {x : gm_Cx} (C : cv_X x cX1_init 2 RX1 3 33 549) {i k n h0 sa ba : Nat} {f g : Nat → Option Nat} {rest : va_W} (hi : i < 5) (hk : k + 3 ≤ 33) (hn : n + 20 ≤ 549)
    (K : ∀ q1 q2 q3 : Nat, cv_V x ((h0, z_lin (.ref sa) (.ref ba) .null .null .null) :: (sa, z_sa (cx_w x) (va_up f i (some q1))) :: (ba, z_ba (cx_w x) (va_up (va_up g (2 * i) (some q2)) (2 * i + 1) (some q3))) :: (q3, z_blk (.ref q1) (nI 1)) :: (q2, z_blk (.ref q1) (nI 0)) :: (q1, z_sec (nI i)) :: rest) (k + 3) (n + 20) 23 [(1, .int (nI (i + 1))), (0, .ref h0)] []) :
    cv_V x ((h0, z_lin (.ref sa) (.ref ba) .null .null .null) :: (sa, z_sa (cx_w x) f) :: (ba, z_ba (cx_w x) g) :: rest) k n 23 [(1, .int (nI i)), (0, .ref h0)] [] := by
  refine cv_iload_n C rfl 0 rfl dX1_init_23 24 rfl ?_
  refine cv_iconst C (nI 5) (by decide +kernel) dX1_init_24 25 rfl ?_
  refine cv_geN C (nI_ge hi (by decide)) dX1_init_25 94 (by decide) 28 rfl ?_
  refine cv_aload_n C rfl 1 rfl dX1_init_28 29 rfl ?_
  refine cv_getf (ci := 1) (i := 0) (T := TX1) (N := 8) C (List.mem_of_getElem? (i := 0) rfl) rfl iwX1 (by decide) rfl lkX1_11 dX1_init_29 32 rfl ?_
  refine cv_iload_n C rfl 0 rfl dX1_init_32 33 rfl ?_
  refine cv_new (ci := 4) (T := TX4) (N := 6) C rfl iwX4 tyX4 tyX4_ok clX1_9 nwX4 in_BlockBells_Section zf_4 (by omega) (by omega) dX1_init_33 36 rfl fun q1 => ?_
  refine cv_dup C rfl dX1_init_36 37 rfl ?_
  refine cv_iload_n C rfl 0 rfl dX1_init_37 38 rfl ?_
  refine cv_callI (wc := [(q1, z_sec 0)]) C mc_yX4_init mi_yX4_init rfl (by decide) mkX1_23 (zc_sec (cx_w x) q1 (nI i)) rfl rfl rfl (Nat.le_of_ble_eq_true rfl) (by omega) (by omega) dX1_init_38 41 rfl fun w1 hF => ?_
  subst hF
  refine cv_astq (r := (RX4, TX4, 6)) (ci := 4) C 4 rfl 2 rfl (List.mem_of_getElem? (i := 0) rfl) rfl rfl hi (by decide) ((q1, z_sec (nI i)) :: (h0, z_lin (.ref sa) (.ref ba) .null .null .null) :: (sa, z_sa (cx_w x) (va_up f i (some q1))) :: (ba, z_ba (cx_w x) g) :: rest) rfl dX1_init_41 42 rfl ?_
  refine cv_aload_n C rfl 1 rfl dX1_init_42 43 rfl ?_
  refine cv_getf (ci := 1) (i := 1) (T := TX1) (N := 8) C (List.mem_of_getElem? (i := 1) rfl) rfl iwX1 (by decide) rfl lkX1_19 dX1_init_43 46 rfl ?_
  refine cv_iconst C (nI 2) (by decide +kernel) dX1_init_46 47 rfl ?_
  refine cv_iload_n C rfl 0 rfl dX1_init_47 48 rfl ?_
  refine cv_imul C (nI (2 * i)) (bs_mul 2 i) dX1_init_48 49 rfl ?_
  refine cv_new (ci := 0) (T := TX0) (N := 7) C rfl iwX0 tyX0 tyX0_ok clX1_17 nwX0 in_BlockBells_Block zf_0 (by omega) (by omega) dX1_init_49 52 rfl fun q2 => ?_
  refine cv_dup C rfl dX1_init_52 53 rfl ?_
  refine cv_aload_n C rfl 1 rfl dX1_init_53 54 rfl ?_
  refine cv_getf (ci := 1) (i := 0) (T := TX1) (N := 8) C (List.mem_of_getElem? (i := 2) rfl) rfl iwX1 (by decide) rfl lkX1_11 dX1_init_54 57 rfl ?_
  refine cv_iload_n C rfl 0 rfl dX1_init_57 58 rfl ?_
  refine cv_aald C 4 rfl (List.mem_of_getElem? (i := 3) rfl) rfl hi (by decide) zu_at dX1_init_58 59 rfl ?_
  refine cv_iconst C (nI 0) (by decide +kernel) dX1_init_59 60 rfl ?_
  refine cv_callI (wc := [(q2, z_blk .null 0)]) C mc_yX0_init mi_yX0_init rfl (by decide) mkX1_26 (zc_blk (cx_w x) q2 q1 (nI 0)) rfl rfl rfl (Nat.le_of_ble_eq_true rfl) (by omega) (by omega) dX1_init_60 63 rfl fun w1 hF => ?_
  subst hF
  refine cv_astq (r := (RX0, TX0, 7)) (ci := 0) C 2 rfl 4 rfl (List.mem_of_getElem? (i := 0) rfl) rfl rfl (by omega) (by decide) ((q2, z_blk (.ref q1) (nI 0)) :: (q1, z_sec (nI i)) :: (h0, z_lin (.ref sa) (.ref ba) .null .null .null) :: (sa, z_sa (cx_w x) (va_up f i (some q1))) :: (ba, z_ba (cx_w x) (va_up g (2 * i) (some q2))) :: rest) rfl dX1_init_63 64 rfl ?_
  refine cv_aload_n C rfl 1 rfl dX1_init_64 65 rfl ?_
  refine cv_getf (ci := 1) (i := 1) (T := TX1) (N := 8) C (List.mem_of_getElem? (i := 2) rfl) rfl iwX1 (by decide) rfl lkX1_19 dX1_init_65 68 rfl ?_
  refine cv_iconst C (nI 2) (by decide +kernel) dX1_init_68 69 rfl ?_
  refine cv_iload_n C rfl 0 rfl dX1_init_69 70 rfl ?_
  refine cv_imul C (nI (2 * i)) (bs_mul 2 i) dX1_init_70 71 rfl ?_
  refine cv_iconst C (nI 1) (by decide +kernel) dX1_init_71 72 rfl ?_
  refine cv_iadd C (nI (2 * i + 1)) (nI_add (2 * i) 1) dX1_init_72 73 rfl ?_
  refine cv_new (ci := 0) (T := TX0) (N := 7) C rfl iwX0 tyX0 tyX0_ok clX1_17 nwX0 in_BlockBells_Block zf_0 (by omega) (by omega) dX1_init_73 76 rfl fun q3 => ?_
  refine cv_dup C rfl dX1_init_76 77 rfl ?_
  refine cv_aload_n C rfl 1 rfl dX1_init_77 78 rfl ?_
  refine cv_getf (ci := 1) (i := 0) (T := TX1) (N := 8) C (List.mem_of_getElem? (i := 3) rfl) rfl iwX1 (by decide) rfl lkX1_11 dX1_init_78 81 rfl ?_
  refine cv_iload_n C rfl 0 rfl dX1_init_81 82 rfl ?_
  refine cv_aald C 4 rfl (List.mem_of_getElem? (i := 4) rfl) rfl hi (by decide) zu_at dX1_init_82 83 rfl ?_
  refine cv_iconst C (nI 1) (by decide +kernel) dX1_init_83 84 rfl ?_
  refine cv_callI (wc := [(q3, z_blk .null 0)]) C mc_yX0_init mi_yX0_init rfl (by decide) mkX1_26 (zc_blk (cx_w x) q3 q1 (nI 1)) rfl rfl rfl (Nat.le_of_ble_eq_true rfl) (by omega) (by omega) dX1_init_84 87 rfl fun w1 hF => ?_
  subst hF
  refine cv_astq (r := (RX0, TX0, 7)) (ci := 0) C 2 rfl 5 rfl (List.mem_of_getElem? (i := 0) rfl) rfl rfl (by omega) (by decide) ((q3, z_blk (.ref q1) (nI 1)) :: (q2, z_blk (.ref q1) (nI 0)) :: (q1, z_sec (nI i)) :: (h0, z_lin (.ref sa) (.ref ba) .null .null .null) :: (sa, z_sa (cx_w x) (va_up f i (some q1))) :: (ba, z_ba (cx_w x) (va_up (va_up g (2 * i) (some q2)) (2 * i + 1) (some q3))) :: rest) rfl dX1_init_87 88 rfl ?_
  refine cv_iinc (z := 1) (u := nI (i + 1)) C 0 rfl (nI_1 i) [(1, .int (nI (i + 1))), (0, .ref h0)] (by decide) rfl dX1_init_88 91 rfl ?_
  refine cv_goto C dX1_init_91 23 (by decide) ?_
  refine cv_perm ((List.perm_append_comm (l₁ := [(q3, z_blk (.ref q1) (nI 1)), (q2, z_blk (.ref q1) (nI 0)), (q1, z_sec (nI i))]) (l₂ := [(h0, z_lin (.ref sa) (.ref ba) .null .null .null), (sa, z_sa (cx_w x) (va_up f i (some q1))), (ba, z_ba (cx_w x) (va_up (va_up g (2 * i) (some q2)) (2 * i + 1) (some q3)))])).append_right rest) ?_
  exact cv_kn (by omega) (by omega) (K q1 q2 q3)
theorem zl_train {x : gm_Cx} (C : cv_X x cX1_init 2 RX1 3 33 549) {i k n h0 ta : Nat} {v1 v2 : Value} {f : Nat → Option Nat} {rest : va_W} (hi : i < 12) (hk : k + 1 ≤ 33) (hn : n + 9 ≤ 549)
    (K : ∀ q : Nat, cv_V x ((h0, z_lin v1 v2 (.ref ta) .null .null) :: (ta, z_ta (cx_w x) (va_up f i (some q))) :: (q, z_trn (nI i)) :: rest) (k + 1) (n + 9) 105 [(1, .int (nI (i + 1))), (0, .ref h0)] []) :
    cv_V x ((h0, z_lin v1 v2 (.ref ta) .null .null) :: (ta, z_ta (cx_w x) f) :: rest) k n 105 [(1, .int (nI i)), (0, .ref h0)] [] := by
  refine cv_iload_n C rfl 0 rfl dX1_init_105 106 rfl ?_
  refine cv_bipush C (nI 12) (by decide +kernel) dX1_init_106 108 rfl ?_
  refine cv_geN C (nI_ge hi (by decide)) dX1_init_108 131 (by decide) 111 rfl ?_
  refine cv_aload_n C rfl 1 rfl dX1_init_111 112 rfl ?_
  refine cv_getf (ci := 1) (i := 2) (T := TX1) (N := 8) C (List.mem_of_getElem? (i := 0) rfl) rfl iwX1 (by decide) rfl lkX1_31 dX1_init_112 115 rfl ?_
  refine cv_iload_n C rfl 0 rfl dX1_init_115 116 rfl ?_
  refine cv_new (ci := 5) (T := TX5) (N := 9) C rfl iwX5 tyX5 tyX5_ok clX1_29 nwX5 in_BlockBells_Train zf_5 (by omega) (by omega) dX1_init_116 119 rfl fun q => ?_
  refine cv_dup C rfl dX1_init_119 120 rfl ?_
  refine cv_iload_n C rfl 0 rfl dX1_init_120 121 rfl ?_
  refine cv_callI (wc := [(q, z_trn 0)]) C mc_yX5_init mi_yX5_init rfl (by decide) mkX1_35 (zc_trn (cx_w x) q (nI i)) rfl rfl rfl (Nat.le_of_ble_eq_true rfl) (by omega) (by omega) dX1_init_121 124 rfl fun w1 hF => ?_
  subst hF
  refine cv_astq (r := (RX5, TX5, 9)) (ci := 5) C 5 rfl 2 rfl (List.mem_of_getElem? (i := 0) rfl) rfl rfl hi (by decide) ((q, z_trn (nI i)) :: (h0, z_lin v1 v2 (.ref ta) .null .null) :: (ta, z_ta (cx_w x) (va_up f i (some q))) :: rest) rfl dX1_init_124 125 rfl ?_
  refine cv_iinc (z := 1) (u := nI (i + 1)) C 0 rfl (nI_1 i) [(1, .int (nI (i + 1))), (0, .ref h0)] (by decide) rfl dX1_init_125 128 rfl ?_
  refine cv_goto C dX1_init_128 105 (by decide) ?_
  refine cv_perm ((List.perm_append_comm (l₁ := [(q, z_trn (nI i))]) (l₂ := [(h0, z_lin v1 v2 (.ref ta) .null .null), (ta, z_ta (cx_w x) (va_up f i (some q)))])).append_right rest) ?_
  exact cv_kn (by omega) (by omega) (K q)
