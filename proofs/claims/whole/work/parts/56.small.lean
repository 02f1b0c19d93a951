/-! The makers of the small things -/
abbrev z_sec (v : Int32) : va_E := .inr (4, [.int v, .int 0, .int 0, .int 0, .int 0, .int 0])
abbrev z_blk (s : Value) (v : Int32) : va_E := .inr (0, [s, .int v, .int 0, .int 0, .int 0, .int 0, .int 0])
abbrev z_trn (v : Int32) : va_E := .inr (5, [.int v, .int 0, .int 0, .int 0, .int 0, .int 0, .int 0, .int 0, .int 0])
abbrev z_reg (s : Value) : va_E := .inr (3, [s, .int 0])
abbrev z_pad (s : Value) : va_E := .inr (2, [s, .int 0, .int 0, .int 0, .int 0, .int 0])
abbrev z_lin (a b c d e : Value) : va_E := .inr (1, [a, b, c, d, e, .int 0, .int 0, .int 0])
theorem zc_sec (w : gm_Wd) (h0 : Nat) (v : Int32) : cc_C w yX4_init cX4_init 2 1 0 0 [.ref h0, .int v] [(h0, z_sec 0)] (fun w1 => w1 = [(h0, z_sec v)]) := by
  refine cc_start (by decide) rfl (Nat.le_of_ble_eq_true rfl) fun x hw C E => ?_
  refine cv_aload_n C rfl 0 rfl dX4_init_0 1 rfl ?_
  refine cv_obj C mkX4_3 (by decide) dX4_init_1 4 rfl ?_
  refine cv_aload_n C rfl 0 rfl dX4_init_4 5 rfl ?_
  refine cv_iload_n C rfl 1 rfl dX4_init_5 6 rfl ?_
  refine cv_putF (i := 0) (T := TX4) (N := 6) (ty := .int) C E.1 0 rfl rfl iwX4 tyX4 tyX4_ok nmX4 (by decide) rfl rfl rfl rfl rfl (Nat.le_of_ble_eq_true rfl) lkX4_9 [(h0, z_sec v)] rfl dX4_init_6 9 rfl ?_
  exact cv_vret C E rfl (Nat.le_refl _) (Nat.le_refl _) dX4_init_9
theorem zc_trn (w : gm_Wd) (h0 : Nat) (v : Int32) : cc_C w yX5_init cX5_init 2 1 0 0 [.ref h0, .int v] [(h0, z_trn 0)] (fun w1 => w1 = [(h0, z_trn v)]) := by
  refine cc_start (by decide) rfl (Nat.le_of_ble_eq_true rfl) fun x hw C E => ?_
  refine cv_aload_n C rfl 0 rfl dX5_init_0 1 rfl ?_
  refine cv_obj C mkX5_3 (by decide) dX5_init_1 4 rfl ?_
  refine cv_aload_n C rfl 0 rfl dX5_init_4 5 rfl ?_
  refine cv_iload_n C rfl 1 rfl dX5_init_5 6 rfl ?_
  refine cv_putF (i := 0) (T := TX5) (N := 9) (ty := .int) C E.1 0 rfl rfl iwX5 tyX5 tyX5_ok nmX5 (by decide) rfl rfl rfl rfl rfl (Nat.le_of_ble_eq_true rfl) lkX5_9 [(h0, z_trn v)] rfl dX5_init_6 9 rfl ?_
  exact cv_vret C E rfl (Nat.le_refl _) (Nat.le_refl _) dX5_init_9
theorem zc_blk (w : gm_Wd) (h0 s : Nat) (v : Int32) : cc_C w yX0_init cX0_init 3 1 0 0 [.ref h0, .ref s, .int v] [(h0, z_blk .null 0)] (fun w1 => w1 = [(h0, z_blk (.ref s) v)]) := by
  refine cc_start (by decide) rfl (Nat.le_of_ble_eq_true rfl) fun x hw C E => ?_
  refine cv_aload_n C rfl 0 rfl dX0_init_0 1 rfl ?_
  refine cv_obj C mkX0_3 (by decide) dX0_init_1 4 rfl ?_
  refine cv_aload_n C rfl 0 rfl dX0_init_4 5 rfl ?_
  refine cv_aload_n C rfl 1 rfl dX0_init_5 6 rfl ?_
  refine cv_putF (i := 0) (T := TX0) (N := 7) (ty := .object "BlockBells$Section") C E.1 0 rfl rfl iwX0 tyX0 tyX0_ok nmX0 (by decide) rfl rfl (by decide +kernel) rfl rfl (Nat.le_of_ble_eq_true rfl) lkX0_9 [(h0, z_blk (.ref s) 0)] rfl dX0_init_6 9 rfl ?_
  refine cv_aload_n C rfl 0 rfl dX0_init_9 10 rfl ?_
  refine cv_iload_n C rfl 2 rfl dX0_init_10 11 rfl ?_
  refine cv_putF (i := 1) (T := TX0) (N := 7) (ty := .int) C E.1 0 rfl rfl iwX0 tyX0 tyX0_ok nmX0 (by decide) rfl rfl rfl rfl rfl (Nat.le_of_ble_eq_true rfl) lkX0_15 [(h0, z_blk (.ref s) v)] rfl dX0_init_11 14 rfl ?_
  exact cv_vret C E rfl (Nat.le_refl _) (Nat.le_refl _) dX0_init_14
theorem zc_reg (w : gm_Wd) (h0 : Nat) : cc_C w yX3_init cX3_init 1 1 1 300 [.ref h0] [(h0, z_reg .null)] (fun w1 => ∃ q, w1 = [(q, .inl (gm_cy w 0, 300, .inl fun _ => 0)), (h0, z_reg (.ref q))]) := by
  refine cc_start (by decide) rfl (Nat.le_of_ble_eq_true rfl) fun x hw C E => ?_
  subst hw
  refine cv_aload_n C rfl 0 rfl dX3_init_0 1 rfl ?_
  refine cv_obj C mkX3_3 (by decide) dX3_init_1 4 rfl ?_
  refine cv_aload_n C rfl 0 rfl dX3_init_4 5 rfl ?_
  refine cv_sipush C (nI 300) rfl dX3_init_5 8 rfl ?_
  refine cv_newi C 300 rfl (by decide) (by decide) (by decide) dX3_init_8 10 rfl fun q => ?_
  refine cv_putF (i := 0) (T := TX3) (N := 2) (ty := .array .int) C E.1 1 rfl rfl iwX3 tyX3 tyX3_ok nmX3 (by decide) rfl rfl (by decide +kernel) rfl rfl (Nat.le_of_ble_eq_true rfl) lkX3_9 [(q, .inl (gm_cy (cx_w x) 0, 300, .inl fun _ => 0)), (h0, z_reg (.ref q))] rfl dX3_init_10 13 rfl ?_
  exact cv_vret C E ⟨q, rfl⟩ (by decide) (by decide) dX3_init_13
theorem zc_pad (w : gm_Wd) (h0 : Nat) : cc_C w yX2_init cX2_init 1 1 1 60 [.ref h0] [(h0, z_pad .null)] (fun w1 => ∃ q, w1 = [(q, .inl (gm_cy w 0, 60, .inl fun _ => 0)), (h0, z_pad (.ref q))]) := by
  refine cc_start (by decide) rfl (Nat.le_of_ble_eq_true rfl) fun x hw C E => ?_
  subst hw
  refine cv_aload_n C rfl 0 rfl dX2_init_0 1 rfl ?_
  refine cv_obj C mkX2_3 (by decide) dX2_init_1 4 rfl ?_
  refine cv_aload_n C rfl 0 rfl dX2_init_4 5 rfl ?_
  refine cv_bipush C (nI 60) rfl dX2_init_5 7 rfl ?_
  refine cv_newi C 60 rfl (by decide) (by decide) (by decide) dX2_init_7 9 rfl fun q => ?_
  refine cv_putF (i := 0) (T := TX2) (N := 6) (ty := .array .int) C E.1 1 rfl rfl iwX2 tyX2 tyX2_ok nmX2 (by decide) rfl rfl (by decide +kernel) rfl rfl (Nat.le_of_ble_eq_true rfl) lkX2_9 [(q, .inl (gm_cy (cx_w x) 0, 60, .inl fun _ => 0)), (h0, z_pad (.ref q))] rfl dX2_init_9 12 rfl ?_
  exact cv_vret C E ⟨q, rfl⟩ (by decide) (by decide) dX2_init_12
theorem zf_0 : ∀ j, j < 7 → defaultValue (tyX0 j) = vp_V [.null, .int 0, .int 0, .int 0, .int 0, .int 0, .int 0] j
  | 0, _ => rfl | 1, _ => rfl | 2, _ => rfl | 3, _ => rfl | 4, _ => rfl | 5, _ => rfl | 6, _ => rfl | j + 7, h => absurd h (by omega)
theorem zf_1 : ∀ j, j < 8 → defaultValue (tyX1 j) = vp_V [.null, .null, .null, .null, .null, .int 0, .int 0, .int 0] j
  | 0, _ => rfl | 1, _ => rfl | 2, _ => rfl | 3, _ => rfl | 4, _ => rfl | 5, _ => rfl | 6, _ => rfl | 7, _ => rfl | j + 8, h => absurd h (by omega)
theorem zf_2 : ∀ j, j < 6 → defaultValue (tyX2 j) = vp_V [.null, .int 0, .int 0, .int 0, .int 0, .int 0] j
  | 0, _ => rfl | 1, _ => rfl | 2, _ => rfl | 3, _ => rfl | 4, _ => rfl | 5, _ => rfl | j + 6, h => absurd h (by omega)
theorem zf_3 : ∀ j, j < 2 → defaultValue (tyX3 j) = vp_V [.null, .int 0] j
  | 0, _ => rfl | 1, _ => rfl | j + 2, h => absurd h (by omega)
theorem zf_4 : ∀ j, j < 6 → defaultValue (tyX4 j) = vp_V [.int 0, .int 0, .int 0, .int 0, .int 0, .int 0] j
  | 0, _ => rfl | 1, _ => rfl | 2, _ => rfl | 3, _ => rfl | 4, _ => rfl | 5, _ => rfl | j + 6, h => absurd h (by omega)
theorem zf_5 : ∀ j, j < 9 → defaultValue (tyX5 j) = vp_V [.int 0, .int 0, .int 0, .int 0, .int 0, .int 0, .int 0, .int 0, .int 0] j
  | 0, _ => rfl | 1, _ => rfl | 2, _ => rfl | 3, _ => rfl | 4, _ => rfl | 5, _ => rfl | 6, _ => rfl | 7, _ => rfl | 8, _ => rfl | j + 9, h => absurd h (by omega)
theorem zf_6 : ∀ j, j < 5 → defaultValue (tyX6 j) = vp_V [.null, .null, .null, .null, .null] j
  | 0, _ => rfl | 1, _ => rfl | 2, _ => rfl | 3, _ => rfl | 4, _ => rfl | j + 5, h => absurd h (by omega)
theorem zf_7 : ∀ j, j < 10 → defaultValue (tyX7 j) = vp_V [.null, .null, .null, .null, .null, .int 0, .int 0, .int 0, .null, .int 0] j
  | 0, _ => rfl | 1, _ => rfl | 2, _ => rfl | 3, _ => rfl | 4, _ => rfl | 5, _ => rfl | 6, _ => rfl | 7, _ => rfl | 8, _ => rfl | 9, _ => rfl | j + 10, h => absurd h (by omega)
