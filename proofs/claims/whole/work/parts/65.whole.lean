set_option maxHeartbeats 4000000 in
/-- THE LAW, from its entry -/
theorem whole_start {p : Program} {e : Env} {s : State} {m : MethodId} {below : List Frame} {meth : Method} {c : Code} (l : Launch) (hflags : l.flags = flags0) {b L : Nat} {xs : Nat → Int32} (hL : L ≤ 2048) (C0 : lw_At p s m meth c b L xs) : W p l e room_1 s m #[Value.ref b] below meth c s.heap [] 0 0 (lw_Z below #[Value.ref b] s) (entryFrame m ([Value.ref b] : List Value).toArray 4) := by
  obtain ⟨hx, hb, hr, hml, hown, hts, hX, hbl, hlocks, hgv⟩ := C0
  obtain ⟨w, rfl, hK⟩ := gs_K l hts
  obtain ⟨Gl, eL, hCL, -⟩ := c_lay (G := gz) (l := 0) (b := 4) (z := 0) (by decide) (fun _ _ => Or.inl rfl)
  obtain ⟨G7, e7, hMA, hFr⟩ := m_lay (G := gz) 4 0
  have C : cv_X (p, e, room_1, s, m, #[Value.ref b], below, meth, c, lw_Z below #[Value.ref b] s, (fun q => s.heap.size ≤ q), (0, 0), w) cL_law 4 RL 10 600000 7302250 :=
    ⟨hx, hb, hml, hown, fun q hq => hts q (tb_in q hq), hK, fun _ h => h, Nat.le_of_ble_eq_true rfl, Nat.le_of_ble_eq_true rfl, Nat.le_refl _, Nat.le_refl _⟩
  have key : cv_V (p, e, room_1, s, m, #[Value.ref b], below, meth, c, lw_Z below #[Value.ref b] s, (fun q => s.heap.size ≤ q), (0, 0), w) [] 0 0 0 (lv_args 0 [Value.ref b]) [] := by
    refine cv_new (ci := 6) (T := TX6) (N := 5) C rfl iwX6 tyX6 tyX6_ok clL_7 nwX6 in_BlockBells zf_6 (Nat.le_of_ble_eq_true rfl) (Nat.le_of_ble_eq_true rfl) dL_law_0 3 rfl fun q6 => ?_
    refine cv_dup C rfl dL_law_3 4 rfl ?_
    refine cv_callI (wc := [(q6, z_bb .null .null .null .null .null)]) C mc_yX6_init mi_yX6_init rfl (by decide) mkL_9 (zc_bb w q6 Gl eL) rfl rfl rfl (Nat.le_of_ble_eq_true rfl) (Nat.le_of_ble_eq_true rfl) (Nat.le_of_ble_eq_true rfl) dL_law_4 7 rfl fun w1 hF => ?_
    obtain ⟨adB, rfl, rfl⟩ := hF
    refine cv_astore_n C rfl [(1, .ref (adB 6 4 0)), (0, .ref b)] (by decide) rfl dL_law_7 8 rfl ?_
    refine cv_new (ci := 7) (T := TX7) (N := 10) C rfl iwX7 tyX7 tyX7_ok clL_10 nwX7 in_BlockBellsModel zf_7 (Nat.le_of_ble_eq_true rfl) (Nat.le_of_ble_eq_true rfl) dL_law_8 11 rfl fun q7 => ?_
    refine cv_dup C rfl dL_law_11 12 rfl ?_
    refine cv_callI (wc := [(q7, z_mo .null .null .null .null .null .null)]) (wr := gmb_w (wd w adB) (gb Gl) ++ []) C mc_yX7_init mi_yX7_init rfl (by decide) mkL_12 (zc_mo w q7 G7 e7) rfl rfl rfl (Nat.le_of_ble_eq_true rfl) (Nat.le_of_ble_eq_true rfl) (Nat.le_of_ble_eq_true rfl) dL_law_12 15 rfl fun w1 hF => ?_
    obtain ⟨adM, rfl, rfl⟩ := hF
    refine cv_astore_n C rfl [(2, .ref (adM 7 5 0)), (1, .ref (adB 6 4 0)), (0, .ref b)] (by decide) rfl dL_law_15 16 rfl ?_
    refine cv_iconst C (nI 0) (by decide +kernel) dL_law_16 17 rfl ?_
    refine cv_istore_n C rfl [(3, .int (nI 0)), (2, .ref (adM 7 5 0)), (1, .ref (adB 6 4 0)), (0, .ref b)] (by decide) rfl dL_law_17 18 rfl ?_
    refine cv_perm (ws' := gm_w (wd w (gs_ad adB adM)) (gs Gl G7)) (by rw [gs_w, List.append_nil]; exact List.perm_append_comm) ?_
    intro H locs ls hP hD hS hl
    have hJ := gs_J hD
    have hA := gs_A hD
    have C1 : gm_X (p, e, room_1, s, m, #[Value.ref b], below, meth, c, lw_Z below #[Value.ref b] s, (fun q => s.heap.size ≤ q), (148, 14003), wd w (gs_ad adB adM)) cL_law 4 RL (some .boolean) 10 :=
      ⟨hx, hb, hml, hown, fun q hq => hts q (tb_in q hq), hK.1, hJ, hr, hlocks, hA, Nat.le_of_ble_eq_true rfl, Nat.le_of_ble_eq_true rfl, Nat.le_of_ble_eq_true rfl, Nat.le_of_ble_eq_true rfl⟩
    refine gl_loop C1 (b := b) (L := L) (xs := xs) ⟨hX, hbl, Nat.not_le.mpr hbl, hL⟩ (fun G lv => ?_) 512 0 0 (gs Gl G7) (by decide) (by omega) (by decide) (gs_WI hCL hMA hFr) H locs ls hP hS hl
    refine gv_iconst C1 1 (by decide +kernel) dL_law_1161 1162 rfl ?_
    intro H locs ls hP hS hl
    refine va_forget hS.2.2 ?_
    refine W.widen (k := 600000) (n := 7302250) (Nat.le_of_ble_eq_true rfl) (Nat.le_of_ble_eq_true rfl) ?_
    exact lw_ret hx hb hr hlocks dL_law_1162
  have hl := lv_entry ([.ref b]) (n := 4) (Nat.le_of_ble_eq_true rfl)
  rw [lg_entry_eq]
  exact key s.heap [] _ (fun k q h => by simp at h) ⟨fun i j p q h => by simp at h, fun k q h => by simp at h⟩ va_S.rf (by rw [hml]; exact hl)
