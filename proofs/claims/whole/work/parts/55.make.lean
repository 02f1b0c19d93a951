/-! Making: a walk over cells in a list, what is new in front. -/
theorem ma_int : Cond.arrayClass .int ∈ TB := tb_T (List.mem_append_left _ (List.mem_of_getElem? (i := 156) rfl)) rfl
theorem ma_bool : Cond.arrayClass .boolean ∈ TB := tb_T (List.mem_append_left _ (List.mem_of_getElem? (i := 232) rfl)) rfl
theorem mo_0 : Cond.arrayOver (.object RX0) ∈ lw_tbl := List.mem_append_right _ (List.mem_append_left _ (List.mem_of_getElem? (i := 28) rfl))
theorem mo_1 : Cond.arrayOver (.object RX1) ∈ lw_tbl := List.mem_append_right _ (List.mem_append_left _ (List.mem_of_getElem? (i := 202) rfl))
theorem mo_4 : Cond.arrayOver (.object RX4) ∈ lw_tbl := List.mem_append_right _ (List.mem_append_left _ (List.mem_of_getElem? (i := 26) rfl))
theorem mo_5 : Cond.arrayOver (.object RX5) ∈ lw_tbl := List.mem_append_right _ (List.mem_append_left _ (List.mem_of_getElem? (i := 99) rfl))
theorem mn_176 : Cond.methodLinkNest RX1 176 yX6_isDirection RX6 ∈ lw_tbl := List.mem_append_right _ (List.mem_append_right _ (List.mem_append_left _ (List.mem_of_getElem? (i := 130) rfl)))
theorem mn_213 : Cond.methodLinkNest RX1 213 yX6_offerCode RX6 ∈ lw_tbl := List.mem_append_right _ (List.mem_append_right _ (List.mem_append_left _ (List.mem_of_getElem? (i := 172) rfl)))
theorem vq_P {D : va_G} {cl : List vw_C} {ws : va_W} {H : Heap} : va_P D cl ws H ↔ ∀ q ∈ ws, va_at D cl q H :=
  ⟨fun h q hq => by obtain ⟨i, hi⟩ := List.getElem?_of_mem hq; exact h i q hi, fun h k q hk => h q (List.mem_of_getElem? hk)⟩
theorem vq_D {A : Nat → Prop} {ws : va_W} : va_D A ws ↔ (ws.map Prod.fst).Nodup ∧ ∀ q ∈ ws, A q.1 := by
  constructor
  · rintro ⟨h1, h2⟩
    refine ⟨?_, fun q hq => by obtain ⟨i, hi⟩ := List.getElem?_of_mem hq; exact h2 i q hi⟩
    rw [List.nodup_iff_pairwise_ne, List.pairwise_iff_getElem]
    intro i j hi hj hij he
    have hi' : i < ws.length := by simpa using hi
    have hj' : j < ws.length := by simpa using hj
    simp only [List.getElem_map] at he
    have := h1 i j ws[i] ws[j] (List.getElem?_eq_getElem hi') (List.getElem?_eq_getElem hj') he
    omega
  · rintro ⟨h1, h2⟩
    refine ⟨fun i j p q hi hj he => ?_, fun k q hk => h2 q (List.mem_of_getElem? hk)⟩
    have li := (List.getElem?_eq_some_iff.mp hi).1
    refine (List.getElem?_inj (l := ws.map Prod.fst) (by simpa using li) h1).mp ?_
    rw [List.getElem?_map, List.getElem?_map, hi, hj]
    simp [he]
theorem vq_Pp {D : va_G} {cl : List vw_C} {ws ws' : va_W} {H : Heap} (h : ws.Perm ws') (hP : va_P D cl ws H) : va_P D cl ws' H := vq_P.mpr fun q hq => vq_P.mp hP q (h.mem_iff.mpr hq)
theorem vq_Dp {A : Nat → Prop} {ws ws' : va_W} (h : ws.Perm ws') (hD : va_D A ws) : va_D A ws' := vq_D.mpr ⟨(h.map Prod.fst).nodup_iff.mp (vq_D.mp hD).1, fun q hq => (vq_D.mp hD).2 q (h.mem_iff.mpr hq)⟩
/-- the frame rule -/
theorem vq_join {A : Nat → Prop} {D : va_G} {cl : List vw_C} {wc wr w1 : va_W} {H H1 : Heap} (hP : va_P D cl (wc ++ wr) H) (hD : va_D A (wc ++ wr)) (hk : ∀ q : Nat, q < H.size → ¬ va_A wc H.size q → H1[q]? = H[q]?) (hF : ∀ q, va_A wc H.size q → A q) (hP1 : va_P D cl w1 H1) (hD1 : va_D (va_A wc H.size) w1) : va_P D cl (w1 ++ wr) H1 ∧ va_D A (w1 ++ wr) := by
  have hPr : ∀ q ∈ wr, va_at D cl q H := fun q hq => vq_P.mp hP q (List.mem_append_right _ hq)
  obtain ⟨d1, d2⟩ := vq_D.mp hD
  rw [List.map_append, List.nodup_append] at d1
  obtain ⟨dc, dr, dx⟩ := d1
  have hno : ∀ q ∈ wr, ¬ va_A wc H.size q.1 := by
    intro q hq h
    rcases h with ⟨k, e, h⟩ | h
    · exact dx q.1 (List.mem_map.mpr ⟨(q.1, e), List.mem_of_getElem? h, rfl⟩) q.1 (List.mem_map.mpr ⟨q, hq, rfl⟩) rfl
    · exact absurd (hPr q hq).lt (Nat.not_lt.mpr h)
  obtain ⟨e1, e2⟩ := vq_D.mp hD1
  refine ⟨vq_P.mpr fun q hq => ?_, vq_D.mpr ⟨?_, fun q hq => ?_⟩⟩
  · rcases List.mem_append.mp hq with h | h
    · exact vq_P.mp hP1 q h
    · exact (hPr q h).kept (hk q.1 (hPr q h).lt (hno q h))
  · rw [List.map_append, List.nodup_append]
    refine ⟨e1, dr, ?_⟩
    intro a ha b hb hab
    obtain ⟨p, hp, rfl⟩ := List.mem_map.mp ha
    obtain ⟨q, hq, rfl⟩ := List.mem_map.mp hb
    exact hno q hq (hab ▸ e2 p hp)
  · rcases List.mem_append.mp hq with h | h
    · exact hF _ (e2 q h)
    · exact d2 q (List.mem_append_right _ h)
def cc_K (w : gm_Wd) (U : State) : Prop := gm_K w U ∧ va_AO RX0 U ∧ va_AO RX1 U ∧ va_AO RX4 U ∧ va_AO RX5 U
theorem cc_K_al {w : gm_Wd} {s U : State} (hW : s.vm.Alike U.vm) (hg : gm_K w U) (h : cc_K w s) : cc_K w U := ⟨hg, h.2.1.moved hW, h.2.2.1.moved hW, h.2.2.2.1.moved hW, h.2.2.2.2.moved hW⟩
theorem cc_K_warm {w : gm_Wd} {s U : State} (hW : s.WarmedH U.vm) (h : cc_K w s) : cc_K w U := cc_K_al hW.alike (gm_K_warm hW h.1) h
theorem cc_K_same {w : gm_Wd} {s U : State} (hW : s.vm = U.vm) (h : cc_K w s) : cc_K w U := cc_K_al (hW ▸ Vm.Alike.refl s.vm) (gm_K_same hW h.1) h
/-- A MAKER'S CONTRACT: out of the cells ws come the cells w1 of which F holds; mc cells of ms slots are made -/
def cc_C (w : gm_Wd) (y : MethodName) (cc : ByteArray) (mL rk mc ms : Nat) (av : List Value) (ws : va_W) (F : va_W → Prop) : Prop :=
  ∀ sz : Nat, Met w.1 y (Cond.code y cc mL none :: TB) { frames := rk, cells := mc, slots := ms, locals := 36 * rk }
    (va_Pc av (fun U => U.heap.size = sz ∧ va_P (gm_D w) vwCl ws U.heap ∧ cc_K w U ∧ va_D (fun _ => True) ws))
    (va_Qv F (fun w1 t => va_P (gm_D w) vwCl w1 t.heap ∧ va_D (va_A ws sz) w1) (va_A ws sz)) mc ms (va_A ws sz)
def cv_X (x : gm_Cx) (cc : ByteArray) (nL : Nat) (own : String) (rk kc ks : Nat) : Prop :=
  (cx_p x).tables.exec = Jvm.exec ∧ (cx_c x).code = cc ∧ (cx_c x).maxLocals = nL ∧ (cx_s x).vm.findClass own = some (cx_m x).cls ∧ (∀ w ∈ TB, w.before (cx_args x) (cx_s x) = true) ∧ cc_K (cx_w x) (cx_s x) ∧ (∀ q, (cx_s x).heap.size ≤ q → cx_A x q) ∧ (rk ≤ (cx_R x).frames ∧ 36 * rk ≤ (cx_R x).locals ∧ kc ≤ (cx_R x).cells ∧ ks ≤ (cx_R x).slots)
def cv_V (x : gm_Cx) (ws : va_W) (k n pc : Nat) (lv : List (Nat × Value)) (st : List Value) : Prop :=
  ∀ (H : Heap) (locs : List Loc) (ls : Array Slot), va_P (gm_D (cx_w x)) vwCl ws H → va_D (cx_A x) ws → va_S (cx_A x) (cx_s x).heap H locs → lv_has ls (cx_c x).maxLocals lv → W (cx_p x) (cx_w x).1 (cx_e x) (cx_R x) (cx_s x) (cx_m x) (cx_args x) (cx_below x) (cx_meth x) (cx_c x) H locs k n (cx_Q x) (F0 (cx_m x) pc ls st)
def cv_E (x : gm_Cx) (F : va_W → Prop) (mc ms : Nat) : Prop := (cx_meth x).name = "<init>" ∧ (cx_meth x).sig.returnType = none ∧ (cx_meth x).locks = false ∧ cx_Q x = MQ (cx_below x) (va_Qv F (fun w1 t => va_P (gm_D (cx_w x)) vwCl w1 t.heap ∧ va_D (cx_A x) w1) (cx_A x)) (cx_args x) (cx_s x) mc ms (cx_A x)
section
variable {x : gm_Cx} {cc : ByteArray} {nL : Nat} {own : String} {rk kc ks : Nat} {ws ws' : va_W} {k n pc : Nat} {lv : List (Nat × Value)} {st st0 : List Value}
theorem cv_perm (h : ws.Perm ws') (K : cv_V x ws' k n pc lv st) : cv_V x ws k n pc lv st := fun H locs ls hP hD hS hl => K H locs ls (vq_Pp h hP) (vq_Dp h hD) hS hl
theorem cv_iconst (C : cv_X x cc nL own rk kc ks) {z : Int} (v : Int32) (hv : Int32.ofInt z = v) (d : decode cc pc = .ok (.iconst z, 1)) (t : Nat) (ht : pc + 1 = t) (K : cv_V x ws k n t lv (.int v :: st)) : cv_V x ws k n pc lv st := by
  subst ht
  exact fun H locs ls hP hD hS hl => lv_iconst C.1 C.2.1 d hv (K H locs ls hP hD hS hl)
theorem cv_bipush (C : cv_X x cc nL own rk kc ks) {z : Int} (v : Int32) (hv : (Int8.ofInt z).toInt32 = v) (d : decode cc pc = .ok (.bipush z, 2)) (t : Nat) (ht : pc + 2 = t) (K : cv_V x ws k n t lv (.int v :: st)) : cv_V x ws k n pc lv st := by
  subst ht
  exact fun H locs ls hP hD hS hl => lv_bipush C.1 C.2.1 d hv (K H locs ls hP hD hS hl)
theorem cv_sipush (C : cv_X x cc nL own rk kc ks) {z : Int} (v : Int32) (hv : (Int16.ofInt z).toInt32 = v) (d : decode cc pc = .ok (.sipush z, 3)) (t : Nat) (ht : pc + 3 = t) (K : cv_V x ws k n t lv (.int v :: st)) : cv_V x ws k n pc lv st := by
  subst ht
  exact fun H locs ls hP hD hS hl => lv_sipush C.1 C.2.1 d hv (K H locs ls hP hD hS hl)
theorem cv_iload_n (C : cv_X x cc nL own rk kc ks) {j : Fin 4} {i : Nat} {v : Int32} (hi : (j : Nat) = i) (q : Nat) (hq : lv[q]? = some (i, .int v)) (d : decode cc pc = .ok (.iload_n j, 1)) (t : Nat) (ht : pc + 1 = t) (K : cv_V x ws k n t lv (.int v :: st)) : cv_V x ws k n pc lv st := by
  subst ht
  exact fun H locs ls hP hD hS hl => lv_iload_n C.1 C.2.1 d hi (lv_at hl q hq) (K H locs ls hP hD hS hl)
theorem cv_aload_n (C : cv_X x cc nL own rk kc ks) {j : Fin 4} {i v : Nat} (hi : (j : Nat) = i) (q : Nat) (hq : lv[q]? = some (i, .ref v)) (d : decode cc pc = .ok (.aload_n j, 1)) (t : Nat) (ht : pc + 1 = t) (K : cv_V x ws k n t lv (.ref v :: st)) : cv_V x ws k n pc lv st := by
  subst ht
  exact fun H locs ls hP hD hS hl => lv_aload_n C.1 C.2.1 d hi (lv_at hl q hq) (K H locs ls hP hD hS hl)
theorem cv_dup (C : cv_X x cc nL own rk kc ks) {v : Value} (hv : v.category = 1) (d : decode cc pc = .ok (.dup, 1)) (t : Nat) (ht : pc + 1 = t) (K : cv_V x ws k n t lv (v :: v :: st)) : cv_V x ws k n pc lv (v :: st) := by
  subst ht
  exact fun H locs ls hP hD hS hl => lv_dup C.1 C.2.1 d hv (K H locs ls hP hD hS hl)
theorem cv_imul (C : cv_X x cc nL own rk kc ks) {a b : Int32} (v : Int32) (hv : a * b = v) (d : decode cc pc = .ok (.imul, 1)) (t : Nat) (ht : pc + 1 = t) (K : cv_V x ws k n t lv (.int v :: st)) : cv_V x ws k n pc lv (.int b :: .int a :: st) := by
  subst ht hv
  exact fun H locs ls hP hD hS hl => lv_imul C.1 C.2.1 d (K H locs ls hP hD hS hl)
theorem cv_iadd (C : cv_X x cc nL own rk kc ks) {a b : Int32} (v : Int32) (hv : a + b = v) (d : decode cc pc = .ok (.iadd, 1)) (t : Nat) (ht : pc + 1 = t) (K : cv_V x ws k n t lv (.int v :: st)) : cv_V x ws k n pc lv (.int b :: .int a :: st) := by
  subst ht hv
  exact fun H locs ls hP hD hS hl => lv_iadd C.1 C.2.1 d (K H locs ls hP hD hS hl)
theorem cv_istore_n (C : cv_X x cc nL own rk kc ks) {j : Fin 4} {i : Nat} {v : Int32} (hi : (j : Nat) = i) (lv' : List (Nat × Value)) (hi' : i < nL) (hlv : (i, Value.int v) :: lv.filter (fun q => !(q.1 == i) && !(q.1 + 1 == i && q.2.category == 2)) = lv') (d : decode cc pc = .ok (.istore_n j, 1)) (t : Nat) (ht : pc + 1 = t) (K : cv_V x ws k n t lv' st) : cv_V x ws k n pc lv (.int v :: st) := by
  subst ht
  exact fun H locs ls hP hD hS hl => lv_istore_n C.1 C.2.1 d hi hl (by rw [C.2.2.1]; exact hi') hlv (fun ls' hl' => K H locs ls' hP hD hS hl')
theorem cv_astore_n (C : cv_X x cc nL own rk kc ks) {j : Fin 4} {i v : Nat} (hi : (j : Nat) = i) (lv' : List (Nat × Value)) (hi' : i < nL) (hlv : (i, Value.ref v) :: lv.filter (fun q => !(q.1 == i) && !(q.1 + 1 == i && q.2.category == 2)) = lv') (d : decode cc pc = .ok (.astore_n j, 1)) (t : Nat) (ht : pc + 1 = t) (K : cv_V x ws k n t lv' st) : cv_V x ws k n pc lv (.ref v :: st) := by
  subst ht
  exact fun H locs ls hP hD hS hl => lv_astore_n C.1 C.2.1 d hi hl (by rw [C.2.2.1]; exact hi') hlv (fun ls' hl' => K H locs ls' hP hD hS hl')
theorem cv_iinc (C : cv_X x cc nL own rk kc ks) {i : Nat} {z : Int} {v u : Int32} (q : Nat) (hq : lv[q]? = some (i, .int v)) (hu : v + Int32.ofInt z = u) (lv' : List (Nat × Value)) (hi' : i < nL) (hlv : (i, Value.int u) :: lv.filter (fun q => !(q.1 == i) && !(q.1 + 1 == i && q.2.category == 2)) = lv') (d : decode cc pc = .ok (.iinc i z, 3)) (t : Nat) (ht : pc + 3 = t) (K : cv_V x ws k n t lv' st) : cv_V x ws k n pc lv st := by
  subst ht
  exact fun H locs ls hP hD hS hl => lv_iinc C.1 C.2.1 d hl hq hu (by rw [C.2.2.1]; exact hi') hlv (fun ls' hl' => K H locs ls' hP hD hS hl')
theorem cv_geT (C : cv_X x cc nL own rk kc ks) {a b : Int32} {o : Int} (h : b ≤ a) (d : decode cc pc = .ok (.if_icmp .ge o, 3)) (t : Nat) (ht : (pc : Int) + o = (t : Int)) (K : cv_V x ws k n t lv st) : cv_V x ws k n pc lv (.int b :: .int a :: st) :=
  fun H locs ls hP hD hS hl => lv_icmp_ge C.1 C.2.1 d ht (fun _ => K H locs ls hP hD hS hl) (fun c => absurd h c)
theorem cv_geN (C : cv_X x cc nL own rk kc ks) {a b : Int32} {o : Int} (h : ¬ b ≤ a) (d : decode cc pc = .ok (.if_icmp .ge o, 3)) (t : Nat) (ht : (pc : Int) + o = (t : Int)) (t2 : Nat) (ht2 : pc + 3 = t2) (K : cv_V x ws k n t2 lv st) : cv_V x ws k n pc lv (.int b :: .int a :: st) := by
  subst ht2
  exact fun H locs ls hP hD hS hl => lv_icmp_ge C.1 C.2.1 d ht (fun c => absurd c h) (fun _ => K H locs ls hP hD hS hl)
theorem cv_goto (C : cv_X x cc nL own rk kc ks) {o : Int} (d : decode cc pc = .ok (.goto o, 3)) (t : Nat) (ht : (pc : Int) + o = (t : Int)) (K : cv_V x ws k n t lv st) : cv_V x ws k n pc lv st := fun H locs ls hP hD hS hl => lv_goto C.1 C.2.1 d ht (K H locs ls hP hD hS hl)
theorem cv_obj (C : cv_X x cc nL own rk kc ks) {idx a : Nat} (hlk : Cond.methodLink own idx objectInit ∈ TB) (hrk : 1 ≤ rk) (d : decode cc pc = .ok (.invokespecial idx, 3)) (t : Nat) (ht : pc + 3 = t) (K : cv_V x ws k n t lv []) : cv_V x ws k n pc lv [.ref a] := by
  subst ht
  obtain ⟨r1, r2, -, -⟩ := C.2.2.2.2.2.2.2
  exact fun H locs ls hP hD hS hl => W.objInit C.1 C.2.1 C.2.2.2.1 (C.2.2.2.2.1 _ hlk) (C.2.2.2.2.1 _ mi_objectInit) (C.2.2.2.2.1 _ mcx_objectInit) rfl hl.1 rfl d (by omega) (by show 2 * 0 + 0 + 12 ≤ _; omega) (K H locs ls hP hD hS hl)
theorem cv_getf (C : cv_X x cc nL own rk kc ks) {a ci i N idx : Nat} {fs : List Value} {v : Value} {Cn : String} {T : u_T} (he : (a, .inr (ci, fs)) ∈ ws) (hcl : vwCl[ci]? = some (Cn, T, N)) (hin : ∀ w ∈ u_ws Cn T N, w ∈ TB) (hi : i < N) (hv : fs[i]? = some v) (hlk : Cond.fieldLink own idx (T i).1 (T i).2.1 (T i).2.2.1 ∈ TB) (d : decode cc pc = .ok (.getfield idx, 3)) (t : Nat) (ht : pc + 3 = t) (K : cv_V x ws k n t lv (v :: st)) : cv_V x ws k n pc lv (.ref a :: st) := by
  subst ht
  obtain ⟨q, hq⟩ := List.getElem?_of_mem he
  exact fun H locs ls hP hD hS hl => va_get C.1 C.2.1 C.2.2.2.2.1 hin C.2.2.2.1 C.2.2.2.2.2.1.1.1 hP q hq hcl i hi (C.2.2.2.2.1 _ hlk) (fun _ h => h) hv d (K H locs ls hP hD hS hl)
theorem cv_putF (C : cv_X x cc nL own rk kc ks) (hN : (cx_meth x).name = "<init>") (q : Nat) {a ci i N idx : Nat} {fs : List Value} {v : Value} {Cn : String} {T : u_T} {ty : FieldType} (he : ws[q]? = some (a, .inr (ci, fs))) (hcl : vwCl[ci]? = some (Cn, T, N)) (hin : ∀ w ∈ u_ws Cn T N, w ∈ TB) (ty0 : Nat → FieldType) (hty : ∀ k, k < N → parseFieldDescriptor (T k).2.2.1 = some (ty0 k)) (hnm : ∀ a, a < N → ∀ b, b < N → a ≠ b → (T a).2.1 ≠ (T b).2.1) (hi : i < N) (hfin : (T i).2.2.2 = true) (hdc : (T i).1 = own) (hd : parseFieldDescriptor (T i).2.2.1 = some ty) (hnr : narrow ty v = v) (hft : fits ty v = true) (hlen : i < fs.length) (hlk : Cond.fieldLink own idx (T i).1 (T i).2.1 (T i).2.2.1 ∈ TB) (ws' : va_W) (hws : ws.set q (a, .inr (ci, fs.set i v)) = ws') (d : decode cc pc = .ok (.putfield idx, 3)) (t : Nat) (ht : pc + 3 = t) (K : cv_V x ws' k n t lv st) : cv_V x ws k n pc lv (v :: .ref a :: st) := by
  subst ht hws
  exact fun H locs ls hP hD hS hl => va_putF C.1 C.2.1 C.2.2.2.2.1 hin ty0 hty hnm C.2.2.2.1 C.2.2.2.2.2.1.1.1 hP hD hS q he hcl i hi (C.2.2.2.2.1 _ hlk) (fun _ h => h) hfin hN hdc hd hnr hft hlen d (fun H1 locs1 hP1 hD1 hS1 => K H1 locs1 ls hP1 hD1 hS1 hl)
theorem cv_new (C : cv_X x cc nL own rk kc ks) {ci N idx : Nat} {fs : List Value} {Cn : String} {T : u_T} (hcl : vwCl[ci]? = some (Cn, T, N)) (hin : ∀ w ∈ u_ws Cn T N, w ∈ TB) (ty : Nat → FieldType) (hty : ∀ k, k < N → parseFieldDescriptor (T k).2.2.1 = some (ty k)) (hlk : Cond.classLink own idx Cn ∈ TB) (hinst : Cond.instantiable Cn N ∈ TB) (hini : Cond.initialized Cn ∈ TB) (hfs : ∀ j, j < N → defaultValue (ty j) = vp_V fs j) (hkc : k + 1 ≤ kc) (hks : n + N ≤ ks) (d : decode cc pc = .ok (.new idx, 3)) (t : Nat) (ht : pc + 3 = t) (K : ∀ q : Nat, cv_V x ((q, .inr (ci, fs)) :: ws) (k + 1) (n + N) t lv (.ref q :: st)) : cv_V x ws k n pc lv st := by
  subst ht
  obtain ⟨-, -, r3, r4⟩ := C.2.2.2.2.2.2.2
  exact fun H locs ls hP hD hS hl => va_new C.1 C.2.1 C.2.2.2.2.1 hin ty hty C.2.2.2.1 (C.2.2.2.2.1 _ hlk) (C.2.2.2.2.1 _ hinst) (C.2.2.2.2.1 _ hini) C.2.2.2.2.2.1.1.1 hP hD hS C.2.2.2.2.2.2.1 hcl hfs (Nat.le_trans hkc r3) (Nat.le_trans hks r4) d (fun q H1 hP1 hD1 hS1 => K q H1 locs ls (vq_Pp (List.perm_append_singleton _ _) hP1) (vq_Dp (List.perm_append_singleton _ _) hD1) hS1 hl)
theorem cv_newi (C : cv_X x cc nL own rk kc ks) (N : Nat) {z : Int32} (hz : z = nI N) (hN : N < 100000) (hkc : k + 1 ≤ kc) (hks : n + N ≤ ks) (d : decode cc pc = .ok (.newarray .int, 2)) (t : Nat) (ht : pc + 2 = t) (K : ∀ q : Nat, cv_V x ((q, .inl (gm_cy (cx_w x) 0, N, .inl fun _ => 0)) :: ws) (k + 1) (n + N) t lv (.ref q :: st)) : cv_V x ws k n pc lv (.int z :: st) := by
  subst ht hz
  obtain ⟨-, -, r3, r4⟩ := C.2.2.2.2.2.2.2
  intro H locs ls hP hD hS hl
  refine va_newa (atype := .int) (ty := .int) (a0 := (N, .inl fun _ => 0)) C.1 C.2.1 (C.2.2.2.2.1 _ ma_int) rfl C.2.2.2.2.2.1.1.1 hP hD hS C.2.2.2.2.2.2.1 (fun _ => rfl) (nI_pos (by omega)) (nI_clamp (by omega)) (by show N * 4 ≤ _; omega) (Nat.le_trans hkc r3) (Nat.le_trans hks r4) d (fun q cA H1 hK1 hP1 hD1 hS1 => ?_)
  have h1 : (cx_s x).vm.findClass ("[" ++ FieldType.int.toString) = some cA := (hK1.2 6 (cA, .int) rfl).2
  have h2 : (cx_s x).vm.findClass ("[" ++ FieldType.int.toString) = some (gm_cy (cx_w x) 0) := (C.2.2.2.2.2.1.1.1.2 0 _ rfl).2
  have e : cA = gm_cy (cx_w x) 0 := Option.some.inj (h1.symm.trans h2)
  subst e
  exact K q H1 locs ls (vq_Pp (List.perm_append_singleton _ _) hP1) (vq_Dp (List.perm_append_singleton _ _) hD1) hS1 hl
theorem cv_newz (C : cv_X x cc nL own rk kc ks) (N : Nat) {z : Int32} (hz : z = nI N) (hN : N < 100000) (hkc : k + 1 ≤ kc) (hks : n + N ≤ ks) (d : decode cc pc = .ok (.newarray .boolean, 2)) (t : Nat) (ht : pc + 2 = t) (K : ∀ q : Nat, cv_V x ((q, .inl (gm_cy (cx_w x) 1, N, .inl fun _ => 0)) :: ws) (k + 1) (n + N) t lv (.ref q :: st)) : cv_V x ws k n pc lv (.int z :: st) := by
  subst ht hz
  obtain ⟨-, -, r3, r4⟩ := C.2.2.2.2.2.2.2
  intro H locs ls hP hD hS hl
  refine va_newa (atype := .boolean) (ty := .boolean) (a0 := (N, .inl fun _ => 0)) C.1 C.2.1 (C.2.2.2.2.1 _ ma_bool) rfl C.2.2.2.2.2.1.1.1 hP hD hS C.2.2.2.2.2.2.1 (fun _ => rfl) (nI_pos (by omega)) (nI_clamp (by omega)) (by show N * 1 ≤ _; omega) (Nat.le_trans hkc r3) (Nat.le_trans hks r4) d (fun q cA H1 hK1 hP1 hD1 hS1 => ?_)
  have h1 : (cx_s x).vm.findClass ("[" ++ FieldType.boolean.toString) = some cA := (hK1.2 6 (cA, .boolean) rfl).2
  have h2 : (cx_s x).vm.findClass ("[" ++ FieldType.boolean.toString) = some (gm_cy (cx_w x) 1) := (C.2.2.2.2.2.1.1.1.2 1 _ rfl).2
  have e : cA = gm_cy (cx_w x) 1 := Option.some.inj (h1.symm.trans h2)
  subst e
  exact K q H1 locs ls (vq_Pp (List.perm_append_singleton _ _) hP1) (vq_Dp (List.perm_append_singleton _ _) hD1) hS1 hl
theorem cv_newq (C : cv_X x cc nL own rk kc ks) {Cn : String} (j : Nat) (hj : (gm_tys (cx_w x))[j]? = some (gm_cy (cx_w x) j, .object Cn)) (hao : va_AO Cn (cx_s x)) {idx : Nat} (hlk : Cond.classLink own idx Cn ∈ TB) (N : Nat) {z : Int32} (hz : z = nI N) (hN : N < 100000) (hkc : k + 1 ≤ kc) (hks : n + N ≤ ks) (d : decode cc pc = .ok (.anewarray idx, 3)) (t : Nat) (ht : pc + 3 = t) (K : ∀ q : Nat, cv_V x ((q, .inl (gm_cy (cx_w x) j, N, gm_Rf fun _ => none)) :: ws) (k + 1) (n + N) t lv (.ref q :: st)) : cv_V x ws k n pc lv (.int z :: st) := by
  subst ht hz
  obtain ⟨-, -, r3, r4⟩ := C.2.2.2.2.2.2.2
  intro H locs ls hP hD hS hl
  refine va_newq (C := Cn) (N' := N) C.1 C.2.1 C.2.2.2.1 (C.2.2.2.2.1 _ hlk) hao C.2.2.2.2.2.1.1.1 hP hD hS C.2.2.2.2.2.2.1 (nI_pos (by omega)) (nI_clamp (by omega)) (by omega) (Nat.le_trans hkc r3) (Nat.le_trans hks r4) d (fun q cA H1 hK1 hP1 hD1 hS1 => ?_)
  obtain ⟨_, _, _, _, _, h1⟩ := (hK1.2 6 (cA, .object Cn) rfl).2
  obtain ⟨_, _, _, _, _, h2⟩ := (C.2.2.2.2.2.1.1.1.2 j _ hj).2
  have e : cA = gm_cy (cx_w x) j := Option.some.inj (h1.symm.trans h2)
  subst e
  exact K q H1 locs ls (vq_Pp (List.perm_append_singleton _ _) hP1) (vq_Dp (List.perm_append_singleton _ _) hD1) hS1 hl
theorem cv_aald (C : cv_X x cc nL own rk kc ks) (j : Nat) {Cn : String} (hj : (gm_tys (cx_w x))[j]? = some (gm_cy (cx_w x) j, .object Cn)) {a N i v : Nat} {f : Nat → Option Nat} (he : (a, .inl (gm_cy (cx_w x) j, N, gm_Rf f)) ∈ ws) {z : Int32} (hz : z = nI i) (hi : i < N) (hN : N < 100000) (hv : f i = some v) (d : decode cc pc = .ok (.aaload, 1)) (t : Nat) (ht : pc + 1 = t) (K : cv_V x ws k n t lv (.ref v :: st)) : cv_V x ws k n pc lv (.int z :: .ref a :: st) := by
  subst ht hz
  obtain ⟨q, hq⟩ := List.getElem?_of_mem he
  intro H locs ls hP hD hS hl
  refine va_aldq (C := Cn) C.1 C.2.1 C.2.2.2.2.2.1.1.1 hP q j hq hj (nI_in hi (by omega)) d ?_
  rw [nI_clamp (by omega), hv]
  exact K H locs ls hP hD hS hl
theorem cv_astq (C : cv_X x cc nL own rk kc ks) (j : Nat) {r : vw_C} (hj : (gm_tys (cx_w x))[j]? = some (gm_cy (cx_w x) j, .object r.1)) (q : Nat) {a N i v ci : Nat} {vs : List Value} {f : Nat → Option Nat} (he : ws[q]? = some (a, .inl (gm_cy (cx_w x) j, N, gm_Rf f))) (hv : (v, .inr (ci, vs)) ∈ ws) (hcl : vwCl[ci]? = some r) {z : Int32} (hz : z = nI i) (hi : i < N) (hN : N < 100000) (ws' : va_W) (hws : ws.set q (a, .inl (gm_cy (cx_w x) j, N, gm_Rf (va_up f i (some v)))) = ws') (d : decode cc pc = .ok (.aastore, 1)) (t : Nat) (ht : pc + 1 = t) (K : cv_V x ws' k n t lv st) : cv_V x ws k n pc lv (.ref v :: .int z :: .ref a :: st) := by
  subst ht hz hws
  obtain ⟨p, hp⟩ := List.getElem?_of_mem hv
  intro H locs ls hP hD hS hl
  refine va_astq C.1 C.2.1 C.2.2.2.2.2.1.1.1 hP hD hS q j p ci he hj hp hcl (nI_in hi (by omega)) d (fun H1 locs1 hP1 hD1 hS1 => ?_)
  rw [nI_clamp (by omega)] at hP1 hD1
  exact K H1 locs1 ls hP1 hD1 hS1 hl
/-- an array of references, in other words -/
theorem cv_arr (q : Nat) {a N : Nat} {cA : ClassId} {f : Nat → Option Nat} (he : ws[q]? = some (a, .inl (cA, N, gm_Rf f))) (g : Nat → Option Nat) (hfg : ∀ k, k < N → f k = g k) (ws' : va_W) (hws : ws.set q (a, .inl (cA, N, gm_Rf g)) = ws') (K : cv_V x ws' k n pc lv st) : cv_V x ws k n pc lv st := by
  subst hws
  intro H locs ls hP hD hS hl
  refine K H locs ls (hP.set hD he ?_ (fun _ _ => rfl)) (hD.set he) hS hl
  have h0 := hP q _ he
  show H[a]? = some (vp_cell cA (N, gm_Rf g))
  have h1 : H[a]? = some (vp_cell cA (N, gm_Rf f)) := h0
  rw [h1, vp_cell_q, vp_cell_q]
  have e : (Array.ofFn (n := N) fun j => va_rf (f j.val)) = Array.ofFn (n := N) fun j => va_rf (g j.val) := by
    congr 1
    funext j
    rw [hfg j.val j.isLt]
  unfold arrV
  rw [e]
theorem cv_callI (C : cv_X x cc nL own rk kc ks) {y : MethodName} {bytes : ByteArray} {mL kn k' idx h0 mc ms : Nat} {As : List Value} {wc wr : va_W} {F : va_W → Prop} (M : gm_M y bytes mL none kn) (hi : Cond.instanceMethod y ∈ TB) (hy : y.name = "<init>") (hk' : k' + 1 ≤ rk) (hlk : Cond.methodLink own idx y ∈ TB)
    (hM : cc_C (cx_w x) y bytes mL k' mc ms (.ref h0 :: As) wc F) (hw : ws = wc ++ wr) (hn : As.length = kn) (hst : st0 = As.reverse ++ .ref h0 :: st) (hs : (st.map fun v => v.category).sum ≤ 8) (hkc : k + mc ≤ kc) (hks : n + ms ≤ ks) (d : decode cc pc = .ok (.invokespecial idx, 3)) (t : Nat) (ht : pc + 3 = t)
    (K : ∀ w1 : va_W, F w1 → cv_V x (w1 ++ wr) (k + mc) (n + ms) t lv st) : cv_V x ws k n pc lv st0 := by
  subst ht hw
  obtain ⟨r1, r2, r3, r4⟩ := C.2.2.2.2.2.2.2
  obtain ⟨m1, m2, m3, m4⟩ := M
  intro H locs ls hP hD hS hl
  have hPc : va_P (gm_D (cx_w x)) vwCl wc H := vq_P.mpr fun q hq => vq_P.mp hP q (List.mem_append_left _ hq)
  have hDc : va_D (cx_A x) wc := by
    obtain ⟨d1, d2⟩ := vq_D.mp hD
    rw [List.map_append, List.nodup_append] at d1
    exact vq_D.mpr ⟨d1.1, fun q hq => d2 q (List.mem_append_left _ hq)⟩
  have hFc : ∀ q, va_A wc H.size q → cx_A x q := by
    intro q h
    rcases h with ⟨i, e, h⟩ | h
    · exact hDc.2 i (q, e) h
    · exact C.2.2.2.2.2.2.1 q (Nat.le_trans hS.1 h)
  refine va_callv (va_runI (b := h0) (As := As) (rest := st) ⟨C.1, C.2.1, rfl, C.2.2.2.1, C.2.2.2.2.1⟩ (hM H.size) ⟨callB_of kn C.2.2.2.2.1 (gm_in m1) rfl rfl rfl (C.2.2.2.2.1 _ m2) (C.2.2.2.2.1 _ hlk) m3 ⟨by show k' + 1 ≤ _; omega, by show 8 + (mL + 11) + 36 * k' ≤ _; omega⟩, hy, C.2.2.2.2.1 _ hi⟩
    ⟨fun a U g mk q => by obtain ⟨q0, q1, qP, qK, qD⟩ := q; exact ⟨q0, q1, qP, cc_K_same (s := U) (U := U.calling g mk a) rfl qK, qD⟩, fun U hU hW => ⟨rfl, by rw [hU], by rw [hU]; exact hPc, cc_K_warm hW C.2.2.2.2.2.1, hDc.weaken (fun _ _ _ _ => trivial)⟩⟩ rfl hn hl.1 hst (lv_room hs) d ⟨Nat.le_trans hkc r3, Nat.le_trans hks r4⟩) hS (fun q _ h => hFc q h) hFc (fun w1 t H1 locs1 ht hvm hF hB hz1 hk1 hS1 => ?_)
  obtain ⟨hP1, hD1⟩ := hB
  rw [ht] at hP1
  obtain ⟨hP2, hD2⟩ := vq_join hP hD hk1 hFc hP1 hD1
  exact K w1 hF H1 locs1 ls hP2 hD2 hS1 hl
theorem cv_vret (C : cv_X x cc nL own rk kc ks) {F : va_W → Prop} {mc ms : Nat} (E : cv_E x F mc ms) (hF : F ws) (hk : k ≤ mc) (hn : n ≤ ms) (d : decode cc pc = .ok (.return_, 1)) : cv_V x ws k n pc lv [] := by
  intro H locs ls hP hD hS hl
  obtain ⟨-, hr, hlk, hQ⟩ := E
  rw [hQ]
  refine W.widen hk hn ?_
  exact W.vret C.1 C.2.1 hr (fun t ht hW => ⟨⟨ws, rfl, hF, by rw [ht]; exact hP, hD⟩, hS.F ht⟩) hS.2.2 d hlk
end
theorem cc_start {w : gm_Wd} {y : MethodName} {cc : ByteArray} {mL rk mc ms : Nat} {av : List Value} {ws : va_W} {F : va_W → Prop} (hy : plainName y.cls = true) (hyn : y.name = "<init>") (hav : (lg_sl av).length ≤ mL)
    (body : ∀ x : gm_Cx, cx_w x = w → cv_X x cc mL y.cls rk mc ms → cv_E x F mc ms → cv_V x ws 0 0 0 (lv_args 0 av) []) : cc_C w y cc mL rk mc ms av ws F := by
  intro sz
  refine Met.ofW (cc := cc) (maxL := mL) (ret := none) hy rfl ?_
  intro p e s m args below meth c s₁ B hml hv
  obtain ⟨rfl, hsz, hP, hK, hD⟩ := hv
  subst hsz
  have hts := atoms_spec (ws := Cond.code y cc mL none :: TB) B.pre
  have hl := lv_entry av (n := mL) hav
  rw [lg_entry_eq]
  have := body (p, e, { frames := rk, cells := mc, slots := ms, locals := 36 * rk }, s, m, av.toArray, below, meth, c, MQ below (va_Qv F (fun w1 t => va_P (gm_D w) vwCl w1 t.heap ∧ va_D (va_A ws s.heap.size) w1) (va_A ws s.heap.size)) av.toArray s mc ms (va_A ws s.heap.size), va_A ws s.heap.size, (0, 0), w) rfl
    ⟨B.exec, B.bytes, hml, findClass_of_methodNamed B.named, fun q hq => hts q (List.mem_cons_of_mem _ hq), hK, fun _ h => Or.inr h, Nat.le_refl _, Nat.le_refl _, Nat.le_refl _, Nat.le_refl _⟩ ⟨(name_of_methodNamed B.named B.method).1.trans hyn, B.returns, B.notSynchronized, rfl⟩
  exact this s.heap [] _ hP (hD.self) va_S.rf (by rw [hml]; exact hl)
