def gmo_ids : List (Nat × Nat × Nat) := [(7, 5, 0), (8, 5, 0), (8, 5, 1), (8, 5, 2), (8, 5, 3), (8, 5, 4), (9, 5, 0)]
theorem gio_7 : (7, 5, 0) ∈ gmo_ids := by decide +kernel
theorem gio_85 {c : Nat} (h2 : c < 5) : (8, 5, c) ∈ gmo_ids := (by decide +kernel : ∀ c < 5, (8, 5, c) ∈ gmo_ids) c h2
theorem gmo_nd : ∀ i j : Nat, i < 7 → j < 7 → gmo_ids[i]? = gmo_ids[j]? → i = j := by
  intro i j hi hj h
  exact (by decide +kernel : ∀ i < 7, ∀ j < 7, gmo_ids[i]? = gmo_ids[j]? → i = j) i hi j hj h
theorem gmo_ln : gmo_ids.length = 7 := by decide +kernel
def gmo_w (w : gm_Wd) (G : Gm) : va_W := gmo_ids.map fun o => (gm_ad w o.1 o.2.1 o.2.2, gm_cel (gm_cy w) (gm_ad w) (G o.1 o.2.1 o.2.2) o.1 o.2.1 o.2.2)
theorem gmo_at {a b c : Nat} (h : (a, b, c) ∈ gmo_ids) : ∃ k : Nat, gmo_ids[k]? = some (a, b, c) := List.getElem?_of_mem h
theorem gmo_w_at (w : gm_Wd) (G : Gm) {a b c k : Nat} (h : gmo_ids[k]? = some (a, b, c)) : (gmo_w w G)[k]? = some (gm_ad w a b c, gm_cel (gm_cy w) (gm_ad w) (G a b c) a b c) := by
  unfold gmo_w
  rw [List.getElem?_map, h]
  rfl
theorem gmo_inj {i j : Nat} {o : Nat × Nat × Nat} (h1 : gmo_ids[i]? = some o) (h2 : gmo_ids[j]? = some o) : i = j := by
  have a1 := (List.getElem?_eq_some_iff.mp h1).1
  have a2 := (List.getElem?_eq_some_iff.mp h2).1
  rw [gmo_ln] at a1 a2
  exact gmo_nd i j a1 a2 (h1.trans h2.symm)
theorem gmo_set (w : gm_Wd) {G G' : Gm} {a b c k : Nat} (h : gmo_ids[k]? = some (a, b, c)) (hG : ∀ a' b' c', ¬ (a' = a ∧ b' = b ∧ c' = c) → G' a' b' c' = G a' b' c') : (gmo_w w G).set k (gm_ad w a b c, gm_cel (gm_cy w) (gm_ad w) (G' a b c) a b c) = gmo_w w G' := by
  apply List.ext_getElem?
  intro j
  rw [List.getElem?_set]
  by_cases hj : k = j
  · subst hj
    have hl : k < (gmo_w w G).length := by
      unfold gmo_w
      rw [List.length_map]
      exact (List.getElem?_eq_some_iff.mp h).1
    rw [if_pos rfl, if_pos hl, gmo_w_at w G' h]
  · rw [if_neg hj]
    unfold gmo_w
    rw [List.getElem?_map, List.getElem?_map]
    cases ho : gmo_ids[j]? with
    | none => rfl
    | some o =>
      obtain ⟨a', b', c'⟩ := o
      have hne : ¬ (a' = a ∧ b' = b ∧ c' = c) := by
        rintro ⟨rfl, rfl, rfl⟩
        exact hj (gmo_inj h ho)
      simp only [Option.map_some]
      rw [hG a' b' c' hne]
def gmo_A (w : gm_Wd) : Nat → Prop := fun q => ∃ a b c : Nat, (a, b, c) ∈ gmo_ids ∧ q = gm_ad w a b c
def gmo_J (w : gm_Wd) : Prop := ∀ a b c a' b' c' : Nat, (a, b, c) ∈ gmo_ids → (a', b', c') ∈ gmo_ids → gm_ad w a b c = gm_ad w a' b' c' → (a, b, c) = (a', b', c')
theorem gmo_dis {w : gm_Wd} (hJ : gmo_J w) (G : Gm) : va_D (gmo_A w) (gmo_w w G) := by
  have key : ∀ (i : Nat) (p : Nat × va_E), (gmo_w w G)[i]? = some p → ∃ a b c, gmo_ids[i]? = some (a, b, c) ∧ p.1 = gm_ad w a b c := by
    intro i p h
    unfold gmo_w at h
    rw [List.getElem?_map] at h
    cases ho : gmo_ids[i]? with
    | none => rw [ho] at h; cases h
    | some o =>
      obtain ⟨a, b, c⟩ := o
      rw [ho] at h
      exact ⟨a, b, c, rfl, by rw [← Option.some.inj h]⟩
  refine ⟨fun i j p q h1 h2 he => ?_, fun k q h => ?_⟩
  · obtain ⟨a, b, c, g1, e1⟩ := key i p h1
    obtain ⟨a', b', c', g2, e2⟩ := key j q h2
    have := hJ a b c a' b' c' (List.mem_of_getElem? g1) (List.mem_of_getElem? g2) (by rw [← e1, ← e2, he])
    rw [this] at g1
    exact gmo_inj g1 g2
  · obtain ⟨a, b, c, g1, e1⟩ := key k q h
    exact ⟨a, b, c, List.mem_of_getElem? g1, e1⟩
def gmo_C (w : gm_Wd) (y : MethodName) (cc : ByteArray) (mL : Nat) (ret : Option FieldType) (rk : Nat) (av : List Value) (G : Gm) (r : Option Value) (G' : Gm) : Prop :=
  Met w.1 y (Cond.code y cc mL ret :: TB) (gm_rm rk) (va_Pc av (fun U => va_P (gm_D w) vwCl (gmo_w w G) U.heap ∧ gm_K w U ∧ gmo_J w))
    (fun _ st oc t => (oc = .returned r ∧ va_P (gm_D w) vwCl (gmo_w w G') t.heap) ∧ va_F (gmo_A w) st t) 0 0 (gmo_A w)
def gmo_X (x : gm_Cx) (cc : ByteArray) (nL : Nat) (own : String) (ret : Option FieldType) (rk : Nat) : Prop :=
  (cx_p x).tables.exec = Jvm.exec ∧ (cx_c x).code = cc ∧ (cx_c x).maxLocals = nL ∧ (cx_s x).vm.findClass own = some (cx_m x).cls ∧ (∀ w ∈ TB, w.before (cx_args x) (cx_s x) = true) ∧ gm_K (cx_w x) (cx_s x) ∧ gmo_J (cx_w x) ∧ (cx_meth x).sig.returnType = ret ∧ (cx_meth x).locks = false ∧ (∀ q, gmo_A (cx_w x) q → cx_A x q) ∧ (rk ≤ (cx_R x).frames ∧ 36 * rk ≤ (cx_R x).locals ∧ (cx_k x).1 ≤ (cx_R x).cells ∧ (cx_k x).2 ≤ (cx_R x).slots)
def gmo_V (x : gm_Cx) (G : Gm) (pc : Nat) (lv : List (Nat × Value)) (st : List Value) : Prop :=
  ∀ (H : Heap) (locs : List Loc) (ls : Array Slot), va_P (gm_D (cx_w x)) vwCl (gmo_w (cx_w x) G) H → va_S (cx_A x) (cx_s x).heap H locs → lv_has ls (cx_c x).maxLocals lv → W (cx_p x) (cx_w x).1 (cx_e x) (cx_R x) (cx_s x) (cx_m x) (cx_args x) (cx_below x) (cx_meth x) (cx_c x) H locs (cx_k x).1 (cx_k x).2 (cx_Q x) (F0 (cx_m x) pc ls st)
section
variable {x : gm_Cx} {cc : ByteArray} {nL : Nat} {own : String} {ret : Option FieldType} {rk : Nat} {G : Gm} {pc : Nat} {lv : List (Nat × Value)} {st : List Value}
theorem gvo_iconst (C : gmo_X x cc nL own ret rk) {z : Int} (v : Int32) (hv : Int32.ofInt z = v) (d : decode cc pc = .ok (.iconst z, 1)) (n : Nat) (hn : pc + 1 = n) (k : gmo_V x G n lv (.int v :: st)) : gmo_V x G pc lv (st) := by
  subst hn
  exact fun H locs ls hP hS hl => lv_iconst C.1 C.2.1 d hv (k H locs ls hP hS hl)
theorem gvo_bipush (C : gmo_X x cc nL own ret rk) {z : Int} (v : Int32) (hv : (Int8.ofInt z).toInt32 = v) (d : decode cc pc = .ok (.bipush z, 2)) (n : Nat) (hn : pc + 2 = n) (k : gmo_V x G n lv (.int v :: st)) : gmo_V x G pc lv (st) := by
  subst hn
  exact fun H locs ls hP hS hl => lv_bipush C.1 C.2.1 d hv (k H locs ls hP hS hl)
theorem gvo_sipush (C : gmo_X x cc nL own ret rk) {z : Int} (v : Int32) (hv : (Int16.ofInt z).toInt32 = v) (d : decode cc pc = .ok (.sipush z, 3)) (n : Nat) (hn : pc + 3 = n) (k : gmo_V x G n lv (.int v :: st)) : gmo_V x G pc lv (st) := by
  subst hn
  exact fun H locs ls hP hS hl => lv_sipush C.1 C.2.1 d hv (k H locs ls hP hS hl)
theorem gvo_iload_n (C : gmo_X x cc nL own ret rk) {j : Fin 4} {i : Nat} {v : Int32} (hi : (j : Nat) = i) (q : Nat) (hq : lv[q]? = some (i, .int v)) (d : decode cc pc = .ok (.iload_n j, 1)) (n : Nat) (hn : pc + 1 = n) (k : gmo_V x G n lv (.int v :: st)) : gmo_V x G pc lv (st) := by
  subst hn
  exact fun H locs ls hP hS hl => lv_iload_n C.1 C.2.1 d hi (lv_at hl q hq) (k H locs ls hP hS hl)
theorem gvo_aload_n (C : gmo_X x cc nL own ret rk) {j : Fin 4} {i : Nat} {v : Nat} (hi : (j : Nat) = i) (q : Nat) (hq : lv[q]? = some (i, .ref v)) (d : decode cc pc = .ok (.aload_n j, 1)) (n : Nat) (hn : pc + 1 = n) (k : gmo_V x G n lv (.ref v :: st)) : gmo_V x G pc lv (st) := by
  subst hn
  exact fun H locs ls hP hS hl => lv_aload_n C.1 C.2.1 d hi (lv_at hl q hq) (k H locs ls hP hS hl)
theorem gvo_iadd (C : gmo_X x cc nL own ret rk) {a b : Int32} (d : decode cc pc = .ok (.iadd, 1)) (n : Nat) (hn : pc + 1 = n) (k : gmo_V x G n lv (.int (a + b) :: st)) : gmo_V x G pc lv (.int b :: .int a :: st) := by
  subst hn
  exact fun H locs ls hP hS hl => lv_iadd C.1 C.2.1 d (k H locs ls hP hS hl)
theorem gvo_imul (C : gmo_X x cc nL own ret rk) {a b : Int32} (d : decode cc pc = .ok (.imul, 1)) (n : Nat) (hn : pc + 1 = n) (k : gmo_V x G n lv (.int (a * b) :: st)) : gmo_V x G pc lv (.int b :: .int a :: st) := by
  subst hn
  exact fun H locs ls hP hS hl => lv_imul C.1 C.2.1 d (k H locs ls hP hS hl)
theorem gvo_istore_n (C : gmo_X x cc nL own ret rk) {j : Fin 4} {i : Nat} {v : Int32} (hi : (j : Nat) = i) (lv' : List (Nat × Value)) (hi' : i < nL) (hlv : (i, Value.int v) :: lv.filter (fun q => !(q.1 == i) && !(q.1 + 1 == i && q.2.category == 2)) = lv') (d : decode cc pc = .ok (.istore_n j, 1)) (n : Nat) (hn : pc + 1 = n) (k : gmo_V x G n lv' (st)) : gmo_V x G pc lv (.int v :: st) := by
  subst hn
  exact fun H locs ls hP hS hl => lv_istore_n C.1 C.2.1 d hi hl (by rw [C.2.2.1]; exact hi') hlv (fun ls' hl' => k H locs ls' hP hS hl')
theorem gvo_iinc (C : gmo_X x cc nL own ret rk) {i : Nat} {z : Int} {v u : Int32} (q : Nat) (hq : lv[q]? = some (i, .int v)) (hu : v + Int32.ofInt z = u) (lv' : List (Nat × Value)) (hi' : i < nL) (hlv : (i, Value.int u) :: lv.filter (fun q => !(q.1 == i) && !(q.1 + 1 == i && q.2.category == 2)) = lv') (d : decode cc pc = .ok (.iinc i z, 3)) (n : Nat) (hn : pc + 3 = n) (k : gmo_V x G n lv' (st)) : gmo_V x G pc lv (st) := by
  subst hn
  exact fun H locs ls hP hS hl => lv_iinc C.1 C.2.1 d hl hq hu (by rw [C.2.2.1]; exact hi') hlv (fun ls' hl' => k H locs ls' hP hS hl')
theorem gvo_icmp_ge (C : gmo_X x cc nL own ret rk) {a b : Int32} {o : Int} (d : decode cc pc = .ok (.if_icmp .ge o, 3)) (t : Nat) (ht : (pc : Int) + o = (t : Int)) (n : Nat) (hn : pc + 3 = n) (kp : b ≤ a → gmo_V x G t lv st) (kn : ¬ b ≤ a → gmo_V x G n lv st) : gmo_V x G pc lv (.int b :: .int a :: st) := by
  subst hn
  exact fun H locs ls hP hS hl => lv_icmp_ge C.1 C.2.1 d ht (fun c => kp c H locs ls hP hS hl) (fun c => kn c H locs ls hP hS hl)
theorem gvo_goto (C : gmo_X x cc nL own ret rk) {o : Int} (d : decode cc pc = .ok (.goto o, 3)) (t : Nat) (ht : (pc : Int) + o = (t : Int)) (k : gmo_V x G t lv st) : gmo_V x G pc lv st := fun H locs ls hP hS hl => lv_goto C.1 C.2.1 d ht (k H locs ls hP hS hl)
theorem gvo_getf (C : gmo_X x cc nL own ret rk) {a b c ci i N idx : Nat} {fs : List Value} {v : Value} {Cn : String} {T : u_T} (hid : (a, b, c) ∈ gmo_ids) (hc : gm_cel (gm_cy (cx_w x)) (gm_ad (cx_w x)) (G a b c) a b c = .inr (ci, fs)) (hcl : vwCl[ci]? = some (Cn, T, N)) (hin : ∀ w ∈ u_ws Cn T N, w ∈ TB) (hi : i < N) (hv : fs[i]? = some v) (hlk : Cond.fieldLink own idx (T i).1 (T i).2.1 (T i).2.2.1 ∈ TB) (d : decode cc pc = .ok (.getfield idx, 3)) (n : Nat) (hn : pc + 3 = n) (k : gmo_V x G n lv (v :: st)) : gmo_V x G pc lv (.ref (gm_ad (cx_w x) a b c) :: st) := by
  subst hn
  obtain ⟨q, hq⟩ := gmo_at hid
  have he := gmo_w_at (cx_w x) G hq
  rw [hc] at he
  exact fun H locs ls hP hS hl => va_get C.1 C.2.1 C.2.2.2.2.1 hin C.2.2.2.1 C.2.2.2.2.2.1.1 hP q he hcl i hi (C.2.2.2.2.1 _ hlk) (fun _ h => h) hv d (k H locs ls hP hS hl)
theorem gvo_iast (C : gmo_X x cc nL own ret rk) {b c m : Nat} {i v : Int32} (hid : (8, b, c) ∈ gmo_ids) (hm : gm_len b c = m) (g : ¬ (i < 0 ∨ m ≤ i.toNatClampNeg)) (d : decode cc pc = .ok (.iastore, 1)) (n : Nat) (hn : pc + 1 = n) (k : gmo_V x (gm_up G 8 b c i.toNatClampNeg v) n lv st) : gmo_V x G pc lv (.int v :: .int i :: .ref (gm_ad (cx_w x) 8 b c) :: st) := by
  subst hn hm
  obtain ⟨q, hq⟩ := gmo_at hid
  have he := gmo_w_at (cx_w x) G hq
  have hset := gmo_set (cx_w x) (G := G) (G' := gm_up G 8 b c i.toNatClampNeg v) hq gm_up_ne
  rw [gm_up_at] at hset
  intro H locs ls hP hS hl
  refine va_iast C.1 C.2.1 C.2.2.2.2.2.1.1 hP ((gmo_dis C.2.2.2.2.2.2.1 G).weaken (fun _ q _ h => C.2.2.2.2.2.2.2.2.2.1 q.1 h)) hS q 0 he rfl g d (fun H1 locs1 hP1 _ hS1 => k H1 locs1 ls ?_ hS1 hl)
  rw [← hset]
  exact hP1
def gmo_Qc (w : gm_Wd) (r : Option Value) (G' : Gm) : Array Value → State → Outcome → State → Prop := fun _ st oc t => (oc = .returned r ∧ va_P (gm_D w) vwCl (gmo_w w G') t.heap) ∧ va_F (gmo_A w) st t
def gmo_E (x : gm_Cx) (r : Option Value) (G' : Gm) : Prop := cx_Q x = MQ (cx_below x) (gmo_Qc (cx_w x) r G') (cx_args x) (cx_s x) (cx_k x).1 (cx_k x).2 (gmo_A (cx_w x)) ∧ cx_A x = gmo_A (cx_w x)
theorem gvo_vret (C : gmo_X x cc nL own none rk) {r : Option Value} {G' : Gm} (E : gmo_E x r G') (h1 : none = r) (h2 : G = G') (d : decode cc pc = .ok (.return_, 1)) : gmo_V x G pc lv [] := by
  subst h1 h2
  intro H locs ls hP hS hl
  obtain ⟨hQ, hA⟩ := E
  rw [hA] at hS
  rw [hQ]
  exact W.vret C.1 C.2.1 C.2.2.2.2.2.2.2.1 (fun t ht hW => ⟨⟨rfl, by rw [ht]; exact hP⟩, hS.F ht⟩) hS.2.2 d C.2.2.2.2.2.2.2.2.1
theorem gmo_lv {lv' : List (Nat × Value)} (h : lv = lv') (k : gmo_V x G pc lv' st) : gmo_V x G pc lv st := h ▸ k
theorem gmo_ls (ks : List Nat) {lv' : List (Nat × Value)} (h : lv_pick lv ks = lv') (k : gmo_V x G pc lv' st) : gmo_V x G pc lv st := fun H locs ls hP hS hl => k H locs ls hP hS (lv_sub hl ks h)
end
theorem gmo_start {w : gm_Wd} {y : MethodName} {cc : ByteArray} {mL : Nat} {ret : Option FieldType} {rk : Nat} {av : List Value} {G : Gm} {r : Option Value} {G' : Gm} (hy : plainName y.cls = true) (hav : (lg_sl av).length ≤ mL)
    (body : ∀ x : gm_Cx, cx_w x = w → gmo_X x cc mL y.cls ret rk → gmo_E x r G' → gmo_V x G 0 (lv_args 0 av) []) : gmo_C w y cc mL ret rk av G r G' := by
  refine Met.ofW (cc := cc) (maxL := mL) (ret := ret) hy rfl ?_
  intro p e s m args below meth c s₁ B hml hv
  obtain ⟨rfl, hP, hK, hJ⟩ := hv
  have hts := atoms_spec (ws := Cond.code y cc mL ret :: TB) B.pre
  have hl := lv_entry av (n := mL) hav
  rw [lg_entry_eq]
  have := body (p, e, gm_rm rk, s, m, av.toArray, below, meth, c, MQ below (gmo_Qc w r G') av.toArray s 0 0 (gmo_A w), gmo_A w, (0, 0), w) rfl
    ⟨B.exec, B.bytes, hml, findClass_of_methodNamed B.named, fun q hq => hts q (List.mem_cons_of_mem _ hq), hK, hJ, B.returns, B.notSynchronized, fun _ h => h, Nat.le_refl _, Nat.le_refl _, Nat.le_refl _, Nat.le_refl _⟩ ⟨rfl, rfl⟩
  exact this s.heap [] _ hP va_S.rf (by rw [hml]; exact hl)
section
variable {x : gm_Cx} {cc : ByteArray} {nL : Nat} {own : String} {ret : Option FieldType} {rk : Nat} {G G1 : Gm} {pc : Nat} {lv : List (Nat × Value)} {st st0 : List Value}
  {y : MethodName} {bytes : ByteArray} {mL : Nat} {rt : Option FieldType} {kn k' idx : Nat} {r : Option Value} {As : List Value}
theorem gmo_pre (C : gmo_X x cc nL own ret rk) {av : List Value} {H : Heap} (hP : va_P (gm_D (cx_w x)) vwCl (gmo_w (cx_w x) G) H) : PreS (cx_s x) H (va_Pc av (fun U => va_P (gm_D (cx_w x)) vwCl (gmo_w (cx_w x) G) U.heap ∧ gm_K (cx_w x) U ∧ gmo_J (cx_w x))) av :=
  ⟨fun a U g mk q => by obtain ⟨q0, qP, qK, qJ⟩ := q; exact ⟨q0, qP, gm_K_same (s := U) (U := U.calling g mk a) rfl qK, qJ⟩, fun U hU hW => ⟨rfl, by rw [hU]; exact hP, gm_K_warm hW C.2.2.2.2.2.1, C.2.2.2.2.2.2.1⟩⟩
theorem gmo_back (C : gmo_X x cc nL own ret rk) {H : Heap} {locs : List Loc} {ls : Array Slot} {a : Array Value} (hS : va_S (cx_A x) (cx_s x).heap H locs) (hl : lv_has ls (cx_c x).maxLocals lv)
    (hr : va_Run (cx_p x) (cx_w x).1 (cx_e x) (cx_R x) (cx_s x) (cx_m x) (cx_args x) (cx_below x) (cx_meth x) (cx_c x) H locs (cx_k x).1 (cx_k x).2 0 0 (F0 (cx_m x) pc ls st0) st ((fun _ st oc t => (oc = .returned r ∧ va_P (gm_D (cx_w x)) vwCl (gmo_w (cx_w x) G1) t.heap) ∧ va_F (gmo_A (cx_w x)) st t : Array Value → State → Outcome → State → Prop) a) (gmo_A (cx_w x)))
    (k : gmo_V x G1 (pc + 3) lv (r.toList ++ st)) : W (cx_p x) (cx_w x).1 (cx_e x) (cx_R x) (cx_s x) (cx_m x) (cx_args x) (cx_below x) (cx_meth x) (cx_c x) H locs (cx_k x).1 (cx_k x).2 (cx_Q x) (F0 (cx_m x) pc ls st0) := by
  have hA := C.2.2.2.2.2.2.2.2.2.1
  intro T hT X
  obtain ⟨v, st₀, t, T', L, h0, X', hL, e1, e2, ⟨⟨hv, hP1⟩, hz, hk⟩, sp⟩ := hr T hT X
  cases hv
  rw [h0] at hz hk
  obtain ⟨t2, a1, b1⟩ := k T'.heap (locs ++ L) ls (by rw [e1]; exact hP1)
    ⟨Nat.le_trans hS.1 (by rw [e1]; exact hz), fun q h1 h2 => by rw [e1, hk q (Nat.lt_of_lt_of_le h1 hS.1) (fun z => h2 (hA q z))]; exact hS.2.1 q h1 h2, fun q hq => by
      rcases List.mem_append.mp hq with h | h
      · exact hS.2.2 q h
      · exact hA _ (hL q h)⟩ hl T' rfl X'
  exact ⟨t2, sp t2 a1, b1⟩
theorem gmo_B (C : gmo_X x cc nL own ret rk) (M : gm_M y bytes mL rt kn) (hk : k' + 1 ≤ rk) (hlk : Cond.methodLink own idx y ∈ TB) : CallB (cx_R x) (cx_s x) (cx_args x) own idx y bytes mL rt (Cond.code y bytes mL rt :: TB) (gm_rm k') 0 0 kn := by
  obtain ⟨r1, r2, r3, r4⟩ := C.2.2.2.2.2.2.2.2.2.2
  obtain ⟨m1, m2, m3, m4⟩ := M
  exact callB_of kn C.2.2.2.2.1 (gm_in m1) rfl rfl rfl (C.2.2.2.2.1 _ m2) (C.2.2.2.2.1 _ hlk) m3 ⟨by show k' + 1 ≤ _; omega, by show 8 + (mL + 11) + 36 * k' ≤ _; omega⟩
theorem gvo_callV (C : gmo_X x cc nL own ret rk) (M : gm_M y bytes mL rt kn) (M2 : Cond.instanceMethod y ∈ TB ∧ Cond.selects y.cls y y ∈ TB) (hk : k' + 1 ≤ rk) (hlk : Cond.methodLink own idx y ∈ TB)
    {a b c ci : Nat} {q : vw_C} (hid : (a, b, c) ∈ gmo_ids) (hc : ∃ fs, gm_cel (gm_cy (cx_w x)) (gm_ad (cx_w x)) (G a b c) a b c = .inr (ci, fs)) (hq : vwCl[ci]? = some q) (hqy : q.1 = y.cls)
    (hM : gmo_C (cx_w x) y bytes mL rt k' (.ref (gm_ad (cx_w x) a b c) :: As) G r G1) (hn : As.length = kn) (hst : st0 = As.reverse ++ .ref (gm_ad (cx_w x) a b c) :: st) (hs : (st.map fun v => v.category).sum ≤ 8) (d : decode cc pc = .ok (.invokevirtual idx, 3)) (n : Nat) (hpc : pc + 3 = n) (k : gmo_V x G1 n lv (r.toList ++ st)) : gmo_V x G pc lv st0 := by
  subst hpc
  intro H locs ls hP hS hl
  obtain ⟨k0, hk0⟩ := gmo_at hid
  have he := gmo_w_at (cx_w x) G hk0
  obtain ⟨fs, hc⟩ := hc
  rw [hc] at he
  have hrv := va_recv C.2.2.2.2.2.1.1 hP hq he
  rw [hqy] at hrv
  refine gmo_back (a := (Value.ref (gm_ad (cx_w x) a b c) :: As).toArray) C hS hl (va_runV (b := gm_ad (cx_w x) a b c) (As := As) (rest := st) (C := y.cls) ⟨C.1, C.2.1, rfl, C.2.2.2.1, C.2.2.2.2.1⟩ hM ⟨gmo_B C M hk hlk, C.2.2.2.2.1 _ M2.1, C.2.2.2.2.1 _ M2.2⟩ ⟨(gmo_pre C hP).1, hrv, (gmo_pre C hP).2⟩ rfl hn hl.1 hst (lv_room hs) d ⟨?_, ?_⟩) k
  · have := C.2.2.2.2.2.2.2.2.2.2.2.2.1; omega
  · have := C.2.2.2.2.2.2.2.2.2.2.2.2.2; omega
end
section
variable {x : gm_Cx} {cc : ByteArray} {nL : Nat} {own : String} {ret : Option FieldType} {rk : Nat} {G G1 : Gm} {pc : Nat} {lv : List (Nat × Value)} {st st0 : List Value}
  {y : MethodName} {bytes : ByteArray} {mL : Nat} {rt : Option FieldType} {kn k' idx : Nat} {As : List Value}
theorem gfo_7_0 (C : gmo_X x cc nL own ret rk) {b c : Nat} (hid : (7, b, c) ∈ gmo_ids) (hlk : Cond.fieldLink own idx "BlockBellsModel" "at" "[I" ∈ TB) (d : decode cc pc = .ok (.getfield idx, 3)) (n : Nat) (hn : pc + 3 = n) (k : gmo_V x G n lv (.ref (gm_ad (cx_w x) 8 5 0) :: st)) : gmo_V x G pc lv (.ref (gm_ad (cx_w x) 7 b c) :: st) := gvo_getf (ci := 7) (i := 0) (T := TX7) (N := 10) C hid rfl rfl iwX7 (by decide) rfl hlk d n hn k
theorem gvo_callVv (C : gmo_X x cc nL own ret rk) (M : gm_M y bytes mL rt kn) (M2 : Cond.instanceMethod y ∈ TB ∧ Cond.selects y.cls y y ∈ TB) (hk : k' + 1 ≤ rk) (hlk : Cond.methodLink own idx y ∈ TB) {a b c ci : Nat} {q : vw_C} (hid : (a, b, c) ∈ gmo_ids) (hc : ∃ fs, gm_cel (gm_cy (cx_w x)) (gm_ad (cx_w x)) (G a b c) a b c = .inr (ci, fs)) (hq : vwCl[ci]? = some q) (hqy : q.1 = y.cls) (hM : gmo_C (cx_w x) y bytes mL rt k' (.ref (gm_ad (cx_w x) a b c) :: As) G none G1) (hn : As.length = kn) (hst : st0 = As.reverse ++ .ref (gm_ad (cx_w x) a b c) :: st) (hs : (st.map fun v => v.category).sum ≤ 8) (d : decode cc pc = .ok (.invokevirtual idx, 3)) (n : Nat) (hpc : pc + 3 = n) (k : gmo_V x G1 n lv (st)) : gmo_V x G pc lv st0 := gvo_callV C M M2 hk hlk hid hc hq hqy hM hn hst hs d n hpc k
theorem gvo_iastK (C : gmo_X x cc nL own ret rk) {b c m : Nat} {i v : Int32} (z : Nat) (hz : i.toNatClampNeg = z) (hid : (8, b, c) ∈ gmo_ids) (hm : gm_len b c = m) (g : ¬ (i < 0 ∨ m ≤ i.toNatClampNeg)) (d : decode cc pc = .ok (.iastore, 1)) (n : Nat) (hn : pc + 1 = n) (k : gmo_V x (gm_up G 8 b c z v) n lv st) : gmo_V x G pc lv (.int v :: .int i :: .ref (gm_ad (cx_w x) 8 b c) :: st) := by
  subst hz
  exact gvo_iast C hid hm g d n hn k
end
set_option maxRecDepth 100000 in
set_option maxHeartbeats 4000000 in
theorem koX7_layBlocks (w : gm_Wd) (G : Gm) (q : Gm) (h : fX7_layBlocks G = some q) : gmo_C w yX7_layBlocks cX7_layBlocks 2 none 0 [.ref (gm_ad w 7 5 0)] G none q := by
  refine gmo_start (by decide) (Nat.le_of_ble_eq_true rfl) ?_
  intro x hw C E
  subst hw
  have C : gmo_X x cX7_layBlocks 2 RX7 none 0 := C
  unfold fX7_layBlocks at h
  have L2 : ∀ (n2 : Nat) (v1 : Int32) (G : Gm), fX7_layBlocks_h2 n2 v1 G = some q → gmo_V x G 2 [(0, .ref (gm_ad (cx_w x) 7 5 0)), (1, .int v1)] [] := by
    intro n2
    induction n2 with
    | zero => intro v1 G h; cases h
    | succ n2 ih2 =>
      intro v1 G h
      rw [fX7_layBlocks_h2.eq_2] at h
      refine gvo_iload_n C rfl 1 rfl dX7_layBlocks_2 3 rfl ?_
      refine gvo_bipush C 10 rfl dX7_layBlocks_3 5 rfl ?_
      refine gvo_icmp_ge C dX7_layBlocks_5 86 (by decide) 8 rfl (fun c1 => ?_) (fun c1 => ?_)
      · replace h := gm_ip c1 h
        obtain rfl := Option.some.inj h
        exact gvo_vret C E rfl rfl dX7_layBlocks_86
      · replace h := gm_iq c1 h
        refine gvo_aload_n C rfl 0 rfl dX7_layBlocks_8 9 rfl ?_
        refine gfo_7_0 C gio_7 lkX7_7 dX7_layBlocks_9 12 rfl ?_
        refine gvo_bipush C 30 rfl dX7_layBlocks_12 14 rfl ?_
        refine gvo_iconst C 5 rfl dX7_layBlocks_14 15 rfl ?_
        refine gvo_iload_n C rfl 1 rfl dX7_layBlocks_15 16 rfl ?_
        refine gvo_imul C dX7_layBlocks_16 17 rfl ?_
        refine gvo_iadd C dX7_layBlocks_17 18 rfl ?_
        refine gvo_iconst C 0 rfl dX7_layBlocks_18 19 rfl ?_
        refine gvo_iadd C dX7_layBlocks_19 20 rfl ?_
        refine gvo_iconst C 0 rfl dX7_layBlocks_20 21 rfl ?_
        obtain ⟨g2, h⟩ := gm_gis h
        refine gvo_iast C (gio_85 (c := 0) (by decide)) rfl g2 dX7_layBlocks_21 22 rfl ?_
        refine gvo_aload_n C rfl 0 rfl dX7_layBlocks_22 23 rfl ?_
        refine gfo_7_0 C gio_7 lkX7_7 dX7_layBlocks_23 26 rfl ?_
        refine gvo_bipush C 30 rfl dX7_layBlocks_26 28 rfl ?_
        refine gvo_iconst C 5 rfl dX7_layBlocks_28 29 rfl ?_
        refine gvo_iload_n C rfl 1 rfl dX7_layBlocks_29 30 rfl ?_
        refine gvo_imul C dX7_layBlocks_30 31 rfl ?_
        refine gvo_iadd C dX7_layBlocks_31 32 rfl ?_
        refine gvo_iconst C 1 rfl dX7_layBlocks_32 33 rfl ?_
        refine gvo_iadd C dX7_layBlocks_33 34 rfl ?_
        refine gvo_bipush C (-6) rfl dX7_layBlocks_34 36 rfl ?_
        obtain ⟨g3, h⟩ := gm_gis h
        refine gvo_iast C (gio_85 (c := 0) (by decide)) rfl g3 dX7_layBlocks_36 37 rfl ?_
        refine gvo_aload_n C rfl 0 rfl dX7_layBlocks_37 38 rfl ?_
        refine gfo_7_0 C gio_7 lkX7_7 dX7_layBlocks_38 41 rfl ?_
        refine gvo_bipush C 30 rfl dX7_layBlocks_41 43 rfl ?_
        refine gvo_iconst C 5 rfl dX7_layBlocks_43 44 rfl ?_
        refine gvo_iload_n C rfl 1 rfl dX7_layBlocks_44 45 rfl ?_
        refine gvo_imul C dX7_layBlocks_45 46 rfl ?_
        refine gvo_iadd C dX7_layBlocks_46 47 rfl ?_
        refine gvo_iconst C 2 rfl dX7_layBlocks_47 48 rfl ?_
        refine gvo_iadd C dX7_layBlocks_48 49 rfl ?_
        refine gvo_bipush C (-6) rfl dX7_layBlocks_49 51 rfl ?_
        obtain ⟨g4, h⟩ := gm_gis h
        refine gvo_iast C (gio_85 (c := 0) (by decide)) rfl g4 dX7_layBlocks_51 52 rfl ?_
        refine gvo_aload_n C rfl 0 rfl dX7_layBlocks_52 53 rfl ?_
        refine gfo_7_0 C gio_7 lkX7_7 dX7_layBlocks_53 56 rfl ?_
        refine gvo_bipush C 30 rfl dX7_layBlocks_56 58 rfl ?_
        refine gvo_iconst C 5 rfl dX7_layBlocks_58 59 rfl ?_
        refine gvo_iload_n C rfl 1 rfl dX7_layBlocks_59 60 rfl ?_
        refine gvo_imul C dX7_layBlocks_60 61 rfl ?_
        refine gvo_iadd C dX7_layBlocks_61 62 rfl ?_
        refine gvo_iconst C 3 rfl dX7_layBlocks_62 63 rfl ?_
        refine gvo_iadd C dX7_layBlocks_63 64 rfl ?_
        refine gvo_iconst C 0 rfl dX7_layBlocks_64 65 rfl ?_
        obtain ⟨g5, h⟩ := gm_gis h
        refine gvo_iast C (gio_85 (c := 0) (by decide)) rfl g5 dX7_layBlocks_65 66 rfl ?_
        refine gvo_aload_n C rfl 0 rfl dX7_layBlocks_66 67 rfl ?_
        refine gfo_7_0 C gio_7 lkX7_7 dX7_layBlocks_67 70 rfl ?_
        refine gvo_bipush C 30 rfl dX7_layBlocks_70 72 rfl ?_
        refine gvo_iconst C 5 rfl dX7_layBlocks_72 73 rfl ?_
        refine gvo_iload_n C rfl 1 rfl dX7_layBlocks_73 74 rfl ?_
        refine gvo_imul C dX7_layBlocks_74 75 rfl ?_
        refine gvo_iadd C dX7_layBlocks_75 76 rfl ?_
        refine gvo_iconst C 4 rfl dX7_layBlocks_76 77 rfl ?_
        refine gvo_iadd C dX7_layBlocks_77 78 rfl ?_
        refine gvo_iconst C 0 rfl dX7_layBlocks_78 79 rfl ?_
        obtain ⟨g6, h⟩ := gm_gis h
        refine gvo_iast C (gio_85 (c := 0) (by decide)) rfl g6 dX7_layBlocks_79 80 rfl ?_
        refine gvo_iinc C 1 rfl rfl [(1, _), (0, _)] (by decide) rfl dX7_layBlocks_80 83 rfl ?_
        refine gvo_goto C dX7_layBlocks_83 2 (by decide) ?_
        refine gmo_ls [1, 0] rfl ?_
        exact ih2 _ _ h
  refine gmo_lv (lv' := [(0, _)]) rfl ?_
  refine gvo_iconst C 0 rfl dX7_layBlocks_0 1 rfl ?_
  refine gvo_istore_n C rfl [(1, _), (0, _)] (by decide) rfl dX7_layBlocks_1 2 rfl ?_
  refine gmo_ls [1, 0] rfl ?_
  exact L2 _ _ _ h
set_option maxRecDepth 100000 in
set_option maxHeartbeats 4000000 in
theorem koX7_lay (w : gm_Wd) (a1 a2 : Int32) (G : Gm) (q : Gm) (h : fX7_lay a1 a2 G = some q) : gmo_C w yX7_lay cX7_lay 4 none 1 [.ref (gm_ad w 7 5 0), .int a1, .int a2] G none q := by
  refine gmo_start (by decide) (Nat.le_of_ble_eq_true rfl) ?_
  intro x hw C E
  subst hw
  have C : gmo_X x cX7_lay 4 RX7 none 1 := C
  unfold fX7_lay at h
  have L86 : ∀ (n86 : Nat) (v3 : Int32) (G : Gm), fX7_lay_h86 a1 a2 n86 v3 G = some q → gmo_V x G 86 [(0, .ref (gm_ad (cx_w x) 7 5 0)), (1, .int a1), (2, .int a2), (3, .int v3)] [] := by
    intro n86
    induction n86 with
    | zero => intro v3 G h; cases h
    | succ n86 ih86 =>
      intro v3 G h
      rw [fX7_lay_h86.eq_2] at h
      refine gvo_iload_n C rfl 3 rfl dX7_lay_86 87 rfl ?_
      refine gvo_bipush C 12 rfl dX7_lay_87 89 rfl ?_
      refine gvo_icmp_ge C dX7_lay_89 108 (by decide) 92 rfl (fun c3 => ?_) (fun c3 => ?_)
      · replace h := gm_ip c3 h
        refine gvo_aload_n C rfl 0 rfl dX7_lay_108 109 rfl ?_
        obtain ⟨q4, hq4, h⟩ := gm_bd h
        refine gvo_callVv C mc_yX7_layBlocks ⟨mi_yX7_layBlocks, me_yX7_layBlocks⟩ (by decide) mkX7_33 gio_7 ⟨_, rfl⟩ rfl rfl (koX7_layBlocks _  _ _ hq4) rfl rfl (Nat.le_of_ble_eq_true rfl) dX7_lay_109 112 rfl ?_
        obtain rfl := Option.some.inj h
        exact gvo_vret C E rfl rfl dX7_lay_112
      · replace h := gm_iq c3 h
        refine gvo_aload_n C rfl 0 rfl dX7_lay_92 93 rfl ?_
        refine gfo_7_0 C gio_7 lkX7_7 dX7_lay_93 96 rfl ?_
        refine gvo_bipush C 18 rfl dX7_lay_96 98 rfl ?_
        refine gvo_iload_n C rfl 3 rfl dX7_lay_98 99 rfl ?_
        refine gvo_iadd C dX7_lay_99 100 rfl ?_
        refine gvo_iconst C 1 rfl dX7_lay_100 101 rfl ?_
        obtain ⟨g5, h⟩ := gm_gis h
        refine gvo_iast C (gio_85 (c := 0) (by decide)) rfl g5 dX7_lay_101 102 rfl ?_
        refine gvo_iinc C 3 rfl rfl [(3, _), (0, _), (1, _), (2, _)] (by decide) rfl dX7_lay_102 105 rfl ?_
        refine gvo_goto C dX7_lay_105 86 (by decide) ?_
        refine gmo_ls [1, 2, 3, 0] rfl ?_
        exact ih86 _ _ h
  have L38 : ∀ (n38 : Nat) (v3 : Int32) (G : Gm), fX7_lay_h38 a1 a2 n38 v3 G = some q → gmo_V x G 38 [(0, .ref (gm_ad (cx_w x) 7 5 0)), (1, .int a1), (2, .int a2), (3, .int v3)] [] := by
    intro n38
    induction n38 with
    | zero => intro v3 G h; cases h
    | succ n38 ih38 =>
      intro v3 G h
      rw [fX7_lay_h38.eq_2] at h
      refine gvo_iload_n C rfl 3 rfl dX7_lay_38 39 rfl ?_
      refine gvo_iconst C 5 rfl dX7_lay_39 40 rfl ?_
      refine gvo_icmp_ge C dX7_lay_40 84 (by decide) 43 rfl (fun c2 => ?_) (fun c2 => ?_)
      · replace h := gm_ip c2 h
        refine gvo_iconst C 0 rfl dX7_lay_84 85 rfl ?_
        refine gvo_istore_n C rfl [(3, _), (0, _), (1, _), (2, _)] (by decide) rfl dX7_lay_85 86 rfl ?_
        refine gmo_ls [1, 2, 3, 0] rfl ?_
        exact L86 _ _ _ h
      · replace h := gm_iq c2 h
        refine gvo_aload_n C rfl 0 rfl dX7_lay_43 44 rfl ?_
        refine gfo_7_0 C gio_7 lkX7_7 dX7_lay_44 47 rfl ?_
        refine gvo_iconst C 3 rfl dX7_lay_47 48 rfl ?_
        refine gvo_iload_n C rfl 3 rfl dX7_lay_48 49 rfl ?_
        refine gvo_iadd C dX7_lay_49 50 rfl ?_
        refine gvo_iconst C 5 rfl dX7_lay_50 51 rfl ?_
        obtain ⟨g6, h⟩ := gm_gis h
        refine gvo_iast C (gio_85 (c := 0) (by decide)) rfl g6 dX7_lay_51 52 rfl ?_
        refine gvo_aload_n C rfl 0 rfl dX7_lay_52 53 rfl ?_
        refine gfo_7_0 C gio_7 lkX7_7 dX7_lay_53 56 rfl ?_
        refine gvo_bipush C 8 rfl dX7_lay_56 58 rfl ?_
        refine gvo_iconst C 2 rfl dX7_lay_58 59 rfl ?_
        refine gvo_iload_n C rfl 3 rfl dX7_lay_59 60 rfl ?_
        refine gvo_imul C dX7_lay_60 61 rfl ?_
        refine gvo_iadd C dX7_lay_61 62 rfl ?_
        refine gvo_iconst C 5 rfl dX7_lay_62 63 rfl ?_
        obtain ⟨g7, h⟩ := gm_gis h
        refine gvo_iast C (gio_85 (c := 0) (by decide)) rfl g7 dX7_lay_63 64 rfl ?_
        refine gvo_aload_n C rfl 0 rfl dX7_lay_64 65 rfl ?_
        refine gfo_7_0 C gio_7 lkX7_7 dX7_lay_65 68 rfl ?_
        refine gvo_bipush C 8 rfl dX7_lay_68 70 rfl ?_
        refine gvo_iconst C 2 rfl dX7_lay_70 71 rfl ?_
        refine gvo_iload_n C rfl 3 rfl dX7_lay_71 72 rfl ?_
        refine gvo_imul C dX7_lay_72 73 rfl ?_
        refine gvo_iadd C dX7_lay_73 74 rfl ?_
        refine gvo_iconst C 1 rfl dX7_lay_74 75 rfl ?_
        refine gvo_iadd C dX7_lay_75 76 rfl ?_
        refine gvo_iconst C 5 rfl dX7_lay_76 77 rfl ?_
        obtain ⟨g8, h⟩ := gm_gis h
        refine gvo_iast C (gio_85 (c := 0) (by decide)) rfl g8 dX7_lay_77 78 rfl ?_
        refine gvo_iinc C 3 rfl rfl [(3, _), (0, _), (1, _), (2, _)] (by decide) rfl dX7_lay_78 81 rfl ?_
        refine gvo_goto C dX7_lay_81 38 (by decide) ?_
        refine gmo_ls [1, 2, 3, 0] rfl ?_
        exact ih38 _ _ h
  have L2 : ∀ (n2 : Nat) (v3 : Int32) (G : Gm), fX7_lay_h2 a1 a2 n2 v3 G = some q → gmo_V x G 2 [(0, .ref (gm_ad (cx_w x) 7 5 0)), (1, .int a1), (2, .int a2), (3, .int v3)] [] := by
    intro n2
    induction n2 with
    | zero => intro v3 G h; cases h
    | succ n2 ih2 =>
      intro v3 G h
      rw [fX7_lay_h2.eq_2] at h
      refine gvo_iload_n C rfl 3 rfl dX7_lay_2 3 rfl ?_
      refine gvo_sipush C 2862 rfl dX7_lay_3 6 rfl ?_
      refine gvo_icmp_ge C dX7_lay_6 22 (by decide) 9 rfl (fun c1 => ?_) (fun c1 => ?_)
      · replace h := gm_ip c1 h
        refine gvo_aload_n C rfl 0 rfl dX7_lay_22 23 rfl ?_
        refine gfo_7_0 C gio_7 lkX7_7 dX7_lay_23 26 rfl ?_
        refine gvo_iconst C 1 rfl dX7_lay_26 27 rfl ?_
        refine gvo_iload_n C rfl 1 rfl dX7_lay_27 28 rfl ?_
        refine gvo_iastK C 1 (by decide) (gio_85 (c := 0) (by decide)) rfl (by decide) dX7_lay_28 29 rfl ?_
        refine gvo_aload_n C rfl 0 rfl dX7_lay_29 30 rfl ?_
        refine gfo_7_0 C gio_7 lkX7_7 dX7_lay_30 33 rfl ?_
        refine gvo_iconst C 2 rfl dX7_lay_33 34 rfl ?_
        refine gvo_iload_n C rfl 2 rfl dX7_lay_34 35 rfl ?_
        refine gvo_iastK C 2 (by decide) (gio_85 (c := 0) (by decide)) rfl (by decide) dX7_lay_35 36 rfl ?_
        refine gvo_iconst C 0 rfl dX7_lay_36 37 rfl ?_
        refine gvo_istore_n C rfl [(3, _), (0, _), (1, _), (2, _)] (by decide) rfl dX7_lay_37 38 rfl ?_
        refine gmo_ls [1, 2, 3, 0] rfl ?_
        exact L38 _ _ _ h
      · replace h := gm_iq c1 h
        refine gvo_aload_n C rfl 0 rfl dX7_lay_9 10 rfl ?_
        refine gfo_7_0 C gio_7 lkX7_7 dX7_lay_10 13 rfl ?_
        refine gvo_iload_n C rfl 3 rfl dX7_lay_13 14 rfl ?_
        refine gvo_iconst C 0 rfl dX7_lay_14 15 rfl ?_
        obtain ⟨g9, h⟩ := gm_gis h
        refine gvo_iast C (gio_85 (c := 0) (by decide)) rfl g9 dX7_lay_15 16 rfl ?_
        refine gvo_iinc C 3 rfl rfl [(3, _), (0, _), (1, _), (2, _)] (by decide) rfl dX7_lay_16 19 rfl ?_
        refine gvo_goto C dX7_lay_19 2 (by decide) ?_
        refine gmo_ls [1, 2, 3, 0] rfl ?_
        exact ih2 _ _ h
  refine gmo_lv (lv' := [(0, _), (1, _), (2, _)]) rfl ?_
  refine gvo_iconst C 0 rfl dX7_lay_0 1 rfl ?_
  refine gvo_istore_n C rfl [(3, _), (0, _), (1, _), (2, _)] (by decide) rfl dX7_lay_1 2 rfl ?_
  refine gmo_ls [1, 2, 3, 0] rfl ?_
  exact L2 _ _ _ h
