def gmn_ids : List (Nat × Nat × Nat) := [(1, 0, 0), (3, 0, 0), (8, 0, 0), (8, 0, 1), (10, 0, 0), (12, 0, 0), (13, 0, 0)] ++ (List.range 10).map (fun c => (0, 0, c)) ++ (List.range 5).map (fun c => (4, 0, c)) ++ (List.range 12).map (fun c => (5, 0, c))
theorem gin_0 {b c : Nat} (h1 : b < 1) (h2 : c < 10) : (0, b, c) ∈ gmn_ids := (by decide +kernel : ∀ b < 1, ∀ c < 10, (0, b, c) ∈ gmn_ids) b h1 c h2
theorem gin_1 {b : Nat} (h1 : b < 1) : (1, b, 0) ∈ gmn_ids := (by decide +kernel : ∀ b < 1, (1, b, 0) ∈ gmn_ids) b h1
theorem gin_3 {b : Nat} (h1 : b < 1) : (3, b, 0) ∈ gmn_ids := (by decide +kernel : ∀ b < 1, (3, b, 0) ∈ gmn_ids) b h1
theorem gin_4 {b c : Nat} (h1 : b < 1) (h2 : c < 5) : (4, b, c) ∈ gmn_ids := (by decide +kernel : ∀ b < 1, ∀ c < 5, (4, b, c) ∈ gmn_ids) b h1 c h2
theorem gin_8 {b c : Nat} (h1 : b < 1) (h2 : c < 2) : (8, b, c) ∈ gmn_ids := (by decide +kernel : ∀ b < 1, ∀ c < 2, (8, b, c) ∈ gmn_ids) b h1 c h2
theorem gin_10 {b : Nat} (h1 : b < 1) : (10, b, 0) ∈ gmn_ids := (by decide +kernel : ∀ b < 1, (10, b, 0) ∈ gmn_ids) b h1
theorem gin_12 {b : Nat} (h1 : b < 1) : (12, b, 0) ∈ gmn_ids := (by decide +kernel : ∀ b < 1, (12, b, 0) ∈ gmn_ids) b h1
theorem gmn_nd : ∀ i j : Nat, i < 34 → j < 34 → gmn_ids[i]? = gmn_ids[j]? → i = j := by
  intro i j hi hj h
  exact (by decide +kernel : ∀ i < 34, ∀ j < 34, gmn_ids[i]? = gmn_ids[j]? → i = j) i hi j hj h
theorem gmn_ln : gmn_ids.length = 34 := by decide +kernel
def gmn_w (w : gm_Wd) (G : Gm) : va_W := gmn_ids.map fun o => (gm_ad w o.1 o.2.1 o.2.2, gm_cel (gm_cy w) (gm_ad w) (G o.1 o.2.1 o.2.2) o.1 o.2.1 o.2.2)
theorem gmn_at {a b c : Nat} (h : (a, b, c) ∈ gmn_ids) : ∃ k : Nat, gmn_ids[k]? = some (a, b, c) := List.getElem?_of_mem h
theorem gmn_w_at (w : gm_Wd) (G : Gm) {a b c k : Nat} (h : gmn_ids[k]? = some (a, b, c)) : (gmn_w w G)[k]? = some (gm_ad w a b c, gm_cel (gm_cy w) (gm_ad w) (G a b c) a b c) := by
  unfold gmn_w
  rw [List.getElem?_map, h]
  rfl
theorem gmn_inj {i j : Nat} {o : Nat × Nat × Nat} (h1 : gmn_ids[i]? = some o) (h2 : gmn_ids[j]? = some o) : i = j := by
  have a1 := (List.getElem?_eq_some_iff.mp h1).1
  have a2 := (List.getElem?_eq_some_iff.mp h2).1
  rw [gmn_ln] at a1 a2
  exact gmn_nd i j a1 a2 (h1.trans h2.symm)
theorem gmn_set (w : gm_Wd) {G G' : Gm} {a b c k : Nat} (h : gmn_ids[k]? = some (a, b, c)) (hG : ∀ a' b' c', ¬ (a' = a ∧ b' = b ∧ c' = c) → G' a' b' c' = G a' b' c') : (gmn_w w G).set k (gm_ad w a b c, gm_cel (gm_cy w) (gm_ad w) (G' a b c) a b c) = gmn_w w G' := by
  apply List.ext_getElem?
  intro j
  rw [List.getElem?_set]
  by_cases hj : k = j
  · subst hj
    have hl : k < (gmn_w w G).length := by
      unfold gmn_w
      rw [List.length_map]
      exact (List.getElem?_eq_some_iff.mp h).1
    rw [if_pos rfl, if_pos hl, gmn_w_at w G' h]
  · rw [if_neg hj]
    unfold gmn_w
    rw [List.getElem?_map, List.getElem?_map]
    cases ho : gmn_ids[j]? with
    | none => rfl
    | some o =>
      obtain ⟨a', b', c'⟩ := o
      have hne : ¬ (a' = a ∧ b' = b ∧ c' = c) := by
        rintro ⟨rfl, rfl, rfl⟩
        exact hj (gmn_inj h ho)
      simp only [Option.map_some]
      rw [hG a' b' c' hne]
def gmn_A (w : gm_Wd) : Nat → Prop := fun q => ∃ a b c : Nat, (a, b, c) ∈ gmn_ids ∧ q = gm_ad w a b c
def gmn_J (w : gm_Wd) : Prop := ∀ a b c a' b' c' : Nat, (a, b, c) ∈ gmn_ids → (a', b', c') ∈ gmn_ids → gm_ad w a b c = gm_ad w a' b' c' → (a, b, c) = (a', b', c')
theorem gmn_dis {w : gm_Wd} (hJ : gmn_J w) (G : Gm) : va_D (gmn_A w) (gmn_w w G) := by
  have key : ∀ (i : Nat) (p : Nat × va_E), (gmn_w w G)[i]? = some p → ∃ a b c, gmn_ids[i]? = some (a, b, c) ∧ p.1 = gm_ad w a b c := by
    intro i p h
    unfold gmn_w at h
    rw [List.getElem?_map] at h
    cases ho : gmn_ids[i]? with
    | none => rw [ho] at h; cases h
    | some o =>
      obtain ⟨a, b, c⟩ := o
      rw [ho] at h
      exact ⟨a, b, c, rfl, by rw [← Option.some.inj h]⟩
  refine ⟨fun i j p q h1 h2 he => ?_, fun k q h => ?_⟩
  · obtain ⟨a, b, c, g1, e1⟩ := key i p h1
    obtain ⟨a', b', c', g2, e2⟩ := key j q h2
    have := hJ a b c a' b' c' (List.mem_of_getElem? g1) (List.mem_of_getElem? g2) (by rw [← e1, ← e2, he])
    rw [this] at g1
    exact gmn_inj g1 g2
  · obtain ⟨a, b, c, g1, e1⟩ := key k q h
    exact ⟨a, b, c, List.mem_of_getElem? g1, e1⟩
def gmn_C (w : gm_Wd) (y : MethodName) (cc : ByteArray) (mL : Nat) (ret : Option FieldType) (rk : Nat) (av : List Value) (G : Gm) (r : Option Value) (G' : Gm) : Prop :=
  Met w.1 y (Cond.code y cc mL ret :: TB) (gm_rm rk) (va_Pc av (fun U => va_P (gm_D w) vwCl (gmn_w w G) U.heap ∧ gm_K w U ∧ gmn_J w))
    (fun _ st oc t => (oc = .returned r ∧ va_P (gm_D w) vwCl (gmn_w w G') t.heap) ∧ va_F (gmn_A w) st t) 0 0 (gmn_A w)
def gmn_X (x : gm_Cx) (cc : ByteArray) (nL : Nat) (own : String) (ret : Option FieldType) (rk : Nat) : Prop :=
  (cx_p x).tables.exec = Jvm.exec ∧ (cx_c x).code = cc ∧ (cx_c x).maxLocals = nL ∧ (cx_s x).vm.findClass own = some (cx_m x).cls ∧ (∀ w ∈ TB, w.before (cx_args x) (cx_s x) = true) ∧ gm_K (cx_w x) (cx_s x) ∧ gmn_J (cx_w x) ∧ (cx_meth x).sig.returnType = ret ∧ (cx_meth x).locks = false ∧ (∀ q, gmn_A (cx_w x) q → cx_A x q) ∧ (rk ≤ (cx_R x).frames ∧ 36 * rk ≤ (cx_R x).locals ∧ (cx_k x).1 ≤ (cx_R x).cells ∧ (cx_k x).2 ≤ (cx_R x).slots)
def gmn_V (x : gm_Cx) (G : Gm) (pc : Nat) (lv : List (Nat × Value)) (st : List Value) : Prop :=
  ∀ (H : Heap) (locs : List Loc) (ls : Array Slot), va_P (gm_D (cx_w x)) vwCl (gmn_w (cx_w x) G) H → va_S (cx_A x) (cx_s x).heap H locs → lv_has ls (cx_c x).maxLocals lv → W (cx_p x) (cx_w x).1 (cx_e x) (cx_R x) (cx_s x) (cx_m x) (cx_args x) (cx_below x) (cx_meth x) (cx_c x) H locs (cx_k x).1 (cx_k x).2 (cx_Q x) (F0 (cx_m x) pc ls st)
section
variable {x : gm_Cx} {cc : ByteArray} {nL : Nat} {own : String} {ret : Option FieldType} {rk : Nat} {G : Gm} {pc : Nat} {lv : List (Nat × Value)} {st : List Value}
theorem gvn_iconst (C : gmn_X x cc nL own ret rk) {z : Int} (v : Int32) (hv : Int32.ofInt z = v) (d : decode cc pc = .ok (.iconst z, 1)) (n : Nat) (hn : pc + 1 = n) (k : gmn_V x G n lv (.int v :: st)) : gmn_V x G pc lv (st) := by
  subst hn
  exact fun H locs ls hP hS hl => lv_iconst C.1 C.2.1 d hv (k H locs ls hP hS hl)
theorem gvn_bipush (C : gmn_X x cc nL own ret rk) {z : Int} (v : Int32) (hv : (Int8.ofInt z).toInt32 = v) (d : decode cc pc = .ok (.bipush z, 2)) (n : Nat) (hn : pc + 2 = n) (k : gmn_V x G n lv (.int v :: st)) : gmn_V x G pc lv (st) := by
  subst hn
  exact fun H locs ls hP hS hl => lv_bipush C.1 C.2.1 d hv (k H locs ls hP hS hl)
theorem gvn_iload_n (C : gmn_X x cc nL own ret rk) {j : Fin 4} {i : Nat} {v : Int32} (hi : (j : Nat) = i) (q : Nat) (hq : lv[q]? = some (i, .int v)) (d : decode cc pc = .ok (.iload_n j, 1)) (n : Nat) (hn : pc + 1 = n) (k : gmn_V x G n lv (.int v :: st)) : gmn_V x G pc lv (st) := by
  subst hn
  exact fun H locs ls hP hS hl => lv_iload_n C.1 C.2.1 d hi (lv_at hl q hq) (k H locs ls hP hS hl)
theorem gvn_aload_n (C : gmn_X x cc nL own ret rk) {j : Fin 4} {i : Nat} {v : Nat} (hi : (j : Nat) = i) (q : Nat) (hq : lv[q]? = some (i, .ref v)) (d : decode cc pc = .ok (.aload_n j, 1)) (n : Nat) (hn : pc + 1 = n) (k : gmn_V x G n lv (.ref v :: st)) : gmn_V x G pc lv (st) := by
  subst hn
  exact fun H locs ls hP hS hl => lv_aload_n C.1 C.2.1 d hi (lv_at hl q hq) (k H locs ls hP hS hl)
theorem gvn_iand (C : gmn_X x cc nL own ret rk) {a b : Int32} (d : decode cc pc = .ok (.iand, 1)) (n : Nat) (hn : pc + 1 = n) (k : gmn_V x G n lv (.int (a &&& b) :: st)) : gmn_V x G pc lv (.int b :: .int a :: st) := by
  subst hn
  exact fun H locs ls hP hS hl => lv_iand C.1 C.2.1 d (k H locs ls hP hS hl)
theorem gvn_ishr (C : gmn_X x cc nL own ret rk) {a b : Int32} (d : decode cc pc = .ok (.ishr, 1)) (n : Nat) (hn : pc + 1 = n) (k : gmn_V x G n lv (.int (a >>> (b &&& 31)) :: st)) : gmn_V x G pc lv (.int b :: .int a :: st) := by
  subst hn
  exact fun H locs ls hP hS hl => lv_ishr C.1 C.2.1 d (k H locs ls hP hS hl)
theorem gvn_istore_n (C : gmn_X x cc nL own ret rk) {j : Fin 4} {i : Nat} {v : Int32} (hi : (j : Nat) = i) (lv' : List (Nat × Value)) (hi' : i < nL) (hlv : (i, Value.int v) :: lv.filter (fun q => !(q.1 == i) && !(q.1 + 1 == i && q.2.category == 2)) = lv') (d : decode cc pc = .ok (.istore_n j, 1)) (n : Nat) (hn : pc + 1 = n) (k : gmn_V x G n lv' (st)) : gmn_V x G pc lv (.int v :: st) := by
  subst hn
  exact fun H locs ls hP hS hl => lv_istore_n C.1 C.2.1 d hi hl (by rw [C.2.2.1]; exact hi') hlv (fun ls' hl' => k H locs ls' hP hS hl')
theorem gvn_iinc (C : gmn_X x cc nL own ret rk) {i : Nat} {z : Int} {v u : Int32} (q : Nat) (hq : lv[q]? = some (i, .int v)) (hu : v + Int32.ofInt z = u) (lv' : List (Nat × Value)) (hi' : i < nL) (hlv : (i, Value.int u) :: lv.filter (fun q => !(q.1 == i) && !(q.1 + 1 == i && q.2.category == 2)) = lv') (d : decode cc pc = .ok (.iinc i z, 3)) (n : Nat) (hn : pc + 3 = n) (k : gmn_V x G n lv' (st)) : gmn_V x G pc lv (st) := by
  subst hn
  exact fun H locs ls hP hS hl => lv_iinc C.1 C.2.1 d hl hq hu (by rw [C.2.2.1]; exact hi') hlv (fun ls' hl' => k H locs ls' hP hS hl')
theorem gvn_if_eq (C : gmn_X x cc nL own ret rk) {a : Int32} {o : Int} (d : decode cc pc = .ok (.ifCond .eq o, 3)) (t : Nat) (ht : (pc : Int) + o = (t : Int)) (n : Nat) (hn : pc + 3 = n) (kp : a = 0 → gmn_V x G t lv st) (kn : ¬ a = 0 → gmn_V x G n lv st) : gmn_V x G pc lv (.int a :: st) := by
  subst hn
  exact fun H locs ls hP hS hl => lv_if_eq C.1 C.2.1 d ht (fun c => kp c H locs ls hP hS hl) (fun c => kn c H locs ls hP hS hl)
theorem gvn_icmp_ge (C : gmn_X x cc nL own ret rk) {a b : Int32} {o : Int} (d : decode cc pc = .ok (.if_icmp .ge o, 3)) (t : Nat) (ht : (pc : Int) + o = (t : Int)) (n : Nat) (hn : pc + 3 = n) (kp : b ≤ a → gmn_V x G t lv st) (kn : ¬ b ≤ a → gmn_V x G n lv st) : gmn_V x G pc lv (.int b :: .int a :: st) := by
  subst hn
  exact fun H locs ls hP hS hl => lv_icmp_ge C.1 C.2.1 d ht (fun c => kp c H locs ls hP hS hl) (fun c => kn c H locs ls hP hS hl)
theorem gvn_icmp_ne (C : gmn_X x cc nL own ret rk) {a b : Int32} {o : Int} (d : decode cc pc = .ok (.if_icmp .ne o, 3)) (t : Nat) (ht : (pc : Int) + o = (t : Int)) (n : Nat) (hn : pc + 3 = n) (kp : a = b → gmn_V x G n lv st) (kn : ¬ a = b → gmn_V x G t lv st) : gmn_V x G pc lv (.int b :: .int a :: st) := by
  subst hn
  exact fun H locs ls hP hS hl => lv_icmp_ne C.1 C.2.1 d ht (fun c => kn c H locs ls hP hS hl) (fun c => kp c H locs ls hP hS hl)
theorem gvn_goto (C : gmn_X x cc nL own ret rk) {o : Int} (d : decode cc pc = .ok (.goto o, 3)) (t : Nat) (ht : (pc : Int) + o = (t : Int)) (k : gmn_V x G t lv st) : gmn_V x G pc lv st := fun H locs ls hP hS hl => lv_goto C.1 C.2.1 d ht (k H locs ls hP hS hl)
theorem gvn_getf (C : gmn_X x cc nL own ret rk) {a b c ci i N idx : Nat} {fs : List Value} {v : Value} {Cn : String} {T : u_T} (hid : (a, b, c) ∈ gmn_ids) (hc : gm_cel (gm_cy (cx_w x)) (gm_ad (cx_w x)) (G a b c) a b c = .inr (ci, fs)) (hcl : vwCl[ci]? = some (Cn, T, N)) (hin : ∀ w ∈ u_ws Cn T N, w ∈ TB) (hi : i < N) (hv : fs[i]? = some v) (hlk : Cond.fieldLink own idx (T i).1 (T i).2.1 (T i).2.2.1 ∈ TB) (d : decode cc pc = .ok (.getfield idx, 3)) (n : Nat) (hn : pc + 3 = n) (k : gmn_V x G n lv (v :: st)) : gmn_V x G pc lv (.ref (gm_ad (cx_w x) a b c) :: st) := by
  subst hn
  obtain ⟨q, hq⟩ := gmn_at hid
  have he := gmn_w_at (cx_w x) G hq
  rw [hc] at he
  exact fun H locs ls hP hS hl => va_get C.1 C.2.1 C.2.2.2.2.1 hin C.2.2.2.1 C.2.2.2.2.2.1.1 hP q he hcl i hi (C.2.2.2.2.1 _ hlk) (fun _ h => h) hv d (k H locs ls hP hS hl)
theorem gvn_putf (C : gmn_X x cc nL own ret rk) {a b c ci i N idx : Nat} {fs : List Value} {v : Int32} {Cn : String} {T : u_T} {ty : FieldType} (hid : (a, b, c) ∈ gmn_ids) (hc : ∀ g : Nat → Int32, ∃ fs : List Value, gm_cel (gm_cy (cx_w x)) (gm_ad (cx_w x)) g a b c = .inr (ci, fs) ∧ i < fs.length ∧ gm_cel (gm_cy (cx_w x)) (gm_ad (cx_w x)) (upd g i v) a b c = .inr (ci, fs.set i (.int v))) (hcl : vwCl[ci]? = some (Cn, T, N)) (hin : ∀ w ∈ u_ws Cn T N, w ∈ TB) (ty0 : Nat → FieldType) (hty : ∀ k, k < N → parseFieldDescriptor (T k).2.2.1 = some (ty0 k)) (hnm : ∀ a, a < N → ∀ b, b < N → a ≠ b → (T a).2.1 ≠ (T b).2.1) (hi : i < N) (hfin : (T i).2.2.2 = false) (hd : parseFieldDescriptor (T i).2.2.1 = some ty) (hnr : narrow ty (.int v) = .int v) (hft : fits ty (.int v) = true) (hlk : Cond.fieldLink own idx (T i).1 (T i).2.1 (T i).2.2.1 ∈ TB) (d : decode cc pc = .ok (.putfield idx, 3)) (n : Nat) (hn : pc + 3 = n) (k : gmn_V x (gm_up G a b c i v) n lv st) : gmn_V x G pc lv (.int v :: .ref (gm_ad (cx_w x) a b c) :: st) := by
  subst hn
  obtain ⟨q, hq⟩ := gmn_at hid
  obtain ⟨fs, h1, h2, h3⟩ := hc (G a b c)
  have he := gmn_w_at (cx_w x) G hq
  rw [h1] at he
  have hset := gmn_set (cx_w x) (G := G) (G' := gm_up G a b c i v) hq gm_up_ne
  rw [gm_up_at, h3] at hset
  intro H locs ls hP hS hl
  refine va_put C.1 C.2.1 C.2.2.2.2.1 hin ty0 hty hnm C.2.2.2.1 C.2.2.2.2.2.1.1 hP ((gmn_dis C.2.2.2.2.2.2.1 G).weaken (fun _ q _ h => C.2.2.2.2.2.2.2.2.2.1 q.1 h)) hS q he hcl i hi (C.2.2.2.2.1 _ hlk) (fun _ h => h) hfin hd hnr hft h2 d (fun H1 locs1 hP1 _ hS1 => k H1 locs1 ls ?_ hS1 hl)
  rw [hset] at hP1
  exact hP1
theorem gvn_iast (C : gmn_X x cc nL own ret rk) {b c m : Nat} {i v : Int32} (hid : (8, b, c) ∈ gmn_ids) (hm : gm_len b c = m) (g : ¬ (i < 0 ∨ m ≤ i.toNatClampNeg)) (d : decode cc pc = .ok (.iastore, 1)) (n : Nat) (hn : pc + 1 = n) (k : gmn_V x (gm_up G 8 b c i.toNatClampNeg v) n lv st) : gmn_V x G pc lv (.int v :: .int i :: .ref (gm_ad (cx_w x) 8 b c) :: st) := by
  subst hn hm
  obtain ⟨q, hq⟩ := gmn_at hid
  have he := gmn_w_at (cx_w x) G hq
  have hset := gmn_set (cx_w x) (G := G) (G' := gm_up G 8 b c i.toNatClampNeg v) hq gm_up_ne
  rw [gm_up_at] at hset
  intro H locs ls hP hS hl
  refine va_iast C.1 C.2.1 C.2.2.2.2.2.1.1 hP ((gmn_dis C.2.2.2.2.2.2.1 G).weaken (fun _ q _ h => C.2.2.2.2.2.2.2.2.2.1 q.1 h)) hS q 0 he rfl g d (fun H1 locs1 hP1 _ hS1 => k H1 locs1 ls ?_ hS1 hl)
  rw [← hset]
  exact hP1
theorem gvn_aald10 (C : gmn_X x cc nL own ret rk) {b : Nat} {i : Int32} (hid : (10, b, 0) ∈ gmn_ids) (g : ¬ (i < 0 ∨ 10 ≤ i.toNatClampNeg)) (d : decode cc pc = .ok (.aaload, 1)) (n : Nat) (hn : pc + 1 = n) (k : gmn_V x G n lv (.ref (gm_ad (cx_w x) 0 b i.toNatClampNeg) :: st)) : gmn_V x G pc lv (.int i :: .ref (gm_ad (cx_w x) 10 b 0) :: st) := by
  subst hn
  obtain ⟨q, hq⟩ := gmn_at hid
  have he := gmn_w_at (cx_w x) G hq
  exact fun H locs ls hP hS hl => va_aldq (C := RX0) C.1 C.2.1 C.2.2.2.2.2.1.1 hP q 2 he rfl g d (k H locs ls hP hS hl)
theorem gvn_aald12 (C : gmn_X x cc nL own ret rk) {b : Nat} {i : Int32} (hid : (12, b, 0) ∈ gmn_ids) (g : ¬ (i < 0 ∨ 5 ≤ i.toNatClampNeg)) (d : decode cc pc = .ok (.aaload, 1)) (n : Nat) (hn : pc + 1 = n) (k : gmn_V x G n lv (.ref (gm_ad (cx_w x) 4 b i.toNatClampNeg) :: st)) : gmn_V x G pc lv (.int i :: .ref (gm_ad (cx_w x) 12 b 0) :: st) := by
  subst hn
  obtain ⟨q, hq⟩ := gmn_at hid
  have he := gmn_w_at (cx_w x) G hq
  exact fun H locs ls hP hS hl => va_aldq (C := RX4) C.1 C.2.1 C.2.2.2.2.2.1.1 hP q 4 he rfl g d (k H locs ls hP hS hl)
def gmn_Qc (w : gm_Wd) (r : Option Value) (G' : Gm) : Array Value → State → Outcome → State → Prop := fun _ st oc t => (oc = .returned r ∧ va_P (gm_D w) vwCl (gmn_w w G') t.heap) ∧ va_F (gmn_A w) st t
def gmn_E (x : gm_Cx) (r : Option Value) (G' : Gm) : Prop := cx_Q x = MQ (cx_below x) (gmn_Qc (cx_w x) r G') (cx_args x) (cx_s x) (cx_k x).1 (cx_k x).2 (gmn_A (cx_w x)) ∧ cx_A x = gmn_A (cx_w x)
theorem gvn_vret (C : gmn_X x cc nL own none rk) {r : Option Value} {G' : Gm} (E : gmn_E x r G') (h1 : none = r) (h2 : G = G') (d : decode cc pc = .ok (.return_, 1)) : gmn_V x G pc lv [] := by
  subst h1 h2
  intro H locs ls hP hS hl
  obtain ⟨hQ, hA⟩ := E
  rw [hA] at hS
  rw [hQ]
  exact W.vret C.1 C.2.1 C.2.2.2.2.2.2.2.1 (fun t ht hW => ⟨⟨rfl, by rw [ht]; exact hP⟩, hS.F ht⟩) hS.2.2 d C.2.2.2.2.2.2.2.2.1
theorem gmn_lv {lv' : List (Nat × Value)} (h : lv = lv') (k : gmn_V x G pc lv' st) : gmn_V x G pc lv st := h ▸ k
theorem gmn_ls (ks : List Nat) {lv' : List (Nat × Value)} (h : lv_pick lv ks = lv') (k : gmn_V x G pc lv' st) : gmn_V x G pc lv st := fun H locs ls hP hS hl => k H locs ls hP hS (lv_sub hl ks h)
end
theorem gmn_start {w : gm_Wd} {y : MethodName} {cc : ByteArray} {mL : Nat} {ret : Option FieldType} {rk : Nat} {av : List Value} {G : Gm} {r : Option Value} {G' : Gm} (hy : plainName y.cls = true) (hav : (lg_sl av).length ≤ mL)
    (body : ∀ x : gm_Cx, cx_w x = w → gmn_X x cc mL y.cls ret rk → gmn_E x r G' → gmn_V x G 0 (lv_args 0 av) []) : gmn_C w y cc mL ret rk av G r G' := by
  refine Met.ofW (cc := cc) (maxL := mL) (ret := ret) hy rfl ?_
  intro p e s m args below meth c s₁ B hml hv
  obtain ⟨rfl, hP, hK, hJ⟩ := hv
  have hts := atoms_spec (ws := Cond.code y cc mL ret :: TB) B.pre
  have hl := lv_entry av (n := mL) hav
  rw [lg_entry_eq]
  have := body (p, e, gm_rm rk, s, m, av.toArray, below, meth, c, MQ below (gmn_Qc w r G') av.toArray s 0 0 (gmn_A w), gmn_A w, (0, 0), w) rfl
    ⟨B.exec, B.bytes, hml, findClass_of_methodNamed B.named, fun q hq => hts q (List.mem_cons_of_mem _ hq), hK, hJ, B.returns, B.notSynchronized, fun _ h => h, Nat.le_refl _, Nat.le_refl _, Nat.le_refl _, Nat.le_refl _⟩ ⟨rfl, rfl⟩
  exact this s.heap [] _ hP va_S.rf (by rw [hml]; exact hl)
section
variable {x : gm_Cx} {cc : ByteArray} {nL : Nat} {own : String} {ret : Option FieldType} {rk : Nat} {G G1 : Gm} {pc : Nat} {lv : List (Nat × Value)} {st st0 : List Value}
  {y : MethodName} {bytes : ByteArray} {mL : Nat} {rt : Option FieldType} {kn k' idx : Nat} {r : Option Value} {As : List Value}
theorem gmn_pre (C : gmn_X x cc nL own ret rk) {av : List Value} {H : Heap} (hP : va_P (gm_D (cx_w x)) vwCl (gmn_w (cx_w x) G) H) : PreS (cx_s x) H (va_Pc av (fun U => va_P (gm_D (cx_w x)) vwCl (gmn_w (cx_w x) G) U.heap ∧ gm_K (cx_w x) U ∧ gmn_J (cx_w x))) av :=
  ⟨fun a U g mk q => by obtain ⟨q0, qP, qK, qJ⟩ := q; exact ⟨q0, qP, gm_K_same (s := U) (U := U.calling g mk a) rfl qK, qJ⟩, fun U hU hW => ⟨rfl, by rw [hU]; exact hP, gm_K_warm hW C.2.2.2.2.2.1, C.2.2.2.2.2.2.1⟩⟩
theorem gmn_back (C : gmn_X x cc nL own ret rk) {H : Heap} {locs : List Loc} {ls : Array Slot} {a : Array Value} (hS : va_S (cx_A x) (cx_s x).heap H locs) (hl : lv_has ls (cx_c x).maxLocals lv)
    (hr : va_Run (cx_p x) (cx_w x).1 (cx_e x) (cx_R x) (cx_s x) (cx_m x) (cx_args x) (cx_below x) (cx_meth x) (cx_c x) H locs (cx_k x).1 (cx_k x).2 0 0 (F0 (cx_m x) pc ls st0) st ((fun _ st oc t => (oc = .returned r ∧ va_P (gm_D (cx_w x)) vwCl (gmn_w (cx_w x) G1) t.heap) ∧ va_F (gmn_A (cx_w x)) st t : Array Value → State → Outcome → State → Prop) a) (gmn_A (cx_w x)))
    (k : gmn_V x G1 (pc + 3) lv (r.toList ++ st)) : W (cx_p x) (cx_w x).1 (cx_e x) (cx_R x) (cx_s x) (cx_m x) (cx_args x) (cx_below x) (cx_meth x) (cx_c x) H locs (cx_k x).1 (cx_k x).2 (cx_Q x) (F0 (cx_m x) pc ls st0) := by
  have hA := C.2.2.2.2.2.2.2.2.2.1
  intro T hT X
  obtain ⟨v, st₀, t, T', L, h0, X', hL, e1, e2, ⟨⟨hv, hP1⟩, hz, hk⟩, sp⟩ := hr T hT X
  cases hv
  rw [h0] at hz hk
  obtain ⟨t2, a1, b1⟩ := k T'.heap (locs ++ L) ls (by rw [e1]; exact hP1)
    ⟨Nat.le_trans hS.1 (by rw [e1]; exact hz), fun q h1 h2 => by rw [e1, hk q (Nat.lt_of_lt_of_le h1 hS.1) (fun z => h2 (hA q z))]; exact hS.2.1 q h1 h2, fun q hq => by
      rcases List.mem_append.mp hq with h | h
      · exact hS.2.2 q h
      · exact hA _ (hL q h)⟩ hl T' rfl X'
  exact ⟨t2, sp t2 a1, b1⟩
theorem gmn_B (C : gmn_X x cc nL own ret rk) (M : gm_M y bytes mL rt kn) (hk : k' + 1 ≤ rk) (hlk : Cond.methodLink own idx y ∈ TB) : CallB (cx_R x) (cx_s x) (cx_args x) own idx y bytes mL rt (Cond.code y bytes mL rt :: TB) (gm_rm k') 0 0 kn := by
  obtain ⟨r1, r2, r3, r4⟩ := C.2.2.2.2.2.2.2.2.2.2
  obtain ⟨m1, m2, m3, m4⟩ := M
  exact callB_of kn C.2.2.2.2.1 (gm_in m1) rfl rfl rfl (C.2.2.2.2.1 _ m2) (C.2.2.2.2.1 _ hlk) m3 ⟨by show k' + 1 ≤ _; omega, by show 8 + (mL + 11) + 36 * k' ≤ _; omega⟩
theorem gvn_callV (C : gmn_X x cc nL own ret rk) (M : gm_M y bytes mL rt kn) (M2 : Cond.instanceMethod y ∈ TB ∧ Cond.selects y.cls y y ∈ TB) (hk : k' + 1 ≤ rk) (hlk : Cond.methodLink own idx y ∈ TB)
    {a b c ci : Nat} {q : vw_C} (hid : (a, b, c) ∈ gmn_ids) (hc : ∃ fs, gm_cel (gm_cy (cx_w x)) (gm_ad (cx_w x)) (G a b c) a b c = .inr (ci, fs)) (hq : vwCl[ci]? = some q) (hqy : q.1 = y.cls)
    (hM : gmn_C (cx_w x) y bytes mL rt k' (.ref (gm_ad (cx_w x) a b c) :: As) G r G1) (hn : As.length = kn) (hst : st0 = As.reverse ++ .ref (gm_ad (cx_w x) a b c) :: st) (hs : (st.map fun v => v.category).sum ≤ 8) (d : decode cc pc = .ok (.invokevirtual idx, 3)) (n : Nat) (hpc : pc + 3 = n) (k : gmn_V x G1 n lv (r.toList ++ st)) : gmn_V x G pc lv st0 := by
  subst hpc
  intro H locs ls hP hS hl
  obtain ⟨k0, hk0⟩ := gmn_at hid
  have he := gmn_w_at (cx_w x) G hk0
  obtain ⟨fs, hc⟩ := hc
  rw [hc] at he
  have hrv := va_recv C.2.2.2.2.2.1.1 hP hq he
  rw [hqy] at hrv
  refine gmn_back (a := (Value.ref (gm_ad (cx_w x) a b c) :: As).toArray) C hS hl (va_runV (b := gm_ad (cx_w x) a b c) (As := As) (rest := st) (C := y.cls) ⟨C.1, C.2.1, rfl, C.2.2.2.1, C.2.2.2.2.1⟩ hM ⟨gmn_B C M hk hlk, C.2.2.2.2.1 _ M2.1, C.2.2.2.2.1 _ M2.2⟩ ⟨(gmn_pre C hP).1, hrv, (gmn_pre C hP).2⟩ rfl hn hl.1 hst (lv_room hs) d ⟨?_, ?_⟩) k
  · have := C.2.2.2.2.2.2.2.2.2.2.2.2.1; omega
  · have := C.2.2.2.2.2.2.2.2.2.2.2.2.2; omega
end
section
variable {x : gm_Cx} {cc : ByteArray} {nL : Nat} {own : String} {ret : Option FieldType} {rk : Nat} {G G1 : Gm} {pc : Nat} {lv : List (Nat × Value)} {st st0 : List Value}
  {y : MethodName} {bytes : ByteArray} {mL : Nat} {rt : Option FieldType} {kn k' idx : Nat} {As : List Value}
theorem pfn_0_2 (C : gmn_X x cc nL own ret rk) {b c : Nat} {v : Int32} (hid : (0, b, c) ∈ gmn_ids) (hlk : Cond.fieldLink own idx "BlockBells$Block" "state" "I" ∈ TB) (d : decode cc pc = .ok (.putfield idx, 3)) (n : Nat) (hn : pc + 3 = n) (k : gmn_V x (gm_up G 0 b c 2 v) n lv st) : gmn_V x G pc lv (.int v :: .ref (gm_ad (cx_w x) 0 b c) :: st) := gvn_putf (fs := []) (ci := 0) (i := 2) (T := TX0) (N := 7) C hid (fun g => ⟨_, rfl, Nat.le_of_ble_eq_true rfl, rfl⟩) rfl iwX0 tyX0 tyX0_ok nmX0 (by decide) rfl rfl rfl rfl hlk d n hn k
theorem pfn_0_3 (C : gmn_X x cc nL own ret rk) {b c : Nat} {v : Int32} (hid : (0, b, c) ∈ gmn_ids) (hlk : Cond.fieldLink own idx "BlockBells$Block" "offered" "I" ∈ TB) (d : decode cc pc = .ok (.putfield idx, 3)) (n : Nat) (hn : pc + 3 = n) (k : gmn_V x (gm_up G 0 b c 3 v) n lv st) : gmn_V x G pc lv (.int v :: .ref (gm_ad (cx_w x) 0 b c) :: st) := gvn_putf (fs := []) (ci := 0) (i := 3) (T := TX0) (N := 7) C hid (fun g => ⟨_, rfl, Nat.le_of_ble_eq_true rfl, rfl⟩) rfl iwX0 tyX0 tyX0_ok nmX0 (by decide) rfl rfl rfl rfl hlk d n hn k
theorem pfn_0_4 (C : gmn_X x cc nL own ret rk) {b c : Nat} {v : Int32} (hid : (0, b, c) ∈ gmn_ids) (hlk : Cond.fieldLink own idx "BlockBells$Block" "holder" "I" ∈ TB) (d : decode cc pc = .ok (.putfield idx, 3)) (n : Nat) (hn : pc + 3 = n) (k : gmn_V x (gm_up G 0 b c 4 v) n lv st) : gmn_V x G pc lv (.int v :: .ref (gm_ad (cx_w x) 0 b c) :: st) := gvn_putf (fs := []) (ci := 0) (i := 4) (T := TX0) (N := 7) C hid (fun g => ⟨_, rfl, Nat.le_of_ble_eq_true rfl, rfl⟩) rfl iwX0 tyX0 tyX0_ok nmX0 (by decide) rfl rfl rfl rfl hlk d n hn k
theorem pfn_0_5 (C : gmn_X x cc nL own ret rk) {b c : Nat} {v : Int32} (hid : (0, b, c) ∈ gmn_ids) (hz : v = 0 ∨ v = 1) (hlk : Cond.fieldLink own idx "BlockBells$Block" "part" "Z" ∈ TB) (d : decode cc pc = .ok (.putfield idx, 3)) (n : Nat) (hn : pc + 3 = n) (k : gmn_V x (gm_up G 0 b c 5 v) n lv st) : gmn_V x G pc lv (.int v :: .ref (gm_ad (cx_w x) 0 b c) :: st) := gvn_putf (fs := []) (ci := 0) (i := 5) (T := TX0) (N := 7) C hid (fun g => ⟨_, rfl, Nat.le_of_ble_eq_true rfl, rfl⟩) rfl iwX0 tyX0 tyX0_ok nmX0 (by decide) rfl rfl (gm_zn hz) (gm_zf hz) hlk d n hn k
theorem pfn_0_6 (C : gmn_X x cc nL own ret rk) {b c : Nat} {v : Int32} (hid : (0, b, c) ∈ gmn_ids) (hlk : Cond.fieldLink own idx "BlockBells$Block" "engineTicks" "I" ∈ TB) (d : decode cc pc = .ok (.putfield idx, 3)) (n : Nat) (hn : pc + 3 = n) (k : gmn_V x (gm_up G 0 b c 6 v) n lv st) : gmn_V x G pc lv (.int v :: .ref (gm_ad (cx_w x) 0 b c) :: st) := gvn_putf (fs := []) (ci := 0) (i := 6) (T := TX0) (N := 7) C hid (fun g => ⟨_, rfl, Nat.le_of_ble_eq_true rfl, rfl⟩) rfl iwX0 tyX0 tyX0_ok nmX0 (by decide) rfl rfl rfl rfl hlk d n hn k
theorem gfn_1_0 (C : gmn_X x cc nL own ret rk) {b c : Nat} (hid : (1, b, c) ∈ gmn_ids) (hlk : Cond.fieldLink own idx "BlockBells$Line" "sections" "[LBlockBells$Section;" ∈ TB) (d : decode cc pc = .ok (.getfield idx, 3)) (n : Nat) (hn : pc + 3 = n) (k : gmn_V x G n lv (.ref (gm_ad (cx_w x) 12 b 0) :: st)) : gmn_V x G pc lv (.ref (gm_ad (cx_w x) 1 b c) :: st) := gvn_getf (ci := 1) (i := 0) (T := TX1) (N := 8) C hid rfl rfl iwX1 (by decide) rfl hlk d n hn k
theorem gfn_1_1 (C : gmn_X x cc nL own ret rk) {b c : Nat} (hid : (1, b, c) ∈ gmn_ids) (hlk : Cond.fieldLink own idx "BlockBells$Line" "blocks" "[LBlockBells$Block;" ∈ TB) (d : decode cc pc = .ok (.getfield idx, 3)) (n : Nat) (hn : pc + 3 = n) (k : gmn_V x G n lv (.ref (gm_ad (cx_w x) 10 b 0) :: st)) : gmn_V x G pc lv (.ref (gm_ad (cx_w x) 1 b c) :: st) := gvn_getf (ci := 1) (i := 1) (T := TX1) (N := 8) C hid rfl rfl iwX1 (by decide) rfl hlk d n hn k
theorem gfn_1_3 (C : gmn_X x cc nL own ret rk) {b c : Nat} (hid : (1, b, c) ∈ gmn_ids) (hlk : Cond.fieldLink own idx "BlockBells$Line" "loops" "[I" ∈ TB) (d : decode cc pc = .ok (.getfield idx, 3)) (n : Nat) (hn : pc + 3 = n) (k : gmn_V x G n lv (.ref (gm_ad (cx_w x) 8 b 0) :: st)) : gmn_V x G pc lv (.ref (gm_ad (cx_w x) 1 b c) :: st) := gvn_getf (ci := 1) (i := 3) (T := TX1) (N := 8) C hid rfl rfl iwX1 (by decide) rfl hlk d n hn k
theorem gfn_1_4 (C : gmn_X x cc nL own ret rk) {b c : Nat} (hid : (1, b, c) ∈ gmn_ids) (hlk : Cond.fieldLink own idx "BlockBells$Line" "register" "LBlockBells$Register;" ∈ TB) (d : decode cc pc = .ok (.getfield idx, 3)) (n : Nat) (hn : pc + 3 = n) (k : gmn_V x G n lv (.ref (gm_ad (cx_w x) 3 b 0) :: st)) : gmn_V x G pc lv (.ref (gm_ad (cx_w x) 1 b c) :: st) := gvn_getf (ci := 1) (i := 4) (T := TX1) (N := 8) C hid rfl rfl iwX1 (by decide) rfl hlk d n hn k
theorem pfn_1_5 (C : gmn_X x cc nL own ret rk) {b c : Nat} {v : Int32} (hid : (1, b, c) ∈ gmn_ids) (hlk : Cond.fieldLink own idx "BlockBells$Line" "boxes" "I" ∈ TB) (d : decode cc pc = .ok (.putfield idx, 3)) (n : Nat) (hn : pc + 3 = n) (k : gmn_V x (gm_up G 1 b c 5 v) n lv st) : gmn_V x G pc lv (.int v :: .ref (gm_ad (cx_w x) 1 b c) :: st) := gvn_putf (fs := []) (ci := 1) (i := 5) (T := TX1) (N := 8) C hid (fun g => ⟨_, rfl, Nat.le_of_ble_eq_true rfl, rfl⟩) rfl iwX1 tyX1 tyX1_ok nmX1 (by decide) rfl rfl rfl rfl hlk d n hn k
theorem pfn_1_6 (C : gmn_X x cc nL own ret rk) {b c : Nat} {v : Int32} (hid : (1, b, c) ∈ gmn_ids) (hlk : Cond.fieldLink own idx "BlockBells$Line" "appeared" "I" ∈ TB) (d : decode cc pc = .ok (.putfield idx, 3)) (n : Nat) (hn : pc + 3 = n) (k : gmn_V x (gm_up G 1 b c 6 v) n lv st) : gmn_V x G pc lv (.int v :: .ref (gm_ad (cx_w x) 1 b c) :: st) := gvn_putf (fs := []) (ci := 1) (i := 6) (T := TX1) (N := 8) C hid (fun g => ⟨_, rfl, Nat.le_of_ble_eq_true rfl, rfl⟩) rfl iwX1 tyX1 tyX1_ok nmX1 (by decide) rfl rfl rfl rfl hlk d n hn k
theorem pfn_1_7 (C : gmn_X x cc nL own ret rk) {b c : Nat} {v : Int32} (hid : (1, b, c) ∈ gmn_ids) (hlk : Cond.fieldLink own idx "BlockBells$Line" "time" "I" ∈ TB) (d : decode cc pc = .ok (.putfield idx, 3)) (n : Nat) (hn : pc + 3 = n) (k : gmn_V x (gm_up G 1 b c 7 v) n lv st) : gmn_V x G pc lv (.int v :: .ref (gm_ad (cx_w x) 1 b c) :: st) := gvn_putf (fs := []) (ci := 1) (i := 7) (T := TX1) (N := 8) C hid (fun g => ⟨_, rfl, Nat.le_of_ble_eq_true rfl, rfl⟩) rfl iwX1 tyX1 tyX1_ok nmX1 (by decide) rfl rfl rfl rfl hlk d n hn k
theorem pfn_3_1 (C : gmn_X x cc nL own ret rk) {b c : Nat} {v : Int32} (hid : (3, b, c) ∈ gmn_ids) (hlk : Cond.fieldLink own idx "BlockBells$Register" "total" "I" ∈ TB) (d : decode cc pc = .ok (.putfield idx, 3)) (n : Nat) (hn : pc + 3 = n) (k : gmn_V x (gm_up G 3 b c 1 v) n lv st) : gmn_V x G pc lv (.int v :: .ref (gm_ad (cx_w x) 3 b c) :: st) := gvn_putf (fs := []) (ci := 3) (i := 1) (T := TX3) (N := 2) C hid (fun g => ⟨_, rfl, Nat.le_of_ble_eq_true rfl, rfl⟩) rfl iwX3 tyX3 tyX3_ok nmX3 (by decide) rfl rfl rfl rfl hlk d n hn k
theorem pfn_4_1 (C : gmn_X x cc nL own ret rk) {b c : Nat} {v : Int32} (hid : (4, b, c) ∈ gmn_ids) (hz : v = 0 ∨ v = 1) (hlk : Cond.fieldLink own idx "BlockBells$Section" "single" "Z" ∈ TB) (d : decode cc pc = .ok (.putfield idx, 3)) (n : Nat) (hn : pc + 3 = n) (k : gmn_V x (gm_up G 4 b c 1 v) n lv st) : gmn_V x G pc lv (.int v :: .ref (gm_ad (cx_w x) 4 b c) :: st) := gvn_putf (fs := []) (ci := 4) (i := 1) (T := TX4) (N := 6) C hid (fun g => ⟨_, rfl, Nat.le_of_ble_eq_true rfl, rfl⟩) rfl iwX4 tyX4 tyX4_ok nmX4 (by decide) rfl rfl (gm_zn hz) (gm_zf hz) hlk d n hn k
theorem pfn_4_2 (C : gmn_X x cc nL own ret rk) {b c : Nat} {v : Int32} (hid : (4, b, c) ∈ gmn_ids) (hlk : Cond.fieldLink own idx "BlockBells$Section" "runningTime" "I" ∈ TB) (d : decode cc pc = .ok (.putfield idx, 3)) (n : Nat) (hn : pc + 3 = n) (k : gmn_V x (gm_up G 4 b c 2 v) n lv st) : gmn_V x G pc lv (.int v :: .ref (gm_ad (cx_w x) 4 b c) :: st) := gvn_putf (fs := []) (ci := 4) (i := 2) (T := TX4) (N := 6) C hid (fun g => ⟨_, rfl, Nat.le_of_ble_eq_true rfl, rfl⟩) rfl iwX4 tyX4 tyX4_ok nmX4 (by decide) rfl rfl rfl rfl hlk d n hn k
theorem gfn_4_3 (C : gmn_X x cc nL own ret rk) {b c : Nat} (hid : (4, b, c) ∈ gmn_ids) (hlk : Cond.fieldLink own idx "BlockBells$Section" "lowerTokens" "I" ∈ TB) (d : decode cc pc = .ok (.getfield idx, 3)) (n : Nat) (hn : pc + 3 = n) (k : gmn_V x G n lv (.int (G 4 b c 3) :: st)) : gmn_V x G pc lv (.ref (gm_ad (cx_w x) 4 b c) :: st) := gvn_getf (ci := 4) (i := 3) (T := TX4) (N := 6) C hid rfl rfl iwX4 (by decide) rfl hlk d n hn k
theorem pfn_4_3 (C : gmn_X x cc nL own ret rk) {b c : Nat} {v : Int32} (hid : (4, b, c) ∈ gmn_ids) (hlk : Cond.fieldLink own idx "BlockBells$Section" "lowerTokens" "I" ∈ TB) (d : decode cc pc = .ok (.putfield idx, 3)) (n : Nat) (hn : pc + 3 = n) (k : gmn_V x (gm_up G 4 b c 3 v) n lv st) : gmn_V x G pc lv (.int v :: .ref (gm_ad (cx_w x) 4 b c) :: st) := gvn_putf (fs := []) (ci := 4) (i := 3) (T := TX4) (N := 6) C hid (fun g => ⟨_, rfl, Nat.le_of_ble_eq_true rfl, rfl⟩) rfl iwX4 tyX4 tyX4_ok nmX4 (by decide) rfl rfl rfl rfl hlk d n hn k
theorem pfn_4_4 (C : gmn_X x cc nL own ret rk) {b c : Nat} {v : Int32} (hid : (4, b, c) ∈ gmn_ids) (hlk : Cond.fieldLink own idx "BlockBells$Section" "higherTokens" "I" ∈ TB) (d : decode cc pc = .ok (.putfield idx, 3)) (n : Nat) (hn : pc + 3 = n) (k : gmn_V x (gm_up G 4 b c 4 v) n lv st) : gmn_V x G pc lv (.int v :: .ref (gm_ad (cx_w x) 4 b c) :: st) := gvn_putf (fs := []) (ci := 4) (i := 4) (T := TX4) (N := 6) C hid (fun g => ⟨_, rfl, Nat.le_of_ble_eq_true rfl, rfl⟩) rfl iwX4 tyX4 tyX4_ok nmX4 (by decide) rfl rfl rfl rfl hlk d n hn k
theorem pfn_4_5 (C : gmn_X x cc nL own ret rk) {b c : Nat} {v : Int32} (hid : (4, b, c) ∈ gmn_ids) (hz : v = 0 ∨ v = 1) (hlk : Cond.fieldLink own idx "BlockBells$Section" "tokenOut" "Z" ∈ TB) (d : decode cc pc = .ok (.putfield idx, 3)) (n : Nat) (hn : pc + 3 = n) (k : gmn_V x (gm_up G 4 b c 5 v) n lv st) : gmn_V x G pc lv (.int v :: .ref (gm_ad (cx_w x) 4 b c) :: st) := gvn_putf (fs := []) (ci := 4) (i := 5) (T := TX4) (N := 6) C hid (fun g => ⟨_, rfl, Nat.le_of_ble_eq_true rfl, rfl⟩) rfl iwX4 tyX4 tyX4_ok nmX4 (by decide) rfl rfl (gm_zn hz) (gm_zf hz) hlk d n hn k
theorem gvn_callVv (C : gmn_X x cc nL own ret rk) (M : gm_M y bytes mL rt kn) (M2 : Cond.instanceMethod y ∈ TB ∧ Cond.selects y.cls y y ∈ TB) (hk : k' + 1 ≤ rk) (hlk : Cond.methodLink own idx y ∈ TB) {a b c ci : Nat} {q : vw_C} (hid : (a, b, c) ∈ gmn_ids) (hc : ∃ fs, gm_cel (gm_cy (cx_w x)) (gm_ad (cx_w x)) (G a b c) a b c = .inr (ci, fs)) (hq : vwCl[ci]? = some q) (hqy : q.1 = y.cls) (hM : gmn_C (cx_w x) y bytes mL rt k' (.ref (gm_ad (cx_w x) a b c) :: As) G none G1) (hn : As.length = kn) (hst : st0 = As.reverse ++ .ref (gm_ad (cx_w x) a b c) :: st) (hs : (st.map fun v => v.category).sum ≤ 8) (d : decode cc pc = .ok (.invokevirtual idx, 3)) (n : Nat) (hpc : pc + 3 = n) (k : gmn_V x G1 n lv (st)) : gmn_V x G pc lv st0 := gvn_callV C M M2 hk hlk hid hc hq hqy hM hn hst hs d n hpc k
end
set_option maxRecDepth 100000 in
set_option maxHeartbeats 4000000 in
theorem knX4_layOut (w : gm_Wd) (l j : Nat) (hl : l < 1) (hj : j < 5) (a1 : Int32) (G : Gm) (q : Gm) (h : fX4_layOut l j a1 G = some q) : gmn_C w yX4_layOut cX4_layOut 2 none 0 [.ref (gm_ad w 4 l j), .int a1] G none q := by
  refine gmn_start (by decide) (Nat.le_of_ble_eq_true rfl) ?_
  intro x hw C E
  subst hw
  have C : gmn_X x cX4_layOut 2 RX4 none 0 := C
  unfold fX4_layOut at h
  refine gmn_lv (lv' := [(0, _), (1, _)]) rfl ?_
  refine gvn_aload_n C rfl 0 rfl dX4_layOut_0 1 rfl ?_
  refine gvn_iload_n C rfl 1 rfl dX4_layOut_1 2 rfl ?_
  obtain ⟨g1, h⟩ := gm_gp h
  refine pfn_4_1 C (gin_4 hl hj) g1 lkX4_15 dX4_layOut_2 5 rfl ?_
  refine gvn_aload_n C rfl 0 rfl dX4_layOut_5 6 rfl ?_
  refine gvn_iconst C 5 rfl dX4_layOut_6 7 rfl ?_
  refine pfn_4_2 C (gin_4 hl hj) lkX4_19 dX4_layOut_7 10 rfl ?_
  refine gvn_aload_n C rfl 0 rfl dX4_layOut_10 11 rfl ?_
  refine gvn_iload_n C rfl 1 rfl dX4_layOut_11 12 rfl ?_
  refine gvn_if_eq C dX4_layOut_12 19 (by decide) 15 rfl (fun c2 => ?_) (fun c2 => ?_)
  · replace h := gm_ip c2 h
    refine gvn_iconst C 0 rfl dX4_layOut_19 20 rfl ?_
    refine pfn_4_3 C (gin_4 hl hj) lkX4_22 dX4_layOut_20 23 rfl ?_
    refine gvn_aload_n C rfl 0 rfl dX4_layOut_23 24 rfl ?_
    refine gvn_aload_n C rfl 0 rfl dX4_layOut_24 25 rfl ?_
    refine gfn_4_3 C (gin_4 hl hj) lkX4_22 dX4_layOut_25 28 rfl ?_
    refine pfn_4_4 C (gin_4 hl hj) lkX4_25 dX4_layOut_28 31 rfl ?_
    obtain rfl := Option.some.inj h
    exact gvn_vret C E rfl rfl dX4_layOut_31
  · replace h := gm_iq c2 h
    refine gvn_iconst C 5 rfl dX4_layOut_15 16 rfl ?_
    refine gvn_goto C dX4_layOut_16 20 (by decide) ?_
    refine pfn_4_3 C (gin_4 hl hj) lkX4_22 dX4_layOut_20 23 rfl ?_
    refine gvn_aload_n C rfl 0 rfl dX4_layOut_23 24 rfl ?_
    refine gvn_aload_n C rfl 0 rfl dX4_layOut_24 25 rfl ?_
    refine gfn_4_3 C (gin_4 hl hj) lkX4_22 dX4_layOut_25 28 rfl ?_
    refine pfn_4_4 C (gin_4 hl hj) lkX4_25 dX4_layOut_28 31 rfl ?_
    obtain rfl := Option.some.inj h
    exact gvn_vret C E rfl rfl dX4_layOut_31
set_option maxRecDepth 100000 in
set_option maxHeartbeats 4000000 in
theorem knX0_reset (w : gm_Wd) (l j : Nat) (hl : l < 1) (hj : j < 10) (G : Gm) (q : Gm) (h : fX0_reset l j G = some q) : gmn_C w yX0_reset cX0_reset 1 none 0 [.ref (gm_ad w 0 l j)] G none q := by
  refine gmn_start (by decide) (Nat.le_of_ble_eq_true rfl) ?_
  intro x hw C E
  subst hw
  have C : gmn_X x cX0_reset 1 RX0 none 0 := C
  unfold fX0_reset at h
  refine gmn_lv (lv' := [(0, _)]) rfl ?_
  refine gvn_aload_n C rfl 0 rfl dX0_reset_0 1 rfl ?_
  refine gvn_iconst C 0 rfl dX0_reset_1 2 rfl ?_
  refine pfn_0_2 C (gin_0 hl hj) lkX0_19 dX0_reset_2 5 rfl ?_
  refine gvn_aload_n C rfl 0 rfl dX0_reset_5 6 rfl ?_
  refine gvn_bipush C (-6) rfl dX0_reset_6 8 rfl ?_
  refine pfn_0_3 C (gin_0 hl hj) lkX0_22 dX0_reset_8 11 rfl ?_
  refine gvn_aload_n C rfl 0 rfl dX0_reset_11 12 rfl ?_
  refine gvn_bipush C (-6) rfl dX0_reset_12 14 rfl ?_
  refine pfn_0_4 C (gin_0 hl hj) lkX0_25 dX0_reset_14 17 rfl ?_
  refine gvn_aload_n C rfl 0 rfl dX0_reset_17 18 rfl ?_
  refine gvn_iconst C 0 rfl dX0_reset_18 19 rfl ?_
  refine pfn_0_5 C (gin_0 hl hj) (Or.inl rfl) lkX0_28 dX0_reset_19 22 rfl ?_
  refine gvn_aload_n C rfl 0 rfl dX0_reset_22 23 rfl ?_
  refine gvn_iconst C 0 rfl dX0_reset_23 24 rfl ?_
  refine pfn_0_6 C (gin_0 hl hj) lkX0_32 dX0_reset_24 27 rfl ?_
  obtain rfl := Option.some.inj h
  exact gvn_vret C E rfl rfl dX0_reset_27
set_option maxRecDepth 100000 in
set_option maxHeartbeats 4000000 in
theorem knX1_clearTraffic (w : gm_Wd) (l : Nat) (hl : l < 1) (G : Gm) (q : Gm) (h : fX1_clearTraffic l G = some q) : gmn_C w yX1_clearTraffic cX1_clearTraffic 2 none 1 [.ref (gm_ad w 1 l 0)] G none q := by
  refine gmn_start (by decide) (Nat.le_of_ble_eq_true rfl) ?_
  intro x hw C E
  subst hw
  have C : gmn_X x cX1_clearTraffic 2 RX1 none 1 := C
  unfold fX1_clearTraffic at h
  have L30 : ∀ (n30 : Nat) (v1 : Int32) (G : Gm), fX1_clearTraffic_h30 l n30 v1 G = some q → gmn_V x G 30 [(0, .ref (gm_ad (cx_w x) 1 l 0)), (1, .int v1)] [] := by
    intro n30
    induction n30 with
    | zero => intro v1 G h; cases h
    | succ n30 ih30 =>
      intro v1 G h
      rw [fX1_clearTraffic_h30.eq_2] at h
      refine gvn_iload_n C rfl 1 rfl dX1_clearTraffic_30 31 rfl ?_
      refine gvn_bipush C 10 rfl dX1_clearTraffic_31 33 rfl ?_
      refine gvn_icmp_ge C dX1_clearTraffic_33 51 (by decide) 36 rfl (fun c2 => ?_) (fun c2 => ?_)
      · replace h := gm_ip c2 h
        obtain rfl := Option.some.inj h
        exact gvn_vret C E rfl rfl dX1_clearTraffic_51
      · replace h := gm_iq c2 h
        refine gvn_aload_n C rfl 0 rfl dX1_clearTraffic_36 37 rfl ?_
        refine gfn_1_1 C (gin_1 hl) lkX1_19 dX1_clearTraffic_37 40 rfl ?_
        refine gvn_iload_n C rfl 1 rfl dX1_clearTraffic_40 41 rfl ?_
        obtain ⟨g3, h⟩ := gm_gis h
        refine gvn_aald10 C (gin_10 hl) g3 dX1_clearTraffic_41 42 rfl ?_
        obtain ⟨q4, hq4, h⟩ := gm_bd h
        refine gvn_callVv C mc_yX0_reset ⟨mi_yX0_reset, me_yX0_reset⟩ (by decide) mkX1_74 (gin_0 hl (gm_lt g3)) ⟨_, rfl⟩ rfl rfl (knX0_reset _ _ _ hl (gm_lt g3) _ _ hq4) rfl rfl (Nat.le_of_ble_eq_true rfl) dX1_clearTraffic_42 45 rfl ?_
        refine gvn_iinc C 1 rfl rfl [(1, _), (0, _)] (by decide) rfl dX1_clearTraffic_45 48 rfl ?_
        refine gvn_goto C dX1_clearTraffic_48 30 (by decide) ?_
        refine gmn_ls [1, 0] rfl ?_
        exact ih30 _ _ h
  have L7 : ∀ (n7 : Nat) (v1 : Int32) (G : Gm), fX1_clearTraffic_h7 l n7 v1 G = some q → gmn_V x G 7 [(0, .ref (gm_ad (cx_w x) 1 l 0)), (1, .int v1)] [] := by
    intro n7
    induction n7 with
    | zero => intro v1 G h; cases h
    | succ n7 ih7 =>
      intro v1 G h
      rw [fX1_clearTraffic_h7.eq_2] at h
      refine gvn_iload_n C rfl 1 rfl dX1_clearTraffic_7 8 rfl ?_
      refine gvn_iconst C 5 rfl dX1_clearTraffic_8 9 rfl ?_
      refine gvn_icmp_ge C dX1_clearTraffic_9 28 (by decide) 12 rfl (fun c1 => ?_) (fun c1 => ?_)
      · replace h := gm_ip c1 h
        refine gvn_iconst C 0 rfl dX1_clearTraffic_28 29 rfl ?_
        refine gvn_istore_n C rfl [(1, _), (0, _)] (by decide) rfl dX1_clearTraffic_29 30 rfl ?_
        refine gmn_ls [1, 0] rfl ?_
        exact L30 _ _ _ h
      · replace h := gm_iq c1 h
        refine gvn_aload_n C rfl 0 rfl dX1_clearTraffic_12 13 rfl ?_
        refine gfn_1_0 C (gin_1 hl) lkX1_11 dX1_clearTraffic_13 16 rfl ?_
        refine gvn_iload_n C rfl 1 rfl dX1_clearTraffic_16 17 rfl ?_
        obtain ⟨g5, h⟩ := gm_gis h
        refine gvn_aald12 C (gin_12 hl) g5 dX1_clearTraffic_17 18 rfl ?_
        refine gvn_iconst C 0 rfl dX1_clearTraffic_18 19 rfl ?_
        refine pfn_4_5 C (gin_4 hl (gm_lt g5)) (Or.inl rfl) lkX1_70 dX1_clearTraffic_19 22 rfl ?_
        refine gvn_iinc C 1 rfl rfl [(1, _), (0, _)] (by decide) rfl dX1_clearTraffic_22 25 rfl ?_
        refine gvn_goto C dX1_clearTraffic_25 7 (by decide) ?_
        refine gmn_ls [1, 0] rfl ?_
        exact ih7 _ _ h
  refine gmn_lv (lv' := [(0, _)]) rfl ?_
  refine gvn_aload_n C rfl 0 rfl dX1_clearTraffic_0 1 rfl ?_
  refine gvn_iconst C 0 rfl dX1_clearTraffic_1 2 rfl ?_
  refine pfn_1_6 C (gin_1 hl) lkX1_67 dX1_clearTraffic_2 5 rfl ?_
  refine gvn_iconst C 0 rfl dX1_clearTraffic_5 6 rfl ?_
  refine gvn_istore_n C rfl [(1, _), (0, _)] (by decide) rfl dX1_clearTraffic_6 7 rfl ?_
  refine gmn_ls [1, 0] rfl ?_
  exact L7 _ _ _ h
set_option maxRecDepth 100000 in
set_option maxHeartbeats 4000000 in
theorem knX1_layOut (w : gm_Wd) (l : Nat) (hl : l < 1) (a1 a2 : Int32) (G : Gm) (q : Gm) (h : fX1_layOut l a1 a2 G = some q) : gmn_C w yX1_layOut cX1_layOut 4 none 2 [.ref (gm_ad w 1 l 0), .int a1, .int a2] G none q := by
  refine gmn_start (by decide) (Nat.le_of_ble_eq_true rfl) ?_
  intro x hw C E
  subst hw
  have C : gmn_X x cX1_layOut 4 RX1 none 2 := C
  unfold fX1_layOut at h
  have L43 : ∀ (n43 : Nat) (v3 : Int32) (G : Gm), fX1_layOut_h43 l a1 a2 n43 v3 G = some q → gmn_V x G 43 [(0, .ref (gm_ad (cx_w x) 1 l 0)), (1, .int a1), (2, .int a2), (3, .int v3)] [] := by
    intro n43
    induction n43 with
    | zero => intro v3 G h; cases h
    | succ n43 ih43 =>
      intro v3 G h
      rw [fX1_layOut_h43.eq_2] at h
      refine gvn_iload_n C rfl 3 rfl dX1_layOut_43 44 rfl ?_
      refine gvn_bipush C 12 rfl dX1_layOut_44 46 rfl ?_
      refine gvn_icmp_ge C dX1_layOut_46 62 (by decide) 49 rfl (fun c2 => ?_) (fun c2 => ?_)
      · replace h := gm_ip c2 h
        refine gvn_aload_n C rfl 0 rfl dX1_layOut_62 63 rfl ?_
        obtain ⟨q3, hq3, h⟩ := gm_bd h
        refine gvn_callVv C mc_yX1_clearTraffic ⟨mi_yX1_clearTraffic, me_yX1_clearTraffic⟩ (by decide) mkX1_58 (gin_1 hl) ⟨_, rfl⟩ rfl rfl (knX1_clearTraffic _ _ hl _ _ hq3) rfl rfl (Nat.le_of_ble_eq_true rfl) dX1_layOut_63 66 rfl ?_
        refine gvn_aload_n C rfl 0 rfl dX1_layOut_66 67 rfl ?_
        refine gvn_iconst C 0 rfl dX1_layOut_67 68 rfl ?_
        refine pfn_1_7 C (gin_1 hl) lkX1_61 dX1_layOut_68 71 rfl ?_
        refine gvn_aload_n C rfl 0 rfl dX1_layOut_71 72 rfl ?_
        refine gfn_1_4 C (gin_1 hl) lkX1_43 dX1_layOut_72 75 rfl ?_
        refine gvn_iconst C 0 rfl dX1_layOut_75 76 rfl ?_
        refine pfn_3_1 C (gin_3 hl) lkX1_64 dX1_layOut_76 79 rfl ?_
        obtain rfl := Option.some.inj h
        exact gvn_vret C E rfl rfl dX1_layOut_79
      · replace h := gm_iq c2 h
        refine gvn_aload_n C rfl 0 rfl dX1_layOut_49 50 rfl ?_
        refine gfn_1_3 C (gin_1 hl) lkX1_36 dX1_layOut_50 53 rfl ?_
        refine gvn_iload_n C rfl 3 rfl dX1_layOut_53 54 rfl ?_
        refine gvn_iconst C 1 rfl dX1_layOut_54 55 rfl ?_
        obtain ⟨g4, h⟩ := gm_gis h
        refine gvn_iast C (gin_8 hl (by decide)) (gm_l0 (Nat.lt_of_lt_of_le hl (by decide))) g4 dX1_layOut_55 56 rfl ?_
        refine gvn_iinc C 3 rfl rfl [(3, _), (0, _), (1, _), (2, _)] (by decide) rfl dX1_layOut_56 59 rfl ?_
        refine gvn_goto C dX1_layOut_59 43 (by decide) ?_
        refine gmn_ls [1, 2, 3, 0] rfl ?_
        exact ih43 _ _ h
  have L7 : ∀ (n7 : Nat) (v3 : Int32) (G : Gm), fX1_layOut_h7 l a1 a2 n7 v3 G = some q → gmn_V x G 7 [(0, .ref (gm_ad (cx_w x) 1 l 0)), (1, .int a1), (2, .int a2), (3, .int v3)] [] := by
    intro n7
    induction n7 with
    | zero => intro v3 G h; cases h
    | succ n7 ih7 =>
      intro v3 G h
      rw [fX1_layOut_h7.eq_2] at h
      refine gvn_iload_n C rfl 3 rfl dX1_layOut_7 8 rfl ?_
      refine gvn_iconst C 5 rfl dX1_layOut_8 9 rfl ?_
      refine gvn_icmp_ge C dX1_layOut_9 41 (by decide) 12 rfl (fun c1 => ?_) (fun c1 => ?_)
      · replace h := gm_ip c1 h
        refine gvn_iconst C 0 rfl dX1_layOut_41 42 rfl ?_
        refine gvn_istore_n C rfl [(3, _), (0, _), (1, _), (2, _)] (by decide) rfl dX1_layOut_42 43 rfl ?_
        refine gmn_ls [1, 2, 3, 0] rfl ?_
        exact L43 _ _ _ h
      · replace h := gm_iq c1 h
        refine gvn_aload_n C rfl 0 rfl dX1_layOut_12 13 rfl ?_
        refine gfn_1_0 C (gin_1 hl) lkX1_11 dX1_layOut_13 16 rfl ?_
        refine gvn_iload_n C rfl 3 rfl dX1_layOut_16 17 rfl ?_
        obtain ⟨g5, h⟩ := gm_gis h
        refine gvn_aald12 C (gin_12 hl) g5 dX1_layOut_17 18 rfl ?_
        refine gvn_iload_n C rfl 2 rfl dX1_layOut_18 19 rfl ?_
        refine gvn_iload_n C rfl 3 rfl dX1_layOut_19 20 rfl ?_
        refine gvn_ishr C dX1_layOut_20 21 rfl ?_
        refine gvn_iconst C 1 rfl dX1_layOut_21 22 rfl ?_
        refine gvn_iand C dX1_layOut_22 23 rfl ?_
        refine gvn_iconst C 1 rfl dX1_layOut_23 24 rfl ?_
        refine gvn_icmp_ne C dX1_layOut_24 31 (by decide) 27 rfl (fun c6 => ?_) (fun c6 => ?_)
        · replace h := gm_ip c6 h
          refine gvn_iconst C 1 rfl dX1_layOut_27 28 rfl ?_
          refine gvn_goto C dX1_layOut_28 32 (by decide) ?_
          obtain ⟨q7, hq7, h⟩ := gm_bd h
          refine gvn_callVv C mc_yX4_layOut ⟨mi_yX4_layOut, me_yX4_layOut⟩ (by decide) mkX1_55 (gin_4 hl (gm_lt g5)) ⟨_, rfl⟩ rfl rfl (knX4_layOut _ _ _ hl (gm_lt g5) _ _ _ hq7) rfl rfl (Nat.le_of_ble_eq_true rfl) dX1_layOut_32 35 rfl ?_
          refine gvn_iinc C 3 rfl rfl [(3, _), (0, _), (1, _), (2, _)] (by decide) rfl dX1_layOut_35 38 rfl ?_
          refine gvn_goto C dX1_layOut_38 7 (by decide) ?_
          refine gmn_ls [1, 2, 3, 0] rfl ?_
          exact ih7 _ _ h
        · replace h := gm_iq c6 h
          refine gvn_iconst C 0 rfl dX1_layOut_31 32 rfl ?_
          obtain ⟨q8, hq8, h⟩ := gm_bd h
          refine gvn_callVv C mc_yX4_layOut ⟨mi_yX4_layOut, me_yX4_layOut⟩ (by decide) mkX1_55 (gin_4 hl (gm_lt g5)) ⟨_, rfl⟩ rfl rfl (knX4_layOut _ _ _ hl (gm_lt g5) _ _ _ hq8) rfl rfl (Nat.le_of_ble_eq_true rfl) dX1_layOut_32 35 rfl ?_
          refine gvn_iinc C 3 rfl rfl [(3, _), (0, _), (1, _), (2, _)] (by decide) rfl dX1_layOut_35 38 rfl ?_
          refine gvn_goto C dX1_layOut_38 7 (by decide) ?_
          refine gmn_ls [1, 2, 3, 0] rfl ?_
          exact ih7 _ _ h
  refine gmn_lv (lv' := [(0, _), (1, _), (2, _)]) rfl ?_
  refine gvn_aload_n C rfl 0 rfl dX1_layOut_0 1 rfl ?_
  refine gvn_iload_n C rfl 1 rfl dX1_layOut_1 2 rfl ?_
  refine pfn_1_5 C (gin_1 hl) lkX1_51 dX1_layOut_2 5 rfl ?_
  refine gvn_iconst C 0 rfl dX1_layOut_5 6 rfl ?_
  refine gvn_istore_n C rfl [(3, _), (0, _), (1, _), (2, _)] (by decide) rfl dX1_layOut_6 7 rfl ?_
  refine gmn_ls [1, 2, 3, 0] rfl ?_
  exact L7 _ _ _ h
