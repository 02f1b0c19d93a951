/-- the words that serve every method -/
def TB : List Cond := lw_tbl.filter goodWord
theorem tb_in : ∀ w ∈ TB, w ∈ lw_tbl := fun _ h => (List.mem_filter.mp h).1
theorem tb_ok : ∀ w ∈ TB, goodWord w = true := fun _ h => (List.mem_filter.mp h).2
theorem tb_T {w : Cond} (h : w ∈ tables_1) (g : goodWord w = true) : w ∈ TB := List.mem_filter.mpr ⟨List.mem_append_right _ h, g⟩
theorem tb_S {q : MethodName × Nat} (h : q ∈ lw_privs) (g : goodWord (Cond.selects q.1.cls q.1 q.1) = true) : Cond.selects q.1.cls q.1 q.1 ∈ TB := List.mem_filter.mpr ⟨List.mem_append_left _ (List.mem_map.mpr ⟨q, h, rfl⟩), g⟩
/-! The world: every object of both systems by a name (kind, line, number); all that changes is a whole number: G kind line number slot. -/
abbrev Gm : Type := Nat → Nat → Nat → Nat → Int32
def gm_up (G : Gm) (a b c k : Nat) (v : Int32) : Gm := fun a' b' c' k' => if a' = a ∧ b' = b ∧ c' = c ∧ k' = k then v else G a' b' c' k'
def gm_len (b c : Nat) : Nat := if b < 4 then (if c = 0 then 12 else 300) else if b = 4 then 60 else if c = 2 then 5724 else if c = 3 then 60 else if c = 4 then 180 else 2862
abbrev gm_Rf (f : Nat → Option Nat) : (Nat → Int32) ⊕ (Nat → Int64) ⊕ (Nat → UInt32) ⊕ (Nat → UInt64) ⊕ (Nat → Option Nat) := .inr (.inr (.inr (.inr f)))
/-- what a cell holds, of its own whole numbers g -/
def gm_cel (cy : Nat → ClassId) (ad : Nat → Nat → Nat → Nat) (g : Nat → Int32) (a b c : Nat) : va_E := match a with
  | 0 => .inr (0, [.ref (ad 4 b (c / 2)), .int (nI (c % 2)), .int (g 2), .int (g 3), .int (g 4), .int (g 5), .int (g 6)])
  | 1 => .inr (1, [.ref (ad 12 b 0), .ref (ad 10 b 0), .ref (ad 13 b 0), .ref (ad 8 b 0), .ref (ad 3 b 0), .int (g 5), .int (g 6), .int (g 7)])
  | 2 => .inr (2, [.ref (ad 8 4 0), .int (g 1), .int (g 2), .int (g 3), .int (g 4), .int (g 5)])
  | 3 => .inr (3, [.ref (ad 8 b 1), .int (g 1)])
  | 4 => .inr (4, [.int (nI c), .int (g 1), .int (g 2), .int (g 3), .int (g 4), .int (g 5)])
  | 5 => .inr (5, [.int (nI c), .int (g 1), .int (g 2), .int (g 3), .int (g 4), .int (g 5), .int (g 6), .int (g 7), .int (g 8)])
  | 6 => .inr (6, [.ref (ad 1 0 0), .ref (ad 1 1 0), .ref (ad 11 4 0), .ref (ad 9 4 0), .ref (ad 2 4 0)])
  | 7 => .inr (7, [.ref (ad 8 5 0), .ref (ad 8 5 1), .ref (ad 8 5 2), .ref (ad 9 5 0), .ref (ad 8 5 3), .int (g 5), .int (g 6), .int (g 7), .ref (ad 8 5 4), .int (g 9)])
  | 8 => .inl (cy 0, gm_len b c, .inl g)
  | 9 => .inl (cy 1, 2, .inl g)
  | 10 => .inl (cy 2, 10, gm_Rf (fun k => some (ad 0 b k)))
  | 11 => .inl (cy 3, 2, gm_Rf (fun k => some (ad 1 (k + 2) 0)))
  | 12 => .inl (cy 4, 5, gm_Rf (fun k => some (ad 4 b k)))
  | _ => .inl (cy 5, 12, gm_Rf (fun k => some (ad 5 b k)))
def gm_ids : List (Nat × Nat × Nat) := ((List.range 4).flatMap fun b => [(1, b, 0), (3, b, 0), (8, b, 0), (8, b, 1), (10, b, 0), (12, b, 0), (13, b, 0)] ++ (List.range 10).map (fun c => (0, b, c)) ++ (List.range 5).map (fun c => (4, b, c)) ++ (List.range 12).map (fun c => (5, b, c))) ++ [(2, 4, 0), (6, 4, 0), (8, 4, 0), (9, 4, 0), (11, 4, 0), (7, 5, 0), (8, 5, 0), (8, 5, 1), (8, 5, 2), (8, 5, 3), (8, 5, 4), (9, 5, 0)]
theorem gi_0 {b c : Nat} (h1 : b < 4) (h2 : c < 10) : (0, b, c) ∈ gm_ids := (by decide +kernel : ∀ b < 4, ∀ c < 10, (0, b, c) ∈ gm_ids) b h1 c h2
theorem gi_1 {b : Nat} (h1 : b < 4) : (1, b, 0) ∈ gm_ids := (by decide +kernel : ∀ b < 4, (1, b, 0) ∈ gm_ids) b h1
theorem gi_2 : (2, 4, 0) ∈ gm_ids := by decide +kernel
theorem gi_3 {b : Nat} (h1 : b < 4) : (3, b, 0) ∈ gm_ids := (by decide +kernel : ∀ b < 4, (3, b, 0) ∈ gm_ids) b h1
theorem gi_4 {b c : Nat} (h1 : b < 4) (h2 : c < 5) : (4, b, c) ∈ gm_ids := (by decide +kernel : ∀ b < 4, ∀ c < 5, (4, b, c) ∈ gm_ids) b h1 c h2
theorem gi_5 {b c : Nat} (h1 : b < 4) (h2 : c < 12) : (5, b, c) ∈ gm_ids := (by decide +kernel : ∀ b < 4, ∀ c < 12, (5, b, c) ∈ gm_ids) b h1 c h2
theorem gi_6 : (6, 4, 0) ∈ gm_ids := by decide +kernel
theorem gi_7 : (7, 5, 0) ∈ gm_ids := by decide +kernel
theorem gi_8 {b c : Nat} (h1 : b < 4) (h2 : c < 2) : (8, b, c) ∈ gm_ids := (by decide +kernel : ∀ b < 4, ∀ c < 2, (8, b, c) ∈ gm_ids) b h1 c h2
theorem gi_84 : (8, 4, 0) ∈ gm_ids := by decide +kernel
theorem gi_85 {c : Nat} (h2 : c < 5) : (8, 5, c) ∈ gm_ids := (by decide +kernel : ∀ c < 5, (8, 5, c) ∈ gm_ids) c h2
theorem gi_94 : (9, 4, 0) ∈ gm_ids := by decide +kernel
theorem gi_95 : (9, 5, 0) ∈ gm_ids := by decide +kernel
theorem gi_10 {b : Nat} (h1 : b < 4) : (10, b, 0) ∈ gm_ids := (by decide +kernel : ∀ b < 4, (10, b, 0) ∈ gm_ids) b h1
theorem gi_11 : (11, 4, 0) ∈ gm_ids := by decide +kernel
theorem gi_12 {b : Nat} (h1 : b < 4) : (12, b, 0) ∈ gm_ids := (by decide +kernel : ∀ b < 4, (12, b, 0) ∈ gm_ids) b h1
theorem gi_13 {b : Nat} (h1 : b < 4) : (13, b, 0) ∈ gm_ids := (by decide +kernel : ∀ b < 4, (13, b, 0) ∈ gm_ids) b h1
theorem gm_nd : ∀ i j : Nat, i < 148 → j < 148 → gm_ids[i]? = gm_ids[j]? → i = j := by
  intro i j hi hj h
  exact (by decide +kernel : ∀ i < 148, ∀ j < 148, gm_ids[i]? = gm_ids[j]? → i = j) i hi j hj h
theorem gm_ln : gm_ids.length = 148 := by decide +kernel
abbrev gm_Wd : Type := Launch × (Nat → ClassId) × (Nat → Nat → Nat) × (Nat → ClassId) × (Nat → Nat → Nat → Nat)
abbrev gm_D (w : gm_Wd) : va_G := (w.2.1, w.2.2.1)
abbrev gm_cy (w : gm_Wd) : Nat → ClassId := w.2.2.2.1
abbrev gm_ad (w : gm_Wd) : Nat → Nat → Nat → Nat := w.2.2.2.2
def gm_w (w : gm_Wd) (G : Gm) : va_W := gm_ids.map fun o => (gm_ad w o.1 o.2.1 o.2.2, gm_cel (gm_cy w) (gm_ad w) (G o.1 o.2.1 o.2.2) o.1 o.2.1 o.2.2)
theorem gm_at {a b c : Nat} (h : (a, b, c) ∈ gm_ids) : ∃ k : Nat, gm_ids[k]? = some (a, b, c) := List.getElem?_of_mem h
theorem gm_w_at (w : gm_Wd) (G : Gm) {a b c k : Nat} (h : gm_ids[k]? = some (a, b, c)) : (gm_w w G)[k]? = some (gm_ad w a b c, gm_cel (gm_cy w) (gm_ad w) (G a b c) a b c) := by
  unfold gm_w
  rw [List.getElem?_map, h]
  rfl
theorem gm_inj {i j : Nat} {o : Nat × Nat × Nat} (h1 : gm_ids[i]? = some o) (h2 : gm_ids[j]? = some o) : i = j := by
  have a1 := (List.getElem?_eq_some_iff.mp h1).1
  have a2 := (List.getElem?_eq_some_iff.mp h2).1
  rw [gm_ln] at a1 a2
  exact gm_nd i j a1 a2 (h1.trans h2.symm)
theorem gm_set (w : gm_Wd) {G G' : Gm} {a b c k : Nat} (h : gm_ids[k]? = some (a, b, c)) (hG : ∀ a' b' c', ¬ (a' = a ∧ b' = b ∧ c' = c) → G' a' b' c' = G a' b' c') : (gm_w w G).set k (gm_ad w a b c, gm_cel (gm_cy w) (gm_ad w) (G' a b c) a b c) = gm_w w G' := by
  apply List.ext_getElem?
  intro j
  rw [List.getElem?_set]
  by_cases hj : k = j
  · subst hj
    have hl : k < (gm_w w G).length := by
      unfold gm_w
      rw [List.length_map]
      exact (List.getElem?_eq_some_iff.mp h).1
    rw [if_pos rfl, if_pos hl, gm_w_at w G' h]
  · rw [if_neg hj]
    unfold gm_w
    rw [List.getElem?_map, List.getElem?_map]
    cases ho : gm_ids[j]? with
    | none => rfl
    | some o =>
      obtain ⟨a', b', c'⟩ := o
      have hne : ¬ (a' = a ∧ b' = b ∧ c' = c) := by
        rintro ⟨rfl, rfl, rfl⟩
        exact hj (gm_inj h ho)
      simp only [Option.map_some]
      rw [hG a' b' c' hne]
theorem gm_up_ne {G : Gm} {a b c k : Nat} {v : Int32} : ∀ a' b' c', ¬ (a' = a ∧ b' = b ∧ c' = c) → gm_up G a b c k v a' b' c' = G a' b' c' := by
  intro a' b' c' h
  funext k'
  unfold gm_up
  rw [if_neg]
  rintro ⟨h1, h2, h3, -⟩
  exact h ⟨h1, h2, h3⟩
theorem gm_up_at {G : Gm} {a b c k : Nat} {v : Int32} : gm_up G a b c k v a b c = upd (G a b c) k v := by
  funext k'
  simp [gm_up, upd]
def gm_A (w : gm_Wd) : Nat → Prop := fun q => ∃ a b c : Nat, (a, b, c) ∈ gm_ids ∧ q = gm_ad w a b c
def gm_J (w : gm_Wd) : Prop := ∀ a b c a' b' c' : Nat, (a, b, c) ∈ gm_ids → (a', b', c') ∈ gm_ids → gm_ad w a b c = gm_ad w a' b' c' → (a, b, c) = (a', b', c')
theorem gm_dis {w : gm_Wd} (hJ : gm_J w) (G : Gm) : va_D (gm_A w) (gm_w w G) := by
  have key : ∀ (i : Nat) (p : Nat × va_E), (gm_w w G)[i]? = some p → ∃ a b c, gm_ids[i]? = some (a, b, c) ∧ p.1 = gm_ad w a b c := by
    intro i p h
    unfold gm_w at h
    rw [List.getElem?_map] at h
    cases ho : gm_ids[i]? with
    | none => rw [ho] at h; cases h
    | some o =>
      obtain ⟨a, b, c⟩ := o
      rw [ho] at h
      exact ⟨a, b, c, rfl, by rw [← Option.some.inj h]⟩
  refine ⟨fun i j p q h1 h2 he => ?_, fun k q h => ?_⟩
  · obtain ⟨a, b, c, g1, e1⟩ := key i p h1
    obtain ⟨a', b', c', g2, e2⟩ := key j q h2
    have := hJ a b c a' b' c' (List.mem_of_getElem? g1) (List.mem_of_getElem? g2) (by rw [← e1, ← e2, he])
    rw [this] at g1
    exact gm_inj g1 g2
  · obtain ⟨a, b, c, g1, e1⟩ := key k q h
    exact ⟨a, b, c, List.mem_of_getElem? g1, e1⟩
def gm_tys (w : gm_Wd) : List (ClassId × FieldType) := [(gm_cy w 0, .int), (gm_cy w 1, .boolean), (gm_cy w 2, .object RX0), (gm_cy w 3, .object RX1), (gm_cy w 4, .object RX4), (gm_cy w 5, .object RX5)]
def gm_K (w : gm_Wd) (U : State) : Prop := va_K (gm_D w) vwCl (gm_tys w) U ∧ va_Nw (.methodLinkNest RX1 176 yX6_isDirection RX6) U ∧ va_Nw (.methodLinkNest RX1 213 yX6_offerCode RX6) U
theorem gm_K_warm {w : gm_Wd} {s U : State} (hW : s.WarmedH U.vm) (h : gm_K w s) : gm_K w U := ⟨va_K.moved hW.alike h.1, va_Nw.warmM hW h.2.1, va_Nw.warmM hW h.2.2⟩
theorem gm_K_same {w : gm_Wd} {s U : State} (hW : s.vm = U.vm) (h : gm_K w s) : gm_K w U := ⟨va_K.moved (hW ▸ Vm.Alike.refl s.vm) h.1, va_Nw.same rfl hW h.2.1, va_Nw.same rfl hW h.2.2⟩
abbrev gm_rm (rk : Nat) : Room := { frames := rk, cells := 0, slots := 0, locals := 36 * rk }
/-- A CONTRACT: with the world G the method answers r, and the world is G' -/
def gm_C (w : gm_Wd) (y : MethodName) (cc : ByteArray) (mL : Nat) (ret : Option FieldType) (rk : Nat) (av : List Value) (G : Gm) (r : Option Value) (G' : Gm) : Prop :=
  Met w.1 y (Cond.code y cc mL ret :: TB) (gm_rm rk) (va_Pc av (fun U => va_P (gm_D w) vwCl (gm_w w G) U.heap ∧ gm_K w U ∧ gm_J w))
    (fun _ st oc t => (oc = .returned r ∧ va_P (gm_D w) vwCl (gm_w w G') t.heap) ∧ va_F (gm_A w) st t) 0 0 (gm_A w)
theorem gm_in {y : MethodName} {cc : ByteArray} {mL : Nat} {ret : Option FieldType} (hy : Cond.code y cc mL ret ∈ TB) : GoodIn TB (Cond.code y cc mL ret :: TB) := by
  intro q hq
  have hm : q ∈ TB := by
    rcases List.mem_cons.mp hq with h | h
    · rw [h]; exact hy
    · exact h
  exact ⟨hm, good_of_word (tb_ok q hm)⟩
/-- where a walk stands: machine, frame, what is asked, what may change, the world's numbers -/
abbrev gm_Cx : Type := Program × Env × Room × State × MethodId × Array Value × List Frame × Method × Code × (State → Prop) × (Nat → Prop) × (Nat × Nat) × gm_Wd
abbrev cx_p (x : gm_Cx) : Program := x.1
abbrev cx_e (x : gm_Cx) : Env := x.2.1
abbrev cx_R (x : gm_Cx) : Room := x.2.2.1
abbrev cx_s (x : gm_Cx) : State := x.2.2.2.1
abbrev cx_m (x : gm_Cx) : MethodId := x.2.2.2.2.1
abbrev cx_args (x : gm_Cx) : Array Value := x.2.2.2.2.2.1
abbrev cx_below (x : gm_Cx) : List Frame := x.2.2.2.2.2.2.1
abbrev cx_meth (x : gm_Cx) : Method := x.2.2.2.2.2.2.2.1
abbrev cx_c (x : gm_Cx) : Code := x.2.2.2.2.2.2.2.2.1
abbrev cx_Q (x : gm_Cx) : State → Prop := x.2.2.2.2.2.2.2.2.2.1
abbrev cx_A (x : gm_Cx) : Nat → Prop := x.2.2.2.2.2.2.2.2.2.2.1
abbrev cx_k (x : gm_Cx) : Nat × Nat := x.2.2.2.2.2.2.2.2.2.2.2.1
abbrev cx_w (x : gm_Cx) : gm_Wd := x.2.2.2.2.2.2.2.2.2.2.2.2
/-- what holds of it, all the way -/
def gm_X (x : gm_Cx) (cc : ByteArray) (nL : Nat) (own : String) (ret : Option FieldType) (rk : Nat) : Prop :=
  (cx_p x).tables.exec = Jvm.exec ∧ (cx_c x).code = cc ∧ (cx_c x).maxLocals = nL ∧ (cx_s x).vm.findClass own = some (cx_m x).cls ∧ (∀ w ∈ TB, w.before (cx_args x) (cx_s x) = true) ∧ gm_K (cx_w x) (cx_s x) ∧ gm_J (cx_w x) ∧ (cx_meth x).sig.returnType = ret ∧ (cx_meth x).locks = false ∧ (∀ q, gm_A (cx_w x) q → cx_A x q) ∧ (rk ≤ (cx_R x).frames ∧ 36 * rk ≤ (cx_R x).locals ∧ (cx_k x).1 ≤ (cx_R x).cells ∧ (cx_k x).2 ≤ (cx_R x).slots)
/-- the machine, at pc with these locals and this stack, in the world G, comes to what is asked -/
def gm_V (x : gm_Cx) (G : Gm) (pc : Nat) (lv : List (Nat × Value)) (st : List Value) : Prop :=
  ∀ (H : Heap) (locs : List Loc) (ls : Array Slot), va_P (gm_D (cx_w x)) vwCl (gm_w (cx_w x) G) H → va_S (cx_A x) (cx_s x).heap H locs → lv_has ls (cx_c x).maxLocals lv → W (cx_p x) (cx_w x).1 (cx_e x) (cx_R x) (cx_s x) (cx_m x) (cx_args x) (cx_below x) (cx_meth x) (cx_c x) H locs (cx_k x).1 (cx_k x).2 (cx_Q x) (F0 (cx_m x) pc ls st)
