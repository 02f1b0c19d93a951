/-! THE CLAIM OUT OF ONE WALK OF THE LAW'S BODY. Your part is whole_start (and what it stands on); all else here is the same for every law, but numbers. -/
def R_law : String := "BlockBellsLaw"
def lw_P (b : Addr) (xs : List Int32) (args : Array Value) (s : State) : Prop := args = #[.ref b] ∧ s.IntsAt b xs ∧ xs.length ≤ 2048 ∧ (Jvm.Cond.and given_1 narrow_1).before args s = true
def lw_Q (_ : Array Value) (s : State) (o : Outcome) (t : State) : Prop := o = .returned (some (.int 1)) ∧ Framed s o t [] 600000 7302250
def lw_Z (below : List Frame) (a : Array Value) (s : State) : State → Prop := fun t => ∃ o, t.status = .running ∧ Ended t below o ∧ lw_Q a s o t
/-- the law's own end, with 1 on the stack, nothing written that was there before, its room as the claim has it -/
theorem lw_ret {p : Program} {l : Launch} {e : Env} {s : State} {m : MethodId} {below : List Frame} {meth : Method} {c : Code} {b : Nat} (hx : p.tables.exec = Jvm.exec) (hb : c.code = code) (hr : meth.sig.returnType = ret) (hlocks : meth.locks = false) {pc : Nat} {H : Heap} {ls : Array Slot} (hdg : decode code pc = .ok (.ireturn, 1)) : W p l e room_1 s m #[Value.ref b] below meth c H [] 600000 7302250 (lw_Z below #[Value.ref b] s) (F0 m pc ls [.int 1]) := by
  intro T hT X
  obtain ⟨fs, hret, hrun, hended, hW, hframe⟩ := X.leave (v := some (.int 1)) (hlocks := hlocks) (fun h => by rw [hr] at h; cases h)
  have hmeth' : T.vm.method? m = some meth := X.method'
  refine ⟨T.setFrames fs, ?_, .returned (some (.int 1)), hrun, hended, rfl, ⟨_, rfl⟩, hW, hframe⟩
  jvm_step X.here [X.here.top, hx, hb, hdg, hmeth', hr, ret, narrow_b1]
  (try refine ⟨rfl, ?_⟩); (try refine ⟨rfl, ?_⟩)
  first | (intro acts; rw [hret _ acts rfl rfl rfl]) | rw [hret _ _ rfl rfl rfl]
  exact Steps.refl _
/-- what holds at the law's entry: the machine, the code, the tables' words (any of lw_tbl by 'hts w (by decide +kernel)'), the script of L ints xs at the cell b, what the Statement gives of the start (any of its parts by flat_of_before) -/
def lw_At (p : Program) (s : State) (m : MethodId) (meth : Method) (c : Code) (b L : Nat) (xs : Nat → Int32) : Prop :=
  p.tables.exec = Jvm.exec ∧ c.code = code ∧ meth.sig.returnType = ret ∧ c.maxLocals = 4 ∧ s.vm.findClass R_law = some m.cls ∧ (∀ w ∈ lw_tbl, w.before #[Value.ref b] s = true) ∧ va_X b L xs s s.heap ∧ b < s.heap.size ∧ meth.locks = false ∧ (Jvm.Cond.and given_1 narrow_1).before #[Value.ref b] s = true
/-! The start -/
theorem gs_J {A : Nat → Prop} {w : gm_Wd} {G : Gm} (h : va_D A (gm_w w G)) : gm_J w := by
  intro a b c a' b' c' h1 h2 he
  obtain ⟨i, hi⟩ := gm_at h1
  obtain ⟨j, hj⟩ := gm_at h2
  have e := h.1 i j _ _ (gm_w_at w G hi) (gm_w_at w G hj) he
  subst e
  exact Option.some.inj (hi.symm.trans hj)
theorem gs_A {A : Nat → Prop} {w : gm_Wd} {G : Gm} (h : va_D A (gm_w w G)) : ∀ q, gm_A w q → A q := by
  rintro q ⟨a, b, c, h1, rfl⟩
  obtain ⟨i, hi⟩ := gm_at h1
  exact h.2 i _ (gm_w_at w G hi)
def gs_ad (adB adM : Nat → Nat → Nat → Nat) : Nat → Nat → Nat → Nat := fun a b c => match a with
  | 7 => adM 7 b c
  | 8 => match b with
    | 5 => adM 8 5 c
    | _ => adB 8 b c
  | 9 => match b with
    | 5 => adM 9 5 c
    | _ => adB 9 b c
  | _ => adB a b c
def gs (Gl G7 : Gm) : Gm := fun a b c => match b with
  | 5 => G7 a 5 c
  | _ => gb Gl a b c
theorem gs_ids : gm_ids = gmb_ids ++ gmo_ids := by decide +kernel
set_option maxRecDepth 20000 in
theorem gs_w (w : gm_Wd) (adB adM : Nat → Nat → Nat → Nat) (Gl G7 : Gm) : gm_w (wd w (gs_ad adB adM)) (gs Gl G7) = gmb_w (wd w adB) (gb Gl) ++ gmo_w (wd w adM) G7 := by
  unfold gm_w
  rw [gs_ids, List.map_append]
  rfl
theorem gs_WI {Gl G7 : Gm} (h1 : CL Gl 0 (sLay 4 0)) (h2 : MA G7 (sLay 4 0)) (h3 : FrM gz G7) : WI 0 (gs Gl G7) := by
  have I : Inv 12 (sLay 4 0) := i_lay (by decide) (by decide) (by decide) (by decide)
  refine ⟨sLay 4 0, h1.fr (by have := I.tn; omega) (fun a c k => rfl), fun k hk => h2 k hk, I, by decide, by decide, fun z hz => Or.inl ⟨rfl, h3 9 5 0 z (by decide)⟩, ?_⟩
  refine ⟨fun _ => 0, 0, ⟨rfl, by decide, fun k hk => absurd hk (by omega), fun k hk => absurd hk (by omega)⟩, ⟨h3 7 5 0 5 (by decide), by decide, fun k hk => absurd hk (by omega), fun k hk => absurd hk (by omega)⟩⟩
/-- the classes and the arrays, as the tables have them -/
theorem gs_arr {s : State} {args : Array Value} {ty : FieldType} (h : (Cond.arrayClass ty).before args s = true) : ∃ cA : ClassId, ArrOfT s cA ty ∧ s.vm.findClass ("[" ++ ty.toString) = some cA := by
  obtain ⟨c, k, comp, h1, h2, h3⟩ := Cond.arrayClass_spec h
  exact ⟨c, fun N z => ⟨(fun k h => by cases h), k, h2, comp, h3⟩, h1⟩
theorem gs_arq {s : State} {args : Array Value} {n : String} (h : (Cond.arrayOver (.object n)).before args s = true) : ∃ cA : ClassId, ArrOfT s cA (.object n) ∧ va_RA s cA (.object n) := by
  obtain ⟨comp, c, k, h1, -, h2, h3, h4⟩ := Cond.arrayOver_spec h
  exact ⟨c, fun N z => ⟨(fun k h => by cases h), k, h2, comp, h3⟩, k, comp, h2, h3, h1, h4⟩
theorem gs_K {s : State} {b : Nat} (l : Launch) (hts : ∀ w ∈ lw_tbl, w.before #[Value.ref b] s = true) : ∃ w : gm_Wd, w.1 = l ∧ cc_K w s := by
  have htb : ∀ w ∈ TB, w.before #[Value.ref b] s = true := fun w hw => hts w (tb_in w hw)
  obtain ⟨c0, i0, k0⟩ := u_known (C := RX0) (T := TX0) (N := 7) htb iwX0 (htb _ nwX0)
  obtain ⟨c1, i1, k1⟩ := u_known (C := RX1) (T := TX1) (N := 8) htb iwX1 (htb _ nwX1)
  obtain ⟨c2, i2, k2⟩ := u_known (C := RX2) (T := TX2) (N := 6) htb iwX2 (htb _ nwX2)
  obtain ⟨c3, i3, k3⟩ := u_known (C := RX3) (T := TX3) (N := 2) htb iwX3 (htb _ nwX3)
  obtain ⟨c4, i4, k4⟩ := u_known (C := RX4) (T := TX4) (N := 6) htb iwX4 (htb _ nwX4)
  obtain ⟨c5, i5, k5⟩ := u_known (C := RX5) (T := TX5) (N := 9) htb iwX5 (htb _ nwX5)
  obtain ⟨c6, i6, k6⟩ := u_known (C := RX6) (T := TX6) (N := 5) htb iwX6 (htb _ nwX6)
  obtain ⟨c7, i7, k7⟩ := u_known (C := RX7) (T := TX7) (N := 10) htb iwX7 (htb _ nwX7)
  obtain ⟨a0, p0, q0⟩ := gs_arr (htb _ ma_int)
  obtain ⟨a1, p1, q1⟩ := gs_arr (htb _ ma_bool)
  obtain ⟨a2, p2, q2⟩ := gs_arq (hts _ mo_0)
  obtain ⟨a3, p3, q3⟩ := gs_arq (hts _ mo_1)
  obtain ⟨a4, p4, q4⟩ := gs_arq (hts _ mo_4)
  obtain ⟨a5, p5, q5⟩ := gs_arq (hts _ mo_5)
  refine ⟨(l, (fun k => match k with | 0 => c0 | 1 => c1 | 2 => c2 | 3 => c3 | 4 => c4 | 5 => c5 | 6 => c6 | _ => c7), (fun k => match k with | 0 => i0 | 1 => i1 | 2 => i2 | 3 => i3 | 4 => i4 | 5 => i5 | 6 => i6 | _ => i7), (fun k => match k with | 0 => a0 | 1 => a1 | 2 => a2 | 3 => a3 | 4 => a4 | _ => a5), fun _ _ _ => 0), rfl, ⟨⟨⟨?_, ?_⟩, va_Nw.of rfl (hts _ mn_176), va_Nw.of rfl (hts _ mn_213)⟩, va_AO.of (hts _ mo_0), va_AO.of (hts _ mo_1), va_AO.of (hts _ mo_4), va_AO.of (hts _ mo_5)⟩⟩
  · intro k q hq
    match k, hq with
    | 0, hq => cases hq; exact k0
    | 1, hq => cases hq; exact k1
    | 2, hq => cases hq; exact k2
    | 3, hq => cases hq; exact k3
    | 4, hq => cases hq; exact k4
    | 5, hq => cases hq; exact k5
    | 6, hq => cases hq; exact k6
    | 7, hq => cases hq; exact k7
    | k + 8, hq => simp at hq
  · intro k q hq
    match k, hq with
    | 0, hq => cases hq; exact ⟨p0, q0⟩
    | 1, hq => cases hq; exact ⟨p1, q1⟩
    | 2, hq => cases hq; exact ⟨p2, q2⟩
    | 3, hq => cases hq; exact ⟨p3, q3⟩
    | 4, hq => cases hq; exact ⟨p4, q4⟩
    | 5, hq => cases hq; exact ⟨p5, q5⟩
    | k + 6, hq => simp [gm_tys] at hq
