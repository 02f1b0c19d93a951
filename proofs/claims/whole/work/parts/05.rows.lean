section
variable {x : gm_Cx} {cc : ByteArray} {nL : Nat} {own : String} {ret : Option FieldType} {rk : Nat} {G : Gm} {pc : Nat} {lv : List (Nat × Value)} {st : List Value}
theorem gv_iconst (C : gm_X x cc nL own ret rk) {z : Int} (v : Int32) (hv : Int32.ofInt z = v) (d : decode cc pc = .ok (.iconst z, 1)) (n : Nat) (hn : pc + 1 = n) (k : gm_V x G n lv (.int v :: st)) : gm_V x G pc lv (st) := by
  subst hn
  exact fun H locs ls hP hS hl => lv_iconst C.1 C.2.1 d hv (k H locs ls hP hS hl)
theorem gv_bipush (C : gm_X x cc nL own ret rk) {z : Int} (v : Int32) (hv : (Int8.ofInt z).toInt32 = v) (d : decode cc pc = .ok (.bipush z, 2)) (n : Nat) (hn : pc + 2 = n) (k : gm_V x G n lv (.int v :: st)) : gm_V x G pc lv (st) := by
  subst hn
  exact fun H locs ls hP hS hl => lv_bipush C.1 C.2.1 d hv (k H locs ls hP hS hl)
theorem gv_sipush (C : gm_X x cc nL own ret rk) {z : Int} (v : Int32) (hv : (Int16.ofInt z).toInt32 = v) (d : decode cc pc = .ok (.sipush z, 3)) (n : Nat) (hn : pc + 3 = n) (k : gm_V x G n lv (.int v :: st)) : gm_V x G pc lv (st) := by
  subst hn
  exact fun H locs ls hP hS hl => lv_sipush C.1 C.2.1 d hv (k H locs ls hP hS hl)
theorem gv_ldc (C : gm_X x cc nL own ret rk) {z : Nat} (v : Int32) (hv : Cond.constant own z v ∈ TB) (d : decode cc pc = .ok (.ldc z, 2)) (n : Nat) (hn : pc + 2 = n) (k : gm_V x G n lv (.int v :: st)) : gm_V x G pc lv (st) := by
  subst hn
  exact fun H locs ls hP hS hl => lv_ldc C.1 C.2.1 C.2.2.2.1 (C.2.2.2.2.1 _ hv) d (k H locs ls hP hS hl)
theorem gv_iload_n (C : gm_X x cc nL own ret rk) {j : Fin 4} {i : Nat} {v : Int32} (hi : (j : Nat) = i) (q : Nat) (hq : lv[q]? = some (i, .int v)) (d : decode cc pc = .ok (.iload_n j, 1)) (n : Nat) (hn : pc + 1 = n) (k : gm_V x G n lv (.int v :: st)) : gm_V x G pc lv (st) := by
  subst hn
  exact fun H locs ls hP hS hl => lv_iload_n C.1 C.2.1 d hi (lv_at hl q hq) (k H locs ls hP hS hl)
theorem gv_iload (C : gm_X x cc nL own ret rk) {i : Nat} {v : Int32} (q : Nat) (hq : lv[q]? = some (i, .int v)) (d : decode cc pc = .ok (.iload i, 2)) (n : Nat) (hn : pc + 2 = n) (k : gm_V x G n lv (.int v :: st)) : gm_V x G pc lv (st) := by
  subst hn
  exact fun H locs ls hP hS hl => lv_iload C.1 C.2.1 d (lv_at hl q hq) (k H locs ls hP hS hl)
theorem gv_aload_n (C : gm_X x cc nL own ret rk) {j : Fin 4} {i : Nat} {v : Nat} (hi : (j : Nat) = i) (q : Nat) (hq : lv[q]? = some (i, .ref v)) (d : decode cc pc = .ok (.aload_n j, 1)) (n : Nat) (hn : pc + 1 = n) (k : gm_V x G n lv (.ref v :: st)) : gm_V x G pc lv (st) := by
  subst hn
  exact fun H locs ls hP hS hl => lv_aload_n C.1 C.2.1 d hi (lv_at hl q hq) (k H locs ls hP hS hl)
theorem gv_aload (C : gm_X x cc nL own ret rk) {i : Nat} {v : Nat} (q : Nat) (hq : lv[q]? = some (i, .ref v)) (d : decode cc pc = .ok (.aload i, 2)) (n : Nat) (hn : pc + 2 = n) (k : gm_V x G n lv (.ref v :: st)) : gm_V x G pc lv (st) := by
  subst hn
  exact fun H locs ls hP hS hl => lv_aload C.1 C.2.1 d (lv_at hl q hq) (k H locs ls hP hS hl)
theorem gv_aload_nN (C : gm_X x cc nL own ret rk) {j : Fin 4} {i : Nat} (hi : (j : Nat) = i) (q : Nat) (hq : lv[q]? = some (i, .null)) (d : decode cc pc = .ok (.aload_n j, 1)) (n : Nat) (hn : pc + 1 = n) (k : gm_V x G n lv (.null :: st)) : gm_V x G pc lv (st) := by
  subst hn
  exact fun H locs ls hP hS hl => lv_aload_nN C.1 C.2.1 d hi (lv_at hl q hq) (k H locs ls hP hS hl)
theorem gv_aloadN (C : gm_X x cc nL own ret rk) {i : Nat} (q : Nat) (hq : lv[q]? = some (i, .null)) (d : decode cc pc = .ok (.aload i, 2)) (n : Nat) (hn : pc + 2 = n) (k : gm_V x G n lv (.null :: st)) : gm_V x G pc lv (st) := by
  subst hn
  exact fun H locs ls hP hS hl => lv_aloadN C.1 C.2.1 d (lv_at hl q hq) (k H locs ls hP hS hl)
theorem gv_iadd (C : gm_X x cc nL own ret rk) {a b : Int32} (d : decode cc pc = .ok (.iadd, 1)) (n : Nat) (hn : pc + 1 = n) (k : gm_V x G n lv (.int (a + b) :: st)) : gm_V x G pc lv (.int b :: .int a :: st) := by
  subst hn
  exact fun H locs ls hP hS hl => lv_iadd C.1 C.2.1 d (k H locs ls hP hS hl)
theorem gv_isub (C : gm_X x cc nL own ret rk) {a b : Int32} (d : decode cc pc = .ok (.isub, 1)) (n : Nat) (hn : pc + 1 = n) (k : gm_V x G n lv (.int (a - b) :: st)) : gm_V x G pc lv (.int b :: .int a :: st) := by
  subst hn
  exact fun H locs ls hP hS hl => lv_isub C.1 C.2.1 d (k H locs ls hP hS hl)
theorem gv_imul (C : gm_X x cc nL own ret rk) {a b : Int32} (d : decode cc pc = .ok (.imul, 1)) (n : Nat) (hn : pc + 1 = n) (k : gm_V x G n lv (.int (a * b) :: st)) : gm_V x G pc lv (.int b :: .int a :: st) := by
  subst hn
  exact fun H locs ls hP hS hl => lv_imul C.1 C.2.1 d (k H locs ls hP hS hl)
theorem gv_iand (C : gm_X x cc nL own ret rk) {a b : Int32} (d : decode cc pc = .ok (.iand, 1)) (n : Nat) (hn : pc + 1 = n) (k : gm_V x G n lv (.int (a &&& b) :: st)) : gm_V x G pc lv (.int b :: .int a :: st) := by
  subst hn
  exact fun H locs ls hP hS hl => lv_iand C.1 C.2.1 d (k H locs ls hP hS hl)
theorem gv_ishl (C : gm_X x cc nL own ret rk) {a b : Int32} (d : decode cc pc = .ok (.ishl, 1)) (n : Nat) (hn : pc + 1 = n) (k : gm_V x G n lv (.int (a <<< (b &&& 31)) :: st)) : gm_V x G pc lv (.int b :: .int a :: st) := by
  subst hn
  exact fun H locs ls hP hS hl => lv_ishl C.1 C.2.1 d (k H locs ls hP hS hl)
theorem gv_ishr (C : gm_X x cc nL own ret rk) {a b : Int32} (d : decode cc pc = .ok (.ishr, 1)) (n : Nat) (hn : pc + 1 = n) (k : gm_V x G n lv (.int (a >>> (b &&& 31)) :: st)) : gm_V x G pc lv (.int b :: .int a :: st) := by
  subst hn
  exact fun H locs ls hP hS hl => lv_ishr C.1 C.2.1 d (k H locs ls hP hS hl)
theorem gv_irem (C : gm_X x cc nL own ret rk) {a b : Int32} (hb : ¬ b = 0) (d : decode cc pc = .ok (.irem, 1)) (n : Nat) (hn : pc + 1 = n) (k : gm_V x G n lv (.int (a - a / b * b) :: st)) : gm_V x G pc lv (.int b :: .int a :: st) := by
  subst hn
  exact fun H locs ls hP hS hl => lv_irem C.1 C.2.1 d hb (k H locs ls hP hS hl)
theorem gv_dup (C : gm_X x cc nL own ret rk) {v : Value} (hv : v.category = 1) (d : decode cc pc = .ok (.dup, 1)) (n : Nat) (hn : pc + 1 = n) (k : gm_V x G n lv (v :: v :: st)) : gm_V x G pc lv (v :: st) := by
  subst hn
  exact fun H locs ls hP hS hl => lv_dup C.1 C.2.1 d hv (k H locs ls hP hS hl)
theorem gv_pop (C : gm_X x cc nL own ret rk) {v : Value} (hv : v.category = 1) (d : decode cc pc = .ok (.pop, 1)) (n : Nat) (hn : pc + 1 = n) (k : gm_V x G n lv (st)) : gm_V x G pc lv (v :: st) := by
  subst hn
  exact fun H locs ls hP hS hl => lv_pop C.1 C.2.1 d hv (k H locs ls hP hS hl)
theorem gv_dup2 (C : gm_X x cc nL own ret rk) {v u : Value} (hv : v.category = 1) (hu : u.category = 1) (d : decode cc pc = .ok (.dup2, 1)) (n : Nat) (hn : pc + 1 = n) (k : gm_V x G n lv (v :: u :: v :: u :: st)) : gm_V x G pc lv (v :: u :: st) := by
  subst hn
  exact fun H locs ls hP hS hl => lv_dup2_11 C.1 C.2.1 d hv hu (k H locs ls hP hS hl)
theorem gv_null (C : gm_X x cc nL own ret rk)  (d : decode cc pc = .ok (.aconst_null, 1)) (n : Nat) (hn : pc + 1 = n) (k : gm_V x G n lv (.null :: st)) : gm_V x G pc lv (st) := by
  subst hn
  exact fun H locs ls hP hS hl => lv_null C.1 C.2.1 d (k H locs ls hP hS hl)
theorem gv_ifnull (C : gm_X x cc nL own ret rk) {o : Int} {v : Nat} (d : decode cc pc = .ok (.ifnull o, 3)) (n : Nat) (hn : pc + 3 = n) (k : gm_V x G n lv (st)) : gm_V x G pc lv (.ref v :: st) := by
  subst hn
  exact fun H locs ls hP hS hl => lv_ifnull C.1 C.2.1 d (k H locs ls hP hS hl)
theorem gv_ifnonnullN (C : gm_X x cc nL own ret rk) {o : Int} (d : decode cc pc = .ok (.ifnonnull o, 3)) (n : Nat) (hn : pc + 3 = n) (k : gm_V x G n lv (st)) : gm_V x G pc lv (.null :: st) := by
  subst hn
  exact fun H locs ls hP hS hl => lv_ifnonnullN C.1 C.2.1 d (k H locs ls hP hS hl)
theorem gv_istore_n (C : gm_X x cc nL own ret rk) {j : Fin 4} {i : Nat} {v : Int32} (hi : (j : Nat) = i) (lv' : List (Nat × Value)) (hi' : i < nL) (hlv : (i, Value.int v) :: lv.filter (fun q => !(q.1 == i) && !(q.1 + 1 == i && q.2.category == 2)) = lv') (d : decode cc pc = .ok (.istore_n j, 1)) (n : Nat) (hn : pc + 1 = n) (k : gm_V x G n lv' (st)) : gm_V x G pc lv (.int v :: st) := by
  subst hn
  exact fun H locs ls hP hS hl => lv_istore_n C.1 C.2.1 d hi hl (by rw [C.2.2.1]; exact hi') hlv (fun ls' hl' => k H locs ls' hP hS hl')
theorem gv_istore (C : gm_X x cc nL own ret rk) {i : Nat} {v : Int32} (lv' : List (Nat × Value)) (hi' : i < nL) (hlv : (i, Value.int v) :: lv.filter (fun q => !(q.1 == i) && !(q.1 + 1 == i && q.2.category == 2)) = lv') (d : decode cc pc = .ok (.istore i, 2)) (n : Nat) (hn : pc + 2 = n) (k : gm_V x G n lv' (st)) : gm_V x G pc lv (.int v :: st) := by
  subst hn
  exact fun H locs ls hP hS hl => lv_istore C.1 C.2.1 d hl (by rw [C.2.2.1]; exact hi') hlv (fun ls' hl' => k H locs ls' hP hS hl')
theorem gv_astore_n (C : gm_X x cc nL own ret rk) {j : Fin 4} {i : Nat} {v : Nat} (hi : (j : Nat) = i) (lv' : List (Nat × Value)) (hi' : i < nL) (hlv : (i, Value.ref v) :: lv.filter (fun q => !(q.1 == i) && !(q.1 + 1 == i && q.2.category == 2)) = lv') (d : decode cc pc = .ok (.astore_n j, 1)) (n : Nat) (hn : pc + 1 = n) (k : gm_V x G n lv' (st)) : gm_V x G pc lv (.ref v :: st) := by
  subst hn
  exact fun H locs ls hP hS hl => lv_astore_n C.1 C.2.1 d hi hl (by rw [C.2.2.1]; exact hi') hlv (fun ls' hl' => k H locs ls' hP hS hl')
theorem gv_astore (C : gm_X x cc nL own ret rk) {i : Nat} {v : Nat} (lv' : List (Nat × Value)) (hi' : i < nL) (hlv : (i, Value.ref v) :: lv.filter (fun q => !(q.1 == i) && !(q.1 + 1 == i && q.2.category == 2)) = lv') (d : decode cc pc = .ok (.astore i, 2)) (n : Nat) (hn : pc + 2 = n) (k : gm_V x G n lv' (st)) : gm_V x G pc lv (.ref v :: st) := by
  subst hn
  exact fun H locs ls hP hS hl => lv_astore C.1 C.2.1 d hl (by rw [C.2.2.1]; exact hi') hlv (fun ls' hl' => k H locs ls' hP hS hl')
theorem gv_astore_nN (C : gm_X x cc nL own ret rk) {j : Fin 4} {i : Nat} (hi : (j : Nat) = i) (lv' : List (Nat × Value)) (hi' : i < nL) (hlv : (i, Value.null) :: lv.filter (fun q => !(q.1 == i) && !(q.1 + 1 == i && q.2.category == 2)) = lv') (d : decode cc pc = .ok (.astore_n j, 1)) (n : Nat) (hn : pc + 1 = n) (k : gm_V x G n lv' (st)) : gm_V x G pc lv (.null :: st) := by
  subst hn
  exact fun H locs ls hP hS hl => lv_astore_nN C.1 C.2.1 d hi hl (by rw [C.2.2.1]; exact hi') hlv (fun ls' hl' => k H locs ls' hP hS hl')
theorem gv_astoreN (C : gm_X x cc nL own ret rk) {i : Nat} (lv' : List (Nat × Value)) (hi' : i < nL) (hlv : (i, Value.null) :: lv.filter (fun q => !(q.1 == i) && !(q.1 + 1 == i && q.2.category == 2)) = lv') (d : decode cc pc = .ok (.astore i, 2)) (n : Nat) (hn : pc + 2 = n) (k : gm_V x G n lv' (st)) : gm_V x G pc lv (.null :: st) := by
  subst hn
  exact fun H locs ls hP hS hl => lv_astoreN C.1 C.2.1 d hl (by rw [C.2.2.1]; exact hi') hlv (fun ls' hl' => k H locs ls' hP hS hl')
theorem gv_iinc (C : gm_X x cc nL own ret rk) {i : Nat} {z : Int} {v u : Int32} (q : Nat) (hq : lv[q]? = some (i, .int v)) (hu : v + Int32.ofInt z = u) (lv' : List (Nat × Value)) (hi' : i < nL) (hlv : (i, Value.int u) :: lv.filter (fun q => !(q.1 == i) && !(q.1 + 1 == i && q.2.category == 2)) = lv') (d : decode cc pc = .ok (.iinc i z, 3)) (n : Nat) (hn : pc + 3 = n) (k : gm_V x G n lv' (st)) : gm_V x G pc lv (st) := by
  subst hn
  exact fun H locs ls hP hS hl => lv_iinc C.1 C.2.1 d hl hq hu (by rw [C.2.2.1]; exact hi') hlv (fun ls' hl' => k H locs ls' hP hS hl')
theorem gv_if_eq (C : gm_X x cc nL own ret rk) {a : Int32} {o : Int} (d : decode cc pc = .ok (.ifCond .eq o, 3)) (t : Nat) (ht : (pc : Int) + o = (t : Int)) (n : Nat) (hn : pc + 3 = n) (kp : a = 0 → gm_V x G t lv st) (kn : ¬ a = 0 → gm_V x G n lv st) : gm_V x G pc lv (.int a :: st) := by
  subst hn
  exact fun H locs ls hP hS hl => lv_if_eq C.1 C.2.1 d ht (fun c => kp c H locs ls hP hS hl) (fun c => kn c H locs ls hP hS hl)
theorem gv_if_lt (C : gm_X x cc nL own ret rk) {a : Int32} {o : Int} (d : decode cc pc = .ok (.ifCond .lt o, 3)) (t : Nat) (ht : (pc : Int) + o = (t : Int)) (n : Nat) (hn : pc + 3 = n) (kp : a < 0 → gm_V x G t lv st) (kn : ¬ a < 0 → gm_V x G n lv st) : gm_V x G pc lv (.int a :: st) := by
  subst hn
  exact fun H locs ls hP hS hl => lv_if_lt C.1 C.2.1 d ht (fun c => kp c H locs ls hP hS hl) (fun c => kn c H locs ls hP hS hl)
theorem gv_if_ge (C : gm_X x cc nL own ret rk) {a : Int32} {o : Int} (d : decode cc pc = .ok (.ifCond .ge o, 3)) (t : Nat) (ht : (pc : Int) + o = (t : Int)) (n : Nat) (hn : pc + 3 = n) (kp : 0 ≤ a → gm_V x G t lv st) (kn : ¬ 0 ≤ a → gm_V x G n lv st) : gm_V x G pc lv (.int a :: st) := by
  subst hn
  exact fun H locs ls hP hS hl => lv_if_ge C.1 C.2.1 d ht (fun c => kp c H locs ls hP hS hl) (fun c => kn c H locs ls hP hS hl)
theorem gv_if_gt (C : gm_X x cc nL own ret rk) {a : Int32} {o : Int} (d : decode cc pc = .ok (.ifCond .gt o, 3)) (t : Nat) (ht : (pc : Int) + o = (t : Int)) (n : Nat) (hn : pc + 3 = n) (kp : 0 < a → gm_V x G t lv st) (kn : ¬ 0 < a → gm_V x G n lv st) : gm_V x G pc lv (.int a :: st) := by
  subst hn
  exact fun H locs ls hP hS hl => lv_if_gt C.1 C.2.1 d ht (fun c => kp c H locs ls hP hS hl) (fun c => kn c H locs ls hP hS hl)
theorem gv_if_le (C : gm_X x cc nL own ret rk) {a : Int32} {o : Int} (d : decode cc pc = .ok (.ifCond .le o, 3)) (t : Nat) (ht : (pc : Int) + o = (t : Int)) (n : Nat) (hn : pc + 3 = n) (kp : a ≤ 0 → gm_V x G t lv st) (kn : ¬ a ≤ 0 → gm_V x G n lv st) : gm_V x G pc lv (.int a :: st) := by
  subst hn
  exact fun H locs ls hP hS hl => lv_if_le C.1 C.2.1 d ht (fun c => kp c H locs ls hP hS hl) (fun c => kn c H locs ls hP hS hl)
theorem gv_if_ne (C : gm_X x cc nL own ret rk) {a : Int32} {o : Int} (d : decode cc pc = .ok (.ifCond .ne o, 3)) (t : Nat) (ht : (pc : Int) + o = (t : Int)) (n : Nat) (hn : pc + 3 = n) (kp : a = 0 → gm_V x G n lv st) (kn : ¬ a = 0 → gm_V x G t lv st) : gm_V x G pc lv (.int a :: st) := by
  subst hn
  exact fun H locs ls hP hS hl => lv_if_ne C.1 C.2.1 d ht (fun c => kn c H locs ls hP hS hl) (fun c => kp c H locs ls hP hS hl)
theorem gv_icmp_eq (C : gm_X x cc nL own ret rk) {a b : Int32} {o : Int} (d : decode cc pc = .ok (.if_icmp .eq o, 3)) (t : Nat) (ht : (pc : Int) + o = (t : Int)) (n : Nat) (hn : pc + 3 = n) (kp : a = b → gm_V x G t lv st) (kn : ¬ a = b → gm_V x G n lv st) : gm_V x G pc lv (.int b :: .int a :: st) := by
  subst hn
  exact fun H locs ls hP hS hl => lv_icmp_eq C.1 C.2.1 d ht (fun c => kp c H locs ls hP hS hl) (fun c => kn c H locs ls hP hS hl)
theorem gv_icmp_lt (C : gm_X x cc nL own ret rk) {a b : Int32} {o : Int} (d : decode cc pc = .ok (.if_icmp .lt o, 3)) (t : Nat) (ht : (pc : Int) + o = (t : Int)) (n : Nat) (hn : pc + 3 = n) (kp : a < b → gm_V x G t lv st) (kn : ¬ a < b → gm_V x G n lv st) : gm_V x G pc lv (.int b :: .int a :: st) := by
  subst hn
  exact fun H locs ls hP hS hl => lv_icmp_lt C.1 C.2.1 d ht (fun c => kp c H locs ls hP hS hl) (fun c => kn c H locs ls hP hS hl)
theorem gv_icmp_ge (C : gm_X x cc nL own ret rk) {a b : Int32} {o : Int} (d : decode cc pc = .ok (.if_icmp .ge o, 3)) (t : Nat) (ht : (pc : Int) + o = (t : Int)) (n : Nat) (hn : pc + 3 = n) (kp : b ≤ a → gm_V x G t lv st) (kn : ¬ b ≤ a → gm_V x G n lv st) : gm_V x G pc lv (.int b :: .int a :: st) := by
  subst hn
  exact fun H locs ls hP hS hl => lv_icmp_ge C.1 C.2.1 d ht (fun c => kp c H locs ls hP hS hl) (fun c => kn c H locs ls hP hS hl)
theorem gv_icmp_gt (C : gm_X x cc nL own ret rk) {a b : Int32} {o : Int} (d : decode cc pc = .ok (.if_icmp .gt o, 3)) (t : Nat) (ht : (pc : Int) + o = (t : Int)) (n : Nat) (hn : pc + 3 = n) (kp : b < a → gm_V x G t lv st) (kn : ¬ b < a → gm_V x G n lv st) : gm_V x G pc lv (.int b :: .int a :: st) := by
  subst hn
  exact fun H locs ls hP hS hl => lv_icmp_gt C.1 C.2.1 d ht (fun c => kp c H locs ls hP hS hl) (fun c => kn c H locs ls hP hS hl)
theorem gv_icmp_le (C : gm_X x cc nL own ret rk) {a b : Int32} {o : Int} (d : decode cc pc = .ok (.if_icmp .le o, 3)) (t : Nat) (ht : (pc : Int) + o = (t : Int)) (n : Nat) (hn : pc + 3 = n) (kp : a ≤ b → gm_V x G t lv st) (kn : ¬ a ≤ b → gm_V x G n lv st) : gm_V x G pc lv (.int b :: .int a :: st) := by
  subst hn
  exact fun H locs ls hP hS hl => lv_icmp_le C.1 C.2.1 d ht (fun c => kp c H locs ls hP hS hl) (fun c => kn c H locs ls hP hS hl)
theorem gv_icmp_ne (C : gm_X x cc nL own ret rk) {a b : Int32} {o : Int} (d : decode cc pc = .ok (.if_icmp .ne o, 3)) (t : Nat) (ht : (pc : Int) + o = (t : Int)) (n : Nat) (hn : pc + 3 = n) (kp : a = b → gm_V x G n lv st) (kn : ¬ a = b → gm_V x G t lv st) : gm_V x G pc lv (.int b :: .int a :: st) := by
  subst hn
  exact fun H locs ls hP hS hl => lv_icmp_ne C.1 C.2.1 d ht (fun c => kn c H locs ls hP hS hl) (fun c => kp c H locs ls hP hS hl)
theorem gv_goto (C : gm_X x cc nL own ret rk) {o : Int} (d : decode cc pc = .ok (.goto o, 3)) (t : Nat) (ht : (pc : Int) + o = (t : Int)) (k : gm_V x G t lv st) : gm_V x G pc lv st := fun H locs ls hP hS hl => lv_goto C.1 C.2.1 d ht (k H locs ls hP hS hl)
theorem gv_ifnonnull (C : gm_X x cc nL own ret rk) {o : Int} {v : Nat} (d : decode cc pc = .ok (.ifnonnull o, 3)) (t : Nat) (ht : (pc : Int) + o = (t : Int)) (k : gm_V x G t lv st) : gm_V x G pc lv (.ref v :: st) := fun H locs ls hP hS hl => lv_ifnonnull C.1 C.2.1 d ht (k H locs ls hP hS hl)
theorem gv_ifnullN (C : gm_X x cc nL own ret rk) {o : Int} (d : decode cc pc = .ok (.ifnull o, 3)) (t : Nat) (ht : (pc : Int) + o = (t : Int)) (k : gm_V x G t lv st) : gm_V x G pc lv (.null :: st) := fun H locs ls hP hS hl => lv_ifnullN C.1 C.2.1 d ht (k H locs ls hP hS hl)
theorem gv_tableIn (C : gm_X x cc nL own ret rk) {df lo hi : Int} {os : Array Int} {ln : Nat} {a : Int32} (v : Int32) (hv : a = v) (d : decode cc pc = .ok (.tableswitch df lo hi os, ln)) (h1 : ¬ v.toInt < lo) (h2 : ¬ hi < v.toInt) {o : Int} (ho : os[(v.toInt - lo).toNat]? = some o) (t : Nat) (ht : (pc : Int) + o = (t : Int)) (k : gm_V x G t lv st) : gm_V x G pc lv (.int a :: st) := by
  subst hv
  exact fun H locs ls hP hS hl => lv_tableIn C.1 C.2.1 d h1 h2 ho ht (k H locs ls hP hS hl)
theorem gv_tableOut (C : gm_X x cc nL own ret rk) {df lo hi : Int} {os : Array Int} {ln : Nat} {a : Int32} (d : decode cc pc = .ok (.tableswitch df lo hi os, ln)) (h : a.toInt < lo ∨ hi < a.toInt) (t : Nat) (ht : (pc : Int) + df = (t : Int)) (k : gm_V x G t lv st) : gm_V x G pc lv (.int a :: st) := fun H locs ls hP hS hl => lv_tableOut C.1 C.2.1 d h ht (k H locs ls hP hS hl)
theorem gv_lookup (C : gm_X x cc nL own ret rk) {df : Int} {ps : Array (Int × Int)} {ln : Nat} {a : Int32} {o : Int} (d : decode cc pc = .ok (.lookupswitch df ps, ln)) (hp : (ps.toList.zip (ps.toList.drop 1)).all (fun (a, next) => a.1 < next.1) = true) (ho : Op.lookupswitch.offset ps.toList df a.toInt = o) (t : Nat) (ht : (pc : Int) + o = (t : Int)) (k : gm_V x G t lv st) : gm_V x G pc lv (.int a :: st) := fun H locs ls hP hS hl => lv_lookup C.1 C.2.1 d hp ho ht (k H locs ls hP hS hl)
theorem gv_getf (C : gm_X x cc nL own ret rk) {a b c ci i N idx : Nat} {fs : List Value} {v : Value} {Cn : String} {T : u_T} (hid : (a, b, c) ∈ gm_ids) (hc : gm_cel (gm_cy (cx_w x)) (gm_ad (cx_w x)) (G a b c) a b c = .inr (ci, fs)) (hcl : vwCl[ci]? = some (Cn, T, N)) (hin : ∀ w ∈ u_ws Cn T N, w ∈ TB) (hi : i < N) (hv : fs[i]? = some v) (hlk : Cond.fieldLink own idx (T i).1 (T i).2.1 (T i).2.2.1 ∈ TB) (d : decode cc pc = .ok (.getfield idx, 3)) (n : Nat) (hn : pc + 3 = n) (k : gm_V x G n lv (v :: st)) : gm_V x G pc lv (.ref (gm_ad (cx_w x) a b c) :: st) := by
  subst hn
  obtain ⟨q, hq⟩ := gm_at hid
  have he := gm_w_at (cx_w x) G hq
  rw [hc] at he
  exact fun H locs ls hP hS hl => va_get C.1 C.2.1 C.2.2.2.2.1 hin C.2.2.2.1 C.2.2.2.2.2.1.1 hP q he hcl i hi (C.2.2.2.2.1 _ hlk) (fun _ h => h) hv d (k H locs ls hP hS hl)
theorem gv_putf (C : gm_X x cc nL own ret rk) {a b c ci i N idx : Nat} {fs : List Value} {v : Int32} {Cn : String} {T : u_T} {ty : FieldType} (hid : (a, b, c) ∈ gm_ids) (hc : ∀ g : Nat → Int32, ∃ fs : List Value, gm_cel (gm_cy (cx_w x)) (gm_ad (cx_w x)) g a b c = .inr (ci, fs) ∧ i < fs.length ∧ gm_cel (gm_cy (cx_w x)) (gm_ad (cx_w x)) (upd g i v) a b c = .inr (ci, fs.set i (.int v))) (hcl : vwCl[ci]? = some (Cn, T, N)) (hin : ∀ w ∈ u_ws Cn T N, w ∈ TB) (ty0 : Nat → FieldType) (hty : ∀ k, k < N → parseFieldDescriptor (T k).2.2.1 = some (ty0 k)) (hnm : ∀ a, a < N → ∀ b, b < N → a ≠ b → (T a).2.1 ≠ (T b).2.1) (hi : i < N) (hfin : (T i).2.2.2 = false) (hd : parseFieldDescriptor (T i).2.2.1 = some ty) (hnr : narrow ty (.int v) = .int v) (hft : fits ty (.int v) = true) (hlk : Cond.fieldLink own idx (T i).1 (T i).2.1 (T i).2.2.1 ∈ TB) (d : decode cc pc = .ok (.putfield idx, 3)) (n : Nat) (hn : pc + 3 = n) (k : gm_V x (gm_up G a b c i v) n lv st) : gm_V x G pc lv (.int v :: .ref (gm_ad (cx_w x) a b c) :: st) := by
  subst hn
  obtain ⟨q, hq⟩ := gm_at hid
  obtain ⟨fs, h1, h2, h3⟩ := hc (G a b c)
  have he := gm_w_at (cx_w x) G hq
  rw [h1] at he
  have hset := gm_set (cx_w x) (G := G) (G' := gm_up G a b c i v) hq gm_up_ne
  rw [gm_up_at, h3] at hset
  intro H locs ls hP hS hl
  refine va_put C.1 C.2.1 C.2.2.2.2.1 hin ty0 hty hnm C.2.2.2.1 C.2.2.2.2.2.1.1 hP ((gm_dis C.2.2.2.2.2.2.1 G).weaken (fun _ q _ h => C.2.2.2.2.2.2.2.2.2.1 q.1 h)) hS q he hcl i hi (C.2.2.2.2.1 _ hlk) (fun _ h => h) hfin hd hnr hft h2 d (fun H1 locs1 hP1 _ hS1 => k H1 locs1 ls ?_ hS1 hl)
  rw [hset] at hP1
  exact hP1
theorem gv_iald (C : gm_X x cc nL own ret rk) {b c m : Nat} {i : Int32} (hid : (8, b, c) ∈ gm_ids) (hm : gm_len b c = m) (g : ¬ (i < 0 ∨ m ≤ i.toNatClampNeg)) (d : decode cc pc = .ok (.iaload, 1)) (n : Nat) (hn : pc + 1 = n) (k : gm_V x G n lv (.int (G 8 b c i.toNatClampNeg) :: st)) : gm_V x G pc lv (.int i :: .ref (gm_ad (cx_w x) 8 b c) :: st) := by
  subst hn hm
  obtain ⟨q, hq⟩ := gm_at hid
  have he := gm_w_at (cx_w x) G hq
  exact fun H locs ls hP hS hl => va_iald C.1 C.2.1 C.2.2.2.2.2.1.1 hP q 0 he rfl g d (k H locs ls hP hS hl)
theorem gv_iast (C : gm_X x cc nL own ret rk) {b c m : Nat} {i v : Int32} (hid : (8, b, c) ∈ gm_ids) (hm : gm_len b c = m) (g : ¬ (i < 0 ∨ m ≤ i.toNatClampNeg)) (d : decode cc pc = .ok (.iastore, 1)) (n : Nat) (hn : pc + 1 = n) (k : gm_V x (gm_up G 8 b c i.toNatClampNeg v) n lv st) : gm_V x G pc lv (.int v :: .int i :: .ref (gm_ad (cx_w x) 8 b c) :: st) := by
  subst hn hm
  obtain ⟨q, hq⟩ := gm_at hid
  have he := gm_w_at (cx_w x) G hq
  have hset := gm_set (cx_w x) (G := G) (G' := gm_up G 8 b c i.toNatClampNeg v) hq gm_up_ne
  rw [gm_up_at] at hset
  intro H locs ls hP hS hl
  refine va_iast C.1 C.2.1 C.2.2.2.2.2.1.1 hP ((gm_dis C.2.2.2.2.2.2.1 G).weaken (fun _ q _ h => C.2.2.2.2.2.2.2.2.2.1 q.1 h)) hS q 0 he rfl g d (fun H1 locs1 hP1 _ hS1 => k H1 locs1 ls ?_ hS1 hl)
  rw [← hset]
  exact hP1
theorem gv_zald (C : gm_X x cc nL own ret rk) {b c : Nat} {i : Int32} (hid : (9, b, c) ∈ gm_ids) (g : ¬ (i < 0 ∨ 2 ≤ i.toNatClampNeg)) (d : decode cc pc = .ok (.baload, 1)) (n : Nat) (hn : pc + 1 = n) (k : gm_V x G n lv (.int (G 9 b c i.toNatClampNeg) :: st)) : gm_V x G pc lv (.int i :: .ref (gm_ad (cx_w x) 9 b c) :: st) := by
  subst hn
  obtain ⟨q, hq⟩ := gm_at hid
  have he := gm_w_at (cx_w x) G hq
  exact fun H locs ls hP hS hl => va_zald C.1 C.2.1 C.2.2.2.2.2.1.1 hP q 1 he rfl g d (k H locs ls hP hS hl)
theorem gv_zast (C : gm_X x cc nL own ret rk) {b c : Nat} {i v : Int32} (hid : (9, b, c) ∈ gm_ids) (g : ¬ (i < 0 ∨ 2 ≤ i.toNatClampNeg)) (hv : vp_nar .boolean v = v) (d : decode cc pc = .ok (.bastore, 1)) (n : Nat) (hn : pc + 1 = n) (k : gm_V x (gm_up G 9 b c i.toNatClampNeg v) n lv st) : gm_V x G pc lv (.int v :: .int i :: .ref (gm_ad (cx_w x) 9 b c) :: st) := by
  subst hn
  obtain ⟨q, hq⟩ := gm_at hid
  have he := gm_w_at (cx_w x) G hq
  have hset := gm_set (cx_w x) (G := G) (G' := gm_up G 9 b c i.toNatClampNeg v) hq gm_up_ne
  rw [gm_up_at] at hset
  intro H locs ls hP hS hl
  refine va_zast C.1 C.2.1 C.2.2.2.2.2.1.1 hP ((gm_dis C.2.2.2.2.2.2.1 G).weaken (fun _ q _ h => C.2.2.2.2.2.2.2.2.2.1 q.1 h)) hS q 1 he rfl g d (fun H1 locs1 hP1 _ hS1 => k H1 locs1 ls ?_ hS1 hl)
  rw [hv] at hP1
  rw [← hset]
  exact hP1
theorem gv_aald10 (C : gm_X x cc nL own ret rk) {b : Nat} {i : Int32} (hid : (10, b, 0) ∈ gm_ids) (g : ¬ (i < 0 ∨ 10 ≤ i.toNatClampNeg)) (d : decode cc pc = .ok (.aaload, 1)) (n : Nat) (hn : pc + 1 = n) (k : gm_V x G n lv (.ref (gm_ad (cx_w x) 0 b i.toNatClampNeg) :: st)) : gm_V x G pc lv (.int i :: .ref (gm_ad (cx_w x) 10 b 0) :: st) := by
  subst hn
  obtain ⟨q, hq⟩ := gm_at hid
  have he := gm_w_at (cx_w x) G hq
  exact fun H locs ls hP hS hl => va_aldq (C := RX0) C.1 C.2.1 C.2.2.2.2.2.1.1 hP q 2 he rfl g d (k H locs ls hP hS hl)
theorem gv_aald11 (C : gm_X x cc nL own ret rk) {b : Nat} {i : Int32} (hid : (11, b, 0) ∈ gm_ids) (g : ¬ (i < 0 ∨ 2 ≤ i.toNatClampNeg)) (d : decode cc pc = .ok (.aaload, 1)) (n : Nat) (hn : pc + 1 = n) (k : gm_V x G n lv (.ref (gm_ad (cx_w x) 1 (i.toNatClampNeg + 2) 0) :: st)) : gm_V x G pc lv (.int i :: .ref (gm_ad (cx_w x) 11 b 0) :: st) := by
  subst hn
  obtain ⟨q, hq⟩ := gm_at hid
  have he := gm_w_at (cx_w x) G hq
  exact fun H locs ls hP hS hl => va_aldq (C := RX1) C.1 C.2.1 C.2.2.2.2.2.1.1 hP q 3 he rfl g d (k H locs ls hP hS hl)
theorem gv_aald12 (C : gm_X x cc nL own ret rk) {b : Nat} {i : Int32} (hid : (12, b, 0) ∈ gm_ids) (g : ¬ (i < 0 ∨ 5 ≤ i.toNatClampNeg)) (d : decode cc pc = .ok (.aaload, 1)) (n : Nat) (hn : pc + 1 = n) (k : gm_V x G n lv (.ref (gm_ad (cx_w x) 4 b i.toNatClampNeg) :: st)) : gm_V x G pc lv (.int i :: .ref (gm_ad (cx_w x) 12 b 0) :: st) := by
  subst hn
  obtain ⟨q, hq⟩ := gm_at hid
  have he := gm_w_at (cx_w x) G hq
  exact fun H locs ls hP hS hl => va_aldq (C := RX4) C.1 C.2.1 C.2.2.2.2.2.1.1 hP q 4 he rfl g d (k H locs ls hP hS hl)
theorem gv_aald13 (C : gm_X x cc nL own ret rk) {b : Nat} {i : Int32} (hid : (13, b, 0) ∈ gm_ids) (g : ¬ (i < 0 ∨ 12 ≤ i.toNatClampNeg)) (d : decode cc pc = .ok (.aaload, 1)) (n : Nat) (hn : pc + 1 = n) (k : gm_V x G n lv (.ref (gm_ad (cx_w x) 5 b i.toNatClampNeg) :: st)) : gm_V x G pc lv (.int i :: .ref (gm_ad (cx_w x) 13 b 0) :: st) := by
  subst hn
  obtain ⟨q, hq⟩ := gm_at hid
  have he := gm_w_at (cx_w x) G hq
  exact fun H locs ls hP hS hl => va_aldq (C := RX5) C.1 C.2.1 C.2.2.2.2.2.1.1 hP q 5 he rfl g d (k H locs ls hP hS hl)
theorem gv_max (C : gm_X x cc nL own ret rk) {a b : Int32} {idx : Nat} (hlk : Cond.methodLink own idx Lib.Math.max.name ∈ TB) (h1 : Cond.static Lib.Math.max.name ∈ TB) (h2 : Cond.initialized "java/lang/Math" ∈ TB) (h3 : Cond.code Lib.Math.max.name Lib.Math.max.code 2 (some .int) ∈ TB) (hrk : 1 ≤ rk) (hs : (st.map fun v => v.category).sum ≤ 8) (d : decode cc pc = .ok (.invokestatic idx, 3)) (n : Nat) (hn : pc + 3 = n) (k : gm_V x G n lv (.int (if a < b then b else a) :: st)) : gm_V x G pc lv (.int b :: .int a :: st) := by
  subst hn
  obtain ⟨r1, r2, r3, r4⟩ := C.2.2.2.2.2.2.2.2.2.2
  exact fun H locs ls hP hS hl => va_mmax C.1 C.2.1 (hl.1).symm C.2.2.2.1 (C.2.2.2.2.1 _ hlk) (C.2.2.2.2.1 _ h1) (C.2.2.2.2.1 _ h2) (C.2.2.2.2.1 _ h3) (by omega) (by omega) r3 r4 d (k H locs ls hP hS hl)
def gm_cp (G : Gm) (b c b' c' m : Nat) : Gm := fun a1 b1 c1 k1 => if a1 = 8 ∧ b1 = b' ∧ c1 = c' then va_cpy (G 8 b c) (G 8 b' c') 0 0 m k1 else G a1 b1 c1 k1
theorem gv_copy (C : gm_X x cc nL own ret rk) {b c b' c' : Nat} {z : Int32} (m : Nat) (hz : z.toNatClampNeg = m) (hz0 : ¬ z < 0) {idx : Nat} (hid : (8, b, c) ∈ gm_ids) (hid' : (8, b', c') ∈ gm_ids) (hm : m ≤ gm_len b c) (hm' : m ≤ gm_len b' c') (hlk : Cond.methodLink own idx arraycopyName ∈ TB) (h1 : Cond.native arraycopyName ∈ TB) (h2 : Cond.static arraycopyName ∈ TB) (h3 : Cond.initialized "java/lang/System" ∈ TB) (hrk : 1 ≤ rk) (hs : (st.map fun v => v.category).sum ≤ 8) (d : decode cc pc = .ok (.invokestatic idx, 3)) (n : Nat) (hn : pc + 3 = n) (k : gm_V x (gm_cp G b c b' c' m) n lv st) : gm_V x G pc lv (.int z :: .int 0 :: .ref (gm_ad (cx_w x) 8 b' c') :: .int 0 :: .ref (gm_ad (cx_w x) 8 b c) :: st) := by
  subst hn
  obtain ⟨r1, r2, r3, r4⟩ := C.2.2.2.2.2.2.2.2.2.2
  obtain ⟨q, hq⟩ := gm_at hid
  obtain ⟨q', hq'⟩ := gm_at hid'
  have he := gm_w_at (cx_w x) G hq
  have he' := gm_w_at (cx_w x) G hq'
  have hset := gm_set (cx_w x) (G := G) (G' := gm_cp G b c b' c' m) hq' (fun a1 b1 c1 h => by funext k1; simp only [gm_cp]; rw [if_neg]; rintro ⟨e1, e2, e3⟩; exact h ⟨e1, e2, e3⟩)
  have hself : gm_cp G b c b' c' m 8 b' c' = va_cpy (G 8 b c) (G 8 b' c') 0 0 m := by funext k1; simp [gm_cp]
  rw [hself] at hset
  intro H locs ls hP hS hl
  refine va_copyi (ty := .int) C.1 C.2.1 (hl.1).symm C.2.2.2.1 (C.2.2.2.2.1 _ hlk) (C.2.2.2.2.1 _ h1) (C.2.2.2.2.1 _ h2) (C.2.2.2.2.1 _ h3) C.2.2.2.2.2.1.1 hP ((gm_dis C.2.2.2.2.2.2.1 G).weaken (fun _ q _ h => C.2.2.2.2.2.2.2.2.2.1 q.1 h)) hS q q' 0 0 he he' rfl rfl rfl (by decide) (by decide) hz0 (by rw [hz]; simpa using hm) (by rw [hz]; simpa using hm') (fun i _ => rfl) (by omega) ?_ d (fun H1 locs1 hP1 _ hS1 => k H1 locs1 ls ?_ hS1 hl)
  · have : nativeFrameWords "java/lang/System" "arraycopy" 5 + 11 ≤ 28 := by decide
    omega
  · rw [← hset]
    rw [hz] at hP1
    exact hP1
def gm_Qc (w : gm_Wd) (r : Option Value) (G' : Gm) : Array Value → State → Outcome → State → Prop := fun _ st oc t => (oc = .returned r ∧ va_P (gm_D w) vwCl (gm_w w G') t.heap) ∧ va_F (gm_A w) st t
/-- what a method's walk is asked for -/
def gm_E (x : gm_Cx) (r : Option Value) (G' : Gm) : Prop := cx_Q x = MQ (cx_below x) (gm_Qc (cx_w x) r G') (cx_args x) (cx_s x) (cx_k x).1 (cx_k x).2 (gm_A (cx_w x)) ∧ cx_A x = gm_A (cx_w x)
theorem gv_iret (C : gm_X x cc nL own (some .int) rk) {v : Int32} {r : Option Value} {G' : Gm} (E : gm_E x r G') (h1 : some (.int v) = r) (h2 : G = G') (d : decode cc pc = .ok (.ireturn, 1)) : gm_V x G pc lv [.int v] := by
  subst h1 h2
  intro H locs ls hP hS hl
  obtain ⟨hQ, hA⟩ := E
  rw [hA] at hS
  rw [hQ]
  exact W.iret C.1 C.2.1 C.2.2.2.2.2.2.2.1 (fun t ht hW => ⟨⟨rfl, by rw [ht]; exact hP⟩, hS.F ht⟩) hS.2.2 d C.2.2.2.2.2.2.2.2.1
theorem gv_zret (C : gm_X x cc nL own (some .boolean) rk) {v : Int32} {r : Option Value} {G' : Gm} (E : gm_E x r G') (hz : v = 0 ∨ v = 1) (h1 : some (.int v) = r) (h2 : G = G') (d : decode cc pc = .ok (.ireturn, 1)) : gm_V x G pc lv [.int v] := by
  subst h1 h2
  intro H locs ls hP hS hl
  obtain ⟨hQ, hA⟩ := E
  rw [hA] at hS
  rw [hQ]
  exact W.zret C.1 C.2.1 C.2.2.2.2.2.2.2.1 (by rcases hz with rfl | rfl <;> rfl) (fun t ht hW => ⟨⟨rfl, by rw [ht]; exact hP⟩, hS.F ht⟩) hS.2.2 d C.2.2.2.2.2.2.2.2.1
theorem gv_vret (C : gm_X x cc nL own none rk) {r : Option Value} {G' : Gm} (E : gm_E x r G') (h1 : none = r) (h2 : G = G') (d : decode cc pc = .ok (.return_, 1)) : gm_V x G pc lv [] := by
  subst h1 h2
  intro H locs ls hP hS hl
  obtain ⟨hQ, hA⟩ := E
  rw [hA] at hS
  rw [hQ]
  exact W.vret C.1 C.2.1 C.2.2.2.2.2.2.2.1 (fun t ht hW => ⟨⟨rfl, by rw [ht]; exact hP⟩, hS.F ht⟩) hS.2.2 d C.2.2.2.2.2.2.2.2.1
theorem gv_aret {nm : String} (C : gm_X x cc nL own (some (.object nm)) rk) {v : Value} {r : Option Value} {G' : Gm} (E : gm_E x r G') (hv : v = .null ∨ ∃ a, v = .ref a) (h1 : some v = r) (h2 : G = G') (d : decode cc pc = .ok (.areturn, 1)) : gm_V x G pc lv [v] := by
  subst h1 h2
  intro H locs ls hP hS hl
  obtain ⟨hQ, hA⟩ := E
  rw [hA] at hS
  rw [hQ]
  exact W.aret C.1 C.2.1 C.2.2.2.2.2.2.2.1 (Or.inl ⟨_, rfl⟩) hv (fun t ht hW => ⟨⟨rfl, by rw [ht]; exact hP⟩, hS.F ht⟩) hS.2.2 d C.2.2.2.2.2.2.2.2.1
/-- other words for the locals -/
theorem gm_lv {lv' : List (Nat × Value)} (h : lv = lv') (k : gm_V x G pc lv' st) : gm_V x G pc lv st := h ▸ k
theorem gm_ls (ks : List Nat) {lv' : List (Nat × Value)} (h : lv_pick lv ks = lv') (k : gm_V x G pc lv' st) : gm_V x G pc lv st := fun H locs ls hP hS hl => k H locs ls hP hS (lv_sub hl ks h)
end
/-- A METHOD'S CONTRACT OUT OF ITS WALK -/
theorem gm_start {w : gm_Wd} {y : MethodName} {cc : ByteArray} {mL : Nat} {ret : Option FieldType} {rk : Nat} {av : List Value} {G : Gm} {r : Option Value} {G' : Gm} (hy : plainName y.cls = true) (hav : (lg_sl av).length ≤ mL)
    (body : ∀ x : gm_Cx, cx_w x = w → gm_X x cc mL y.cls ret rk → gm_E x r G' → gm_V x G 0 (lv_args 0 av) []) : gm_C w y cc mL ret rk av G r G' := by
  refine Met.ofW (cc := cc) (maxL := mL) (ret := ret) hy rfl ?_
  intro p e s m args below meth c s₁ B hml hv
  obtain ⟨rfl, hP, hK, hJ⟩ := hv
  have hts := atoms_spec (ws := Cond.code y cc mL ret :: TB) B.pre
  have hl := lv_entry av (n := mL) hav
  rw [lg_entry_eq]
  have := body (p, e, gm_rm rk, s, m, av.toArray, below, meth, c, MQ below (gm_Qc w r G') av.toArray s 0 0 (gm_A w), gm_A w, (0, 0), w) rfl
    ⟨B.exec, B.bytes, hml, findClass_of_methodNamed B.named, fun q hq => hts q (List.mem_cons_of_mem _ hq), hK, hJ, B.returns, B.notSynchronized, fun _ h => h, Nat.le_refl _, Nat.le_refl _, Nat.le_refl _, Nat.le_refl _⟩ ⟨rfl, rfl⟩
  exact this s.heap [] _ hP va_S.rf (by rw [hml]; exact hl)
/-- what a call needs of a method -/
def gm_M (y : MethodName) (bytes : ByteArray) (mL : Nat) (ret : Option FieldType) (n : Nat) : Prop := Cond.code y bytes mL ret ∈ TB ∧ Cond.initialized y.cls ∈ TB ∧ (y.cls ≠ "java/lang/invoke/MethodHandle" ∧ y.cls ≠ "java/lang/invoke/VarHandle" ∧ (parseMethodDescriptor y.desc).map (fun d => d.parameters.length) = some n) ∧ mL ≤ 17
section
variable {x : gm_Cx} {cc : ByteArray} {nL : Nat} {own : String} {ret : Option FieldType} {rk : Nat} {G G1 : Gm} {pc : Nat} {lv : List (Nat × Value)} {st st0 : List Value}
  {y : MethodName} {bytes : ByteArray} {mL : Nat} {rt : Option FieldType} {kn k' idx : Nat} {r : Option Value} {As : List Value}
theorem gm_pre (C : gm_X x cc nL own ret rk) {av : List Value} {H : Heap} (hP : va_P (gm_D (cx_w x)) vwCl (gm_w (cx_w x) G) H) : PreS (cx_s x) H (va_Pc av (fun U => va_P (gm_D (cx_w x)) vwCl (gm_w (cx_w x) G) U.heap ∧ gm_K (cx_w x) U ∧ gm_J (cx_w x))) av :=
  ⟨fun a U g mk q => by obtain ⟨q0, qP, qK, qJ⟩ := q; exact ⟨q0, qP, gm_K_same (s := U) (U := U.calling g mk a) rfl qK, qJ⟩, fun U hU hW => ⟨rfl, by rw [hU]; exact hP, gm_K_warm hW C.2.2.2.2.2.1, C.2.2.2.2.2.2.1⟩⟩
theorem gm_back (C : gm_X x cc nL own ret rk) {H : Heap} {locs : List Loc} {ls : Array Slot} {a : Array Value} (hS : va_S (cx_A x) (cx_s x).heap H locs) (hl : lv_has ls (cx_c x).maxLocals lv)
    (hr : va_Run (cx_p x) (cx_w x).1 (cx_e x) (cx_R x) (cx_s x) (cx_m x) (cx_args x) (cx_below x) (cx_meth x) (cx_c x) H locs (cx_k x).1 (cx_k x).2 0 0 (F0 (cx_m x) pc ls st0) st ((fun _ st oc t => (oc = .returned r ∧ va_P (gm_D (cx_w x)) vwCl (gm_w (cx_w x) G1) t.heap) ∧ va_F (gm_A (cx_w x)) st t : Array Value → State → Outcome → State → Prop) a) (gm_A (cx_w x)))
    (k : gm_V x G1 (pc + 3) lv (r.toList ++ st)) : W (cx_p x) (cx_w x).1 (cx_e x) (cx_R x) (cx_s x) (cx_m x) (cx_args x) (cx_below x) (cx_meth x) (cx_c x) H locs (cx_k x).1 (cx_k x).2 (cx_Q x) (F0 (cx_m x) pc ls st0) := by
  have hA := C.2.2.2.2.2.2.2.2.2.1
  intro T hT X
  obtain ⟨v, st₀, t, T', L, h0, X', hL, e1, e2, ⟨⟨hv, hP1⟩, hz, hk⟩, sp⟩ := hr T hT X
  cases hv
  rw [h0] at hz hk
  obtain ⟨t2, a1, b1⟩ := k T'.heap (locs ++ L) ls (by rw [e1]; exact hP1)
    ⟨Nat.le_trans hS.1 (by rw [e1]; exact hz), fun q h1 h2 => by rw [e1, hk q (Nat.lt_of_lt_of_le h1 hS.1) (fun z => h2 (hA q z))]; exact hS.2.1 q h1 h2, fun q hq => by
      rcases List.mem_append.mp hq with h | h
      · exact hS.2.2 q h
      · exact hA _ (hL q h)⟩ hl T' rfl X'
  exact ⟨t2, sp t2 a1, b1⟩
theorem gm_B (C : gm_X x cc nL own ret rk) (M : gm_M y bytes mL rt kn) (hk : k' + 1 ≤ rk) (hlk : Cond.methodLink own idx y ∈ TB) : CallB (cx_R x) (cx_s x) (cx_args x) own idx y bytes mL rt (Cond.code y bytes mL rt :: TB) (gm_rm k') 0 0 kn := by
  obtain ⟨r1, r2, r3, r4⟩ := C.2.2.2.2.2.2.2.2.2.2
  obtain ⟨m1, m2, m3, m4⟩ := M
  exact callB_of kn C.2.2.2.2.1 (gm_in m1) rfl rfl rfl (C.2.2.2.2.1 _ m2) (C.2.2.2.2.1 _ hlk) m3 ⟨by show k' + 1 ≤ _; omega, by show 8 + (mL + 11) + 36 * k' ≤ _; omega⟩
theorem gv_callV (C : gm_X x cc nL own ret rk) (M : gm_M y bytes mL rt kn) (M2 : Cond.instanceMethod y ∈ TB ∧ Cond.selects y.cls y y ∈ TB) (hk : k' + 1 ≤ rk) (hlk : Cond.methodLink own idx y ∈ TB)
    {a b c ci : Nat} {q : vw_C} (hid : (a, b, c) ∈ gm_ids) (hc : ∃ fs, gm_cel (gm_cy (cx_w x)) (gm_ad (cx_w x)) (G a b c) a b c = .inr (ci, fs)) (hq : vwCl[ci]? = some q) (hqy : q.1 = y.cls)
    (hM : gm_C (cx_w x) y bytes mL rt k' (.ref (gm_ad (cx_w x) a b c) :: As) G r G1) (hn : As.length = kn) (hst : st0 = As.reverse ++ .ref (gm_ad (cx_w x) a b c) :: st) (hs : (st.map fun v => v.category).sum ≤ 8) (d : decode cc pc = .ok (.invokevirtual idx, 3)) (n : Nat) (hpc : pc + 3 = n) (k : gm_V x G1 n lv (r.toList ++ st)) : gm_V x G pc lv st0 := by
  subst hpc
  intro H locs ls hP hS hl
  obtain ⟨k0, hk0⟩ := gm_at hid
  have he := gm_w_at (cx_w x) G hk0
  obtain ⟨fs, hc⟩ := hc
  rw [hc] at he
  have hrv := va_recv C.2.2.2.2.2.1.1 hP hq he
  rw [hqy] at hrv
  refine gm_back (a := (Value.ref (gm_ad (cx_w x) a b c) :: As).toArray) C hS hl (va_runV (b := gm_ad (cx_w x) a b c) (As := As) (rest := st) (C := y.cls) ⟨C.1, C.2.1, rfl, C.2.2.2.1, C.2.2.2.2.1⟩ hM ⟨gm_B C M hk hlk, C.2.2.2.2.1 _ M2.1, C.2.2.2.2.1 _ M2.2⟩ ⟨(gm_pre C hP).1, hrv, (gm_pre C hP).2⟩ rfl hn hl.1 hst (lv_room hs) d ⟨?_, ?_⟩) k
  · have := C.2.2.2.2.2.2.2.2.2.2.2.2.1; omega
  · have := C.2.2.2.2.2.2.2.2.2.2.2.2.2; omega
theorem gv_callS (C : gm_X x cc nL own ret rk) (M : gm_M y bytes mL rt kn) (M2 : Cond.static y ∈ TB) (hk : k' + 1 ≤ rk) (hlk : Cond.methodLink own idx y ∈ TB)
    (hM : gm_C (cx_w x) y bytes mL rt k' As G r G1) (hn : As.length = kn) (hst : st0 = As.reverse ++ st) (hs : (st.map fun v => v.category).sum ≤ 8) (d : decode cc pc = .ok (.invokestatic idx, 3)) (n : Nat) (hpc : pc + 3 = n) (k : gm_V x G1 n lv (r.toList ++ st)) : gm_V x G pc lv st0 := by
  subst hpc
  intro H locs ls hP hS hl
  refine gm_back (a := As.toArray) C hS hl (va_runS (As := As) (rest := st) ⟨C.1, C.2.1, rfl, C.2.2.2.1, C.2.2.2.2.1⟩ hM ⟨gm_B C M hk hlk, C.2.2.2.2.1 _ M2⟩ (gm_pre C hP) rfl hn hl.1 hst (lv_room hs) d ⟨?_, ?_⟩) k
  · have := C.2.2.2.2.2.2.2.2.2.2.2.2.1; omega
  · have := C.2.2.2.2.2.2.2.2.2.2.2.2.2; omega
theorem gv_callSN (C : gm_X x cc nL own ret rk) (M : gm_M y bytes mL rt kn) (M2 : Cond.static y ∈ TB) (hk : k' + 1 ≤ rk) {host : String} (hlk : va_Nw (.methodLinkNest own idx y host) (cx_s x))
    (hM : gm_C (cx_w x) y bytes mL rt k' As G r G1) (hn : As.length = kn) (hst : st0 = As.reverse ++ st) (hs : (st.map fun v => v.category).sum ≤ 8) (d : decode cc pc = .ok (.invokestatic idx, 3)) (n : Nat) (hpc : pc + 3 = n) (k : gm_V x G1 n lv (r.toList ++ st)) : gm_V x G pc lv st0 := by
  subst hpc
  intro H locs ls hP hS hl
  obtain ⟨r1, r2, r3, r4⟩ := C.2.2.2.2.2.2.2.2.2.2
  obtain ⟨m1, m2, m3, m4⟩ := M
  refine gm_back (a := As.toArray) C hS hl (va_runSN (As := As) (rest := st) ⟨C.1, C.2.1, rfl, C.2.2.2.1, C.2.2.2.2.1⟩ hM ⟨va_cnB kn C.2.2.2.2.1 (gm_in m1) rfl rfl rfl hlk (C.2.2.2.2.1 _ m2) m3 ⟨by show k' + 1 ≤ _; omega, by show 8 + (mL + 11) + 36 * k' ≤ _; omega⟩, C.2.2.2.2.1 _ M2, trivial⟩ (gm_pre C hP) rfl hn hl.1 hst (lv_room hs) d ⟨?_, ?_⟩) k
  · omega
  · omega
end
