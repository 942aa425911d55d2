/-! THE G LAYER: one judgement over a world, a list of locals, a stack and a place; every kit row once more over it -/
abbrev GX : Type := Program × Env × State × MethodId × Array Value × List Frame × Method × Code × (Nat → Prop) × (State → Prop)
/-- the one nest word that methods need: Pages calls PageBuckets.isPage -/
def gNw : Cond := .methodLinkNest RX2 61 yX3_isPage RX3
/-- the nest words: Pages calls PageBuckets.isPage; PageBuckets makes an Aside and a Journal -/
def gN3 (U : State) : Prop := va_Nw gNw U ∧ va_Nw (.methodLinkNest RX3 11 yX0_init RX3) U ∧ va_Nw (.methodLinkNest RX3 26 yX1_init RX3) U
theorem gN3.warm {s U : State} (hW : s.WarmedH U.vm) (h : gN3 s) : gN3 U := ⟨va_Nw.warmM hW h.1, va_Nw.warmM hW h.2.1, va_Nw.warmM hW h.2.2⟩
theorem gN3.same {u U : State} (h : u.vm = U.vm) (hZ : gN3 u) : gN3 U := ⟨va_Nw.same rfl h hZ.1, va_Nw.same rfl h hZ.2.1, va_Nw.same rfl h hZ.2.2⟩
def Cx (x : GX) (D : va_G) (tys : List (ClassId × FieldType)) (cc : ByteArray) (nL : Nat) (Ts : List Cond) (own : String) : Prop :=
  match x with
  | (p, _, s, m, args, _, meth, c, A, _) => p.tables.exec = Jvm.exec ∧ c.code = cc ∧ c.maxLocals = nL ∧ s.vm.findClass own = some m.cls ∧ (∀ w ∈ Ts, w.before args s = true) ∧ va_K D vwCl tys s ∧ (∀ q : Nat, s.heap.size ≤ q → A q) ∧ gN3 s
def G (x : GX) (l : Launch) (R : Room) (D : va_G) (nL k n : Nat) (ws : va_W) (lv : List (Nat × Value)) (st : List Value) (pc : Nat) : Prop :=
  match x with
  | (p, e, s, m, args, below, meth, c, A, Q) => ∀ (H : Heap) (locs : List Loc) (ls : Array Slot), va_P D vwCl ws H → va_D A ws → va_S A s.heap H locs → lv_has ls nL lv → W p l e R s m args below meth c H locs k n Q (F0 m pc ls st)
theorem g_arr {cA : ClassId} {N : Nat} {f g : Nat → Int32} (h : ∀ j, j < N → f j = g j) : arrV cA N (fun j => .int (f j)) = arrV cA N (fun j => .int (g j)) := by
  have e : (fun j : Fin N => Value.int (f j.val)) = (fun j : Fin N => Value.int (g j.val)) := by
    funext j
    rw [h j.val j.isLt]
  show ({ cls := cA, slots := Array.ofFn (n := N) fun j => Value.int (f j.val), vm := .none } : Cell) = { cls := cA, slots := Array.ofFn (n := N) fun j => Value.int (g j.val), vm := .none }
  rw [e]
section GL
variable {x : GX} {l : Launch} {R : Room} {D : va_G} {tys : List (ClassId × FieldType)} {cc : ByteArray} {nL k n : Nat} {Ts : List Cond} {own : String} {ws ws' : va_W} {lv lv' : List (Nat × Value)} {st rest : List Value} {pc : Nat}

theorem g_iconst (C : Cx x D tys cc nL Ts own) {i : Int} {v : Int32} (hdg : decode cc pc = .ok (.iconst i, 1)) (hv : Int32.ofInt i = v) (kk : G x l R D nL k n ws lv (.int v :: st) (pc + 1)) : G x l R D nL k n ws lv (st) pc := by
  obtain ⟨p, e, s, m, args, below, meth, c, A, Q⟩ := x
  obtain ⟨hx, hb, hml, hown, hts, hK, hA, hNw⟩ := C
  intro H locs ls hP hD hS hl
  exact lv_iconst hx hb hdg hv (kk H locs ls hP hD hS hl)
theorem g_bipush (C : Cx x D tys cc nL Ts own) {i : Int} {v : Int32} (hdg : decode cc pc = .ok (.bipush i, 2)) (hv : (Int8.ofInt i).toInt32 = v) (kk : G x l R D nL k n ws lv (.int v :: st) (pc + 2)) : G x l R D nL k n ws lv (st) pc := by
  obtain ⟨p, e, s, m, args, below, meth, c, A, Q⟩ := x
  obtain ⟨hx, hb, hml, hown, hts, hK, hA, hNw⟩ := C
  intro H locs ls hP hD hS hl
  exact lv_bipush hx hb hdg hv (kk H locs ls hP hD hS hl)
theorem g_sipush (C : Cx x D tys cc nL Ts own) {i : Int} {v : Int32} (hdg : decode cc pc = .ok (.sipush i, 3)) (hv : (Int16.ofInt i).toInt32 = v) (kk : G x l R D nL k n ws lv (.int v :: st) (pc + 3)) : G x l R D nL k n ws lv (st) pc := by
  obtain ⟨p, e, s, m, args, below, meth, c, A, Q⟩ := x
  obtain ⟨hx, hb, hml, hown, hts, hK, hA, hNw⟩ := C
  intro H locs ls hP hD hS hl
  exact lv_sipush hx hb hdg hv (kk H locs ls hP hD hS hl)
theorem g_ldc (C : Cx x D tys cc nL Ts own) {i : Nat} {v : Int32} (hc : Cond.constant own i v ∈ Ts) (hdg : decode cc pc = .ok (.ldc i, 2)) (kk : G x l R D nL k n ws lv (.int v :: st) (pc + 2)) : G x l R D nL k n ws lv (st) pc := by
  obtain ⟨p, e, s, m, args, below, meth, c, A, Q⟩ := x
  obtain ⟨hx, hb, hml, hown, hts, hK, hA, hNw⟩ := C
  intro H locs ls hP hD hS hl
  exact lv_ldc hx hb hown (hts _ hc) hdg (kk H locs ls hP hD hS hl)
theorem g_iload_n (C : Cx x D tys cc nL Ts own) {j : Fin 4} {i : Nat} {v : Int32} (hdg : decode cc pc = .ok (.iload_n j, 1)) (q : Nat) (hi : (j : Nat) = i) (hv : lv[q]? = some (i, .int v)) (kk : G x l R D nL k n ws lv (.int v :: st) (pc + 1)) : G x l R D nL k n ws lv (st) pc := by
  obtain ⟨p, e, s, m, args, below, meth, c, A, Q⟩ := x
  obtain ⟨hx, hb, hml, hown, hts, hK, hA, hNw⟩ := C
  intro H locs ls hP hD hS hl
  exact lv_iload_n hx hb hdg hi (lv_at hl q hv) (kk H locs ls hP hD hS hl)
theorem g_iload (C : Cx x D tys cc nL Ts own) {i : Nat} {v : Int32} (hdg : decode cc pc = .ok (.iload i, 2)) (q : Nat) (hv : lv[q]? = some (i, .int v)) (kk : G x l R D nL k n ws lv (.int v :: st) (pc + 2)) : G x l R D nL k n ws lv (st) pc := by
  obtain ⟨p, e, s, m, args, below, meth, c, A, Q⟩ := x
  obtain ⟨hx, hb, hml, hown, hts, hK, hA, hNw⟩ := C
  intro H locs ls hP hD hS hl
  exact lv_iload hx hb hdg (lv_at hl q hv) (kk H locs ls hP hD hS hl)
theorem g_aload_n (C : Cx x D tys cc nL Ts own) {j : Fin 4} {i : Nat} {v : Nat} (hdg : decode cc pc = .ok (.aload_n j, 1)) (q : Nat) (hi : (j : Nat) = i) (hv : lv[q]? = some (i, .ref v)) (kk : G x l R D nL k n ws lv (.ref v :: st) (pc + 1)) : G x l R D nL k n ws lv (st) pc := by
  obtain ⟨p, e, s, m, args, below, meth, c, A, Q⟩ := x
  obtain ⟨hx, hb, hml, hown, hts, hK, hA, hNw⟩ := C
  intro H locs ls hP hD hS hl
  exact lv_aload_n hx hb hdg hi (lv_at hl q hv) (kk H locs ls hP hD hS hl)
theorem g_aload (C : Cx x D tys cc nL Ts own) {i : Nat} {v : Nat} (hdg : decode cc pc = .ok (.aload i, 2)) (q : Nat) (hv : lv[q]? = some (i, .ref v)) (kk : G x l R D nL k n ws lv (.ref v :: st) (pc + 2)) : G x l R D nL k n ws lv (st) pc := by
  obtain ⟨p, e, s, m, args, below, meth, c, A, Q⟩ := x
  obtain ⟨hx, hb, hml, hown, hts, hK, hA, hNw⟩ := C
  intro H locs ls hP hD hS hl
  exact lv_aload hx hb hdg (lv_at hl q hv) (kk H locs ls hP hD hS hl)
theorem g_istore_n (C : Cx x D tys cc nL Ts own) {j : Fin 4} {i : Nat} {v : Int32} (hdg : decode cc pc = .ok (.istore_n j, 1)) (hi : (j : Nat) = i) (hn : i < nL) (hlv : (i, Value.int v) :: lv.filter (fun q => !(q.1 == i) && !(q.1 + 1 == i && q.2.category == 2)) = lv') (kk : G x l R D nL k n ws lv' (st) (pc + 1)) : G x l R D nL k n ws lv (.int v :: st) pc := by
  obtain ⟨p, e, s, m, args, below, meth, c, A, Q⟩ := x
  obtain ⟨hx, hb, hml, hown, hts, hK, hA, hNw⟩ := C
  intro H locs ls hP hD hS hl
  exact lv_istore_n hx hb hdg hi hl hn hlv (fun ls hl => (kk H locs ls hP hD hS hl))
theorem g_istore (C : Cx x D tys cc nL Ts own) {i : Nat} {v : Int32} (hdg : decode cc pc = .ok (.istore i, 2)) (hn : i < nL) (hlv : (i, Value.int v) :: lv.filter (fun q => !(q.1 == i) && !(q.1 + 1 == i && q.2.category == 2)) = lv') (kk : G x l R D nL k n ws lv' (st) (pc + 2)) : G x l R D nL k n ws lv (.int v :: st) pc := by
  obtain ⟨p, e, s, m, args, below, meth, c, A, Q⟩ := x
  obtain ⟨hx, hb, hml, hown, hts, hK, hA, hNw⟩ := C
  intro H locs ls hP hD hS hl
  exact lv_istore hx hb hdg hl hn hlv (fun ls hl => (kk H locs ls hP hD hS hl))
theorem g_astore_n (C : Cx x D tys cc nL Ts own) {j : Fin 4} {i : Nat} {v : Nat} (hdg : decode cc pc = .ok (.astore_n j, 1)) (hi : (j : Nat) = i) (hn : i < nL) (hlv : (i, Value.ref v) :: lv.filter (fun q => !(q.1 == i) && !(q.1 + 1 == i && q.2.category == 2)) = lv') (kk : G x l R D nL k n ws lv' (st) (pc + 1)) : G x l R D nL k n ws lv (.ref v :: st) pc := by
  obtain ⟨p, e, s, m, args, below, meth, c, A, Q⟩ := x
  obtain ⟨hx, hb, hml, hown, hts, hK, hA, hNw⟩ := C
  intro H locs ls hP hD hS hl
  exact lv_astore_n hx hb hdg hi hl hn hlv (fun ls hl => (kk H locs ls hP hD hS hl))
theorem g_astore (C : Cx x D tys cc nL Ts own) {i : Nat} {v : Nat} (hdg : decode cc pc = .ok (.astore i, 2)) (hn : i < nL) (hlv : (i, Value.ref v) :: lv.filter (fun q => !(q.1 == i) && !(q.1 + 1 == i && q.2.category == 2)) = lv') (kk : G x l R D nL k n ws lv' (st) (pc + 2)) : G x l R D nL k n ws lv (.ref v :: st) pc := by
  obtain ⟨p, e, s, m, args, below, meth, c, A, Q⟩ := x
  obtain ⟨hx, hb, hml, hown, hts, hK, hA, hNw⟩ := C
  intro H locs ls hP hD hS hl
  exact lv_astore hx hb hdg hl hn hlv (fun ls hl => (kk H locs ls hP hD hS hl))
theorem g_iinc (C : Cx x D tys cc nL Ts own) {i q : Nat} {j : Int} {v u : Int32} (hdg : decode cc pc = .ok (.iinc i j, 3)) (hk : lv[q]? = some (i, .int u)) (hv : u + Int32.ofInt j = v) (hn : i < nL) (hlv : (i, Value.int v) :: lv.filter (fun q => !(q.1 == i) && !(q.1 + 1 == i && q.2.category == 2)) = lv') (kk : G x l R D nL k n ws lv' (st) (pc + 3)) : G x l R D nL k n ws lv (st) pc := by
  obtain ⟨p, e, s, m, args, below, meth, c, A, Q⟩ := x
  obtain ⟨hx, hb, hml, hown, hts, hK, hA, hNw⟩ := C
  intro H locs ls hP hD hS hl
  exact lv_iinc hx hb hdg hl hk hv hn hlv (fun ls hl => (kk H locs ls hP hD hS hl))
theorem g_iadd (C : Cx x D tys cc nL Ts own) {a b : Int32} (hdg : decode cc pc = .ok (.iadd, 1)) (kk : G x l R D nL k n ws lv (.int (a + b) :: st) (pc + 1)) : G x l R D nL k n ws lv (.int b :: .int a :: st) pc := by
  obtain ⟨p, e, s, m, args, below, meth, c, A, Q⟩ := x
  obtain ⟨hx, hb, hml, hown, hts, hK, hA, hNw⟩ := C
  intro H locs ls hP hD hS hl
  exact lv_iadd hx hb hdg (kk H locs ls hP hD hS hl)
theorem g_isub (C : Cx x D tys cc nL Ts own) {a b : Int32} (hdg : decode cc pc = .ok (.isub, 1)) (kk : G x l R D nL k n ws lv (.int (a - b) :: st) (pc + 1)) : G x l R D nL k n ws lv (.int b :: .int a :: st) pc := by
  obtain ⟨p, e, s, m, args, below, meth, c, A, Q⟩ := x
  obtain ⟨hx, hb, hml, hown, hts, hK, hA, hNw⟩ := C
  intro H locs ls hP hD hS hl
  exact lv_isub hx hb hdg (kk H locs ls hP hD hS hl)
theorem g_imul (C : Cx x D tys cc nL Ts own) {a b : Int32} (hdg : decode cc pc = .ok (.imul, 1)) (kk : G x l R D nL k n ws lv (.int (a * b) :: st) (pc + 1)) : G x l R D nL k n ws lv (.int b :: .int a :: st) pc := by
  obtain ⟨p, e, s, m, args, below, meth, c, A, Q⟩ := x
  obtain ⟨hx, hb, hml, hown, hts, hK, hA, hNw⟩ := C
  intro H locs ls hP hD hS hl
  exact lv_imul hx hb hdg (kk H locs ls hP hD hS hl)
theorem g_iand (C : Cx x D tys cc nL Ts own) {a b : Int32} (hdg : decode cc pc = .ok (.iand, 1)) (kk : G x l R D nL k n ws lv (.int (a &&& b) :: st) (pc + 1)) : G x l R D nL k n ws lv (.int b :: .int a :: st) pc := by
  obtain ⟨p, e, s, m, args, below, meth, c, A, Q⟩ := x
  obtain ⟨hx, hb, hml, hown, hts, hK, hA, hNw⟩ := C
  intro H locs ls hP hD hS hl
  exact lv_iand hx hb hdg (kk H locs ls hP hD hS hl)
theorem g_ixor (C : Cx x D tys cc nL Ts own) {a b : Int32} (hdg : decode cc pc = .ok (.ixor, 1)) (kk : G x l R D nL k n ws lv (.int (a ^^^ b) :: st) (pc + 1)) : G x l R D nL k n ws lv (.int b :: .int a :: st) pc := by
  obtain ⟨p, e, s, m, args, below, meth, c, A, Q⟩ := x
  obtain ⟨hx, hb, hml, hown, hts, hK, hA, hNw⟩ := C
  intro H locs ls hP hD hS hl
  exact lv_ixor hx hb hdg (kk H locs ls hP hD hS hl)
theorem g_idiv (C : Cx x D tys cc nL Ts own) {a b : Int32} (hdg : decode cc pc = .ok (.idiv, 1)) (hne : ¬ b = 0) (kk : G x l R D nL k n ws lv (.int (a / b) :: st) (pc + 1)) : G x l R D nL k n ws lv (.int b :: .int a :: st) pc := by
  obtain ⟨p, e, s, m, args, below, meth, c, A, Q⟩ := x
  obtain ⟨hx, hb, hml, hown, hts, hK, hA, hNw⟩ := C
  intro H locs ls hP hD hS hl
  exact lv_idiv hx hb hdg hne (kk H locs ls hP hD hS hl)
theorem g_ishl (C : Cx x D tys cc nL Ts own) {a b : Int32} (hdg : decode cc pc = .ok (.ishl, 1)) (kk : G x l R D nL k n ws lv (.int (a <<< (b &&& 31)) :: st) (pc + 1)) : G x l R D nL k n ws lv (.int b :: .int a :: st) pc := by
  obtain ⟨p, e, s, m, args, below, meth, c, A, Q⟩ := x
  obtain ⟨hx, hb, hml, hown, hts, hK, hA, hNw⟩ := C
  intro H locs ls hP hD hS hl
  exact lv_ishl hx hb hdg (kk H locs ls hP hD hS hl)
theorem g_iushr (C : Cx x D tys cc nL Ts own) {a b : Int32} (hdg : decode cc pc = .ok (.iushr, 1)) (kk : G x l R D nL k n ws lv (.int ((a.toUInt32 >>> (b.toUInt32 &&& Int32.toUInt32 31)).toInt32) :: st) (pc + 1)) : G x l R D nL k n ws lv (.int b :: .int a :: st) pc := by
  obtain ⟨p, e, s, m, args, below, meth, c, A, Q⟩ := x
  obtain ⟨hx, hb, hml, hown, hts, hK, hA, hNw⟩ := C
  intro H locs ls hP hD hS hl
  exact lv_iushr hx hb hdg rfl (kk H locs ls hP hD hS hl)
theorem g_dup (C : Cx x D tys cc nL Ts own) {v : Value} (hdg : decode cc pc = .ok (.dup, 1)) (hv : v.category = 1) (kk : G x l R D nL k n ws lv (v :: v :: st) (pc + 1)) : G x l R D nL k n ws lv (v :: st) pc := by
  obtain ⟨p, e, s, m, args, below, meth, c, A, Q⟩ := x
  obtain ⟨hx, hb, hml, hown, hts, hK, hA, hNw⟩ := C
  intro H locs ls hP hD hS hl
  exact lv_dup hx hb hdg hv (kk H locs ls hP hD hS hl)
theorem g_dup2 (C : Cx x D tys cc nL Ts own) {v u : Value} (hdg : decode cc pc = .ok (.dup2, 1)) (hv : v.category = 1) (hu : u.category = 1) (kk : G x l R D nL k n ws lv (v :: u :: v :: u :: st) (pc + 1)) : G x l R D nL k n ws lv (v :: u :: st) pc := by
  obtain ⟨p, e, s, m, args, below, meth, c, A, Q⟩ := x
  obtain ⟨hx, hb, hml, hown, hts, hK, hA, hNw⟩ := C
  intro H locs ls hP hD hS hl
  exact lv_dup2_11 hx hb hdg hv hu (kk H locs ls hP hD hS hl)
theorem g_goto (C : Cx x D tys cc nL Ts own) {off : Int} {tgt : Nat} (hdg : decode cc pc = .ok (.goto off, 3)) (ht : (pc : Int) + off = (tgt : Int)) (kk : G x l R D nL k n ws lv st tgt) : G x l R D nL k n ws lv st pc := by
  obtain ⟨p, e, s, m, args, below, meth, c, A, Q⟩ := x
  obtain ⟨hx, hb, hml, hown, hts, hK, hA, hNw⟩ := C
  intro H locs ls hP hD hS hl
  exact lv_goto hx hb hdg ht (kk H locs ls hP hD hS hl)
theorem g_icmp_eq (C : Cx x D tys cc nL Ts own) {a b : Int32} {off : Int} {tgt : Nat} (hdg : decode cc pc = .ok (.if_icmp .eq off, 3)) (ht : (pc : Int) + off = (tgt : Int)) (kt : a = b → G x l R D nL k n ws lv st tgt) (kf : ¬ a = b → G x l R D nL k n ws lv st (pc + 3)) : G x l R D nL k n ws lv (.int b :: .int a :: st) pc := by
  obtain ⟨p, e, s, m, args, below, meth, c, A, Q⟩ := x
  obtain ⟨hx, hb, hml, hown, hts, hK, hA, hNw⟩ := C
  intro H locs ls hP hD hS hl
  exact lv_icmp_eq hx hb hdg ht (fun h => kt h H locs ls hP hD hS hl) (fun h => kf h H locs ls hP hD hS hl)
theorem g_if_eq (C : Cx x D tys cc nL Ts own) {a : Int32} {off : Int} {tgt : Nat} (hdg : decode cc pc = .ok (.ifCond .eq off, 3)) (ht : (pc : Int) + off = (tgt : Int)) (kt : a = 0 → G x l R D nL k n ws lv st tgt) (kf : ¬ a = 0 → G x l R D nL k n ws lv st (pc + 3)) : G x l R D nL k n ws lv (.int a :: st) pc := by
  obtain ⟨p, e, s, m, args, below, meth, c, A, Q⟩ := x
  obtain ⟨hx, hb, hml, hown, hts, hK, hA, hNw⟩ := C
  intro H locs ls hP hD hS hl
  exact lv_if_eq hx hb hdg ht (fun h => kt h H locs ls hP hD hS hl) (fun h => kf h H locs ls hP hD hS hl)
theorem g_icmp_ne (C : Cx x D tys cc nL Ts own) {a b : Int32} {off : Int} {tgt : Nat} (hdg : decode cc pc = .ok (.if_icmp .ne off, 3)) (ht : (pc : Int) + off = (tgt : Int)) (kt : ¬ a = b → G x l R D nL k n ws lv st tgt) (kf : a = b → G x l R D nL k n ws lv st (pc + 3)) : G x l R D nL k n ws lv (.int b :: .int a :: st) pc := by
  obtain ⟨p, e, s, m, args, below, meth, c, A, Q⟩ := x
  obtain ⟨hx, hb, hml, hown, hts, hK, hA, hNw⟩ := C
  intro H locs ls hP hD hS hl
  exact lv_icmp_ne hx hb hdg ht (fun h => kt h H locs ls hP hD hS hl) (fun h => kf h H locs ls hP hD hS hl)
theorem g_if_ne (C : Cx x D tys cc nL Ts own) {a : Int32} {off : Int} {tgt : Nat} (hdg : decode cc pc = .ok (.ifCond .ne off, 3)) (ht : (pc : Int) + off = (tgt : Int)) (kt : ¬ a = 0 → G x l R D nL k n ws lv st tgt) (kf : a = 0 → G x l R D nL k n ws lv st (pc + 3)) : G x l R D nL k n ws lv (.int a :: st) pc := by
  obtain ⟨p, e, s, m, args, below, meth, c, A, Q⟩ := x
  obtain ⟨hx, hb, hml, hown, hts, hK, hA, hNw⟩ := C
  intro H locs ls hP hD hS hl
  exact lv_if_ne hx hb hdg ht (fun h => kt h H locs ls hP hD hS hl) (fun h => kf h H locs ls hP hD hS hl)
theorem g_icmp_lt (C : Cx x D tys cc nL Ts own) {a b : Int32} {off : Int} {tgt : Nat} (hdg : decode cc pc = .ok (.if_icmp .lt off, 3)) (ht : (pc : Int) + off = (tgt : Int)) (kt : a < b → G x l R D nL k n ws lv st tgt) (kf : ¬ a < b → G x l R D nL k n ws lv st (pc + 3)) : G x l R D nL k n ws lv (.int b :: .int a :: st) pc := by
  obtain ⟨p, e, s, m, args, below, meth, c, A, Q⟩ := x
  obtain ⟨hx, hb, hml, hown, hts, hK, hA, hNw⟩ := C
  intro H locs ls hP hD hS hl
  exact lv_icmp_lt hx hb hdg ht (fun h => kt h H locs ls hP hD hS hl) (fun h => kf h H locs ls hP hD hS hl)
theorem g_if_lt (C : Cx x D tys cc nL Ts own) {a : Int32} {off : Int} {tgt : Nat} (hdg : decode cc pc = .ok (.ifCond .lt off, 3)) (ht : (pc : Int) + off = (tgt : Int)) (kt : a < 0 → G x l R D nL k n ws lv st tgt) (kf : ¬ a < 0 → G x l R D nL k n ws lv st (pc + 3)) : G x l R D nL k n ws lv (.int a :: st) pc := by
  obtain ⟨p, e, s, m, args, below, meth, c, A, Q⟩ := x
  obtain ⟨hx, hb, hml, hown, hts, hK, hA, hNw⟩ := C
  intro H locs ls hP hD hS hl
  exact lv_if_lt hx hb hdg ht (fun h => kt h H locs ls hP hD hS hl) (fun h => kf h H locs ls hP hD hS hl)
theorem g_icmp_ge (C : Cx x D tys cc nL Ts own) {a b : Int32} {off : Int} {tgt : Nat} (hdg : decode cc pc = .ok (.if_icmp .ge off, 3)) (ht : (pc : Int) + off = (tgt : Int)) (kt : b ≤ a → G x l R D nL k n ws lv st tgt) (kf : ¬ b ≤ a → G x l R D nL k n ws lv st (pc + 3)) : G x l R D nL k n ws lv (.int b :: .int a :: st) pc := by
  obtain ⟨p, e, s, m, args, below, meth, c, A, Q⟩ := x
  obtain ⟨hx, hb, hml, hown, hts, hK, hA, hNw⟩ := C
  intro H locs ls hP hD hS hl
  exact lv_icmp_ge hx hb hdg ht (fun h => kt h H locs ls hP hD hS hl) (fun h => kf h H locs ls hP hD hS hl)
theorem g_if_ge (C : Cx x D tys cc nL Ts own) {a : Int32} {off : Int} {tgt : Nat} (hdg : decode cc pc = .ok (.ifCond .ge off, 3)) (ht : (pc : Int) + off = (tgt : Int)) (kt : 0 ≤ a → G x l R D nL k n ws lv st tgt) (kf : ¬ 0 ≤ a → G x l R D nL k n ws lv st (pc + 3)) : G x l R D nL k n ws lv (.int a :: st) pc := by
  obtain ⟨p, e, s, m, args, below, meth, c, A, Q⟩ := x
  obtain ⟨hx, hb, hml, hown, hts, hK, hA, hNw⟩ := C
  intro H locs ls hP hD hS hl
  exact lv_if_ge hx hb hdg ht (fun h => kt h H locs ls hP hD hS hl) (fun h => kf h H locs ls hP hD hS hl)
theorem g_icmp_gt (C : Cx x D tys cc nL Ts own) {a b : Int32} {off : Int} {tgt : Nat} (hdg : decode cc pc = .ok (.if_icmp .gt off, 3)) (ht : (pc : Int) + off = (tgt : Int)) (kt : b < a → G x l R D nL k n ws lv st tgt) (kf : ¬ b < a → G x l R D nL k n ws lv st (pc + 3)) : G x l R D nL k n ws lv (.int b :: .int a :: st) pc := by
  obtain ⟨p, e, s, m, args, below, meth, c, A, Q⟩ := x
  obtain ⟨hx, hb, hml, hown, hts, hK, hA, hNw⟩ := C
  intro H locs ls hP hD hS hl
  exact lv_icmp_gt hx hb hdg ht (fun h => kt h H locs ls hP hD hS hl) (fun h => kf h H locs ls hP hD hS hl)
theorem g_if_gt (C : Cx x D tys cc nL Ts own) {a : Int32} {off : Int} {tgt : Nat} (hdg : decode cc pc = .ok (.ifCond .gt off, 3)) (ht : (pc : Int) + off = (tgt : Int)) (kt : 0 < a → G x l R D nL k n ws lv st tgt) (kf : ¬ 0 < a → G x l R D nL k n ws lv st (pc + 3)) : G x l R D nL k n ws lv (.int a :: st) pc := by
  obtain ⟨p, e, s, m, args, below, meth, c, A, Q⟩ := x
  obtain ⟨hx, hb, hml, hown, hts, hK, hA, hNw⟩ := C
  intro H locs ls hP hD hS hl
  exact lv_if_gt hx hb hdg ht (fun h => kt h H locs ls hP hD hS hl) (fun h => kf h H locs ls hP hD hS hl)
theorem g_icmp_le (C : Cx x D tys cc nL Ts own) {a b : Int32} {off : Int} {tgt : Nat} (hdg : decode cc pc = .ok (.if_icmp .le off, 3)) (ht : (pc : Int) + off = (tgt : Int)) (kt : a ≤ b → G x l R D nL k n ws lv st tgt) (kf : ¬ a ≤ b → G x l R D nL k n ws lv st (pc + 3)) : G x l R D nL k n ws lv (.int b :: .int a :: st) pc := by
  obtain ⟨p, e, s, m, args, below, meth, c, A, Q⟩ := x
  obtain ⟨hx, hb, hml, hown, hts, hK, hA, hNw⟩ := C
  intro H locs ls hP hD hS hl
  exact lv_icmp_le hx hb hdg ht (fun h => kt h H locs ls hP hD hS hl) (fun h => kf h H locs ls hP hD hS hl)
theorem g_if_le (C : Cx x D tys cc nL Ts own) {a : Int32} {off : Int} {tgt : Nat} (hdg : decode cc pc = .ok (.ifCond .le off, 3)) (ht : (pc : Int) + off = (tgt : Int)) (kt : a ≤ 0 → G x l R D nL k n ws lv st tgt) (kf : ¬ a ≤ 0 → G x l R D nL k n ws lv st (pc + 3)) : G x l R D nL k n ws lv (.int a :: st) pc := by
  obtain ⟨p, e, s, m, args, below, meth, c, A, Q⟩ := x
  obtain ⟨hx, hb, hml, hown, hts, hK, hA, hNw⟩ := C
  intro H locs ls hP hD hS hl
  exact lv_if_le hx hb hdg ht (fun h => kt h H locs ls hP hD hS hl) (fun h => kf h H locs ls hP hD hS hl)
/-- the top of the stack in other words -/
theorem g_top {a b : Int32} (h : a = b) (kk : G x l R D nL k n ws lv (.int b :: st) pc) : G x l R D nL k n ws lv (.int a :: st) pc := by rw [h]; exact kk
/-- the locals, some of them, in another order -/
theorem g_lv (ks : List Nat) (h : lv_pick lv ks = lv') (kk : G x l R D nL k n ws lv' st pc) : G x l R D nL k n ws lv st pc := by
  obtain ⟨p, e, s, m, args, below, meth, c, A, Q⟩ := x
  intro H locs ls hP hD hS hl
  exact kk H locs ls hP hD hS (lv_sub hl ks h)
/-- the world, cells of it, in another order -/
theorem g_ws (is : List Nat) (hn : va_nd is = true) (h : is.map (fun i => ws[i]?) = ws'.map some) (kk : G x l R D nL k n ws' lv st pc) : G x l R D nL k n ws lv st pc := by
  obtain ⟨p, e, s, m, args, below, meth, c, A, Q⟩ := x
  intro H locs ls hP hD hS hl
  refine kk H locs ls ?_ (hD.sub is hn h) hS hl
  intro i q hq
  have h1 : (is.map (fun i => ws[i]?))[i]? = some (some q) := by rw [h, List.getElem?_map, hq]; rfl
  rw [List.getElem?_map] at h1
  cases hi : is[i]? with
  | none => rw [hi] at h1; cases h1
  | some j => rw [hi] at h1; exact hP j q (Option.some.inj h1)
/-- another picture of the same cells: int arrays that agree within their lengths -/
theorem g_same (hw : ∀ H : Heap, va_P D vwCl ws H → va_P D vwCl ws' H) (hd : ws.map Prod.fst = ws'.map Prod.fst) (kk : G x l R D nL k n ws' lv st pc) : G x l R D nL k n ws lv st pc := by
  obtain ⟨p, e, s, m, args, below, meth, c, A, Q⟩ := x
  intro H locs ls hP hD hS hl
  refine kk H locs ls (hw H hP) ?_ hS hl
  have key : ∀ (i : Nat) (q : Nat × va_E), ws'[i]? = some q → ∃ q0, ws[i]? = some q0 ∧ q0.1 = q.1 := by
    intro i q hq
    have h1 : (ws'.map Prod.fst)[i]? = some q.1 := by rw [List.getElem?_map, hq]; rfl
    rw [← hd, List.getElem?_map] at h1
    cases hi : ws[i]? with
    | none => rw [hi] at h1; cases h1
    | some q0 => rw [hi] at h1; exact ⟨q0, rfl, Option.some.inj h1⟩
  refine ⟨fun i j a b ha hb hab => ?_, fun i q hq => ?_⟩
  · obtain ⟨a0, h1, h2⟩ := key i a ha
    obtain ⟨b0, h3, h4⟩ := key j b hb
    exact hD.1 i j a0 b0 h1 h3 (h2.trans (hab.trans h4.symm))
  · obtain ⟨q0, h1, h2⟩ := key i q hq
    rw [← h2]; exact hD.2 i q0 h1
theorem g_get (C : Cx x D tys cc nL Ts own) (q0 : Nat) {a ci : Nat} {fs : List Value} {Cn : String} {T : u_T} {N index f : Nat} {v : Value} (hdg : decode cc pc = .ok (.getfield index, 3)) (he : ws[q0]? = some (a, .inr (ci, fs))) (hc : vwCl[ci]? = some (Cn, T, N)) (hin : ∀ w ∈ u_ws Cn T N, w ∈ Ts) (hk : f < N) (hlink : Cond.fieldLink own index (T f).1 (T f).2.1 (T f).2.2.1 ∈ Ts) (hv : fs[f]? = some v) (kk : G x l R D nL k n ws lv (v :: st) (pc + 3)) : G x l R D nL k n ws lv (.ref a :: st) pc := by
  obtain ⟨p, e, s, m, args, below, meth, c, A, Q⟩ := x
  obtain ⟨hx, hb, hml, hown, hts, hK, hA, hNw⟩ := C
  intro H locs ls hP hD hS hl
  exact va_get hx hb hts hin hown hK hP q0 he hc f hk (hts _ hlink) (fun _ h => h) hv hdg (kk H locs ls hP hD hS hl)
theorem g_put (C : Cx x D tys cc nL Ts own) (q0 : Nat) {a ci : Nat} {fs : List Value} {Cn : String} {T : u_T} {N index f : Nat} {v : Value} {ty : FieldType} (hdg : decode cc pc = .ok (.putfield index, 3)) (he : ws[q0]? = some (a, .inr (ci, fs))) (hc : vwCl[ci]? = some (Cn, T, N)) (hin : ∀ w ∈ u_ws Cn T N, w ∈ Ts) (ty0 : Nat → FieldType) (hty : ∀ k, k < N → parseFieldDescriptor (T k).2.2.1 = some (ty0 k)) (hnm : ∀ a, a < N → ∀ b, b < N → a ≠ b → (T a).2.1 ≠ (T b).2.1) (hk : f < N) (hlink : Cond.fieldLink own index (T f).1 (T f).2.1 (T f).2.2.1 ∈ Ts) (hfin : (T f).2.2.2 = false) (htf : ty0 f = ty) (hn : narrow ty v = v) (hfit : fits ty v = true) (hl0 : f < fs.length) (hs : ws.set q0 (a, .inr (ci, fs.set f v)) = ws') (kk : G x l R D nL k n ws' lv st (pc + 3)) : G x l R D nL k n ws lv (v :: .ref a :: st) pc := by
  obtain ⟨p, e, s, m, args, below, meth, c, A, Q⟩ := x
  obtain ⟨hx, hb, hml, hown, hts, hK, hA, hNw⟩ := C
  intro H locs ls hP hD hS hl
  refine va_put hx hb hts hin ty0 hty hnm hown hK hP hD hS q0 he hc f hk (hts _ hlink) (fun _ h => h) hfin ((hty f hk).trans (congrArg some htf)) hn hfit hl0 hdg (fun H1 locs1 h1 h2 h3 => ?_)
  rw [hs] at h1 h2
  exact kk H1 locs1 ls h1 h2 h3 hl
theorem g_iald (C : Cx x D tys cc nL Ts own) (q0 t0 : Nat) {a N : Nat} {cA : ClassId} {f : Nat → Int32} {i : Int32} (j : Nat) (hdg : decode cc pc = .ok (.iaload, 1)) (ha : ws[q0]? = some (a, .inl (cA, N, .inl f))) (ht : tys[t0]? = some (cA, .int)) (hN : N < 2 ^ 31) (hi : i = nI j) (hj : j < N) (kk : G x l R D nL k n ws lv (.int (f j) :: st) (pc + 1)) : G x l R D nL k n ws lv (.int i :: .ref a :: st) pc := by
  obtain ⟨p, e, s, m, args, below, meth, c, A, Q⟩ := x
  obtain ⟨hx, hb, hml, hown, hts, hK, hA, hNw⟩ := C
  intro H locs ls hP hD hS hl
  subst hi
  refine va_iald hx hb hK hP q0 t0 ha ht (vp_in_nI hj hN) hdg ?_
  rw [nI_clamp (Nat.lt_trans hj hN)]
  exact kk H locs ls hP hD hS hl
theorem g_zald (C : Cx x D tys cc nL Ts own) (q0 t0 : Nat) {a N : Nat} {cA : ClassId} {f : Nat → Int32} {i : Int32} (j : Nat) (hdg : decode cc pc = .ok (.baload, 1)) (ha : ws[q0]? = some (a, .inl (cA, N, .inl f))) (ht : tys[t0]? = some (cA, .boolean)) (hN : N < 2 ^ 31) (hi : i = nI j) (hj : j < N) (kk : G x l R D nL k n ws lv (.int (f j) :: st) (pc + 1)) : G x l R D nL k n ws lv (.int i :: .ref a :: st) pc := by
  obtain ⟨p, e, s, m, args, below, meth, c, A, Q⟩ := x
  obtain ⟨hx, hb, hml, hown, hts, hK, hA, hNw⟩ := C
  intro H locs ls hP hD hS hl
  subst hi
  refine va_zald hx hb hK hP q0 t0 ha ht (vp_in_nI hj hN) hdg ?_
  rw [nI_clamp (Nat.lt_trans hj hN)]
  exact kk H locs ls hP hD hS hl
theorem g_iast (C : Cx x D tys cc nL Ts own) (q0 t0 : Nat) {a N : Nat} {cA : ClassId} {f : Nat → Int32} {i v : Int32} (j : Nat) (hdg : decode cc pc = .ok (.iastore, 1)) (ha : ws[q0]? = some (a, .inl (cA, N, .inl f))) (ht : tys[t0]? = some (cA, .int)) (hN : N < 2 ^ 31) (hi : i = nI j) (hj : j < N) (hs : ws.set q0 (a, .inl (cA, N, .inl (upd f j v))) = ws') (kk : G x l R D nL k n ws' lv st (pc + 1)) : G x l R D nL k n ws lv (.int v :: .int i :: .ref a :: st) pc := by
  obtain ⟨p, e, s, m, args, below, meth, c, A, Q⟩ := x
  obtain ⟨hx, hb, hml, hown, hts, hK, hA, hNw⟩ := C
  intro H locs ls hP hD hS hl
  subst hi
  refine va_iast hx hb hK hP hD hS q0 t0 ha ht (vp_in_nI hj hN) hdg (fun H1 locs1 h1 h2 h3 => ?_)
  rw [nI_clamp (Nat.lt_trans hj hN), hs] at h1 h2
  exact kk H1 locs1 ls h1 h2 h3 hl
theorem g_zast (C : Cx x D tys cc nL Ts own) (q0 t0 : Nat) {a N : Nat} {cA : ClassId} {f : Nat → Int32} {i v : Int32} (j : Nat) (hdg : decode cc pc = .ok (.bastore, 1)) (ha : ws[q0]? = some (a, .inl (cA, N, .inl f))) (ht : tys[t0]? = some (cA, .boolean)) (hN : N < 2 ^ 31) (hi : i = nI j) (hj : j < N) (hv : vp_nar .boolean v = v) (hs : ws.set q0 (a, .inl (cA, N, .inl (upd f j v))) = ws') (kk : G x l R D nL k n ws' lv st (pc + 1)) : G x l R D nL k n ws lv (.int v :: .int i :: .ref a :: st) pc := by
  obtain ⟨p, e, s, m, args, below, meth, c, A, Q⟩ := x
  obtain ⟨hx, hb, hml, hown, hts, hK, hA, hNw⟩ := C
  intro H locs ls hP hD hS hl
  subst hi
  refine va_zast hx hb hK hP hD hS q0 t0 ha ht (vp_in_nI hj hN) hdg (fun H1 locs1 h1 h2 h3 => ?_)
  rw [nI_clamp (Nat.lt_trans hj hN), hv, hs] at h1 h2
  exact kk H1 locs1 ls h1 h2 h3 hl
theorem g_alen (C : Cx x D tys cc nL Ts own) (q0 t0 : Nat) {a : Nat} {cA : ClassId} {N : Nat} {f : Nat → Int32} {ty : FieldType} (hdg : decode cc pc = .ok (.arraylength, 1)) (ha : ws[q0]? = some (a, .inl (cA, N, .inl f))) (ht : tys[t0]? = some (cA, ty)) (kk : G x l R D nL k n ws lv (.int (nI N) :: st) (pc + 1)) : G x l R D nL k n ws lv (.ref a :: st) pc := by
  obtain ⟨p, e, s, m, args, below, meth, c, A, Q⟩ := x
  obtain ⟨hx, hb, hml, hown, hts, hK, hA, hNw⟩ := C
  intro H locs ls hP hD hS hl
  exact va_alen hx hb hK hP q0 t0 ha ht rfl hdg (kk H locs ls hP hD hS hl)
theorem g_tabIn (C : Cx x D tys cc nL Ts own) {dflt lo hi : Int} {offs : Array Int} {len : Nat} {a : Int32} {off : Int} {tgt : Nat} (hdg : decode cc pc = .ok (.tableswitch dflt lo hi offs, len)) (h1 : ¬ a.toInt < lo) (h2 : ¬ hi < a.toInt) (ho : offs[(a.toInt - lo).toNat]? = some off) (ht : (pc : Int) + off = (tgt : Int)) (kk : G x l R D nL k n ws lv st tgt) : G x l R D nL k n ws lv (.int a :: st) pc := by
  obtain ⟨p, e, s, m, args, below, meth, c, A, Q⟩ := x
  obtain ⟨hx, hb, hml, hown, hts, hK, hA, hNw⟩ := C
  intro H locs ls hP hD hS hl
  exact lv_tableIn hx hb hdg h1 h2 ho ht (kk H locs ls hP hD hS hl)
theorem g_tabOut (C : Cx x D tys cc nL Ts own) {dflt lo hi : Int} {offs : Array Int} {len : Nat} {a : Int32} {tgt : Nat} (hdg : decode cc pc = .ok (.tableswitch dflt lo hi offs, len)) (h : a.toInt < lo ∨ hi < a.toInt) (ht : (pc : Int) + dflt = (tgt : Int)) (kk : G x l R D nL k n ws lv st tgt) : G x l R D nL k n ws lv (.int a :: st) pc := by
  obtain ⟨p, e, s, m, args, below, meth, c, A, Q⟩ := x
  obtain ⟨hx, hb, hml, hown, hts, hK, hA, hNw⟩ := C
  intro H locs ls hP hD hS hl
  exact lv_tableOut hx hb hdg h ht (kk H locs ls hP hD hS hl)
theorem g_max (C : Cx x D tys cc nL Ts own) {a b : Int32} {index : Nat} (hdg : decode cc pc = .ok (.invokestatic index, 3)) (h1 : Cond.methodLink own index Lib.Math.max.name ∈ Ts) (h2 : Cond.static Lib.Math.max.name ∈ Ts) (h3 : Cond.initialized "java/lang/Math" ∈ Ts) (h4 : Cond.code Lib.Math.max.name Lib.Math.max.code 2 (some .int) ∈ Ts) (hf : 1 ≤ R.frames) (hlo : (st.map fun v => v.category).sum + 13 ≤ R.locals) (hc : k ≤ R.cells) (hs : n ≤ R.slots) (kk : G x l R D nL k n ws lv (.int (if a < b then b else a) :: st) (pc + 3)) : G x l R D nL k n ws lv (.int b :: .int a :: st) pc := by
  obtain ⟨p, e, s, m, args, below, meth, c, A, Q⟩ := x
  obtain ⟨hx, hb, hml, hown, hts, hK, hA, hNw⟩ := C
  intro H locs ls hP hD hS hl
  exact va_mmax hx hb (hml.trans hl.1.symm) hown (hts _ h1) (hts _ h2) (hts _ h3) (hts _ h4) hf hlo hc hs hdg (kk H locs ls hP hD hS hl)
theorem g_min (C : Cx x D tys cc nL Ts own) {a b : Int32} {index : Nat} (hdg : decode cc pc = .ok (.invokestatic index, 3)) (h1 : Cond.methodLink own index Lib.Math.min.name ∈ Ts) (h2 : Cond.static Lib.Math.min.name ∈ Ts) (h3 : Cond.initialized "java/lang/Math" ∈ Ts) (h4 : Cond.code Lib.Math.min.name Lib.Math.min.code 2 (some .int) ∈ Ts) (hf : 1 ≤ R.frames) (hlo : (st.map fun v => v.category).sum + 13 ≤ R.locals) (hc : k ≤ R.cells) (hs : n ≤ R.slots) (kk : G x l R D nL k n ws lv (.int (if b < a then b else a) :: st) (pc + 3)) : G x l R D nL k n ws lv (.int b :: .int a :: st) pc := by
  obtain ⟨p, e, s, m, args, below, meth, c, A, Q⟩ := x
  obtain ⟨hx, hb, hml, hown, hts, hK, hA, hNw⟩ := C
  intro H locs ls hP hD hS hl
  exact va_mmin hx hb (hml.trans hl.1.symm) hown (hts _ h1) (hts _ h2) (hts _ h3) (hts _ h4) hf hlo hc hs hdg (kk H locs ls hP hD hS hl)
/-- System.arraycopy of a whole int array over another of the same length -/
theorem g_copy (C : Cx x D tys cc nL Ts own) (q0 q1 t0 : Nat) {a0 a1 : Nat} {cA : ClassId} {N index : Nat} {f g : Nat → Int32} {i : Int32} (hdg : decode cc pc = .ok (.invokestatic index, 3)) (h1 : Cond.methodLink own index arraycopyName ∈ Ts) (h2 : Cond.native arraycopyName ∈ Ts) (h3 : Cond.static arraycopyName ∈ Ts) (h4 : Cond.initialized "java/lang/System" ∈ Ts) (ha0 : ws[q0]? = some (a0, .inl (cA, N, .inl f))) (ha1 : ws[q1]? = some (a1, .inl (cA, N, .inl g))) (ht : tys[t0]? = some (cA, .int)) (hN : N < 2 ^ 31) (hi : i = nI N) (hf : 1 ≤ R.frames) (hlo : (st.map fun v => v.category).sum + (nativeFrameWords "java/lang/System" "arraycopy" 5 + 11) ≤ R.locals) (hs : ws.set q1 (a1, .inl (cA, N, .inl f)) = ws') (kk : G x l R D nL k n ws' lv st (pc + 3)) : G x l R D nL k n ws lv (.int i :: .int 0 :: .ref a1 :: .int 0 :: .ref a0 :: st) pc := by
  obtain ⟨p, e, s, m, args, below, meth, c, A, Q⟩ := x
  obtain ⟨hx, hb, hml, hown, hts, hK, hA, hNw⟩ := C
  intro H locs ls hP hD hS hl
  subst hi
  refine va_copyi hx hb (hml.trans hl.1.symm) hown (hts _ h1) (hts _ h2) (hts _ h3) (hts _ h4) hK hP hD hS q0 q1 t0 t0 ha0 ha1 ht ht rfl (by decide) (by decide) (nI_pos hN) (by rw [nI_clamp hN, sb_cl0]; omega) (by rw [nI_clamp hN, sb_cl0]; omega) (fun _ _ => rfl) hf hlo hdg (fun H1 locs1 h1 h2 h3 => ?_)
  have e : vp_cell cA (N, .inl (va_cpy f g (0 : Int32).toNatClampNeg (0 : Int32).toNatClampNeg (nI N).toNatClampNeg)) = vp_cell cA (N, .inl f) := by
    rw [vp_cell_i, vp_cell_i, nI_clamp hN, sb_cl0]
    exact g_arr (fun j hj => by rw [sb_cpy0 hj])
  have hq1 : q1 < ws.length := (List.getElem?_eq_some_iff.mp ha1).1
  rw [← hs] at kk
  refine kk H1 locs1 ls (fun i q hq => ?_) (hD.set ha1) h3 hl
  by_cases hi : i = q1
  · subst hi
    rw [List.getElem?_set_self hq1] at hq
    cases hq
    have := h1 i _ (List.getElem?_set_self hq1)
    exact this.trans (congrArg some e)
  · rw [List.getElem?_set_ne (Ne.symm hi)] at hq
    exact h1 i q (by rw [List.getElem?_set_ne (Ne.symm hi)]; exact hq)
end GL

/-! contracts over worlds: what a method answers and which world it leaves; nothing is made -/
def mPre (D : va_G) (tys : List (ClassId × FieldType)) (av : List Value) (sz : Nat) (ws : va_W) : Array Value → State → Prop := va_Pc av (fun U => U.heap.size = sz ∧ va_P D vwCl ws U.heap ∧ va_K D vwCl tys U ∧ va_D (fun _ => True) ws ∧ gN3 U)
def mB (D : va_G) (A : Nat → Prop) (w : va_W) (t : State) : Prop := va_P D vwCl w t.heap ∧ va_D A w
theorem mPre_blind (D : va_G) (tys : List (ClassId × FieldType)) (av : List Value) (sz : Nat) (ws : va_W) : FrameBlind (mPre D tys av sz ws) := fun a U g mk q => by
  obtain ⟨q0, q1, qP, qK, qD, qN⟩ := q
  exact ⟨q0, q1, qP, va_K.moved (u := U) (U := U.calling g mk a) (Vm.Alike.refl U.vm) qK, qD, gN3.same (u := U) (U := U.calling g mk a) rfl qN⟩
def MI (l : Launch) (y : MethodName) (w : List Cond) (rm : Room) (D : va_G) (tys : List (ClassId × FieldType)) (av : List Value) (ws : va_W) {S : Type} (post : Int32 → S → Prop) (wn : S → va_W) : Prop :=
  ∀ sz : Nat, Met l y w rm (mPre D tys av sz ws) (va_Qi post (fun u t => mB D (va_A ws sz) (wn u) t) (va_A ws sz)) 0 0 (va_A ws sz)
def MV (l : Launch) (y : MethodName) (w : List Cond) (rm : Room) (D : va_G) (tys : List (ClassId × FieldType)) (av : List Value) (ws : va_W) {S : Type} (post : S → Prop) (wn : S → va_W) : Prop :=
  ∀ sz : Nat, Met l y w rm (mPre D tys av sz ws) (va_Qv post (fun u t => mB D (va_A ws sz) (wn u) t) (va_A ws sz)) 0 0 (va_A ws sz)
/-- the answer and the world behind it, just these -/
abbrev MId (l : Launch) (y : MethodName) (w : List Cond) (rm : Room) (D : va_G) (tys : List (ClassId × FieldType)) (av : List Value) (ws : va_W) (r0 : Int32) (w1 : va_W) : Prop := MI l y w rm D tys av ws (fun r (_ : Unit) => r = r0) (fun _ => w1)
abbrev MVd (l : Launch) (y : MethodName) (w : List Cond) (rm : Room) (D : va_G) (tys : List (ClassId × FieldType)) (av : List Value) (ws : va_W) (w1 : va_W) : Prop := MV l y w rm D tys av ws (fun (_ : Unit) => True) (fun _ => w1)
abbrev rmF (f w : Nat) : Room := { frames := f, cells := 0, slots := 0, locals := w }
section GE
variable {l : Launch} {y : MethodName} {w w' : List Cond} {rm : Room} {D : va_G} {tys : List (ClassId × FieldType)} {av : List Value} {ws : va_W} {S : Type} {wn : S → va_W} {cc : ByteArray} {maxL : Nat} {own : String}
theorem g_entI {post : Int32 → S → Prop} (hy : plainName y.cls = true) (hw : w = Cond.code y cc maxL (some .int) :: w') (ho : y.cls = own) (hav : (lg_sl av).length ≤ maxL)
    (body : ∀ x : GX, Cx x D tys cc maxL w own → (∀ (r : Int32) (u : S) (lv : List (Nat × Value)) (pc : Nat), decode cc pc = .ok (.ireturn, 1) → post r u → G x l rm D maxL 0 0 (wn u) lv [.int r] pc) → G x l rm D maxL 0 0 ws (lv_args 0 av) [] 0) : MI l y w rm D tys av ws post wn := by
  intro sz
  refine Met.ofW (cc := cc) (maxL := maxL) (ret := some .int) hy hw ?_
  intro p e s m args below meth c s₁ B hml hv
  obtain ⟨rfl, hsz, hP, hK, hD0, hNw⟩ := hv
  have hx := B.exec
  have hb := B.bytes
  have hr := B.returns
  have hts := atoms_spec (ws := w) B.pre
  have hown : s.vm.findClass own = some m.cls := by rw [← ho]; exact findClass_of_methodNamed B.named
  have hlocks := B.notSynchronized
  subst hsz
  have hD := hD0.self (sz := s.heap.size)
  have hl := lv_entry av (n := maxL) hav
  rw [lg_entry_eq]
  refine body (p, e, s, m, av.toArray, below, meth, c, va_A ws s.heap.size, _) ⟨hx, hb, hml, hown, hts, hK, fun q h => Or.inr h, hNw⟩ ?_ s.heap [] _ hP hD va_S.rf hl
  intro r u lv pc hdg hp H locs ls hP hD hS hl
  exact W.iret (v := r) hx hb hr (fun t ht hW => ⟨⟨r, u, rfl, hp, by rw [ht]; exact hP, hD⟩, hS.F ht⟩) hS.2.2 hdg
theorem g_entZ {post : Int32 → S → Prop} (hy : plainName y.cls = true) (hw : w = Cond.code y cc maxL (some .boolean) :: w') (ho : y.cls = own) (hav : (lg_sl av).length ≤ maxL)
    (body : ∀ x : GX, Cx x D tys cc maxL w own → (∀ (r : Int32) (u : S) (lv : List (Nat × Value)) (pc : Nat), decode cc pc = .ok (.ireturn, 1) → narrow .boolean (.int r) = .int r → post r u → G x l rm D maxL 0 0 (wn u) lv [.int r] pc) → G x l rm D maxL 0 0 ws (lv_args 0 av) [] 0) : MI l y w rm D tys av ws post wn := by
  intro sz
  refine Met.ofW (cc := cc) (maxL := maxL) (ret := some .boolean) hy hw ?_
  intro p e s m args below meth c s₁ B hml hv
  obtain ⟨rfl, hsz, hP, hK, hD0, hNw⟩ := hv
  have hx := B.exec
  have hb := B.bytes
  have hr := B.returns
  have hts := atoms_spec (ws := w) B.pre
  have hown : s.vm.findClass own = some m.cls := by rw [← ho]; exact findClass_of_methodNamed B.named
  have hlocks := B.notSynchronized
  subst hsz
  have hD := hD0.self (sz := s.heap.size)
  have hl := lv_entry av (n := maxL) hav
  rw [lg_entry_eq]
  refine body (p, e, s, m, av.toArray, below, meth, c, va_A ws s.heap.size, _) ⟨hx, hb, hml, hown, hts, hK, fun q h => Or.inr h, hNw⟩ ?_ s.heap [] _ hP hD va_S.rf hl
  intro r u lv pc hdg hn hp H locs ls hP hD hS hl
  exact W.zret (v := r) hx hb hr hn (fun t ht hW => ⟨⟨r, u, rfl, hp, by rw [ht]; exact hP, hD⟩, hS.F ht⟩) hS.2.2 hdg
theorem g_entV {post : S → Prop} (hy : plainName y.cls = true) (hw : w = Cond.code y cc maxL none :: w') (ho : y.cls = own) (hav : (lg_sl av).length ≤ maxL)
    (body : ∀ x : GX, Cx x D tys cc maxL w own → (∀ (u : S) (lv : List (Nat × Value)) (pc : Nat), decode cc pc = .ok (.return_, 1) → post u → G x l rm D maxL 0 0 (wn u) lv [] pc) → G x l rm D maxL 0 0 ws (lv_args 0 av) [] 0) : MV l y w rm D tys av ws post wn := by
  intro sz
  refine Met.ofW (cc := cc) (maxL := maxL) (ret := none) hy hw ?_
  intro p e s m args below meth c s₁ B hml hv
  obtain ⟨rfl, hsz, hP, hK, hD0, hNw⟩ := hv
  have hx := B.exec
  have hb := B.bytes
  have hr := B.returns
  have hts := atoms_spec (ws := w) B.pre
  have hown : s.vm.findClass own = some m.cls := by rw [← ho]; exact findClass_of_methodNamed B.named
  have hlocks := B.notSynchronized
  subst hsz
  have hD := hD0.self (sz := s.heap.size)
  have hl := lv_entry av (n := maxL) hav
  rw [lg_entry_eq]
  refine body (p, e, s, m, av.toArray, below, meth, c, va_A ws s.heap.size, _) ⟨hx, hb, hml, hown, hts, hK, fun q h => Or.inr h, hNw⟩ ?_ s.heap [] _ hP hD va_S.rf hl
  intro u lv pc hdg hp H locs ls hP hD hS hl
  exact W.vret hx hb hr (fun t ht hW => ⟨⟨u, rfl, hp, by rw [ht]; exact hP, hD⟩, hS.F ht⟩) hS.2.2 hdg
end GE
theorem va_P_by {D : va_G} {ws wc : va_W} {H : Heap} (hP : va_P D vwCl ws H) (is : List Nat) (h : is.map (fun i => ws[i]?) = wc.map some) : va_P D vwCl wc H := by
  intro i q hq
  have h1 : (is.map (fun i => ws[i]?))[i]? = some (some q) := by rw [h, List.getElem?_map, hq]; rfl
  rw [List.getElem?_map] at h1
  cases hi : is[i]? with
  | none => rw [hi] at h1; cases h1
  | some j => rw [hi] at h1; exact hP j q (Option.some.inj h1)
section GC
variable {x : GX} {l : Launch} {R : Room} {D : va_G} {tys : List (ClassId × FieldType)} {cc bytes : ByteArray} {nL k n maxL index : Nat} {Ts : List Cond} {own Cn : String} {ws wc wr : va_W} {lv : List (Nat × Value)} {rest : List Value} {pc : Nat} {y : MethodName} {w w' : List Cond} {rm : Room} {S : Type} {wn wf : S → va_W} {b : Nat} {As : List Value} {ret : Option FieldType}
/-- what stays of a call's static facts -/
abbrev gMeth (y : MethodName) (Cn : String) (a : Nat) : Prop := y.cls = Cn ∧ y.cls ≠ "java/lang/invoke/MethodHandle" ∧ y.cls ≠ "java/lang/invoke/VarHandle" ∧ (parseMethodDescriptor y.desc).map (fun d => d.parameters.length) = some a
/-- how the callee's cells lie in the caller's world, and how the world is put together again -/
abbrev gCut (ws wc wr : va_W) {S : Type} (wn wf : S → va_W) (isC isR isF : List Nat) : Prop := isC.map (fun i => ws[i]?) = wc.map some ∧ isR.map (fun i => ws[i]?) = wr.map some ∧ va_nd isC = true ∧ va_nd isR = true ∧ (∀ i ∈ isR, i ∉ isC) ∧ va_nd isF = true ∧ ∀ u : S, isF.map (fun i => (wr ++ wn u)[i]?) = (wf u).map some

theorem g_callIV {post : Int32 → S → Prop} (C : Cx x D tys cc nL Ts own) (isC isR isF : List Nat) (q0 ci : Nat) {fs : List Value} {T : u_T} {N : Nat} (hci : vwCl[ci]? = some (Cn, T, N)) (hq : wc[q0]? = some (b, .inr (ci, fs))) (hdg : decode cc pc = .ok (.invokevirtual index, 3)) (hG : GoodIn Ts (wsV own index Cn y w)) (hw : w = Cond.code y bytes maxL ret :: w') (hd : gMeth y Cn As.length) (hR : rm.cells = 0 ∧ rm.slots = 0 ∧ rm.frames + 1 ≤ R.frames ∧ 8 + (maxL + 11) + rm.locals ≤ R.locals ∧ k ≤ R.cells ∧ n ≤ R.slots) (hM : MI l y w rm D tys (.ref b :: As) wc post wn) (hcut : gCut ws wc wr wn wf isC isR isF) (hroom : (rest.map fun v => v.category).sum ≤ 8) (kk : ∀ (r : Int32) (u : S), post r u → G x l R D nL k n (wf u) lv (.int r :: rest) (pc + 3)) : G x l R D nL k n ws lv (As.reverse ++ .ref b :: rest) pc := by
  obtain ⟨p, e, s, m, args, below, meth, c, A, Q⟩ := x
  obtain ⟨hx, hb, hml, hown, hts, hK, hA, hNw⟩ := C
  intro H locs ls hP hD hS hl
  obtain ⟨hC, hR', hnC, hnR, hdis, hnF, hF⟩ := hcut
  obtain ⟨r1, r2, r3, r4, r5, r6⟩ := hR
  have hPc := va_P_by hP isC hC
  have hDc := hD.sub isC hnC hC
  have hFc := va_free (wc := wc) hD hS hA isC hC
  have hpre : ∀ U : State, U.heap = H → s.WarmedH U.vm → mPre D tys (.ref b :: As) H.size wc ((.ref b :: As)).toArray U := fun U hU hW => ⟨rfl, by rw [hU], by rw [hU]; exact hPc, va_K.moved hW.alike hK, hDc.weaken (fun _ _ _ _ => trivial), hNw.warm hW⟩
  refine va_calli (va_runV (As := As) (rest := rest) ⟨hx, hb, hml, hown, hts⟩ (hM H.size) (cwV As.length hts hG hw r1 r2 hd ⟨r3, r4⟩) ⟨mPre_blind _ _ _ _ _, va_recv hK hPc hci hq, hpre⟩ rfl rfl hl.1 rfl (lv_room hroom) hdg ⟨r5, r6⟩) hS (fun q _ h => hFc q h) hFc (fun r u t H1 locs1 ht hvm hp hB hz1 hk1 hS1 => ?_)
  obtain ⟨hP1, hD1⟩ := hB
  rw [ht] at hP1
  obtain ⟨hP2, hD2⟩ := va_join (wr := wr) (w1 := wn u) hP hD isC isR hC hR' hnR hdis hk1 hFc hP1 hD1
  exact kk r u hp H1 locs1 ls (va_P_by hP2 isF (hF u)) (hD2.sub isF hnF (hF u)) hS1 hl
theorem g_callVV {post : S → Prop} (C : Cx x D tys cc nL Ts own) (isC isR isF : List Nat) (q0 ci : Nat) {fs : List Value} {T : u_T} {N : Nat} (hci : vwCl[ci]? = some (Cn, T, N)) (hq : wc[q0]? = some (b, .inr (ci, fs))) (hdg : decode cc pc = .ok (.invokevirtual index, 3)) (hG : GoodIn Ts (wsV own index Cn y w)) (hw : w = Cond.code y bytes maxL ret :: w') (hd : gMeth y Cn As.length) (hR : rm.cells = 0 ∧ rm.slots = 0 ∧ rm.frames + 1 ≤ R.frames ∧ 8 + (maxL + 11) + rm.locals ≤ R.locals ∧ k ≤ R.cells ∧ n ≤ R.slots) (hM : MV l y w rm D tys (.ref b :: As) wc post wn) (hcut : gCut ws wc wr wn wf isC isR isF) (hroom : (rest.map fun v => v.category).sum ≤ 8) (kk : ∀ u : S, post u → G x l R D nL k n (wf u) lv rest (pc + 3)) : G x l R D nL k n ws lv (As.reverse ++ .ref b :: rest) pc := by
  obtain ⟨p, e, s, m, args, below, meth, c, A, Q⟩ := x
  obtain ⟨hx, hb, hml, hown, hts, hK, hA, hNw⟩ := C
  intro H locs ls hP hD hS hl
  obtain ⟨hC, hR', hnC, hnR, hdis, hnF, hF⟩ := hcut
  obtain ⟨r1, r2, r3, r4, r5, r6⟩ := hR
  have hPc := va_P_by hP isC hC
  have hDc := hD.sub isC hnC hC
  have hFc := va_free (wc := wc) hD hS hA isC hC
  have hpre : ∀ U : State, U.heap = H → s.WarmedH U.vm → mPre D tys (.ref b :: As) H.size wc ((.ref b :: As)).toArray U := fun U hU hW => ⟨rfl, by rw [hU], by rw [hU]; exact hPc, va_K.moved hW.alike hK, hDc.weaken (fun _ _ _ _ => trivial), hNw.warm hW⟩
  refine va_callv (va_runV (As := As) (rest := rest) ⟨hx, hb, hml, hown, hts⟩ (hM H.size) (cwV As.length hts hG hw r1 r2 hd ⟨r3, r4⟩) ⟨mPre_blind _ _ _ _ _, va_recv hK hPc hci hq, hpre⟩ rfl rfl hl.1 rfl (lv_room hroom) hdg ⟨r5, r6⟩) hS (fun q _ h => hFc q h) hFc (fun u t H1 locs1 ht hvm hp hB hz1 hk1 hS1 => ?_)
  obtain ⟨hP1, hD1⟩ := hB
  rw [ht] at hP1
  obtain ⟨hP2, hD2⟩ := va_join (wr := wr) (w1 := wn u) hP hD isC isR hC hR' hnR hdis hk1 hFc hP1 hD1
  exact kk u hp H1 locs1 ls (va_P_by hP2 isF (hF u)) (hD2.sub isF hnF (hF u)) hS1 hl
theorem g_callIS {post : Int32 → S → Prop} (C : Cx x D tys cc nL Ts own) (isC isR isF : List Nat) (hdg : decode cc pc = .ok (.invokestatic index, 3)) (hG : GoodIn Ts (va_wsS own index y w)) (hw : w = Cond.code y bytes maxL ret :: w') (hd : gMeth y Cn As.length) (hR : rm.cells = 0 ∧ rm.slots = 0 ∧ rm.frames + 1 ≤ R.frames ∧ 8 + (maxL + 11) + rm.locals ≤ R.locals ∧ k ≤ R.cells ∧ n ≤ R.slots) (hM : MI l y w rm D tys As wc post wn) (hcut : gCut ws wc wr wn wf isC isR isF) (hroom : (rest.map fun v => v.category).sum ≤ 8) (kk : ∀ (r : Int32) (u : S), post r u → G x l R D nL k n (wf u) lv (.int r :: rest) (pc + 3)) : G x l R D nL k n ws lv (As.reverse ++ rest) pc := by
  obtain ⟨p, e, s, m, args, below, meth, c, A, Q⟩ := x
  obtain ⟨hx, hb, hml, hown, hts, hK, hA, hNw⟩ := C
  intro H locs ls hP hD hS hl
  obtain ⟨hC, hR', hnC, hnR, hdis, hnF, hF⟩ := hcut
  obtain ⟨r1, r2, r3, r4, r5, r6⟩ := hR
  have hPc := va_P_by hP isC hC
  have hDc := hD.sub isC hnC hC
  have hFc := va_free (wc := wc) hD hS hA isC hC
  have hpre : ∀ U : State, U.heap = H → s.WarmedH U.vm → mPre D tys As H.size wc (As).toArray U := fun U hU hW => ⟨rfl, by rw [hU], by rw [hU]; exact hPc, va_K.moved hW.alike hK, hDc.weaken (fun _ _ _ _ => trivial), hNw.warm hW⟩
  refine va_calli (va_runS (As := As) (rest := rest) ⟨hx, hb, hml, hown, hts⟩ (hM H.size) (va_cwS As.length hts hG hw r1 r2 hd.2 ⟨r3, r4⟩) ⟨mPre_blind _ _ _ _ _, hpre⟩ rfl rfl hl.1 rfl (lv_room hroom) hdg ⟨r5, r6⟩) hS (fun q _ h => hFc q h) hFc (fun r u t H1 locs1 ht hvm hp hB hz1 hk1 hS1 => ?_)
  obtain ⟨hP1, hD1⟩ := hB
  rw [ht] at hP1
  obtain ⟨hP2, hD2⟩ := va_join (wr := wr) (w1 := wn u) hP hD isC isR hC hR' hnR hdis hk1 hFc hP1 hD1
  exact kk r u hp H1 locs1 ls (va_P_by hP2 isF (hF u)) (hD2.sub isF hnF (hF u)) hS1 hl
theorem g_callVS {post : S → Prop} (C : Cx x D tys cc nL Ts own) (isC isR isF : List Nat) (hdg : decode cc pc = .ok (.invokestatic index, 3)) (hG : GoodIn Ts (va_wsS own index y w)) (hw : w = Cond.code y bytes maxL ret :: w') (hd : gMeth y Cn As.length) (hR : rm.cells = 0 ∧ rm.slots = 0 ∧ rm.frames + 1 ≤ R.frames ∧ 8 + (maxL + 11) + rm.locals ≤ R.locals ∧ k ≤ R.cells ∧ n ≤ R.slots) (hM : MV l y w rm D tys As wc post wn) (hcut : gCut ws wc wr wn wf isC isR isF) (hroom : (rest.map fun v => v.category).sum ≤ 8) (kk : ∀ u : S, post u → G x l R D nL k n (wf u) lv rest (pc + 3)) : G x l R D nL k n ws lv (As.reverse ++ rest) pc := by
  obtain ⟨p, e, s, m, args, below, meth, c, A, Q⟩ := x
  obtain ⟨hx, hb, hml, hown, hts, hK, hA, hNw⟩ := C
  intro H locs ls hP hD hS hl
  obtain ⟨hC, hR', hnC, hnR, hdis, hnF, hF⟩ := hcut
  obtain ⟨r1, r2, r3, r4, r5, r6⟩ := hR
  have hPc := va_P_by hP isC hC
  have hDc := hD.sub isC hnC hC
  have hFc := va_free (wc := wc) hD hS hA isC hC
  have hpre : ∀ U : State, U.heap = H → s.WarmedH U.vm → mPre D tys As H.size wc (As).toArray U := fun U hU hW => ⟨rfl, by rw [hU], by rw [hU]; exact hPc, va_K.moved hW.alike hK, hDc.weaken (fun _ _ _ _ => trivial), hNw.warm hW⟩
  refine va_callv (va_runS (As := As) (rest := rest) ⟨hx, hb, hml, hown, hts⟩ (hM H.size) (va_cwS As.length hts hG hw r1 r2 hd.2 ⟨r3, r4⟩) ⟨mPre_blind _ _ _ _ _, hpre⟩ rfl rfl hl.1 rfl (lv_room hroom) hdg ⟨r5, r6⟩) hS (fun q _ h => hFc q h) hFc (fun u t H1 locs1 ht hvm hp hB hz1 hk1 hS1 => ?_)
  obtain ⟨hP1, hD1⟩ := hB
  rw [ht] at hP1
  obtain ⟨hP2, hD2⟩ := va_join (wr := wr) (w1 := wn u) hP hD isC isR hC hR' hnR hdis hk1 hFc hP1 hD1
  exact kk u hp H1 locs1 ls (va_P_by hP2 isF (hF u)) (hD2.sub isF hnF (hF u)) hS1 hl
theorem g_callIN {post : Int32 → S → Prop} (C : Cx x D tys cc nL Ts own) (isC isR isF : List Nat) (hdg : decode cc pc = .ok (.invokestatic index, 3)) (hG : GoodIn Ts w) (hw : w = Cond.code y bytes maxL ret :: w') (hd : gMeth y Cn As.length) (hR : rm.cells = 0 ∧ rm.slots = 0 ∧ rm.frames + 1 ≤ R.frames ∧ 8 + (maxL + 11) + rm.locals ≤ R.locals ∧ k ≤ R.cells ∧ n ≤ R.slots) (hnw : gNw = .methodLinkNest own index y RX3) (hini : Cond.initialized y.cls ∈ Ts) (hsta : Cond.static y ∈ Ts) (hM : MI l y w rm D tys As wc post wn) (hcut : gCut ws wc wr wn wf isC isR isF) (hroom : (rest.map fun v => v.category).sum ≤ 8) (kk : ∀ (r : Int32) (u : S), post r u → G x l R D nL k n (wf u) lv (.int r :: rest) (pc + 3)) : G x l R D nL k n ws lv (As.reverse ++ rest) pc := by
  obtain ⟨p, e, s, m, args, below, meth, c, A, Q⟩ := x
  obtain ⟨hx, hb, hml, hown, hts, hK, hA, hNw⟩ := C
  intro H locs ls hP hD hS hl
  obtain ⟨hC, hR', hnC, hnR, hdis, hnF, hF⟩ := hcut
  obtain ⟨r1, r2, r3, r4, r5, r6⟩ := hR
  have hPc := va_P_by hP isC hC
  have hDc := hD.sub isC hnC hC
  have hFc := va_free (wc := wc) hD hS hA isC hC
  have hpre : ∀ U : State, U.heap = H → s.WarmedH U.vm → mPre D tys As H.size wc (As).toArray U := fun U hU hW => ⟨rfl, by rw [hU], by rw [hU]; exact hPc, va_K.moved hW.alike hK, hDc.weaken (fun _ _ _ _ => trivial), hNw.warm hW⟩
  refine va_calli (va_runSN (As := As) (rest := rest) (host := RX3) ⟨hx, hb, hml, hown, hts⟩ (hM H.size) ⟨va_cnB As.length hts hG hw r1 r2 (hnw ▸ hNw.1) (hts _ hini) hd.2 ⟨r3, r4⟩, hts _ hsta, trivial⟩ ⟨mPre_blind _ _ _ _ _, hpre⟩ rfl rfl hl.1 rfl (lv_room hroom) hdg ⟨r5, r6⟩) hS (fun q _ h => hFc q h) hFc (fun r u t H1 locs1 ht hvm hp hB hz1 hk1 hS1 => ?_)
  obtain ⟨hP1, hD1⟩ := hB
  rw [ht] at hP1
  obtain ⟨hP2, hD2⟩ := va_join (wr := wr) (w1 := wn u) hP hD isC isR hC hR' hnR hdis hk1 hFc hP1 hD1
  exact kk r u hp H1 locs1 ls (va_P_by hP2 isF (hF u)) (hD2.sub isF hnF (hF u)) hS1 hl
end GC
/-- a loop: a measure that falls, any invariant over world, locals and numbers -/
theorem g_loop {x : GX} {l : Launch} {R : Room} {D : va_G} {nL k n : Nat} {st : List Value} {pc : Nat} {σ : Type} (ws : σ → va_W) (lv : σ → List (Nat × Value)) (I : σ → Prop) (μ : σ → Nat) (hs : ∀ a : σ, I a → (∀ b : σ, I b → μ b < μ a → G x l R D nL k n (ws b) (lv b) st pc) → G x l R D nL k n (ws a) (lv a) st pc) (a : σ) (h : I a) : G x l R D nL k n (ws a) (lv a) st pc := by
  have key : ∀ (m : Nat) (a : σ), μ a < m → I a → G x l R D nL k n (ws a) (lv a) st pc := by
    intro m
    induction m with
    | zero => intro a h; exact absurd h (Nat.not_lt_zero _)
    | succ m ih => intro a h hI; exact hs a hI (fun b hb hm => ih b (by omega) hb)
  exact key (μ a + 1) a (Nat.lt_succ_self _) h

