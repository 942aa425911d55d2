/-! constructors: what they make -/
def gInit (x : GX) : Prop := match x with
  | (_, _, _, _, _, _, meth, _, _, _) => meth.name = "<init>"
def MC (l : Launch) (y : MethodName) (w : List Cond) (rm : Room) (D : va_G) (tys : List (ClassId × FieldType)) (av : List Value) (ws : va_W) {S : Type} (post : S → Prop) (wn : S → va_W) (mc ms : Nat) : Prop :=
  ∀ sz : Nat, Met l y w rm (mPre D tys av sz ws) (va_Qv post (fun u t => mB D (va_A ws sz) (wn u) t) (va_A ws sz)) mc ms (va_A ws sz)
abbrev rmC (f c s w : Nat) : Room := { frames := f, cells := c, slots := s, locals := w }
theorem g_entC {l : Launch} {y : MethodName} {w w' : List Cond} {rm : Room} {D : va_G} {tys : List (ClassId × FieldType)} {av : List Value} {ws : va_W} {S : Type} {wn : S → va_W} {cc : ByteArray} {maxL mc ms : Nat} {own : String} {post : S → Prop} (hy : plainName y.cls = true) (hw : w = Cond.code y cc maxL none :: w') (ho : y.cls = own) (hi : y.name = "<init>") (hav : (lg_sl av).length ≤ maxL)
    (body : ∀ x : GX, Cx x D tys cc maxL w own → gInit x → (∀ (u : S) (lv : List (Nat × Value)) (pc : Nat), decode cc pc = .ok (.return_, 1) → post u → G x l rm D maxL mc ms (wn u) lv [] pc) → G x l rm D maxL 0 0 ws (lv_args 0 av) [] 0) : MC l y w rm D tys av ws post wn mc ms := by
  intro sz
  refine Met.ofW (cc := cc) (maxL := maxL) (ret := none) hy hw ?_
  intro p e s m args below meth c s₁ B hml hv
  obtain ⟨rfl, hsz, hP, hK, hD0, hNw⟩ := hv
  have hx := B.exec
  have hb := B.bytes
  have hr := B.returns
  have hts := atoms_spec (ws := w) B.pre
  have hown : s.vm.findClass own = some m.cls := by rw [← ho]; exact findClass_of_methodNamed B.named
  have hlocks := B.notSynchronized
  have hin : meth.name = "<init>" := (name_of_methodNamed B.named B.method).1.trans hi
  subst hsz
  have hD := hD0.self (sz := s.heap.size)
  have hl := lv_entry av (n := maxL) hav
  rw [lg_entry_eq]
  refine body (p, e, s, m, av.toArray, below, meth, c, va_A ws s.heap.size, _) ⟨hx, hb, hml, hown, hts, hK, fun q h => Or.inr h, hNw⟩ hin ?_ s.heap [] _ hP hD va_S.rf hl
  intro u lv pc hdg hp H locs ls hP hD hS hl
  exact W.vret hx hb hr (fun t ht hW => ⟨⟨u, rfl, hp, by rw [ht]; exact hP, hD⟩, hS.F ht⟩) hS.2.2 hdg
section GN
variable {x : GX} {l : Launch} {R : Room} {D : va_G} {tys : List (ClassId × FieldType)} {cc bytes : ByteArray} {nL k n maxL index : Nat} {Ts : List Cond} {own : String} {ws ws' : va_W} {lv : List (Nat × Value)} {st rest : List Value} {pc : Nat}
theorem g_newi (C : Cx x D tys cc nL Ts own) (t0 : Nat) {cA : ClassId} {i : Int32} (N : Nat) (ht : tys[t0]? = some (cA, .int)) (hdg : decode cc pc = .ok (.newarray .int, 2)) (harr : Cond.arrayClass .int ∈ Ts) (hi : i = nI N) (hN : N * 4 ≤ 536870912) (hc : k + 1 ≤ R.cells) (hs : n + N ≤ R.slots) (kk : ∀ q : Nat, G x l R D nL (k + 1) (n + N) (ws ++ [(q, .inl (cA, N, .inl (fun _ => 0)))]) lv (.ref q :: st) (pc + 2)) : G x l R D nL k n ws lv (.int i :: st) pc := by
  obtain ⟨p, e, s, m, args, below, meth, c, A, Q⟩ := x
  obtain ⟨hx, hb, hml, hown, hts, hK, hA, hNw⟩ := C
  intro H locs ls hP hD hS hl
  subst hi
  refine va_newa (atype := .int) (ty := .int) (a0 := (N, .inl (fun _ => 0))) hx hb (hts _ harr) rfl hK hP hD hS hA (fun _ => rfl) (nI_pos (by omega)) (nI_clamp (by omega)) hN hc hs hdg (fun q cB H1 hK1 hP1 hD1 hS1 => ?_)
  have e1 : s.vm.findClass ("[" ++ FieldType.int.toString) = some cA := (hK.2 t0 _ ht).2
  have e2 : s.vm.findClass ("[" ++ FieldType.int.toString) = some cB := (hK1.2 tys.length (cB, .int) (by simp)).2
  obtain rfl : cA = cB := Option.some.inj (e1.symm.trans e2)
  exact kk q H1 locs ls hP1 hD1 hS1 hl
theorem g_newz (C : Cx x D tys cc nL Ts own) (t0 : Nat) {cA : ClassId} {i : Int32} (N : Nat) (ht : tys[t0]? = some (cA, .boolean)) (hdg : decode cc pc = .ok (.newarray .boolean, 2)) (harr : Cond.arrayClass .boolean ∈ Ts) (hi : i = nI N) (hN : N * 4 ≤ 536870912) (hc : k + 1 ≤ R.cells) (hs : n + N ≤ R.slots) (kk : ∀ q : Nat, G x l R D nL (k + 1) (n + N) (ws ++ [(q, .inl (cA, N, .inl (fun _ => 0)))]) lv (.ref q :: st) (pc + 2)) : G x l R D nL k n ws lv (.int i :: st) pc := by
  obtain ⟨p, e, s, m, args, below, meth, c, A, Q⟩ := x
  obtain ⟨hx, hb, hml, hown, hts, hK, hA, hNw⟩ := C
  intro H locs ls hP hD hS hl
  subst hi
  refine va_newa (atype := .boolean) (ty := .boolean) (a0 := (N, .inl (fun _ => 0))) hx hb (hts _ harr) rfl hK hP hD hS hA (fun _ => rfl) (nI_pos (by omega)) (nI_clamp (by omega)) (Nat.le_trans (Nat.mul_le_mul_left N (by decide)) hN) hc hs hdg (fun q cB H1 hK1 hP1 hD1 hS1 => ?_)
  have e1 : s.vm.findClass ("[" ++ FieldType.boolean.toString) = some cA := (hK.2 t0 _ ht).2
  have e2 : s.vm.findClass ("[" ++ FieldType.boolean.toString) = some cB := (hK1.2 tys.length (cB, .boolean) (by simp)).2
  obtain rfl : cA = cB := Option.some.inj (e1.symm.trans e2)
  exact kk q H1 locs ls hP1 hD1 hS1 hl
theorem g_new (C : Cx x D tys cc nL Ts own) {Cn : String} {T : u_T} {N ci : Nat} {fs : List Value} (hdg : decode cc pc = .ok (.new index, 3)) (hin : ∀ w ∈ u_ws Cn T N, w ∈ Ts) (ty : Nat → FieldType) (hty : ∀ k, k < N → parseFieldDescriptor (T k).2.2.1 = some (ty k)) (h1 : Cond.classLink own index Cn ∈ Ts) (h2 : Cond.instantiable Cn N ∈ Ts) (h3 : Cond.initialized Cn ∈ Ts) (hci : vwCl[ci]? = some (Cn, T, N)) (hfs : ∀ j, j < N → defaultValue (ty j) = vp_V fs j) (hc : k + 1 ≤ R.cells) (hs : n + N ≤ R.slots) (kk : ∀ q : Nat, G x l R D nL (k + 1) (n + N) (ws ++ [(q, .inr (ci, fs))]) lv (.ref q :: st) (pc + 3)) : G x l R D nL k n ws lv st pc := by
  obtain ⟨p, e, s, m, args, below, meth, c, A, Q⟩ := x
  obtain ⟨hx, hb, hml, hown, hts, hK, hA, hNw⟩ := C
  intro H locs ls hP hD hS hl
  exact va_new hx hb hts hin ty hty hown (hts _ h1) (hts _ h2) (hts _ h3) hK hP hD hS hA hci hfs hc hs hdg (fun q H1 hP1 hD1 hS1 => kk q H1 locs ls hP1 hD1 hS1 hl)
theorem g_putF (C : Cx x D tys cc nL Ts own) (hi : gInit x) (q0 : Nat) {a ci : Nat} {fs : List Value} {Cn : String} {T : u_T} {N f : Nat} {v : Value} {ty : FieldType} (hdg : decode cc pc = .ok (.putfield index, 3)) (he : ws[q0]? = some (a, .inr (ci, fs))) (hc : vwCl[ci]? = some (Cn, T, N)) (hin : ∀ w ∈ u_ws Cn T N, w ∈ Ts) (ty0 : Nat → FieldType) (hty : ∀ k, k < N → parseFieldDescriptor (T k).2.2.1 = some (ty0 k)) (hnm : ∀ a, a < N → ∀ b, b < N → a ≠ b → (T a).2.1 ≠ (T b).2.1) (hk : f < N) (hlink : Cond.fieldLink own index (T f).1 (T f).2.1 (T f).2.2.1 ∈ Ts) (hfin : (T f).2.2.2 = true) (hdecl : (T f).1 = own) (htf : ty0 f = ty) (hn : narrow ty v = v) (hfit : fits ty v = true) (hl0 : f < fs.length) (hs : ws.set q0 (a, .inr (ci, fs.set f v)) = ws') (kk : G x l R D nL k n ws' lv st (pc + 3)) : G x l R D nL k n ws lv (v :: .ref a :: st) pc := by
  obtain ⟨p, e, s, m, args, below, meth, c, A, Q⟩ := x
  obtain ⟨hx, hb, hml, hown, hts, hK, hA, hNw⟩ := C
  intro H locs ls hP hD hS hl
  refine va_putF hx hb hts hin ty0 hty hnm hown hK hP hD hS q0 he hc f hk (hts _ hlink) (fun _ h => h) hfin hi hdecl ((hty f hk).trans (congrArg some htf)) hn hfit hl0 hdg (fun H1 locs1 h1 h2 h3 => ?_)
  rw [hs] at h1 h2
  exact kk H1 locs1 ls h1 h2 h3 hl
theorem g_obj (C : Cx x D tys cc nL Ts own) {a : Nat} (hdg : decode cc pc = .ok (.invokespecial index, 3)) (h1 : Cond.methodLink own index objectInit ∈ Ts) (h2 : Cond.instanceMethod objectInit ∈ Ts) (h3 : Cond.code objectInit ⟨#[0xb1]⟩ 1 none ∈ Ts) (hf : 1 ≤ R.frames) (hlo : (st.map fun v => v.category).sum + 12 ≤ R.locals) (kk : G x l R D nL k n ws lv st (pc + 3)) : G x l R D nL k n ws lv (.ref a :: st) pc := by
  obtain ⟨p, e, s, m, args, below, meth, c, A, Q⟩ := x
  obtain ⟨hx, hb, hml, hown, hts, hK, hA, hNw⟩ := C
  intro H locs ls hP hD hS hl
  refine W.objInit hx hb hown (hts _ h1) (hts _ h2) (hts _ h3) rfl (by rw [hml]; exact hl.1) rfl hdg hf (by show 2 * 0 + _ + 12 ≤ _; omega) ?_
  exact kk H locs ls hP hD hS hl
variable {wc wr : va_W} {y : MethodName} {w w' : List Cond} {rm : Room} {S : Type} {wn wf : S → va_W} {b mc ms : Nat} {As : List Value} {Cn : String}
theorem g_callC {post : S → Prop} (C : Cx x D tys cc nL Ts own) (isC isR isF : List Nat) (hdg : decode cc pc = .ok (.invokespecial index, 3)) (hG : GoodIn Ts w) (hw : w = Cond.code y bytes maxL none :: w') (hd : gMeth y Cn As.length) (hy1 : y.name = "<init>") (hini : Cond.initialized y.cls ∈ Ts) (hlk : Cond.methodLink own index y ∈ Ts) (hinst : Cond.instanceMethod y ∈ Ts) (hR : rm.cells = mc ∧ rm.slots = ms ∧ rm.frames + 1 ≤ R.frames ∧ 8 + (maxL + 11) + rm.locals ≤ R.locals ∧ k + mc ≤ R.cells ∧ n + ms ≤ R.slots) (hM : MC l y w rm D tys (.ref b :: As) wc post wn mc ms) (hcut : gCut ws wc wr wn wf isC isR isF) (hroom : (rest.map fun v => v.category).sum ≤ 8) (kk : ∀ u : S, post u → G x l R D nL (k + mc) (n + ms) (wf u) lv rest (pc + 3)) : G x l R D nL k n ws lv (As.reverse ++ .ref b :: rest) pc := by
  obtain ⟨p, e, s, m, args, below, meth, c, A, Q⟩ := x
  obtain ⟨hx, hb, hml, hown, hts, hK, hA, hNw⟩ := C
  intro H locs ls hP hD hS hl
  obtain ⟨hC, hR', hnC, hnR, hdis, hnF, hF⟩ := hcut
  obtain ⟨r1, r2, r3, r4, r5, r6⟩ := hR
  have hPc := va_P_by hP isC hC
  have hDc := hD.sub isC hnC hC
  have hFc := va_free (wc := wc) hD hS hA isC hC
  have hpre : ∀ U : State, U.heap = H → s.WarmedH U.vm → mPre D tys (.ref b :: As) H.size wc (Value.ref b :: As).toArray U := fun U hU hW => ⟨rfl, by rw [hU], by rw [hU]; exact hPc, va_K.moved hW.alike hK, hDc.weaken (fun _ _ _ _ => trivial), hNw.warm hW⟩
  refine va_callv (va_runI (As := As) (rest := rest) ⟨hx, hb, hml, hown, hts⟩ (hM H.size) (cwI As.length hts hG hw r1 r2 (hts _ hini) (hts _ hlk) (hts _ hinst) hy1 hd.2 ⟨r3, r4⟩) ⟨mPre_blind _ _ _ _ _, hpre⟩ rfl rfl hl.1 rfl (lv_room hroom) hdg ⟨r5, r6⟩) hS (fun q _ h => hFc q h) hFc (fun u t H1 locs1 ht hvm hp hB hz1 hk1 hS1 => ?_)
  obtain ⟨hP1, hD1⟩ := hB
  rw [ht] at hP1
  obtain ⟨hP2, hD2⟩ := va_join (wr := wr) (w1 := wn u) hP hD isC isR hC hR' hnR hdis hk1 hFc hP1 hD1
  exact kk u hp H1 locs1 ls (va_P_by hP2 isF (hF u)) (hD2.sub isF hnF (hF u)) hS1 hl
theorem g_callCN {post : S → Prop} (C : Cx x D tys cc nL Ts own) (isC isR isF : List Nat) (hdg : decode cc pc = .ok (.invokespecial index, 3)) (hG : GoodIn Ts w) (hw : w = Cond.code y bytes maxL none :: w') (hd : gMeth y Cn As.length) (hy1 : y.name = "<init>") (hini : Cond.initialized y.cls ∈ Ts) (hnw : ∀ U : State, gN3 U → va_Nw (.methodLinkNest own index y RX3) U) (hinst : Cond.instanceMethod y ∈ Ts) (hR : rm.cells = mc ∧ rm.slots = ms ∧ rm.frames + 1 ≤ R.frames ∧ 8 + (maxL + 11) + rm.locals ≤ R.locals ∧ k + mc ≤ R.cells ∧ n + ms ≤ R.slots) (hM : MC l y w rm D tys (.ref b :: As) wc post wn mc ms) (hcut : gCut ws wc wr wn wf isC isR isF) (hroom : (rest.map fun v => v.category).sum ≤ 8) (kk : ∀ u : S, post u → G x l R D nL (k + mc) (n + ms) (wf u) lv rest (pc + 3)) : G x l R D nL k n ws lv (As.reverse ++ .ref b :: rest) pc := by
  obtain ⟨p, e, s, m, args, below, meth, c, A, Q⟩ := x
  obtain ⟨hx, hb, hml, hown, hts, hK, hA, hNw⟩ := C
  intro H locs ls hP hD hS hl
  obtain ⟨hC, hR', hnC, hnR, hdis, hnF, hF⟩ := hcut
  obtain ⟨r1, r2, r3, r4, r5, r6⟩ := hR
  have hPc := va_P_by hP isC hC
  have hDc := hD.sub isC hnC hC
  have hFc := va_free (wc := wc) hD hS hA isC hC
  have hpre : ∀ U : State, U.heap = H → s.WarmedH U.vm → mPre D tys (.ref b :: As) H.size wc (Value.ref b :: As).toArray U := fun U hU hW => ⟨rfl, by rw [hU], by rw [hU]; exact hPc, va_K.moved hW.alike hK, hDc.weaken (fun _ _ _ _ => trivial), hNw.warm hW⟩
  refine va_callv (va_runIN (As := As) (rest := rest) (host := RX3) ⟨hx, hb, hml, hown, hts⟩ (hM H.size) ⟨va_cnB As.length hts hG hw r1 r2 (hnw s hNw) (hts _ hini) hd.2 ⟨r3, r4⟩, hy1, hts _ hinst⟩ ⟨mPre_blind _ _ _ _ _, hpre⟩ rfl rfl hl.1 rfl (lv_room hroom) hdg ⟨r5, r6⟩) hS (fun q _ h => hFc q h) hFc (fun u t H1 locs1 ht hvm hp hB hz1 hk1 hS1 => ?_)
  obtain ⟨hP1, hD1⟩ := hB
  rw [ht] at hP1
  obtain ⟨hP2, hD2⟩ := va_join (wr := wr) (w1 := wn u) hP hD isC isR hC hR' hnR hdis hk1 hFc hP1 hD1
  exact kk u hp H1 locs1 ls (va_P_by hP2 isF (hF u)) (hD2.sub isF hnF (hF u)) hS1 hl
end GN
theorem va_P_arr {D : va_G} {cl : List vw_C} {a N : Nat} {cA : ClassId} {f g : Nat → Int32} (h : ∀ j, j < N → f j = g j) (H : Heap) (hP : va_P D cl [(a, .inl (cA, N, .inl f))] H) : va_P D cl [(a, .inl (cA, N, .inl g))] H := by
  intro k q hq
  have h0 := hP 0 _ rfl
  have hk : k < 1 := (List.getElem?_eq_some_iff.mp hq).1
  rw [show k = 0 by omega] at hq
  cases hq
  show H[a]? = some (vp_cell cA (N, .inl g))
  rw [vp_cell_i, ← g_arr h]
  exact h0
