/-! what the calls do to the system's picture -/
theorem aPut_bad {T : TS} {k v : Int32} (h : v < 0 ∨ 1000000000 < v) : aPut T k v = (vBAD, T) := by unfold aPut; rw [if_pos h]
theorem aPut_full {T : TS} {k v : Int32} (h : ¬ (v < 0 ∨ 1000000000 < v)) (hf : T.A.fnd k = none) (hm : ¬ (T.A.sz (T.A.la (T.A.ad k)) < 4 ∨ ¬ T.A.lf = none)) : aPut T k v = (vFULL, T) := by
  unfold aPut; rw [if_neg h, if_pos ⟨hf, hm⟩]
theorem aPut_log {T : TS} {k v : Int32} (h : ¬ (v < 0 ∨ 1000000000 < v)) (hm : T.A.fnd k = none → T.A.rm (T.A.ad k)) (hl : 64 ≤ T.w.length) : aPut T k v = (vLOG, T) := by
  unfold aPut; rw [if_neg h, if_neg (fun w => w.2 (hm w.1)), if_pos hl]
theorem aPut_ok {T : TS} {k v : Int32} (h : ¬ (v < 0 ∨ 1000000000 < v)) (hm : T.A.fnd k = none → T.A.rm (T.A.ad k)) (hl : T.w.length < 64) : aPut T k v = (if T.A.fnd k = none then 0 else 1, T.note (k, some v)) := by
  unfold aPut; rw [if_neg h, if_neg (fun w => w.2 (hm w.1)), if_neg (by omega)]
theorem note_log (T : TS) (e : LE) : (T.note e).log = T.log ++ [e] := by
  show T.kl ++ (T.w ++ [e]) = T.kl ++ T.w ++ [e]
  rw [List.append_assoc]
theorem RX_note {T : TS} {B P O J Z B1 P1 J1 Z1 : Mem} {e : LE} (hx : RX T (B, P, O, J, Z)) (h1 : RP (wr (sto T.log) e).1 P1) (h2 : P1 0 2 = (wr (sto T.log) e).2) (h3 : RJ J1 (T.w ++ [e]) (gsN T.gs T.op) (T.op.map (· + 1))) (h4 : B1 0 0 = B 0 0) (h5 : B1 0 1 = B 0 1 + 1) (he : okE T.A e) : RX (T.note e) (B1, P1, O, J1, Z1) := by
  obtain ⟨x1, x2, x3, x4, x5, x6, x7, x8⟩ := hx
  refine ⟨?_, ?_, x3, x4, h3, h4.trans x6, ?_, ?_⟩
  · show RP (sto (T.note e).log).1 P1
    rw [note_log, sto_snoc]; exact h1
  · show P1 0 2 = (sto (T.note e).log).2
    rw [note_log, sto_snoc]; exact h2
  · show B1 0 1 = nI (T.kl.length + (T.w ++ [e]).length)
    rw [h5]
    have x7 : B 0 1 = nI (T.kl.length + T.w.length) := x7
    rw [x7, nI_1]; simp; rfl
  · rw [note_log]; exact OKL_snoc x8 he
theorem RX_undo {T : TS} {B P O J Z B1 P1 J1 Z1 : Mem} {m : Nat} (hx : RX T (B, P, O, J, Z)) (ho : T.op = some m) (h1 : RP (sto (T.kl ++ T.w.take T.gs.sum)).1 P1) (h2 : P1 0 2 = (sto (T.kl ++ T.w.take T.gs.sum)).2) (h3 : RJ J1 (T.w.take T.gs.sum) T.gs none) (h4 : B1 0 0 = B 0 0) (h5 : B1 0 1 = B 0 1 - nI m) : RX (aUndo T).2 (B1, P1, O, J1, Z1) := by
  obtain ⟨x1, x2, x3, x4, x5, x6, x7, x8⟩ := hx
  have e : (aUndo T).2 = (T.kl, T.w.take T.gs.sum, T.gs, none, T.rd) := by unfold aUndo; rw [ho]
  rw [e]
  have hw : T.w.length = T.gs.sum + m := by have := x5.2.1; rw [ho] at this; exact this
  have x7 : B 0 1 = nI (T.kl.length + T.w.length) := x7
  refine ⟨h1, h2, x3, x4, h3, h4.trans x6, ?_, ?_⟩
  · show B1 0 1 = nI (T.kl.length + (T.w.take T.gs.sum).length)
    rw [h5, x7, pk_sub (by omega), List.length_take]
    congr 1; omega
  · have := OKL_take x8 (T.kl.length + T.gs.sum)
    unfold TS.log at this
    rw [List.take_append, List.take_of_length_le (by omega), Nat.add_sub_cancel_left] at this
    exact this
theorem RX_stop {T : TS} {B P O J Z B1 P1 J1 Z1 : Mem} {s : Nat} (hx : RX T (B, P, O, J, Z)) (hs : s ≤ T.w.length) (h1 : RP (sto (T.kl ++ T.w.take s)).1 P1) (h2 : P1 0 2 = (sto (T.kl ++ T.w.take s)).2) (h3 : RJ J1 [] [] none) (h4 : B1 0 0 = B 0 0) (h5 : B1 0 1 = B 0 1 - nI (T.w.length - s)) : RX (T.kl ++ T.w.take s, [], [], none, T.rd) (B1, P1, P1, J1, Z1) := by
  obtain ⟨x1, x2, x3, x4, x5, x6, x7, x8⟩ := hx
  have x7 : B 0 1 = nI (T.kl.length + T.w.length) := x7
  have e : (T.kl ++ T.w.take s) ++ [] = T.kl ++ T.w.take s := List.append_nil _
  refine ⟨?_, ?_, h1, h2, h3, h4.trans x6, ?_, ?_⟩
  · show RP (sto ((T.kl ++ T.w.take s) ++ [])).1 P1
    rw [e]; exact h1
  · show P1 0 2 = (sto ((T.kl ++ T.w.take s) ++ [])).2
    rw [e]; exact h2
  · show B1 0 1 = nI ((T.kl ++ T.w.take s).length + ([] : List LE).length)
    rw [h5, x7, pk_sub (by omega), List.length_append, List.length_take]
    congr 1
    show _ = T.kl.length + min s T.w.length + 0
    omega
  · show OKL ((T.kl ++ T.w.take s) ++ [])
    rw [e]
    have := OKL_take x8 (T.kl.length + s)
    unfold TS.log at this
    rw [List.take_append, List.take_of_length_le (by omega), Nat.add_sub_cancel_left] at this
    exact this
theorem take_all {α : Type} (l : List α) : l.take l.length = l := List.take_length
theorem app_take_succ {kl w : List LE} {i : Nat} (hi : i < w.length) : kl ++ w.take (i + 1) = (kl ++ w.take i) ++ [w.getD i (0, none)] := by
  rw [List.take_succ, List.getD_eq_getElem?_getD, List.getElem?_eq_getElem hi, ← List.append_assoc]; rfl
theorem OKL_at {kl w : List LE} {i : Nat} (h : OKL (kl ++ w)) (hi : i < w.length) : okE (sto (kl ++ w.take i)).1 (w.getD i (0, none)) := by
  have := h (kl.length + i) (by rw [List.length_append]; omega)
  rw [List.take_append, List.take_of_length_le (by omega), Nat.add_sub_cancel_left, List.getD_eq_getElem?_getD, List.getElem?_append_right (by omega), Nat.add_sub_cancel_left, ← List.getD_eq_getElem?_getD] at this
  exact this
theorem full_eq {J : Mem} {w : List LE} {gs : List Nat} {op : Option Nat} (h : RJ J w gs op) : (if (64 : Int32) ≤ J 0 0 then (1 : Int32) else 0) = if 64 ≤ w.length then 1 else 0 := by
  have hl := h.2.2.1
  rw [h.1]
  by_cases e : 64 ≤ w.length
  · rw [if_pos (show (64 : Int32) ≤ nI w.length from nI_le (a := 64) e (by omega)), if_pos e]
  · rw [if_neg (show ¬ (64 : Int32) ≤ nI w.length from nI_ge (a := w.length) (b := 64) (by omega) (by decide)), if_neg e]
theorem ow_eq {J : Mem} {w : List LE} {gs : List Nat} {m : Nat} (h : RJ J w gs (some m)) : (if J 0 2 = 0 then 0 else J 0 0 - J 0 3) = nI m := by
  have h2 : w.length = gs.sum + m := h.2.1
  rw [if_neg (by rw [show J 0 2 = 1 from h.op]; decide), h.1, h.2.2.2.2.2.2.2.2, pk_sub h.gl.2.1]
  congr 1; omega
