/-! the reference's log and groups -/
def vOf : Option Int32 → Int32
  | some v => v
  | none => -1
def RYl (M : Mem) (l : List LE) : Prop := ∀ i, i < l.length → M 6 i = (l.getD i (0, none)).1 ∧ M 7 i = vOf (l.getD i (0, none)).2
def WT (T : TS) : Prop := OKL T.log ∧ T.w.length = T.gs.sum + T.op.getD 0 ∧ T.w.length ≤ 64 ∧ ∀ g, g ∈ T.gs → 1 ≤ g
def RY (T : TS) (M : Mem) : Prop :=
  RM T.A M ∧ M 0 2 = T.E ∧ M 0 3 = nI T.log.length ∧ M 0 4 = nI T.kl.length ∧ RYl M T.log ∧ M 0 5 = nI T.gs.length ∧ (∀ i, i < T.gs.length → M 8 i = nI (T.gs.getD i 0)) ∧ (M 0 6 = if T.op.isSome then 1 else 0) ∧ (∀ k, T.op = some k → M 0 7 = nI k) ∧ M 0 8 = T.rd ∧ WT T
theorem WT.gl {T : TS} (h : WT T) : T.gs.length ≤ T.gs.sum ∧ T.gs.sum ≤ T.w.length ∧ T.w.length ≤ 64 := ⟨sum_ge T.gs h.2.2.2, by rw [h.2.1]; exact Nat.le_add_right _ _, h.2.2.1⟩
theorem log_len (T : TS) : T.log.length = T.kl.length + T.w.length := List.length_append
theorem RYl_snoc {M M1 : Mem} {l : List LE} {k : Int32} {o : Option Int32} (h : RYl M l) (h6 : M1 6 = upd (M 6) l.length k) (h7 : M1 7 = upd (M 7) l.length (vOf o)) : RYl M1 (l ++ [(k, o)]) := by
  intro i hi
  rw [List.length_append] at hi
  rw [h6, h7]
  by_cases e : i = l.length
  · subst e; rw [getD_snoc_r, pk_us, pk_us]; exact ⟨rfl, rfl⟩
  · have hi2 : i < l.length := by simp at hi; omega
    rw [getD_snoc_l hi2, pk_un e, pk_un e]; exact h i hi2
theorem RYl_take {M M1 : Mem} {l : List LE} {n : Nat} (h : RYl M l) (h6 : M1 6 = M 6) (h7 : M1 7 = M 7) : RYl M1 (l.take n) := by
  intro i hi
  rw [List.length_take] at hi
  rw [h6, h7, List.getD_eq_getElem?_getD, List.getElem?_take_of_lt (by omega), ← List.getD_eq_getElem?_getD]
  exact h i (by omega)
theorem WT_note {T : TS} {e : LE} (h : WT T) (hl : T.w.length < 64) (he : okE T.A e) : WT (T.note e) := by
  refine ⟨by rw [note_log]; exact OKL_snoc h.1 he, ?_, ?_, ?_⟩
  · show (T.w ++ [e]).length = (gsN T.gs T.op).sum + (T.op.map (· + 1)).getD 0
    have h2 := h.2.1
    cases ho : T.op with
    | none => rw [ho] at h2; simp [gsN]; simp at h2; omega
    | some m => rw [ho] at h2; simp [gsN]; simp at h2; omega
  · show (T.w ++ [e]).length ≤ 64
    simp; omega
  · intro g hg
    have hg : g ∈ gsN T.gs T.op := hg
    cases ho : T.op with
    | none =>
      rw [ho] at hg
      rcases List.mem_append.mp hg with w | w
      · exact h.2.2.2 g w
      · rw [List.mem_singleton.mp w]; exact Nat.le_refl _
    | some m => rw [ho] at hg; exact h.2.2.2 g hg
theorem RY_note {T : TS} {M M0 M1 : Mem} {k : Int32} {o : Option Int32} (hy : RY T M) (hl : T.w.length < 64) (he : okE T.A (k, o)) (h6 : M0 6 = upd (M 6) T.log.length k) (h7 : M0 7 = upd (M 7) T.log.length (vOf o)) (h3 : M0 0 3 = nI (T.log.length + 1)) (h4 : M0 0 4 = M 0 4) (h86 : M0 0 6 = M 0 6) (h88 : M0 0 8 = M 0 8)
    (hg : match T.op with | none => M0 8 = upd (M 8) T.gs.length 1 ∧ M0 0 5 = nI (T.gs.length + 1) | some m => M0 8 = M 8 ∧ M0 0 5 = M 0 5 ∧ M0 0 7 = nI (m + 1))
    (hk : KW M0 M1) (hr : RM (wr (sto T.log) (k, o)).1 M1) (hE : M1 0 2 = (wr (sto T.log) (k, o)).2) : RY (T.note (k, o)) M1 := by
  obtain ⟨y1, y2, y3, y4, y5, y6, y7, y8, y9, y10, y11⟩ := hy
  have hs : ∀ j, 3 ≤ j → j ≤ 8 → M1 0 j = M0 0 j := hk.2.2.2
  refine ⟨by show RM (sto (T.note (k, o)).log).1 M1; rw [note_log, sto_snoc]; exact hr, by show M1 0 2 = (sto (T.note (k, o)).log).2; rw [note_log, sto_snoc]; exact hE, ?_, ?_, ?_, ?_, ?_, ?_, ?_, ?_, WT_note y11 hl he⟩
  · rw [hs 3 (by decide) (by decide), h3, note_log, List.length_append]; rfl
  · exact (hs 4 (by decide) (by decide)).trans (h4.trans y4)
  · rw [note_log]; exact RYl_snoc y5 (hk.1.trans h6) (hk.2.1.trans h7)
  · show M1 0 5 = nI (gsN T.gs T.op).length
    rw [hs 5 (by decide) (by decide)]
    cases ho : T.op with
    | none => rw [ho] at hg; rw [hg.2]; simp [gsN]
    | some m => rw [ho] at hg; rw [hg.2.1, y6]; rfl
  · show ∀ i, i < (gsN T.gs T.op).length → M1 8 i = nI ((gsN T.gs T.op).getD i 0)
    intro i hi
    rw [hk.2.2.1]
    cases ho : T.op with
    | none =>
      rw [ho] at hg hi
      have hi : i < (T.gs ++ [1]).length := hi
      show M0 8 i = nI ((T.gs ++ [1]).getD i 0)
      rw [hg.1]
      by_cases e : i = T.gs.length
      · subst e; rw [pk_us, getD_snoc_r]; rfl
      · have hi2 : i < T.gs.length := by simp at hi; omega
        rw [pk_un e, getD_snoc_l hi2]; exact y7 i hi2
    | some m =>
      rw [ho] at hg hi
      rw [hg.1]; exact y7 i hi
  · show M1 0 6 = if (T.op.map (· + 1)).isSome then 1 else 0
    rw [hs 6 (by decide) (by decide), h86, y8]
    cases T.op <;> rfl
  · show ∀ n, T.op.map (· + 1) = some n → M1 0 7 = nI n
    intro n hn
    rw [hs 7 (by decide) (by decide)]
    cases ho : T.op with
    | none => rw [ho] at hn; cases hn
    | some m =>
      rw [ho] at hg hn
      have : m + 1 = n := by simpa using hn
      rw [hg.2.2, this]
  · exact (hs 8 (by decide) (by decide)).trans (h88.trans y10)
/-- pages read: class and reference count alike -/
theorem look_rd {sz : Nat → Nat} {ks : Nat → Int32} {key : Int32} (hz : ∀ p, p < 128 → sz p ≤ 4) : ∀ (l : List Nat), l.Nodup → (∀ p, p ∈ l → p < 128) → lookL (fndL sz ks key l) l = rdL sz ks key l
  | [], _, _ => rfl
  | q :: l, hn, hp => by
    have hn1 := List.nodup_cons.mp hn
    have ih := look_rd (ks := ks) (key := key) hz l hn1.2 (fun p h => hp p (List.mem_cons_of_mem _ h))
    have hq := hz q (hp q List.mem_cons_self)
    cases e : fndI ks key q (sz q) 0 with
    | some c =>
      obtain ⟨j, -, h2, h3, -⟩ := fndI_some _ _ _ e
      have e1 : fndL sz ks key (q :: l) = some c := by show (match fndI ks key q (sz q) 0 with | some c => some c | none => fndL sz ks key l) = some c; rw [e]
      have e2 : rdL sz ks key (q :: l) = 1 := by show (match fndI ks key q (sz q) 0 with | some _ => 1 | none => 1 + rdL sz ks key l) = 1; rw [e]
      rw [e1, e2]
      show (if q = c / 4 then 1 else 1 + lookL (some c) l) = 1
      rw [if_pos (by omega)]
    | none =>
      have e1 : fndL sz ks key (q :: l) = fndL sz ks key l := by show (match fndI ks key q (sz q) 0 with | some c => some c | none => fndL sz ks key l) = _; rw [e]
      have e2 : rdL sz ks key (q :: l) = 1 + rdL sz ks key l := by show (match fndI ks key q (sz q) 0 with | some _ => 1 | none => 1 + rdL sz ks key l) = _; rw [e]
      rw [e1, e2, ← ih]
      cases f : fndL sz ks key l with
      | none => rfl
      | some c =>
        obtain ⟨p, i, g1, g2, g3, -⟩ := fndL_some _ _ f
        have hpz := hz p (hp p (List.mem_cons_of_mem _ g1))
        show (if q = c / 4 then 1 else 1 + lookL (some c) l) = 1 + lookL (some c) l
        rw [if_neg (fun w => hn1.1 (by rw [show q = p by omega]; exact g1))]
theorem sum_take_getD {gs : List Nat} {i : Nat} (hi : i < gs.length) : (gs.take (i + 1)).sum = (gs.take i).sum + gs.getD i 0 := by
  rw [List.take_succ, List.getD_eq_getElem?_getD, List.getElem?_eq_getElem hi, List.sum_append]
  simp
