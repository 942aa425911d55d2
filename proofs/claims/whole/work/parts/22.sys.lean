/-! THE SYSTEM, ABSTRACTLY: the writes that were kept, the journal's, group sizes, the open group, pages read -/
def A0 : AS := (fun _ => 0, fun _ => [], fun _ => 0, fun _ => 0, fun p => decide (64 ≤ p), 0, 0)
def wr (s : AS × Int32) (e : LE) : AS × Int32 := match e.2 with
  | some v => s.1.put s.2 e.1 v
  | none => s.1.rem s.2 e.1
def sto (l : List LE) : AS × Int32 := l.foldl wr (A0, 0)
theorem sto_snoc (l : List LE) (e : LE) : sto (l ++ [e]) = wr (sto l) e := by unfold sto; rw [List.foldl_append]; rfl
/-- a write that may be done -/
def okE (A : AS) (e : LE) : Prop := match e.2 with
  | some v => (A.fnd e.1 = none → A.rm (A.ad e.1)) ∧ 0 ≤ v
  | none => ¬ A.fnd e.1 = none
def OKL (l : List LE) : Prop := ∀ i, i < l.length → okE (sto (l.take i)).1 (l.getD i (0, none))
abbrev TS : Type := List LE × List LE × List Nat × Option Nat × Int32
def TS.kl (T : TS) : List LE := T.1
def TS.w (T : TS) : List LE := T.2.1
def TS.gs (T : TS) : List Nat := T.2.2.1
def TS.op (T : TS) : Option Nat := T.2.2.2.1
def TS.rd (T : TS) : Int32 := T.2.2.2.2
def TS.log (T : TS) : List LE := T.kl ++ T.w
def TS.A (T : TS) : AS := (sto T.log).1
def TS.E (T : TS) : Int32 := (sto T.log).2
def TS.note (T : TS) (e : LE) : TS := (T.kl, T.w ++ [e], gsN T.gs T.op, T.op.map (· + 1), T.rd)
abbrev M5 : Type := Mem × Mem × Mem × Mem × Mem
/-- the class holds it: PageBuckets' own fields, current, kept, journal -/
def RX (T : TS) (u : M5) : Prop :=
  RP T.A u.2.1 ∧ u.2.1 0 2 = T.E ∧ RP (sto T.kl).1 u.2.2.1 ∧ u.2.2.1 0 2 = (sto T.kl).2 ∧ RJ u.2.2.2.1 T.w T.gs T.op ∧ u.1 0 0 = T.rd ∧ u.1 0 1 = nI (T.kl.length + T.w.length) ∧ OKL T.log
/-! answers -/
abbrev vBAD : Int32 := -2000000001
abbrev vNO : Int32 := -2000000002
abbrev vFULL : Int32 := -2000000003
abbrev vLOG : Int32 := -2000000004
def n32 (a : Int32) : Option Nat := if a < 0 then none else some a.toNatClampNeg
theorem n32_nI {n : Nat} (h : n < 2 ^ 31) : n32 (nI n) = some n := by unfold n32; rw [if_neg (nI_pos h), nI_clamp h]
theorem n32_neg {a : Int32} (h : a < 0) : n32 a = none := by unfold n32; rw [if_pos h]
def aPut (T : TS) (k v : Int32) : Int32 × TS :=
  if v < 0 ∨ 1000000000 < v then (vBAD, T)
  else if T.A.fnd k = none ∧ ¬ (T.A.sz (T.A.la (T.A.ad k)) < 4 ∨ ¬ T.A.lf = none) then (vFULL, T)
  else if 64 ≤ T.w.length then (vLOG, T)
  else (if T.A.fnd k = none then 0 else 1, T.note (k, some v))
def aRem (T : TS) (k : Int32) : Int32 × TS := match T.A.fnd k with
  | none => (vNONE, T)
  | some c => if 64 ≤ T.w.length then (vLOG, T) else (T.A.vs c, T.note (k, none))
def aGet (T : TS) (k : Int32) : Int32 × TS := ((match T.A.fnd k with | none => vNONE | some c => T.A.vs c), (T.kl, T.w, T.gs, T.op, T.rd + nI (lookL (T.A.fnd k) (T.A.ch (T.A.ad k)))))
def aBegin (T : TS) : Int32 × TS := match T.op with
  | some _ => (vNO, T)
  | none => (0, (T.kl, T.w, T.gs, some 0, T.rd))
def aEnd (T : TS) : Int32 × TS := match T.op with
  | none => (vNO, T)
  | some m => (nI m, (T.kl, T.w, (if m = 0 then T.gs else T.gs ++ [m]), none, T.rd))
def aUndo (T : TS) : Int32 × TS := match T.op with
  | none => (vNO, T)
  | some m => (nI m, (T.kl, T.w.take T.gs.sum, T.gs, none, T.rd))
def aKeep (T : TS) : Int32 × TS := match T.op with
  | some _ => (vNO, T)
  | none => (nI T.w.length, (T.kl ++ T.w, [], [], none, T.rd))
def aStop (T : TS) (n : Int32) : Int32 × TS := match n32 n with
  | none => (vBAD, T)
  | some n => (nI (T.w.length - (T.gs.take n).sum), (T.kl ++ T.w.take (T.gs.take n).sum, [], [], none, T.rd))
def aBucket (A : AS) (b what : Int32) : Int32 := match n32 b, n32 what with
  | some b, some k => if b < A.nb then (if k = 0 then nI (A.cnt b) else if k = 1 then nI ((A.tl b).length + 1) else if k = 2 then nI (A.la b) else vBAD) else vBAD
  | _, _ => vBAD
/-- the page behind p in the chain that has it -/
def lkL : List Nat → Nat → Int32
  | [], _ => vNONE
  | q :: l, p => if q = p then hdI l else lkL l p
def lkF (A : AS) (p : Nat) : Nat → Nat → Int32
  | 0, _ => vNONE
  | n + 1, b => if p ∈ A.ch b then lkL (A.ch b) p else lkF A p n (b + 1)
def AS.lk (A : AS) (p : Nat) : Int32 := lkF A p 64 0
def aPage (A : AS) (p what : Int32) : Int32 := match n32 p, n32 what with
  | some p, some k => if p < 128 then (if k = 0 then nI (A.sz p) else if k = 1 then A.lk p else if k = 2 then ocI (A.own p) else vBAD) else vBAD
  | _, _ => vBAD
def aCell (A : AS) (p i what : Int32) : Int32 := match n32 p, n32 i, n32 what with
  | some p, some i, some k => if p < 128 ∧ i < 4 ∧ k ≤ 1 then (if i < A.sz p then (if k = 0 then A.ks (p * 4 + i) else A.vs (p * 4 + i)) else vNO) else vBAD
  | _, _, _ => vBAD
def aEntry (A : AS) (i : Int32) : Int32 := match n32 i with
  | none => vBAD
  | some i => match A.ent i with
    | none => vNONE
    | some c => A.vs c
def aCount (T : TS) (what : Int32) : Int32 := match n32 what with
  | none => vBAD
  | some k => if k = 0 then T.E else if k = 1 then nI T.A.nb else if k = 2 then nI T.A.L else if k = 3 then nI T.A.S else if k = 4 then nI T.A.fc else if k = 5 then nI T.w.length else if k = 6 then nI T.gs.length else if k = 7 then (if T.op.isSome then 1 else 0) else if k = 8 then T.rd else if k = 9 then nI (T.kl.length + T.w.length) else if k = 10 then nI T.A.lng else vBAD
/-! rows of these -/
theorem lkL_of {f : Nat → Int32} : ∀ {l : List Nat} {p : Nat}, isCh f l → p ∈ l → f p = lkL l p
  | [], _, _, h => by cases h
  | q :: l, p, hc, hp => by
    show f p = if q = p then hdI l else lkL l p
    by_cases e : q = p
    · rw [if_pos e, ← e]; exact hc.2.1
    · rw [if_neg e]
      exact lkL_of hc.2.2 ((List.mem_cons.mp hp).resolve_left (fun w => e w.symm))
theorem lkF_of {A : AS} {f : Nat → Int32} {p : Nat} (hc : ∀ b, b < 64 → isCh f (A.ch b)) : ∀ (n b : Nat), b + n = 64 → (∃ c, b ≤ c ∧ c < 64 ∧ p ∈ A.ch c) → f p = lkF A p n b
  | 0, b, hn, ⟨c, h1, h2, _⟩ => by omega
  | n + 1, b, hn, ⟨c, h1, h2, h3⟩ => by
    show f p = if p ∈ A.ch b then lkL (A.ch b) p else lkF A p n (b + 1)
    by_cases e : p ∈ A.ch b
    · rw [if_pos e]; exact lkL_of (hc b (by omega)) e
    · rw [if_neg e]
      refine lkF_of hc n (b + 1) (by omega) ⟨c, ?_, h2, h3⟩
      rcases Nat.lt_or_ge b c with w | w
      · exact w
      · have : b = c := by omega
        subst this; exact absurd h3 e
theorem lkF_none {A : AS} {p : Nat} : ∀ (n b : Nat), b + n = 64 → (∀ c, c < 64 → ¬ p ∈ A.ch c) → lkF A p n b = vNONE
  | 0, _, _, _ => rfl
  | n + 1, b, hn, h => by
    show (if p ∈ A.ch b then lkL (A.ch b) p else lkF A p n (b + 1)) = vNONE
    rw [if_neg (h b (by omega))]; exact lkF_none n (b + 1) (by omega) h
theorem lk_of {A : AS} {f : Nat → Int32} (h : WFc A) (hc : ∀ b, b < 64 → isCh f (A.ch b)) (hf : ∀ p, 64 ≤ p → p < 128 → A.fr p = true → f p = vNONE) {p : Nat} (hp : p < 128) : f p = A.lk p := by
  by_cases h6 : p < 64
  · exact lkF_of hc 64 0 rfl ⟨p, Nat.zero_le _, h6, List.mem_cons_self⟩
  · cases e : A.fr p with
    | true =>
      rw [hf p (by omega) hp e]
      exact (lkF_none 64 0 rfl (fun c hc w => by have := h.nfree hc w (by omega); rw [e] at this; cases this)).symm
    | false =>
      obtain ⟨c, h1, h2⟩ := h.2.2.2.1 p (by omega) hp e
      exact lkF_of hc 64 0 rfl ⟨c, Nat.zero_le _, h1, List.mem_cons_of_mem _ h2⟩
theorem ownF_of {A : AS} {p c : Nat} (hc : p ∈ A.ch c) (h1 : ∀ d, d < 64 → p ∈ A.ch d → d = c) : ∀ (n b : Nat), b ≤ c → c < b + n → b + n ≤ 64 → ownF A.ch p n b = some c
  | 0, _, _, _, _ => by omega
  | n + 1, b, h2, h3, h4 => by
    show (if p ∈ A.ch b then some b else ownF A.ch p n (b + 1)) = some c
    by_cases e : p ∈ A.ch b
    · rw [if_pos e, h1 b (by omega) e]
    · rw [if_neg e]
      have : ¬ b = c := fun w => e (by rw [w]; exact hc)
      exact ownF_of hc h1 n (b + 1) (by omega) (by omega) (by omega)
theorem ownF_none {A : AS} {p : Nat} : ∀ (n b : Nat), (∀ d, b ≤ d → d < b + n → ¬ p ∈ A.ch d) → ownF A.ch p n b = none
  | 0, _, _ => rfl
  | n + 1, b, h => by
    show (if p ∈ A.ch b then some b else ownF A.ch p n (b + 1)) = none
    rw [if_neg (h b (Nat.le_refl _) (by omega))]
    exact ownF_none n (b + 1) (fun d h1 h2 => h d (by omega) (by omega))
theorem own_eq {A : AS} {P : Mem} (hr : RP A P) {q : Nat} (hq : q < 128) : (if q < 64 then (if q < A.nb then nI q else vNONE) else P 6 q) = ocI (A.own q) := by
  have n64 := hr.nb64
  have hone : ∀ c, c < 64 → q ∈ A.ch c → ∀ d, d < 64 → q ∈ A.ch d → d = c := fun c h1 h2 d h3 h4 => hr.1.1.one h3 h1 h4 h2
  have hbig : ∀ c, c < 64 → q ∈ A.tl c → c < A.nb := fun c h1 h2 => by
    rcases Nat.lt_or_ge c A.nb with w | w
    · exact w
    · rw [(hr.2.1.2.2.2.1 c w h1).1] at h2; cases h2
  by_cases h6 : q < 64
  · rw [if_pos h6]
    by_cases h7 : q < A.nb
    · rw [if_pos h7]
      unfold AS.own
      rw [ownF_of (c := q) List.mem_cons_self (hone q h6 List.mem_cons_self) A.nb 0 (Nat.zero_le _) (by omega) (by omega)]; rfl
    · rw [if_neg h7]
      unfold AS.own
      rw [ownF_none A.nb 0 (fun d _ h2 w => by
        have := hone q h6 List.mem_cons_self d (by omega) w
        omega)]; rfl
  · rw [if_neg h6]
    cases e : A.fr q with
    | true =>
      rw [(hr.1.hold (by omega) hq).mpr e]
      unfold AS.own
      rw [ownF_none A.nb 0 (fun d _ h2 w => by have := hr.1.1.nfree (by omega) w (by omega); rw [e] at this; cases this)]; rfl
    | false =>
      obtain ⟨c, h1, h2⟩ := hr.1.1.2.2.2.1 q (by omega) hq e
      rw [hr.1.2.2.2.2.2.1 c h1 q h2]
      have := hbig c h1 h2
      unfold AS.own
      rw [ownF_of (c := c) (List.mem_cons_of_mem _ h2) (hone c h1 (List.mem_cons_of_mem _ h2)) A.nb 0 (Nat.zero_le _) (by omega) (by omega)]; rfl
theorem entL_some {sz : Nat → Nat} : ∀ (l : List Nat) (i c : Nat), entL sz l i = some c → ∃ q j, q ∈ l ∧ j < sz q ∧ c = q * 4 + j
  | [], _, _, h => by cases h
  | q :: l, i, c, h => by
    have h : (if i < sz q then some (q * 4 + i) else entL sz l (i - sz q)) = some c := h
    by_cases e : i < sz q
    · rw [if_pos e] at h
      cases h
      exact ⟨q, i, List.mem_cons_self, e, rfl⟩
    · rw [if_neg e] at h
      obtain ⟨r, j, h1, h2, h3⟩ := entL_some l _ c h
      exact ⟨r, j, List.mem_cons_of_mem _ h1, h2, h3⟩
theorem pgF_mem {ch : Nat → List Nat} : ∀ (n b p : Nat), p ∈ pgF ch n b → ∃ c, b ≤ c ∧ c < b + n ∧ p ∈ ch c
  | 0, _, _, h => by cases h
  | n + 1, b, p, h => by
    rcases List.mem_append.mp h with w | w
    · exact ⟨b, Nat.le_refl _, by omega, w⟩
    · obtain ⟨c, h1, h2, h3⟩ := pgF_mem n (b + 1) p w
      exact ⟨c, by omega, by omega, h3⟩
theorem ent_some {A : AS} (h : WFc A) (ha : WFa A) {i c : Nat} (he : A.ent i = some c) : ∃ q j, q < 128 ∧ j < A.sz q ∧ c = q * 4 + j ∧ c < 512 := by
  obtain ⟨q, j, h1, h2, h3⟩ := entL_some _ _ _ he
  obtain ⟨b, -, h5, h6⟩ := pgF_mem _ _ _ h1
  have h64 := ha.2.2.1
  have hq := h.page (by omega) h6
  have := h.sz4 hq
  exact ⟨q, j, hq, h2, h3, by omega⟩
theorem RP.valC {A : AS} {P : Mem} (hr : RP A P) {b c : Nat} (hb : b < 64) (hl : A.live b c) : P 2 c = A.vs c := by
  obtain ⟨p, i, h1, h2, rfl⟩ := hl
  exact hr.1.val (hr.1.1.page hb h1) h2
theorem OKL_snoc {l : List LE} {e : LE} (h : OKL l) (he : okE (sto l).1 e) : OKL (l ++ [e]) := by
  intro i hi
  rw [List.length_append] at hi
  by_cases hc : i = l.length
  · subst hc
    rw [getD_snoc_r, List.take_append_of_le_length (Nat.le_refl _), List.take_length]; exact he
  · have hi2 : i < l.length := by simp at hi; omega
    rw [getD_snoc_l hi2, List.take_append_of_le_length (by omega)]; exact h i hi2
theorem OKL_take {l : List LE} (h : OKL l) (n : Nat) : OKL (l.take n) := by
  intro i hi
  rw [List.length_take] at hi
  have e1 : (l.take n).getD i (0, none) = l.getD i (0, none) := by
    rw [List.getD_eq_getElem?_getD, List.getElem?_take_of_lt (by omega), ← List.getD_eq_getElem?_getD]
  rw [e1, List.take_take, Nat.min_eq_left (by omega)]
  exact h i (by omega)
theorem rng {a : Int32} {n : Nat} (hn : n < 2 ^ 31) (h1 : ¬ a < 0) (h2 : a < nI n) : ∃ j, j < n ∧ a = nI j := by
  obtain ⟨j, hj, rfl⟩ := nI_of h1
  exact ⟨j, (nI_ltI hj hn).mp h2, rfl⟩
