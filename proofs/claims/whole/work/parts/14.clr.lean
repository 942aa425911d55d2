/-! emptying a chain; entries that stand aside -/
def AS.clr (A : AS) (b : Nat) : AS := (fun p => if p ∈ A.ch b then 0 else A.sz p, va_up A.tl b [], A.ks, A.vs, fun p => if p ∈ A.tl b then true else A.fr p, A.L, A.S)
abbrev EL : Type := List (Int32 × Int32)
def AS.hp (A : AS) (q n : Nat) : EL := (List.range n).map (fun i => (A.ks (q * 4 + i), A.vs (q * 4 + i)))
def AS.heldL (A : AS) : List Nat → EL
  | [] => []
  | q :: l => A.hp q (A.sz q) ++ A.heldL l
def AS.held (A : AS) (b : Nat) : EL := A.heldL (A.ch b)
theorem hp_len (A : AS) (q n : Nat) : (A.hp q n).length = n := by simp [AS.hp]
theorem hp_succ (A : AS) (q n : Nat) : A.hp q (n + 1) = A.hp q n ++ [(A.ks (q * 4 + n), A.vs (q * 4 + n))] := by simp [AS.hp, List.range_succ]
theorem heldL_app (A : AS) : ∀ (l m : List Nat), A.heldL (l ++ m) = A.heldL l ++ A.heldL m
  | [], _ => rfl
  | q :: l, m => by
    show A.hp q (A.sz q) ++ A.heldL (l ++ m) = A.hp q (A.sz q) ++ A.heldL l ++ A.heldL m
    rw [heldL_app A l m, List.append_assoc]
theorem heldL_len (A : AS) : ∀ (l : List Nat), (A.heldL l).length = sumL A.sz l
  | [] => rfl
  | q :: l => by
    show (A.hp q (A.sz q) ++ A.heldL l).length = A.sz q + sumL A.sz l
    rw [List.length_append, hp_len, heldL_len A l]
theorem sumL_app (f : Nat → Nat) : ∀ (l m : List Nat), sumL f (l ++ m) = sumL f l + sumL f m
  | [], m => (Nat.zero_add _).symm
  | q :: l, m => by
    show f q + sumL f (l ++ m) = f q + sumL f l + sumL f m
    rw [sumL_app f l m, Nat.add_assoc]
/-- Aside holds this list -/
def RZ (Z : Mem) (h : EL) : Prop := Z 0 0 = nI h.length ∧ h.length ≤ 264 ∧ ∀ i, i < h.length → Z 1 i = (h.getD i (0, 0)).1 ∧ Z 2 i = (h.getD i (0, 0)).2
theorem RZ_push {Z : Mem} {h : EL} (hz : RZ Z h) (hl : h.length < 264) (k v : Int32) : RZ (ps (ps (ps Z 1 h.length k) 2 h.length v) 0 0 (nI (h.length + 1))) (h ++ [(k, v)]) := by
  have hlen : (h ++ [(k, v)]).length = h.length + 1 := by simp
  refine ⟨by rw [hlen]; rfl, by omega, fun i hi => ?_⟩
  show upd (Z 1) h.length k i = _ ∧ upd (Z 2) h.length v i = _
  rw [hlen] at hi
  by_cases e : i = h.length
  · subst e
    rw [pk_us, pk_us]; simp
  · rw [pk_un e, pk_un e]
    have hi2 : i < h.length := by omega
    have := hz.2.2 i hi2
    rw [List.getD_eq_getElem?_getD, List.getElem?_append_left hi2, ← List.getD_eq_getElem?_getD]
    exact this
theorem RZ_nil {Z : Mem} : RZ (ps Z 0 0 0) [] := ⟨rfl, by simp, fun i hi => by simp at hi⟩
/-- some pages are cleared, nothing else is changed but the count of entries -/
def CLR (P : Mem) (dn : List Nat) (P1 : Mem) : Prop :=
  (∀ p, P1 3 p = if p ∈ dn then 0 else P 3 p) ∧ (∀ p, P1 4 p = if p ∈ dn then vNONE else P 4 p) ∧ (∀ p, P1 5 p = if p ∈ dn then vNONE else P 5 p) ∧ (∀ p, P1 6 p = if p ∈ dn then vNONE else P 6 p) ∧ P1 1 = P 1 ∧ P1 2 = P 2 ∧ P1 7 = P 7 ∧ P1 0 0 = P 0 0 ∧ P1 0 1 = P 0 1
theorem CLR_nil (P : Mem) : CLR P [] P := ⟨fun _ => by simp, fun _ => by simp, fun _ => by simp, fun _ => by simp, rfl, rfl, rfl, rfl, rfl⟩
theorem upd_dn {f g : Nat → Int32} {dn : List Nat} {q : Nat} {x : Int32} (h : ∀ p, g p = if p ∈ dn then x else f p) (p : Nat) : upd g q x p = if p ∈ dn ++ [q] then x else f p := by
  by_cases e : p = q
  · subst e; rw [pk_us, if_pos (by simp)]
  · rw [pk_un e, h p]
    by_cases e2 : p ∈ dn
    · rw [if_pos e2, if_pos (List.mem_append_left _ e2)]
    · rw [if_neg e2, if_neg (fun w => (List.mem_append.mp w).elim e2 (fun w => e (List.mem_singleton.mp w)))]
theorem CLR_step {P P1 : Mem} {dn : List Nat} {q : Nat} {E : Int32} (h : CLR P dn P1) : CLR P (dn ++ [q]) (clrP (ps P1 0 2 E) q) := by
  obtain ⟨h3, h4, h5, h6, h1, h2, h7, h8, h9⟩ := h
  exact ⟨upd_dn h3, upd_dn h4, upd_dn h5, upd_dn h6, h1, h2, h7, h8, h9⟩
theorem RC_clr {A : AS} {P P1 : Mem} {b : Nat} (hr : RC A P) (hb : b < 64) (hc : CLR P (A.ch b) P1) : RC (A.clr b) (ps P1 7 b (nI b)) := by
  obtain ⟨h, p1, p2, p3, p4, p5, p6, p7, p8⟩ := hr
  obtain ⟨h3, h4, h5, h6, h1, h2, h7, -, -⟩ := hc
  have hout : ∀ c, c < 64 → ¬ c = b → ∀ p, p ∈ A.ch c → ¬ p ∈ A.ch b := fun c hc hcb p hp w => hcb (h.one hc hb hp w)
  have htl : ∀ c p, p ∈ va_up A.tl b [] c → ¬ c = b ∧ p ∈ A.tl c := by
    intro c p hp
    by_cases e : c = b
    · subst e; rw [up_s] at hp; cases hp
    · rw [up_n e] at hp; exact ⟨e, hp⟩
  have hsz : ∀ p, ¬ p ∈ A.ch b → (A.clr b).sz p = A.sz p := fun p hp => if_neg hp
  have hsz0 : ∀ p, p ∈ A.ch b → (A.clr b).sz p = 0 := fun p hp => if_pos hp
  have hfr : ∀ p, ¬ p ∈ A.ch b → (A.clr b).fr p = A.fr p := fun p hp => if_neg (fun w => hp (List.mem_cons_of_mem _ w))
  refine ⟨⟨fun c hc p hp => ?_, fun c hc => ?_, fun c d hc hd p g1 g2 => h.2.2.1 c d hc hd p (htl c p g1).2 (htl d p g2).2, fun p g1 g2 g3 => ?_, fun p hp => ?_, fun p g1 g2 g3 => ?_, fun c hc => ?_⟩, fun p hp => ?_, fun c hc => ?_, fun p g1 g2 g3 => ?_, fun c hc => ?_, fun c hc p hp => ?_, fun p g1 g2 g3 => ?_, fun c hc => ?_, fun p hp i hi => ?_⟩
  · obtain ⟨e, hp⟩ := htl c p hp
    have := hout c hc e p (List.mem_cons_of_mem _ hp)
    rw [hfr p this, hsz p this]; exact h.1 c hc p hp
  · show (va_up A.tl b [] c).Nodup
    by_cases e : c = b
    · subst e; rw [up_s]; exact List.nodup_nil
    · rw [up_n e]; exact h.2.1 c hc
  · have g3 : (if p ∈ A.tl b then true else A.fr p) = false := g3
    have e : ¬ p ∈ A.tl b := fun w => by rw [if_pos w] at g3; cases g3
    rw [if_neg e] at g3
    obtain ⟨c, hc, hp⟩ := h.2.2.2.1 p g1 g2 g3
    refine ⟨c, hc, ?_⟩
    show p ∈ va_up A.tl b [] c
    rw [up_n (fun w => e (by rw [← w]; exact hp))]; exact hp
  · by_cases e : p ∈ A.ch b
    · rw [hsz0 p e]; decide
    · rw [hsz p e]; exact h.sz4 hp
  · by_cases e : p ∈ A.ch b
    · exact hsz0 p e
    · rw [hfr p e] at g3; rw [hsz p e]; exact h.2.2.2.2.2.1 p g1 g2 g3
  · show flB (A.clr b).sz c (va_up A.tl b [] c)
    by_cases e : c = b
    · subst e; rw [up_s]; trivial
    · rw [up_n e]
      exact flB_congr (f := A.sz) (h.nodup hc) (fun p hp hl => hsz p (hout c hc e p hp)) (h.2.2.2.2.2.2 c hc)
  · show P1 3 p = nI ((A.clr b).sz p)
    rw [h3 p]
    by_cases e : p ∈ A.ch b
    · rw [if_pos e, hsz0 p e]; rfl
    · rw [if_neg e, hsz p e]; exact p1 p hp
  · show isCh (P1 4) (c :: va_up A.tl b [] c)
    by_cases e : c = b
    · subst e; rw [up_s]
      exact ⟨by omega, by rw [h4 c, if_pos (show c ∈ A.ch c from List.mem_cons_self)]; rfl, trivial⟩
    · rw [up_n e]
      exact isCh_congr (f := P 4) (fun p hp => by rw [h4 p, if_neg (hout c hc e p hp)]) (p2 c hc)
  · show P1 4 p = vNONE
    rw [h4 p]
    by_cases e : p ∈ A.ch b
    · rw [if_pos e]
    · rw [if_neg e]; rw [hfr p e] at g3; exact p3 p g1 g2 g3
  · show isAh (P1 5) c (va_up A.tl b [] c)
    by_cases e : c = b
    · subst e; rw [up_s]; trivial
    · rw [up_n e]
      exact isAh_congr (f := P 5) (fun p hp => by rw [h5 p, if_neg (hout c hc e p (List.mem_cons_of_mem _ hp))]) (p4 c hc)
  · obtain ⟨e, hp⟩ := htl c p hp
    show P1 6 p = nI c
    rw [h6 p, if_neg (hout c hc e p (List.mem_cons_of_mem _ hp))]; exact p5 c hc p hp
  · show P1 6 p = vNONE
    rw [h6 p]
    by_cases e : p ∈ A.ch b
    · rw [if_pos e]
    · rw [if_neg e]; rw [hfr p e] at g3; exact p6 p g1 g2 g3
  · show upd (P1 7) b (nI b) c = nI (lst c (va_up A.tl b [] c))
    by_cases e : c = b
    · subst e; rw [up_s, pk_us]; rfl
    · rw [up_n e, pk_un e, h7]; exact p7 c hc
  · have e : ¬ p ∈ A.ch b := fun e => by rw [hsz0 p e] at hi; exact absurd hi (Nat.not_lt_zero _)
    rw [hsz p e] at hi
    show P1 1 (p * 4 + i) = A.ks (p * 4 + i) ∧ P1 2 (p * 4 + i) = A.vs (p * 4 + i)
    rw [h1, h2]; exact p8 p hp i hi
/-- pages of a chain but the last are full -/
theorem flB_sum {f : Nat → Nat} : ∀ {b : Nat} {l : List Nat}, flB f b l → sumL f (b :: l) = l.length * 4 + f (lst b l)
  | b, [], _ => by show f b + 0 = 0 * 4 + f b; omega
  | b, q :: l, h => by
    have := flB_sum h.2
    show f b + sumL f (q :: l) = (l.length + 1) * 4 + f (lst q l)
    rw [this, h.1]; omega
def AS.cnt (A : AS) (b : Nat) : Nat := (A.tl b).length * 4 + A.sz (A.la b)
theorem WFc.sum {A : AS} (h : WFc A) {b : Nat} (hb : b < 64) : sumL A.sz (A.ch b) = A.cnt b := flB_sum (h.2.2.2.2.2.2 b hb)
theorem isCh_suf {f : Nat → Int32} : ∀ {l m : List Nat}, isCh f (l ++ m) → isCh f m
  | [], _, h => h
  | _ :: l, _, h => isCh_suf (l := l) h.2.2
def AS.need (A : AS) (s t : Nat) : Nat := (((A.tl s).length + (A.tl t).length) * 4 + A.sz (A.la s) + A.sz (A.la t) + 3) / 4 - 1
abbrev AS.can (A : AS) (s t : Nat) : Prop := A.need s t ≤ A.fc + ((A.tl s).length + (A.tl t).length)
theorem sub_nI (x : Int32) (a b : Nat) : x - nI a - nI b = x - nI (a + b) := by
  rw [← nI_add, Int32.sub_eq_add_neg, Int32.sub_eq_add_neg, Int32.sub_eq_add_neg, Int32.neg_add, Int32.sub_eq_add_neg, Int32.add_assoc]
theorem frcF_le {fr : Nat → Bool} : ∀ (n p : Nat), frcF fr n p ≤ n
  | 0, _ => Nat.le_refl _
  | n + 1, p => by
    have := frcF_le (fr := fr) n (p + 1)
    show (if fr p = true then 1 else 0) + frcF fr n (p + 1) ≤ n + 1
    split <;> omega
theorem mx0 {n : Nat} (h : n < 2 ^ 31) : (if (0 : Int32) < nI n - 1 then nI n - 1 else 0) = nI (n - 1) := by
  cases n with
  | zero => decide
  | succ m =>
    rw [nI_pred]
    cases m with
    | zero => decide
    | succ m => rw [if_pos (show (0 : Int32) < nI (m + 1) from nI_lt (a := 0) (by omega) (by omega))]; rfl
