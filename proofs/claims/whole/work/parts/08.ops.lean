/-! WRITES, ABSTRACTLY, and that the class's arrays follow -/
theorem lfrF_in {fr : Nat → Bool} : ∀ (n p q : Nat), lfrF fr n p = some q → p ≤ q ∧ q < p + n ∧ fr q = true
  | 0, _, _, h => by cases h
  | n + 1, p, q, h => by
    by_cases hf : fr p = true
    · have h : (if fr p = true then some p else lfrF fr n (p + 1)) = some q := h
      rw [if_pos hf] at h
      cases h
      exact ⟨Nat.le_refl _, by omega, hf⟩
    · have h : (if fr p = true then some p else lfrF fr n (p + 1)) = some q := h
      rw [if_neg hf] at h
      obtain ⟨h1, h2, h3⟩ := lfrF_in n (p + 1) q h
      exact ⟨by omega, by omega, h3⟩
theorem AS_lf (A : AS) : ∀ q, A.lf = some q → q < 2 ^ 31 := fun q h => by
  have := lfrF_in 64 64 q h
  omega
theorem ocI_none {o : Option Nat} (h : ∀ q, o = some q → q < 2 ^ 31) (e : ocI o = vNONE) : o = none := by
  cases o with
  | none => rfl
  | some q => exact absurd e (NONE_nI (h q rfl))
def AS.add (A : AS) (b : Nat) (k v : Int32) : AS :=
  if A.sz (A.la b) < 4 then (va_up A.sz (A.la b) (A.sz (A.la b) + 1), A.tl, va_up A.ks (A.la b * 4 + A.sz (A.la b)) k, va_up A.vs (A.la b * 4 + A.sz (A.la b)) v, A.fr, A.L, A.S)
  else match A.lf with
    | none => A
    | some r => (va_up A.sz r 1, va_up A.tl b (A.tl b ++ [r]), va_up A.ks (r * 4) k, va_up A.vs (r * 4) v, va_up A.fr r false, A.L, A.S)
abbrev clrP (P : Mem) (q : Nat) : Mem := ps (ps (ps (ps P 3 q 0) 4 q vNONE) 5 q vNONE) 6 q vNONE
abbrev lnkP (P : Mem) (b q r : Nat) : Mem := ps (ps (ps (ps P 4 q (nI r)) 5 r (nI q)) 6 r (nI b)) 7 b (nI r)
theorem up_s {α : Type} {f : Nat → α} {k : Nat} {x : α} : va_up f k x k = x := by simp [va_up]
theorem up_n {α : Type} {f : Nat → α} {k j : Nat} {x : α} (h : ¬ j = k) : va_up f k x j = f j := by simp [va_up, h]
theorem isCh_congr {f g : Nat → Int32} : ∀ {l : List Nat}, (∀ p, p ∈ l → g p = f p) → isCh f l → isCh g l
  | [], _, _ => trivial
  | q :: l, h, hc => ⟨hc.1, by rw [h q List.mem_cons_self]; exact hc.2.1, isCh_congr (fun p hp => h p (List.mem_cons_of_mem _ hp)) hc.2.2⟩
theorem isAh_congr {f g : Nat → Int32} : ∀ {b : Nat} {l : List Nat}, (∀ p, p ∈ l → g p = f p) → isAh f b l → isAh g b l
  | _, [], _, _ => trivial
  | b, q :: l, h, hc => ⟨by rw [h q List.mem_cons_self]; exact hc.1, isAh_congr (fun p hp => h p (List.mem_cons_of_mem _ hp)) hc.2⟩
theorem flB_congr {f g : Nat → Nat} : ∀ {b : Nat} {l : List Nat}, (b :: l).Nodup → (∀ p, p ∈ b :: l → ¬ p = lst b l → g p = f p) → flB f b l → flB g b l
  | _, [], _, _, _ => trivial
  | b, q :: l, hn, h, hc => by
    have hn1 := List.nodup_cons.mp hn
    refine ⟨?_, flB_congr hn1.2 (fun p hp hl => h p (List.mem_cons_of_mem _ hp) hl) hc.2⟩
    rw [h b List.mem_cons_self (fun e => hn1.1 (by rw [e]; exact lst_in q l))]
    exact hc.1
theorem lst_snoc (b r : Nat) : ∀ (l : List Nat), lst b (l ++ [r]) = r := by
  intro l
  induction l generalizing b with
  | nil => rfl
  | cons q l ih => exact ih q
theorem flB_snoc {f : Nat → Nat} {r : Nat} : ∀ {b : Nat} {l : List Nat}, flB f b l → f (lst b l) = 4 → flB f b (l ++ [r])
  | _, [], _, h => ⟨h, trivial⟩
  | _, _ :: _, hc, h => ⟨hc.1, flB_snoc hc.2 h⟩
theorem isAh_snoc {f : Nat → Int32} {r : Nat} : ∀ {b : Nat} {l : List Nat}, isAh f b l → f r = nI (lst b l) → isAh f b (l ++ [r])
  | _, [], _, h => ⟨h, trivial⟩
  | _, _ :: _, hc, h => ⟨hc.1, isAh_snoc hc.2 h⟩
theorem isCh_snoc {f : Nat → Int32} {r : Nat} (hr : r < 128) : ∀ {b : Nat} {l : List Nat}, (b :: l).Nodup → ¬ r ∈ b :: l → isCh f (b :: l) → f r = vNONE → isCh (upd f (lst b l) (nI r)) (b :: (l ++ [r]))
  | b, [], _, hm, hc, h => by
    have hrb : ¬ r = b := fun e => hm (by rw [e]; exact List.mem_cons_self)
    refine ⟨hc.1, ?_, hr, ?_, trivial⟩
    · show upd f b (nI r) b = nI r
      rw [pk_us]
    · show upd f b (nI r) r = vNONE
      rw [pk_un hrb]; exact h
  | b, q :: l, hn, hm, hc, h => by
    have hn1 := List.nodup_cons.mp hn
    refine ⟨hc.1, ?_, isCh_snoc hr hn1.2 (fun w => hm (List.mem_cons_of_mem _ w)) hc.2.2 h⟩
    show upd f (lst q l) (nI r) b = nI q
    rw [pk_un (fun e => hn1.1 (by rw [e]; exact lst_in q l))]
    exact hc.2.1
theorem WFc.nodup {A : AS} (h : WFc A) {b : Nat} (hb : b < 64) : (A.ch b).Nodup := List.nodup_cons.mpr ⟨fun w => by have := (h.1 b hb b w).1; omega, h.2.1 b hb⟩
/-- a page is in one chain alone -/
theorem WFc.one {A : AS} (h : WFc A) {b c p : Nat} (hb : b < 64) (hc : c < 64) (h1 : p ∈ A.ch b) (h2 : p ∈ A.ch c) : b = c := by
  rcases List.mem_cons.mp h1 with rfl | h1 <;> rcases List.mem_cons.mp h2 with rfl | h2
  · rfl
  · have := (h.1 c hc p h2).1; omega
  · have := (h.1 b hb p h1).1; omega
  · exact h.2.2.1 b c hb hc p h1 h2
theorem WFc.nfree {A : AS} (h : WFc A) {b p : Nat} (hb : b < 64) (h1 : p ∈ A.ch b) (h2 : 64 ≤ p) : A.fr p = false := by
  rcases List.mem_cons.mp h1 with rfl | h1
  · omega
  · exact (h.1 b hb p h1).2.2.1
theorem WFc.lf {A : AS} {r : Nat} (h : A.lf = some r) : 64 ≤ r ∧ r < 128 ∧ A.fr r = true := by
  have := lfrF_in 64 64 r h
  exact ⟨this.1, by omega, this.2.2⟩
theorem WFc_add1 {A : AS} {b : Nat} (h : WFc A) (hb : b < 64) (hs : A.sz (A.la b) < 4) (k v : Int32) : WFc (A.add b k v) := by
  have hq : A.la b ∈ A.ch b := lst_in _ _
  unfold AS.add
  rw [if_pos hs]
  generalize hgq : A.la b = q at hq hs
  refine ⟨fun c hc p hp => ?_, h.2.1, h.2.2.1, h.2.2.2.1, fun p hp => ?_, fun p h1 h2 hf => ?_, fun c hc => ?_⟩
  · obtain ⟨a1, a2, a3, a4⟩ := h.1 c hc p hp
    refine ⟨a1, a2, a3, ?_⟩
    show 1 ≤ va_up A.sz q (A.sz q + 1) p
    by_cases e : p = q
    · subst e; rw [up_s]; omega
    · rw [up_n e]; exact a4
  · show va_up A.sz q (A.sz q + 1) p ≤ 4
    by_cases e : p = q
    · subst e; rw [up_s]; omega
    · rw [up_n e]; exact h.sz4 hp
  · show va_up A.sz q (A.sz q + 1) p = 0
    have e : ¬ p = q := fun e => by
      subst e
      have := h.nfree hb hq h1
      rw [show A.fr p = true from hf] at this
      cases this
    rw [up_n e]; exact h.2.2.2.2.2.1 p h1 h2 hf
  · refine flB_congr (f := A.sz) (h.nodup hc) (fun p hp hl => up_n (fun e => ?_)) (h.2.2.2.2.2.2 c hc)
    subst e
    have := h.one hb hc hq hp
    subst this
    exact hl hgq.symm
theorem RPc_add1 {A : AS} {P : Mem} {b : Nat} (h : WFc A) (hp0 : RPc A P) (hb : b < 64) (hs : A.sz (A.la b) < 4) (k v E : Int32) : RPc (A.add b k v) (ps (ps (ps (ps P 1 (A.la b * 4 + A.sz (A.la b)) k) 2 (A.la b * 4 + A.sz (A.la b)) v) 3 (A.la b) (nI (A.sz (A.la b) + 1))) 0 2 E) := by
  have hq : A.la b ∈ A.ch b := lst_in _ _
  obtain ⟨p1, p2, p3, p4, p5, p6, p7, p8⟩ := hp0
  unfold AS.add
  rw [if_pos hs]
  have hq1 : A.la b < 128 := h.la hb
  have hlae : ∀ c, lst c (A.tl c) = A.la c := fun _ => rfl
  generalize A.la b = q at hq hs hq1
  refine ⟨fun p hp => ?_, p2, p3, p4, p5, p6, p7, fun p hp i hi => ?_⟩
  · show upd (P 3) q (nI (A.sz q + 1)) p = nI (va_up A.sz q (A.sz q + 1) p)
    by_cases e : p = q
    · subst e; rw [pk_us, up_s]
    · rw [pk_un e, up_n e]; exact p1 p hp
  · show upd (P 1) (q * 4 + A.sz q) k (p * 4 + i) = va_up A.ks (q * 4 + A.sz q) k (p * 4 + i) ∧ upd (P 2) (q * 4 + A.sz q) v (p * 4 + i) = va_up A.vs (q * 4 + A.sz q) v (p * 4 + i)
    have hi : i < va_up A.sz q (A.sz q + 1) p := hi
    by_cases e : p * 4 + i = q * 4 + A.sz q
    · rw [e, pk_us, pk_us, up_s, up_s]; exact ⟨rfl, rfl⟩
    · rw [pk_un e, pk_un e, up_n e, up_n e]
      refine p8 p hp i ?_
      by_cases e2 : p = q
      · subst e2; rw [up_s] at hi; omega
      · rw [up_n e2] at hi; exact hi
theorem RC_add1 {A : AS} {P : Mem} {b : Nat} (hr : RC A P) (hb : b < 64) (hs : A.sz (A.la b) < 4) (k v E : Int32) : RC (A.add b k v) (ps (ps (ps (ps P 1 (A.la b * 4 + A.sz (A.la b)) k) 2 (A.la b * 4 + A.sz (A.la b)) v) 3 (A.la b) (nI (A.sz (A.la b) + 1))) 0 2 E) :=
  ⟨WFc_add1 hr.1 hb hs k v, RPc_add1 hr.1 hr.2 hb hs k v E⟩
theorem WFc_add2 {A : AS} {b r : Nat} (h : WFc A) (hb : b < 64) (hs : ¬ A.sz (A.la b) < 4) (hf : A.lf = some r) (k v : Int32) : WFc (A.add b k v) := by
  obtain ⟨r1, r2, r3⟩ := WFc.lf hf
  have hs4 : A.sz (lst b (A.tl b)) = 4 := by have := h.sz4 (h.la hb); unfold AS.la at this hs; omega
  have hrn : ∀ c, c < 64 → ¬ r ∈ A.ch c := fun c hc w => by have := h.nfree hc w r1; rw [r3] at this; cases this
  unfold AS.add
  rw [if_neg hs, hf]
  have htl : ∀ c p, p ∈ va_up A.tl b (A.tl b ++ [r]) c → p ∈ A.tl c ∨ (c = b ∧ p = r) := by
    intro c p hp
    by_cases e : c = b
    · subst e; rw [up_s] at hp
      rcases List.mem_append.mp hp with w | w
      · exact Or.inl w
      · exact Or.inr ⟨rfl, by simpa using w⟩
    · rw [up_n e] at hp; exact Or.inl hp
  have hne : ∀ c, c < 64 → ∀ p, p ∈ A.tl c → ¬ p = r := fun c hc p hp e => hrn c hc (by rw [← e]; exact List.mem_cons_of_mem _ hp)
  refine ⟨fun c hc p hp => ?_, fun c hc => ?_, fun c d hc hd p h1 h2 => ?_, fun p h1 h2 h3 => ?_, fun p hp => ?_, fun p h1 h2 h3 => ?_, fun c hc => ?_⟩
  · show 64 ≤ p ∧ p < 128 ∧ va_up A.fr r false p = false ∧ 1 ≤ va_up A.sz r 1 p
    rcases htl c p hp with w | ⟨-, rfl⟩
    · rw [up_n (hne c hc p w), up_n (hne c hc p w)]; exact h.1 c hc p w
    · rw [up_s, up_s]; exact ⟨r1, r2, rfl, Nat.le_refl _⟩
  · show (va_up A.tl b (A.tl b ++ [r]) c).Nodup
    by_cases e : c = b
    · subst e; rw [up_s]
      refine List.nodup_append.mpr ⟨h.2.1 c hc, List.nodup_cons.mpr ⟨by simp, List.nodup_nil⟩, fun x hx y hy => ?_⟩
      have : y = r := by simpa using hy
      rw [this]; exact hne c hc x hx
    · rw [up_n e]; exact h.2.1 c hc
  · rcases htl c p h1 with w1 | ⟨e1, e2⟩ <;> rcases htl d p h2 with w2 | ⟨e3, e4⟩
    · exact h.2.2.1 c d hc hd p w1 w2
    · exact absurd e4 (hne c hc p w1)
    · exact absurd e2 (hne d hd p w2)
    · rw [e1, e3]
  · have h3 : va_up A.fr r false p = false := h3
    show ∃ c, c < 64 ∧ p ∈ va_up A.tl b (A.tl b ++ [r]) c
    by_cases e : p = r
    · exact ⟨b, hb, by rw [up_s, e]; simp⟩
    · rw [up_n e] at h3
      obtain ⟨c, hc, hp⟩ := h.2.2.2.1 p h1 h2 h3
      refine ⟨c, hc, ?_⟩
      by_cases e2 : c = b
      · subst e2; rw [up_s]; exact List.mem_append_left _ hp
      · rw [up_n e2]; exact hp
  · show va_up A.sz r 1 p ≤ 4
    by_cases e : p = r
    · subst e; rw [up_s]; decide
    · rw [up_n e]; exact h.sz4 hp
  · have h3 : va_up A.fr r false p = true := h3
    show va_up A.sz r 1 p = 0
    by_cases e : p = r
    · subst e; rw [up_s] at h3; cases h3
    · rw [up_n e] at h3 ⊢; exact h.2.2.2.2.2.1 p h1 h2 h3
  · show flB (va_up A.sz r 1) c (va_up A.tl b (A.tl b ++ [r]) c)
    by_cases e : c = b
    · subst e; rw [up_s]
      refine flB_congr (f := A.sz) ?_ (fun p hp hl => up_n (fun e => hl (by rw [e, lst_snoc]))) (flB_snoc (h.2.2.2.2.2.2 c hc) hs4)
      refine List.nodup_cons.mpr ⟨fun w => ?_, ?_⟩
      · rcases List.mem_append.mp w with w | w
        · have := (h.1 c hc c w).1; omega
        · have : c = r := by simpa using w
          omega
      · refine List.nodup_append.mpr ⟨h.2.1 c hc, List.nodup_cons.mpr ⟨by simp, List.nodup_nil⟩, fun x hx y hy => ?_⟩
        have : y = r := by simpa using hy
        rw [this]; exact hne c hc x hx
    · rw [up_n e]
      exact flB_congr (f := A.sz) (h.nodup hc) (fun p hp hl => up_n (fun e => hrn c hc (by rw [← e]; exact hp))) (h.2.2.2.2.2.2 c hc)
theorem RPc_add2 {A : AS} {P : Mem} {b r : Nat} (h : WFc A) (hp0 : RPc A P) (hb : b < 64) (hs : ¬ A.sz (A.la b) < 4) (hf : A.lf = some r) (k v E : Int32) : RPc (A.add b k v) (ps (ps (ps (ps (lnkP P b (A.la b) r) 1 (r * 4) k) 2 (r * 4) v) 3 r (nI 1)) 0 2 E) := by
  obtain ⟨r1, r2, r3⟩ := WFc.lf hf
  have hq : A.la b ∈ A.ch b := lst_in _ _
  obtain ⟨p1, p2, p3, p4, p5, p6, p7, p8⟩ := hp0
  have hrn : ∀ c, c < 64 → ¬ r ∈ A.ch c := fun c hc w => by have := h.nfree hc w r1; rw [r3] at this; cases this
  have hne : ∀ c, c < 64 → ∀ p, p ∈ A.tl c → ¬ p = r := fun c hc p hp e => hrn c hc (by rw [← e]; exact List.mem_cons_of_mem _ hp)
  have hqr : ¬ A.la b = r := fun e => hrn b hb (by rw [← e]; exact hq)
  unfold AS.add
  rw [if_neg hs, hf]
  refine ⟨fun p hp => ?_, fun c hc => ?_, fun p h1 h2 h3 => ?_, fun c hc => ?_, fun c hc p hp => ?_, fun p h1 h2 h3 => ?_, fun c hc => ?_, fun p hp i hi => ?_⟩
  · show upd (P 3) r (nI 1) p = nI (va_up A.sz r 1 p)
    by_cases e : p = r
    · subst e; rw [pk_us, up_s]
    · rw [pk_un e, up_n e]; exact p1 p hp
  · show isCh (upd (P 4) (A.la b) (nI r)) (c :: va_up A.tl b (A.tl b ++ [r]) c)
    by_cases e : c = b
    · subst e; rw [up_s]
      exact isCh_snoc r2 (h.nodup hc) (hrn c hc) (p2 c hc) (p3 r r1 r2 r3)
    · rw [up_n e]
      exact isCh_congr (f := P 4) (fun p hp => pk_un (fun e2 => e (h.one hc hb hp (by rw [e2]; exact hq)))) (p2 c hc)
  · have h3 : va_up A.fr r false p = true := h3
    show upd (P 4) (A.la b) (nI r) p = vNONE
    have e : ¬ p = r := fun e => by rw [e, up_s] at h3; cases h3
    rw [up_n e] at h3
    have e2 : ¬ p = A.la b := fun e2 => by have := h.nfree hb (by rw [e2]; exact hq) h1; rw [h3] at this; cases this
    rw [pk_un e2]; exact p3 p h1 h2 h3
  · show isAh (upd (P 5) r (nI (A.la b))) c (va_up A.tl b (A.tl b ++ [r]) c)
    by_cases e : c = b
    · subst e; rw [up_s]
      exact isAh_snoc (isAh_congr (f := P 5) (fun p hp => pk_un (hne c hc p hp)) (p4 c hc)) pk_us
    · rw [up_n e]
      exact isAh_congr (f := P 5) (fun p hp => pk_un (hne c hc p hp)) (p4 c hc)
  · have hp : p ∈ va_up A.tl b (A.tl b ++ [r]) c := hp
    show upd (P 6) r (nI b) p = nI c
    by_cases e : c = b
    · subst e; rw [up_s] at hp
      rcases List.mem_append.mp hp with w | w
      · rw [pk_un (hne c hc p w)]; exact p5 c hc p w
      · have : p = r := by simpa using w
        rw [this, pk_us]
    · rw [up_n e] at hp
      rw [pk_un (hne c hc p hp)]; exact p5 c hc p hp
  · have h3 : va_up A.fr r false p = true := h3
    show upd (P 6) r (nI b) p = vNONE
    have e : ¬ p = r := fun e => by rw [e, up_s] at h3; cases h3
    rw [up_n e] at h3
    rw [pk_un e]; exact p6 p h1 h2 h3
  · show upd (P 7) b (nI r) c = nI (lst c (va_up A.tl b (A.tl b ++ [r]) c))
    by_cases e : c = b
    · subst e; rw [up_s, pk_us, lst_snoc]
    · rw [up_n e, pk_un e]; exact p7 c hc
  · show upd (P 1) (r * 4) k (p * 4 + i) = va_up A.ks (r * 4) k (p * 4 + i) ∧ upd (P 2) (r * 4) v (p * 4 + i) = va_up A.vs (r * 4) v (p * 4 + i)
    have hi : i < va_up A.sz r 1 p := hi
    by_cases e : p * 4 + i = r * 4
    · rw [e, pk_us, pk_us, up_s, up_s]; exact ⟨rfl, rfl⟩
    · rw [pk_un e, pk_un e, up_n e, up_n e]
      refine p8 p hp i ?_
      by_cases e2 : p = r
      · subst e2; rw [up_s] at hi; omega
      · rw [up_n e2] at hi; exact hi
theorem RC_add2 {A : AS} {P : Mem} {b r : Nat} (hr : RC A P) (hb : b < 64) (hs : ¬ A.sz (A.la b) < 4) (hf : A.lf = some r) (k v E : Int32) : RC (A.add b k v) (ps (ps (ps (ps (lnkP P b (A.la b) r) 1 (r * 4) k) 2 (r * 4) v) 3 r (nI 1)) 0 2 E) :=
  ⟨WFc_add2 hr.1 hb hs hf k v, RPc_add2 hr.1 hr.2 hb hs hf k v E⟩
