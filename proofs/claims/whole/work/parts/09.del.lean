/-! taking out -/
def AS.del (A : AS) (b c : Nat) : AS :=
  if A.sz (A.la b) - 1 = 0 ∧ 64 ≤ A.la b then (va_up A.sz (A.la b) 0, va_up A.tl b (A.tl b).dropLast, va_up A.ks c (A.ks (A.la b * 4 + (A.sz (A.la b) - 1))), va_up A.vs c (A.vs (A.la b * 4 + (A.sz (A.la b) - 1))), va_up A.fr (A.la b) true, A.L, A.S)
  else (va_up A.sz (A.la b) (A.sz (A.la b) - 1), A.tl, va_up A.ks c (A.ks (A.la b * 4 + (A.sz (A.la b) - 1))), va_up A.vs c (A.vs (A.la b * 4 + (A.sz (A.la b) - 1))), A.fr, A.L, A.S)
/-- a cell of bucket b that has an entry -/
def AS.live (A : AS) (b c : Nat) : Prop := ∃ p i, p ∈ A.ch b ∧ i < A.sz p ∧ c = p * 4 + i
theorem lst_split (b : Nat) : ∀ (l : List Nat), ¬ l = [] → l = l.dropLast ++ [lst b l]
  | [], h => absurd rfl h
  | [q], _ => rfl
  | q :: r :: l, _ => by
    have := lst_split q (r :: l) (by simp)
    show q :: r :: l = q :: ((r :: l).dropLast ++ [lst q (r :: l)])
    rw [← this]
theorem flB_pre {f : Nat → Nat} {r : Nat} : ∀ {b : Nat} {l : List Nat}, flB f b (l ++ [r]) → flB f b l
  | _, [], _ => trivial
  | _, _ :: _, h => ⟨h.1, flB_pre h.2⟩
theorem isAh_pre {f : Nat → Int32} {r : Nat} : ∀ {b : Nat} {l : List Nat}, isAh f b (l ++ [r]) → isAh f b l ∧ f r = nI (lst b l)
  | _, [], h => ⟨trivial, h.1⟩
  | _, _ :: _, h => ⟨⟨h.1, (isAh_pre h.2).1⟩, (isAh_pre h.2).2⟩
theorem isCh_pre {f : Nat → Int32} {r : Nat} : ∀ {b : Nat} {l : List Nat}, (b :: l).Nodup → ¬ r ∈ b :: l → isCh f (b :: (l ++ [r])) → isCh (upd (upd f (lst b l) vNONE) r vNONE) (b :: l)
  | b, [], _, hm, hc => by
    have hrb : ¬ b = r := fun e => hm (by rw [e]; exact List.mem_cons_self)
    refine ⟨hc.1, ?_, trivial⟩
    show upd (upd f b vNONE) r vNONE b = vNONE
    rw [pk_un hrb, pk_us]
  | b, q :: l, hn, hm, hc => by
    have hn1 := List.nodup_cons.mp hn
    refine ⟨hc.1, ?_, isCh_pre hn1.2 (fun w => hm (List.mem_cons_of_mem _ w)) hc.2.2⟩
    show upd (upd f (lst q l) vNONE) r vNONE b = nI q
    rw [pk_un (fun e => hm (by rw [e]; exact List.mem_cons_self)), pk_un (fun e => hn1.1 (by rw [e]; exact lst_in q l))]
    exact hc.2.1
theorem WFc.la1 {A : AS} (h : WFc A) {b c : Nat} (hb : b < 64) (hl : A.live b c) : 1 ≤ A.sz (A.la b) := by
  obtain ⟨p, i, h1, h2, -⟩ := hl
  by_cases e : A.tl b = []
  · unfold AS.la; rw [e]
    unfold AS.ch at h1; rw [e] at h1
    have : p = b := by simpa using h1
    subst this
    show 1 ≤ A.sz p
    omega
  · have h3 := lst_split b (A.tl b) e
    have h4 : lst b (A.tl b) ∈ A.tl b := by rw [h3]; exact List.mem_append_right _ (by rw [← h3]; exact List.mem_cons_self)
    exact (h.1 b hb _ h4).2.2.2
theorem WFc_del1 {A : AS} {b : Nat} (h : WFc A) (hb : b < 64) (hs : ¬ (A.sz (A.la b) - 1 = 0 ∧ 64 ≤ A.la b)) (c : Nat) : WFc (A.del b c) := by
  have hq : A.la b ∈ A.ch b := lst_in _ _
  have hq1 := h.la hb
  unfold AS.del
  rw [if_neg hs]
  generalize hgq : A.la b = q at hq hs hq1
  refine ⟨fun d hd p hp => ?_, h.2.1, h.2.2.1, h.2.2.2.1, fun p hp => ?_, fun p h1 h2 hf => ?_, fun d hd => ?_⟩
  · obtain ⟨a1, a2, a3, a4⟩ := h.1 d hd p hp
    refine ⟨a1, a2, a3, ?_⟩
    show 1 ≤ va_up A.sz q (A.sz q - 1) p
    by_cases e : p = q
    · subst e; rw [up_s]; omega
    · rw [up_n e]; exact a4
  · show va_up A.sz q (A.sz q - 1) p ≤ 4
    by_cases e : p = q
    · subst e; rw [up_s]; have := h.sz4 hp; omega
    · rw [up_n e]; exact h.sz4 hp
  · show va_up A.sz q (A.sz q - 1) p = 0
    have e : ¬ p = q := fun e => by
      subst e
      have := h.nfree hb hq h1
      rw [show A.fr p = true from hf] at this
      cases this
    rw [up_n e]; exact h.2.2.2.2.2.1 p h1 h2 hf
  · refine flB_congr (f := A.sz) (h.nodup hd) (fun p hp hl => up_n (fun e => ?_)) (h.2.2.2.2.2.2 d hd)
    subst e
    have := h.one hb hd hq hp
    subst this
    exact hl hgq.symm
theorem cells_del {A : AS} {P : Mem} {c q : Nat} {sz' : Nat → Nat} (hq : q < 128) (h1 : 1 ≤ A.sz q) (hz : ∀ p, sz' p ≤ A.sz p) (p8 : ∀ p, p < 128 → ∀ i, i < A.sz p → P 1 (p * 4 + i) = A.ks (p * 4 + i) ∧ P 2 (p * 4 + i) = A.vs (p * 4 + i)) :
    ∀ p, p < 128 → ∀ i, i < sz' p → upd (P 1) c (P 1 (q * 4 + (A.sz q - 1))) (p * 4 + i) = va_up A.ks c (A.ks (q * 4 + (A.sz q - 1))) (p * 4 + i) ∧ upd (P 2) c (P 2 (q * 4 + (A.sz q - 1))) (p * 4 + i) = va_up A.vs c (A.vs (q * 4 + (A.sz q - 1))) (p * 4 + i) := by
  intro p hp i hi
  by_cases e : p * 4 + i = c
  · rw [e, pk_us, pk_us, up_s, up_s]; exact p8 q hq _ (by omega)
  · rw [pk_un e, pk_un e, up_n e, up_n e]; exact p8 p hp i (Nat.lt_of_lt_of_le hi (hz p))
abbrev delP (P : Mem) (c d q : Nat) (s E : Int32) : Mem := ps (ps (ps (ps P 1 c (P 1 d)) 2 c (P 2 d)) 3 q s) 0 2 E
theorem RC_del1 {A : AS} {P : Mem} {b c : Nat} (hr : RC A P) (hb : b < 64) (h1 : 1 ≤ A.sz (A.la b)) (hs : ¬ (A.sz (A.la b) - 1 = 0 ∧ 64 ≤ A.la b)) (E : Int32) : RC (A.del b c) (delP P c (A.la b * 4 + (A.sz (A.la b) - 1)) (A.la b) (nI (A.sz (A.la b) - 1)) E) := by
  refine ⟨WFc_del1 hr.1 hb hs c, ?_⟩
  obtain ⟨h, p1, p2, p3, p4, p5, p6, p7, p8⟩ := hr
  have hq1 := h.la hb
  unfold AS.del
  rw [if_neg hs]
  generalize A.la b = q at h1 hs hq1
  refine ⟨fun p hp => ?_, p2, p3, p4, p5, p6, p7, ?_⟩
  · show upd (P 3) q (nI (A.sz q - 1)) p = nI (va_up A.sz q (A.sz q - 1) p)
    by_cases e : p = q
    · subst e; rw [pk_us, up_s]
    · rw [pk_un e, up_n e]; exact p1 p hp
  · refine cells_del (sz' := va_up A.sz q (A.sz q - 1)) hq1 h1 (fun p => ?_) p8
    by_cases e : p = q
    · subst e; rw [up_s]; omega
    · rw [up_n e]; exact Nat.le_refl _
theorem RC_del2 {A : AS} {P : Mem} {b c : Nat} (hr : RC A P) (hb : b < 64) (h1 : 1 ≤ A.sz (A.la b)) (hs : A.sz (A.la b) - 1 = 0 ∧ 64 ≤ A.la b) (E : Int32) : RC (A.del b c) (clrP (ps (ps (delP P c (A.la b * 4 + (A.sz (A.la b) - 1)) (A.la b) (nI (A.sz (A.la b) - 1)) E) 4 (lst b (A.tl b).dropLast) vNONE) 7 b (nI (lst b (A.tl b).dropLast))) (A.la b)) := by
  obtain ⟨h, p1, p2, p3, p4, p5, p6, p7, p8⟩ := hr
  have hq1 := h.la hb
  have hne : ¬ A.tl b = [] := fun e => by have := hs.2; unfold AS.la at this; rw [e] at this; have : 64 ≤ b := this; omega
  have hsp : A.tl b = (A.tl b).dropLast ++ [A.la b] := lst_split b (A.tl b) hne
  have hqt : A.la b ∈ A.tl b := by rw [hsp]; exact List.mem_append_right _ List.mem_cons_self
  have hq : A.la b ∈ A.ch b := List.mem_cons_of_mem _ hqt
  have hfl := h.2.2.2.2.2.2 b hb
  have hnd := h.2.1 b hb
  have hch := p2 b hb
  have hah := p4 b hb
  unfold AS.ch at hch
  rw [hsp] at hfl hnd hch hah
  have hndc := h.nodup hb
  unfold AS.ch at hndc
  rw [hsp] at hndc
  obtain ⟨n1, n2⟩ := List.nodup_cons.mp hndc
  obtain ⟨n3, -, n4⟩ := List.nodup_append.mp n2
  generalize hl' : (A.tl b).dropLast = l' at *
  have hqn : ¬ A.la b ∈ l' := fun w => n4 _ w _ (List.mem_singleton.mpr rfl) rfl
  have hqb : ¬ A.la b = b := by omega
  have hqn2 : ¬ A.la b ∈ b :: l' := fun w => by
    rcases List.mem_cons.mp w with w | w
    · exact hqb w
    · exact hqn w
  have hbl : (b :: l').Nodup := List.nodup_cons.mpr ⟨fun w => n1 (List.mem_append_left _ w), n3⟩
  have hsub : ∀ d p, p ∈ va_up A.tl b l' d → p ∈ A.tl d := by
    intro d p hp
    by_cases e : d = b
    · subst e; rw [up_s] at hp; rw [hsp]; exact List.mem_append_left _ hp
    · rw [up_n e] at hp; exact hp
  have hnq : ∀ d, d < 64 → ∀ p, p ∈ va_up A.tl b l' d → ¬ p = A.la b := by
    intro d hd p hp e
    by_cases e2 : d = b
    · subst e2; rw [up_s] at hp; rw [e] at hp; exact hqn hp
    · rw [up_n e2] at hp
      exact e2 (h.2.2.1 d b hd hb p hp (by rw [e]; exact hqt))
  have hlq : lst b l' ∈ A.ch b := by
    have := lst_in b l'
    rcases List.mem_cons.mp this with w | w
    · rw [w]; exact List.mem_cons_self
    · exact List.mem_cons_of_mem _ (by rw [hsp]; exact List.mem_append_left _ w)
  unfold AS.del
  rw [if_pos hs]
  rw [hl']
  refine ⟨⟨fun d hd p hp => ?_, fun d hd => ?_, fun d e hd he p hp1 hp2 => h.2.2.1 d e hd he p (hsub d p hp1) (hsub e p hp2), fun p g1 g2 g3 => ?_, fun p hp => ?_, fun p g1 g2 g3 => ?_, fun d hd => ?_⟩, fun p hp => ?_, fun d hd => ?_, fun p g1 g2 g3 => ?_, fun d hd => ?_, fun d hd p hp => ?_, fun p g1 g2 g3 => ?_, fun d hd => ?_, ?_⟩
  · show 64 ≤ p ∧ p < 128 ∧ va_up A.fr (A.la b) true p = false ∧ 1 ≤ va_up A.sz (A.la b) 0 p
    rw [up_n (hnq d hd p hp), up_n (hnq d hd p hp)]; exact h.1 d hd p (hsub d p hp)
  · show (va_up A.tl b l' d).Nodup
    by_cases e : d = b
    · subst e; rw [up_s]; exact n3
    · rw [up_n e]; exact h.2.1 d hd
  · have g3 : va_up A.fr (A.la b) true p = false := g3
    have e : ¬ p = A.la b := fun e => by rw [e, up_s] at g3; cases g3
    rw [up_n e] at g3
    obtain ⟨d, hd, hp⟩ := h.2.2.2.1 p g1 g2 g3
    refine ⟨d, hd, ?_⟩
    show p ∈ va_up A.tl b l' d
    by_cases e2 : d = b
    · subst e2; rw [up_s]
      rw [hsp] at hp
      rcases List.mem_append.mp hp with w | w
      · exact w
      · exact absurd (List.mem_singleton.mp w) e
    · rw [up_n e2]; exact hp
  · show va_up A.sz (A.la b) 0 p ≤ 4
    by_cases e : p = A.la b
    · rw [e, up_s]; decide
    · rw [up_n e]; exact h.sz4 hp
  · have g3 : va_up A.fr (A.la b) true p = true := g3
    show va_up A.sz (A.la b) 0 p = 0
    by_cases e : p = A.la b
    · rw [e, up_s]
    · rw [up_n e] at g3 ⊢; exact h.2.2.2.2.2.1 p g1 g2 g3
  · show flB (va_up A.sz (A.la b) 0) d (va_up A.tl b l' d)
    by_cases e : d = b
    · subst e; rw [up_s]
      exact flB_congr (f := A.sz) hbl (fun p hp hl => up_n (fun e => hqn2 (by rw [← e]; exact hp))) (flB_pre hfl)
    · rw [up_n e]
      exact flB_congr (f := A.sz) (h.nodup hd) (fun p hp hl => up_n (fun e2 => e (h.one hd hb hp (by rw [e2]; exact hq)))) (h.2.2.2.2.2.2 d hd)
  · show upd (upd (P 3) (A.la b) (nI (A.sz (A.la b) - 1))) (A.la b) 0 p = nI (va_up A.sz (A.la b) 0 p)
    by_cases e : p = A.la b
    · rw [e, pk_us, up_s]; rfl
    · rw [pk_un e, pk_un e, up_n e]; exact p1 p hp
  · show isCh (upd (upd (P 4) (lst b l') vNONE) (A.la b) vNONE) (d :: va_up A.tl b l' d)
    by_cases e : d = b
    · subst e; rw [up_s]
      exact isCh_pre hbl hqn2 hch
    · rw [up_n e]
      refine isCh_congr (f := P 4) (fun p hp => ?_) (p2 d hd)
      rw [pk_un (fun e2 => e (h.one hd hb hp (by rw [e2]; exact hq))), pk_un (fun e2 => e (h.one hd hb hp (by rw [e2]; exact hlq)))]
  · have g3 : va_up A.fr (A.la b) true p = true := g3
    show upd (upd (P 4) (lst b l') vNONE) (A.la b) vNONE p = vNONE
    by_cases e : p = A.la b
    · rw [e, pk_us]
    · rw [up_n e] at g3
      rw [pk_un e]
      by_cases e2 : p = lst b l'
      · rw [e2, pk_us]
      · rw [pk_un e2]; exact p3 p g1 g2 g3
  · show isAh (upd (P 5) (A.la b) vNONE) d (va_up A.tl b l' d)
    by_cases e : d = b
    · subst e; rw [up_s]
      exact isAh_congr (f := P 5) (fun p hp => pk_un (fun e => hqn (by rw [← e]; exact hp))) (isAh_pre hah).1
    · rw [up_n e]
      exact isAh_congr (f := P 5) (fun p hp => pk_un (fun e2 => e (h.2.2.1 d b hd hb p hp (by rw [e2]; exact hqt)))) (p4 d hd)
  · show upd (P 6) (A.la b) vNONE p = nI d
    rw [pk_un (hnq d hd p hp)]; exact p5 d hd p (hsub d p hp)
  · have g3 : va_up A.fr (A.la b) true p = true := g3
    show upd (P 6) (A.la b) vNONE p = vNONE
    by_cases e : p = A.la b
    · rw [e, pk_us]
    · rw [up_n e] at g3; rw [pk_un e]; exact p6 p g1 g2 g3
  · show upd (P 7) b (nI (lst b l')) d = nI (lst d (va_up A.tl b l' d))
    by_cases e : d = b
    · subst e; rw [up_s, pk_us]
    · rw [up_n e, pk_un e]; exact p7 d hd
  · refine cells_del (sz' := va_up A.sz (A.la b) 0) hq1 h1 (fun p => ?_) p8
    by_cases e : p = A.la b
    · rw [e, up_s]; omega
    · rw [up_n e]; exact Nat.le_refl _
theorem RC.ahead {A : AS} {P : Mem} {b : Nat} (hr : RC A P) (hb : b < 64) (hs : 64 ≤ A.la b) : P 5 (A.la b) = nI (lst b (A.tl b).dropLast) ∧ lst b (A.tl b).dropLast < 128 := by
  have hne : ¬ A.tl b = [] := fun e => by unfold AS.la at hs; rw [e] at hs; have : 64 ≤ b := hs; omega
  have hsp : A.tl b = (A.tl b).dropLast ++ [A.la b] := lst_split b (A.tl b) hne
  have h1 := hr.2.2.2.2.1 b hb
  rw [hsp] at h1
  refine ⟨(isAh_pre h1).2, ?_⟩
  rcases List.mem_cons.mp (lst_in b (A.tl b).dropLast) with w | w
  · rw [w]; omega
  · have w2 : lst b (A.tl b).dropLast ∈ (A.tl b).dropLast ++ [A.la b] := List.mem_append_left _ w
    rw [← hsp] at w2
    exact (hr.1.1 b hb _ w2).2.1
