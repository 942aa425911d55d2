/-! THE REFERENCE'S PICTURE: what its writes do to its arrays -/
theorem WFc_del2 {A : AS} {b : Nat} (h : WFc A) (hb : b < 64) (hs : A.sz (A.la b) - 1 = 0 ∧ 64 ≤ A.la b) (c : Nat) : WFc (A.del b c) := by
  have hq1 := h.la hb
  have hne : ¬ A.tl b = [] := fun e => by have := hs.2; unfold AS.la at this; rw [e] at this; have : 64 ≤ b := this; omega
  have hsp : A.tl b = (A.tl b).dropLast ++ [A.la b] := lst_split b (A.tl b) hne
  have hqt : A.la b ∈ A.tl b := by rw [hsp]; exact List.mem_append_right _ List.mem_cons_self
  have hq : A.la b ∈ A.ch b := List.mem_cons_of_mem _ hqt
  have hfl := h.2.2.2.2.2.2 b hb
  have hnd := h.2.1 b hb
  rw [hsp] at hfl hnd
  have hndc := h.nodup hb
  unfold AS.ch at hndc
  rw [hsp] at hndc
  obtain ⟨n1, n2⟩ := List.nodup_cons.mp hndc
  obtain ⟨n3, -, n4⟩ := List.nodup_append.mp n2
  generalize hl' : (A.tl b).dropLast = l' at *
  have hqn : ¬ A.la b ∈ l' := fun w => n4 _ w _ (List.mem_singleton.mpr rfl) rfl
  have hqb : ¬ A.la b = b := by omega
  have hqn2 : ¬ A.la b ∈ b :: l' := fun w => by
    rcases List.mem_cons.mp w with w | w
    · exact hqb w
    · exact hqn w
  have hbl : (b :: l').Nodup := List.nodup_cons.mpr ⟨fun w => n1 (List.mem_append_left _ w), n3⟩
  have hsub : ∀ d p, p ∈ va_up A.tl b l' d → p ∈ A.tl d := by
    intro d p hp
    by_cases e : d = b
    · subst e; rw [up_s] at hp; rw [hsp]; exact List.mem_append_left _ hp
    · rw [up_n e] at hp; exact hp
  have hnq : ∀ d, d < 64 → ∀ p, p ∈ va_up A.tl b l' d → ¬ p = A.la b := by
    intro d hd p hp e
    by_cases e2 : d = b
    · subst e2; rw [up_s] at hp; rw [e] at hp; exact hqn hp
    · rw [up_n e2] at hp
      exact e2 (h.2.2.1 d b hd hb p hp (by rw [e]; exact hqt))
  have hlq : lst b l' ∈ A.ch b := by
    have := lst_in b l'
    rcases List.mem_cons.mp this with w | w
    · rw [w]; exact List.mem_cons_self
    · exact List.mem_cons_of_mem _ (by rw [hsp]; exact List.mem_append_left _ w)
  unfold AS.del
  rw [if_pos hs]
  rw [hl']
  refine ⟨fun d hd p hp => ?_, fun d hd => ?_, fun d e hd he p hp1 hp2 => h.2.2.1 d e hd he p (hsub d p hp1) (hsub e p hp2), fun p g1 g2 g3 => ?_, fun p hp => ?_, fun p g1 g2 g3 => ?_, fun d hd => ?_⟩
  · show 64 ≤ p ∧ p < 128 ∧ va_up A.fr (A.la b) true p = false ∧ 1 ≤ va_up A.sz (A.la b) 0 p
    rw [up_n (hnq d hd p hp), up_n (hnq d hd p hp)]; exact h.1 d hd p (hsub d p hp)
  · show (va_up A.tl b l' d).Nodup
    by_cases e : d = b
    · subst e; rw [up_s]; exact n3
    · rw [up_n e]; exact h.2.1 d hd
  · have g3 : va_up A.fr (A.la b) true p = false := g3
    have e : ¬ p = A.la b := fun e => by rw [e, up_s] at g3; cases g3
    rw [up_n e] at g3
    obtain ⟨d, hd, hp⟩ := h.2.2.2.1 p g1 g2 g3
    refine ⟨d, hd, ?_⟩
    show p ∈ va_up A.tl b l' d
    by_cases e2 : d = b
    · subst e2; rw [up_s]
      rw [hsp] at hp
      rcases List.mem_append.mp hp with w | w
      · exact w
      · exact absurd (List.mem_singleton.mp w) e
    · rw [up_n e2]; exact hp
  · show va_up A.sz (A.la b) 0 p ≤ 4
    by_cases e : p = A.la b
    · rw [e, up_s]; decide
    · rw [up_n e]; exact h.sz4 hp
  · have g3 : va_up A.fr (A.la b) true p = true := g3
    show va_up A.sz (A.la b) 0 p = 0
    by_cases e : p = A.la b
    · rw [e, up_s]
    · rw [up_n e] at g3 ⊢; exact h.2.2.2.2.2.1 p g1 g2 g3
  · show flB (va_up A.sz (A.la b) 0) d (va_up A.tl b l' d)
    by_cases e : d = b
    · subst e; rw [up_s]
      exact flB_congr (f := A.sz) hbl (fun p hp hl => up_n (fun e => hqn2 (by rw [← e]; exact hp))) (flB_pre hfl)
    · rw [up_n e]
      exact flB_congr (f := A.sz) (h.nodup hd) (fun p hp hl => up_n (fun e2 => e (h.one hd hb hp (by rw [e2]; exact hq)))) (h.2.2.2.2.2.2 d hd)
theorem WFc_del {A : AS} {b c : Nat} (h : WFc A) (hb : b < 64) : WFc (A.del b c) := by
  by_cases hs : A.sz (A.la b) - 1 = 0 ∧ 64 ≤ A.la b
  · exact WFc_del2 h hb hs c
  · exact WFc_del1 h hb hs c
theorem RD.used {A : AS} {M : Mem} (h : RD A M) {p : Nat} (hp : p < 128) : M 3 p = nI (A.sz p) := h.2.1 p hp
theorem RD.sz4 {A : AS} {M : Mem} (h : RD A M) {p : Nat} (hp : p < 128) : A.sz p ≤ 4 := h.1.sz4 hp
theorem RD.chain {A : AS} {M : Mem} (h : RD A M) {b : Nat} (hb : b < 64) : isCh (M 4) (A.ch b) := h.2.2.1 b hb
theorem RD.la {A : AS} {M : Mem} (h : RD A M) {b : Nat} (hb : b < 64) : A.la b < 128 := h.1.la hb
theorem RD.key {A : AS} {M : Mem} (h : RD A M) {p i : Nat} (hp : p < 128) (hi : i < A.sz p) : M 1 (p * 4 + i) = A.ks (p * 4 + i) := (h.2.2.2.2.2 p hp i hi).1
theorem RD.val {A : AS} {M : Mem} (h : RD A M) {p i : Nat} (hp : p < 128) (hi : i < A.sz p) : M 2 (p * 4 + i) = A.vs (p * 4 + i) := (h.2.2.2.2.2 p hp i hi).2
theorem RD.free {A : AS} {M : Mem} (h : RD A M) {p : Nat} (h1 : 64 ≤ p) (h2 : p < 128) : M 5 p = if A.fr p = true then 1 else 0 := h.2.2.2.2.1 p h1 h2
theorem RM.nb {A : AS} {M : Mem} (h : RM A M) : ((4 : Int32) <<< (M 0 0 &&& 31)) + M 0 1 = nI A.nb := by
  rw [h.2.2.1, h.2.2.2]; exact nb_eq h.2.1.1
theorem RM.nb64 {A : AS} {M : Mem} (h : RM A M) : A.nb ≤ 64 := h.2.1.2.2.1
theorem RM.S64 {A : AS} {M : Mem} (h : RM A M) : A.S ≤ 64 := by
  have := h.nb64
  unfold AS.nb nbN at this
  omega
theorem RM.adlt {A : AS} {M : Mem} (h : RM A M) (key : Int32) : A.ad key < 64 := h.2.1.lt key
theorem mul4 (p : Nat) : (4 : Int32) * nI p = nI (p * 4) := (pk_mul 4 p).trans (congrArg nI (Nat.mul_comm 4 p))
theorem ps_same (M : Mem) (k j : Nat) : ps M k j (M k j) = M := by
  funext a i
  unfold ps
  by_cases e : a = k
  · rw [if_pos e]
    by_cases e2 : i = j
    · rw [e2, pk_us, e]
    · rw [pk_un e2, e]
  · rw [if_neg e]
abbrev ad1 (M : Mem) (q s : Nat) (k v : Int32) : Mem := ps (ps (ps M 1 (q * 4 + s) k) 2 (q * 4 + s) v) 3 q (nI (s + 1))
theorem RD_add1 {A : AS} {M : Mem} {b : Nat} (hr : RD A M) (hb : b < 64) (hs : A.sz (A.la b) < 4) (k v : Int32) : RD (A.add b k v) (ad1 M (A.la b) (A.sz (A.la b)) k v) := by
  refine ⟨WFc_add1 hr.1 hb hs k v, ?_⟩
  have hq : A.la b ∈ A.ch b := lst_in _ _
  obtain ⟨h, p1, p2, p3, p4, p5⟩ := hr
  unfold AS.add
  rw [if_pos hs]
  have hq1 : A.la b < 128 := h.la hb
  generalize A.la b = q at hq hs hq1
  refine ⟨fun p hp => ?_, p2, p3, p4, fun p hp i hi => ?_⟩
  · show upd (M 3) q (nI (A.sz q + 1)) p = nI (va_up A.sz q (A.sz q + 1) p)
    by_cases e : p = q
    · subst e; rw [pk_us, up_s]
    · rw [pk_un e, up_n e]; exact p1 p hp
  · show upd (M 1) (q * 4 + A.sz q) k (p * 4 + i) = va_up A.ks (q * 4 + A.sz q) k (p * 4 + i) ∧ upd (M 2) (q * 4 + A.sz q) v (p * 4 + i) = va_up A.vs (q * 4 + A.sz q) v (p * 4 + i)
    have hi : i < va_up A.sz q (A.sz q + 1) p := hi
    by_cases e : p * 4 + i = q * 4 + A.sz q
    · rw [e, pk_us, pk_us, up_s, up_s]; exact ⟨rfl, rfl⟩
    · rw [pk_un e, pk_un e, up_n e, up_n e]
      refine p5 p hp i ?_
      by_cases e2 : p = q
      · subst e2; rw [up_s] at hi; omega
      · rw [up_n e2] at hi; exact hi
theorem RD_add2 {A : AS} {M : Mem} {b r : Nat} (hr : RD A M) (hb : b < 64) (hs : ¬ A.sz (A.la b) < 4) (hf : A.lf = some r) (k v : Int32) : RD (A.add b k v) (ps (ps (ps (ps (ps M 5 r 0) 4 (A.la b) (nI r)) 1 (r * 4) k) 2 (r * 4) v) 3 r (nI 1)) := by
  refine ⟨WFc_add2 hr.1 hb hs hf k v, ?_⟩
  obtain ⟨r1, r2, r3⟩ := WFc.lf hf
  have hq : A.la b ∈ A.ch b := lst_in _ _
  obtain ⟨h, p1, p2, p3, p4, p5⟩ := hr
  have hrn : ∀ c, c < 64 → ¬ r ∈ A.ch c := fun c hc w => by have := h.nfree hc w r1; rw [r3] at this; cases this
  unfold AS.add
  rw [if_neg hs, hf]
  refine ⟨fun p hp => ?_, fun c hc => ?_, fun p h1 h2 h3 => ?_, fun p h1 h2 => ?_, fun p hp i hi => ?_⟩
  · show upd (M 3) r (nI 1) p = nI (va_up A.sz r 1 p)
    by_cases e : p = r
    · subst e; rw [pk_us, up_s]
    · rw [pk_un e, up_n e]; exact p1 p hp
  · show isCh (upd (M 4) (A.la b) (nI r)) (c :: va_up A.tl b (A.tl b ++ [r]) c)
    by_cases e : c = b
    · subst e; rw [up_s]
      exact isCh_snoc r2 (h.nodup hc) (hrn c hc) (p2 c hc) (p3 r r1 r2 r3)
    · rw [up_n e]
      exact isCh_congr (f := M 4) (fun p hp => pk_un (fun e2 => e (h.one hc hb hp (by rw [e2]; exact hq)))) (p2 c hc)
  · have h3 : va_up A.fr r false p = true := h3
    show upd (M 4) (A.la b) (nI r) p = vNONE
    have e : ¬ p = r := fun e => by rw [e, up_s] at h3; cases h3
    rw [up_n e] at h3
    have e2 : ¬ p = A.la b := fun e2 => by have := h.nfree hb (by rw [e2]; exact hq) h1; rw [h3] at this; cases this
    rw [pk_un e2]; exact p3 p h1 h2 h3
  · show upd (M 5) r 0 p = if va_up A.fr r false p = true then 1 else 0
    by_cases e : p = r
    · subst e; rw [pk_us, up_s, if_neg (by simp)]
    · rw [pk_un e, up_n e]; exact p4 p h1 h2
  · show upd (M 1) (r * 4) k (p * 4 + i) = va_up A.ks (r * 4) k (p * 4 + i) ∧ upd (M 2) (r * 4) v (p * 4 + i) = va_up A.vs (r * 4) v (p * 4 + i)
    have hi : i < va_up A.sz r 1 p := hi
    by_cases e : p * 4 + i = r * 4
    · rw [e, pk_us, pk_us, up_s, up_s]; exact ⟨rfl, rfl⟩
    · rw [pk_un e, pk_un e, up_n e, up_n e]
      refine p5 p hp i ?_
      by_cases e2 : p = r
      · subst e2; rw [up_s] at hi; omega
      · rw [up_n e2] at hi; exact hi
abbrev dl1 (M : Mem) (c d q : Nat) (s : Int32) : Mem := ps (ps (ps M 1 c (M 1 d)) 2 c (M 2 d)) 3 q s
theorem RD_del1 {A : AS} {M : Mem} {b c : Nat} (hr : RD A M) (hb : b < 64) (h1 : 1 ≤ A.sz (A.la b)) (hs : ¬ (A.sz (A.la b) - 1 = 0 ∧ 64 ≤ A.la b)) : RD (A.del b c) (dl1 M c (A.la b * 4 + (A.sz (A.la b) - 1)) (A.la b) (nI (A.sz (A.la b) - 1))) := by
  refine ⟨WFc_del1 hr.1 hb hs c, ?_⟩
  obtain ⟨h, p1, p2, p3, p4, p5⟩ := hr
  have hq1 := h.la hb
  unfold AS.del
  rw [if_neg hs]
  generalize A.la b = q at h1 hs hq1
  refine ⟨fun p hp => ?_, p2, p3, p4, ?_⟩
  · show upd (M 3) q (nI (A.sz q - 1)) p = nI (va_up A.sz q (A.sz q - 1) p)
    by_cases e : p = q
    · subst e; rw [pk_us, up_s]
    · rw [pk_un e, up_n e]; exact p1 p hp
  · refine cells_del (sz' := va_up A.sz q (A.sz q - 1)) hq1 h1 (fun p => ?_) p5
    by_cases e : p = q
    · subst e; rw [up_s]; omega
    · rw [up_n e]; exact Nat.le_refl _
theorem RD_del2 {A : AS} {M : Mem} {b c : Nat} (hr : RD A M) (hb : b < 64) (h1 : 1 ≤ A.sz (A.la b)) (hs : A.sz (A.la b) - 1 = 0 ∧ 64 ≤ A.la b) : RD (A.del b c) (ps (ps (dl1 M c (A.la b * 4 + (A.sz (A.la b) - 1)) (A.la b) (nI (A.sz (A.la b) - 1))) 5 (A.la b) 1) 4 (lst b (A.tl b).dropLast) vNONE) := by
  refine ⟨WFc_del2 hr.1 hb hs c, ?_⟩
  obtain ⟨h, p1, p2, p3, p4, p5⟩ := hr
  have hq1 := h.la hb
  have hne : ¬ A.tl b = [] := fun e => by have := hs.2; unfold AS.la at this; rw [e] at this; have : 64 ≤ b := this; omega
  have hsp : A.tl b = (A.tl b).dropLast ++ [A.la b] := lst_split b (A.tl b) hne
  have hqt : A.la b ∈ A.tl b := by rw [hsp]; exact List.mem_append_right _ List.mem_cons_self
  have hq : A.la b ∈ A.ch b := List.mem_cons_of_mem _ hqt
  have hfl := h.2.2.2.2.2.2 b hb
  have hnd := h.2.1 b hb
  have hch := p2 b hb
  unfold AS.ch at hch
  rw [hsp] at hfl hnd hch
  have hndc := h.nodup hb
  unfold AS.ch at hndc
  rw [hsp] at hndc
  obtain ⟨n1, n2⟩ := List.nodup_cons.mp hndc
  obtain ⟨n3, -, n4⟩ := List.nodup_append.mp n2
  generalize hl' : (A.tl b).dropLast = l' at *
  have hqn : ¬ A.la b ∈ l' := fun w => n4 _ w _ (List.mem_singleton.mpr rfl) rfl
  have hqb : ¬ A.la b = b := by omega
  have hqn2 : ¬ A.la b ∈ b :: l' := fun w => by
    rcases List.mem_cons.mp w with w | w
    · exact hqb w
    · exact hqn w
  have hbl : (b :: l').Nodup := List.nodup_cons.mpr ⟨fun w => n1 (List.mem_append_left _ w), n3⟩
  have hsub : ∀ d p, p ∈ va_up A.tl b l' d → p ∈ A.tl d := by
    intro d p hp
    by_cases e : d = b
    · subst e; rw [up_s] at hp; rw [hsp]; exact List.mem_append_left _ hp
    · rw [up_n e] at hp; exact hp
  have hnq : ∀ d, d < 64 → ∀ p, p ∈ va_up A.tl b l' d → ¬ p = A.la b := by
    intro d hd p hp e
    by_cases e2 : d = b
    · subst e2; rw [up_s] at hp; rw [e] at hp; exact hqn hp
    · rw [up_n e2] at hp
      exact e2 (h.2.2.1 d b hd hb p hp (by rw [e]; exact hqt))
  have hlq : lst b l' ∈ A.ch b := by
    have := lst_in b l'
    rcases List.mem_cons.mp this with w | w
    · rw [w]; exact List.mem_cons_self
    · exact List.mem_cons_of_mem _ (by rw [hsp]; exact List.mem_append_left _ w)
  unfold AS.del
  rw [if_pos hs]
  rw [hl']
  refine ⟨fun p hp => ?_, fun d hd => ?_, fun p g1 g2 g3 => ?_, fun p g1 g2 => ?_, ?_⟩
  · show upd (M 3) (A.la b) (nI (A.sz (A.la b) - 1)) p = nI (va_up A.sz (A.la b) 0 p)
    by_cases e : p = A.la b
    · rw [e, pk_us, up_s, hs.1]
    · rw [pk_un e, up_n e]; exact p1 p hp
  · show isCh (upd (M 4) (lst b l') vNONE) (d :: va_up A.tl b l' d)
    by_cases e : d = b
    · subst e; rw [up_s]
      exact isCh_congr (fun p hp => (pk_un (fun e2 => hqn2 (by rw [← e2]; exact hp))).symm) (isCh_pre hbl hqn2 hch)
    · rw [up_n e]
      exact isCh_congr (f := M 4) (fun p hp => pk_un (fun e2 => e (h.one hd hb hp (by rw [e2]; exact hlq)))) (p2 d hd)
  · have g3 : va_up A.fr (A.la b) true p = true := g3
    show upd (M 4) (lst b l') vNONE p = vNONE
    by_cases e2 : p = lst b l'
    · rw [e2, pk_us]
    · rw [pk_un e2]
      by_cases e : p = A.la b
      · have hlk := lkL_of (p2 b hb) hq
        rw [e, hlk]
        have : ∀ (b : Nat) (l : List Nat), (b :: l).Nodup → lkL (b :: l) (lst b l) = vNONE := by
          intro b l
          induction l generalizing b with
          | nil => intro _; show (if b = b then hdI [] else _) = vNONE; rw [if_pos rfl]; rfl
          | cons q l ih =>
            intro hn
            have hn1 := List.nodup_cons.mp hn
            show (if b = lst q l then _ else lkL (q :: l) (lst q l)) = vNONE
            rw [if_neg (fun e => hn1.1 (by rw [e]; exact lst_in q l))]; exact ih q hn1.2
        exact this b (A.tl b) (h.nodup hb)
      · rw [up_n e] at g3; exact p3 p g1 g2 g3
  · show upd (M 5) (A.la b) 1 p = if va_up A.fr (A.la b) true p = true then 1 else 0
    by_cases e : p = A.la b
    · rw [e, pk_us, up_s, if_pos rfl]
    · rw [pk_un e, up_n e]; exact p4 p g1 g2
  · refine cells_del (sz' := va_up A.sz (A.la b) 0) hq1 h1 (fun p => ?_) p5
    by_cases e : p = A.la b
    · rw [e, up_s]; omega
    · rw [up_n e]; exact Nat.le_refl _
/-- the reference's held entries -/
def RH (M : Mem) (h : EL) : Prop := M 0 9 = nI h.length ∧ h.length ≤ 512 ∧ ∀ i, i < h.length → M 9 i = (h.getD i (0, 0)).1 ∧ M 10 i = (h.getD i (0, 0)).2
theorem RH_push {M : Mem} {h : EL} (hz : RH M h) (hl : h.length < 512) (k v : Int32) : RH (ps (ps (ps M 9 h.length k) 10 h.length v) 0 9 (nI (h.length + 1))) (h ++ [(k, v)]) := by
  have hlen : (h ++ [(k, v)]).length = h.length + 1 := by simp
  refine ⟨by rw [hlen]; rfl, by omega, fun i hi => ?_⟩
  show upd (M 9) h.length k i = _ ∧ upd (M 10) h.length v i = _
  rw [hlen] at hi
  by_cases e : i = h.length
  · subst e
    rw [pk_us, pk_us]; simp
  · rw [pk_un e, pk_un e]
    have hi2 : i < h.length := by omega
    have := hz.2.2 i hi2
    rw [List.getD_eq_getElem?_getD, List.getElem?_append_left hi2, ← List.getD_eq_getElem?_getD]
    exact this
theorem RH_nil {M : Mem} : RH (ps M 0 9 0) [] := ⟨rfl, by simp, fun i hi => by simp at hi⟩
/-- what stays: the log, the groups, the numbers but 'held' -/
def KH (M M1 : Mem) : Prop := M1 6 = M 6 ∧ M1 7 = M 7 ∧ M1 8 = M 8 ∧ ∀ j, j ≤ 8 → M1 0 j = M 0 j
def KW (M M1 : Mem) : Prop := M1 6 = M 6 ∧ M1 7 = M 7 ∧ M1 8 = M 8 ∧ ∀ j, 3 ≤ j → j ≤ 8 → M1 0 j = M 0 j
def KA (M M1 : Mem) : Prop := M1 0 = M 0 ∧ M1 6 = M 6 ∧ M1 7 = M 7 ∧ M1 8 = M 8 ∧ M1 9 = M 9 ∧ M1 10 = M 10
theorem KH.rf (M : Mem) : KH M M := ⟨rfl, rfl, rfl, fun _ _ => rfl⟩
theorem KH.tr {M N O : Mem} (h1 : KH M N) (h2 : KH N O) : KH M O := ⟨h2.1.trans h1.1, h2.2.1.trans h1.2.1, h2.2.2.1.trans h1.2.2.1, fun j hj => (h2.2.2.2 j hj).trans (h1.2.2.2 j hj)⟩
theorem KW.tr {M N O : Mem} (h1 : KW M N) (h2 : KW N O) : KW M O := ⟨h2.1.trans h1.1, h2.2.1.trans h1.2.1, h2.2.2.1.trans h1.2.2.1, fun j a b => (h2.2.2.2 j a b).trans (h1.2.2.2 j a b)⟩
theorem KW.rf (M : Mem) : KW M M := ⟨rfl, rfl, rfl, fun _ _ _ => rfl⟩
theorem KH.w {M N : Mem} (h : KH M N) : KW M N := ⟨h.1, h.2.1, h.2.2.1, fun j _ b => h.2.2.2 j b⟩
theorem KA.h {M N : Mem} (h : KA M N) : KH M N := ⟨h.2.1, h.2.2.1, h.2.2.2.1, fun j _ => congrFun h.1 j⟩
theorem KH_s {M : Mem} {v : Int32} : KH M (ps M 0 9 v) := ⟨rfl, rfl, rfl, fun j hj => by show upd (M 0) 9 v j = M 0 j; rw [pk_un (by omega)]⟩
theorem KW_s {M : Mem} {j : Nat} {v : Int32} (hj : j < 3 ∨ j = 9) : KW M (ps M 0 j v) := ⟨rfl, rfl, rfl, fun i a b => by show upd (M 0) j v i = M 0 i; rw [pk_un (by omega)]⟩
def CLM (M : Mem) (dn : List Nat) (M1 : Mem) : Prop :=
  (∀ p, M1 3 p = if p ∈ dn then 0 else M 3 p) ∧ (∀ p, M1 4 p = if p ∈ dn then vNONE else M 4 p) ∧ (∀ p, M1 5 p = if p ∈ dn then (if 64 ≤ p then 1 else 0) else M 5 p) ∧ M1 1 = M 1 ∧ M1 2 = M 2 ∧ KH M M1
theorem CLM_nil (M : Mem) : CLM M [] M := ⟨fun _ => by simp, fun _ => by simp, fun _ => by simp, rfl, rfl, KH.rf M⟩
theorem CLM_step {M M1 : Mem} {dn : List Nat} {q : Nat} {x : Int32} (h : CLM M dn M1) (hx : x = if 64 ≤ q then 1 else 0) : CLM M (dn ++ [q]) (ps (ps (ps M1 3 q 0) 4 q vNONE) 5 q x) := by
  obtain ⟨h3, h4, h5, h1, h2, h6⟩ := h
  refine ⟨upd_dn h3, upd_dn h4, fun p => ?_, h1, h2, h6⟩
  show upd (M1 5) q x p = _
  by_cases e : p = q
  · subst e; rw [pk_us, if_pos (by simp)]; exact hx
  · rw [pk_un e, h5 p]
    by_cases e2 : p ∈ dn
    · rw [if_pos e2, if_pos (List.mem_append_left _ e2)]
    · rw [if_neg e2, if_neg (fun w => (List.mem_append.mp w).elim e2 (fun w => e (List.mem_singleton.mp w)))]
theorem CLM_held {M M1 : Mem} {dn : List Nat} {n : Nat} {k v x : Int32} (h : CLM M dn M1) : CLM M dn (ps (ps (ps M1 9 n k) 10 n v) 0 9 x) := by
  obtain ⟨h3, h4, h5, h1, h2, h6⟩ := h
  exact ⟨h3, h4, h5, h1, h2, h6.1, h6.2.1, h6.2.2.1, fun j hj => (show upd (M1 0) 9 x j = M1 0 j by rw [pk_un (by omega)]).trans (h6.2.2.2 j hj)⟩
theorem RD_clr {A : AS} {M M1 : Mem} {b : Nat} (hr : RD A M) (hb : b < 64) (hc : CLM M (A.ch b) M1) : RD (A.clr b) M1 := by
  refine ⟨WFc_clr hr.1 hb, ?_⟩
  obtain ⟨h, p1, p2, p3, p4, p5⟩ := hr
  obtain ⟨h3, h4, h5, h1, h2, -⟩ := hc
  have hout : ∀ c, c < 64 → ¬ c = b → ∀ p, p ∈ A.ch c → ¬ p ∈ A.ch b := fun c hc hcb p hp w => hcb (h.one hc hb hp w)
  have hsz : ∀ p, ¬ p ∈ A.ch b → (A.clr b).sz p = A.sz p := fun p hp => if_neg hp
  have hsz0 : ∀ p, p ∈ A.ch b → (A.clr b).sz p = 0 := fun p hp => if_pos hp
  have hfr : ∀ p, ¬ p ∈ A.ch b → (A.clr b).fr p = A.fr p := fun p hp => if_neg (fun w => hp (List.mem_cons_of_mem _ w))
  refine ⟨fun p hp => ?_, fun c hc => ?_, fun p g1 g2 g3 => ?_, fun p g1 g2 => ?_, fun p hp i hi => ?_⟩
  · rw [h3 p]
    by_cases e : p ∈ A.ch b
    · rw [if_pos e, hsz0 p e]; rfl
    · rw [if_neg e, hsz p e]; exact p1 p hp
  · show isCh (M1 4) (c :: va_up A.tl b [] c)
    by_cases e : c = b
    · subst e; rw [up_s]
      exact ⟨by omega, by rw [h4 c, if_pos (show c ∈ A.ch c from List.mem_cons_self)]; rfl, trivial⟩
    · rw [up_n e]
      exact isCh_congr (f := M 4) (fun p hp => by rw [h4 p, if_neg (hout c hc e p hp)]) (p2 c hc)
  · rw [h4 p]
    by_cases e : p ∈ A.ch b
    · rw [if_pos e]
    · rw [if_neg e]; rw [hfr p e] at g3; exact p3 p g1 g2 g3
  · rw [h5 p]
    by_cases e : p ∈ A.ch b
    · have e2 : p ∈ A.tl b := (List.mem_cons.mp e).resolve_left (by omega)
      rw [if_pos e, if_pos g1, show (A.clr b).fr p = true from if_pos e2, if_pos rfl]
    · rw [if_neg e, hfr p e]; exact p4 p g1 g2
  · have e : ¬ p ∈ A.ch b := fun e => by rw [hsz0 p e] at hi; exact absurd hi (Nat.not_lt_zero _)
    rw [hsz p e] at hi
    rw [h1, h2]; exact p5 p hp i hi
