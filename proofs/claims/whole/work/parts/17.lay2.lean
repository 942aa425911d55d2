/-! the starts of growing and shrinking; put and remove -/
theorem frcF_give {fr : Nat → Bool} {r : Nat} : ∀ (n p : Nat), p ≤ r → r < p + n → fr r = false → frcF (va_up fr r true) n p = frcF fr n p + 1
  | 0, _, _, _, _ => by omega
  | n + 1, p, h1, h2, h3 => by
    show (if va_up fr r true p = true then 1 else 0) + frcF (va_up fr r true) n (p + 1) = (if fr p = true then 1 else 0) + frcF fr n (p + 1) + 1
    by_cases e : p = r
    · subst e
      rw [up_s, frcF_up n (p + 1) (by omega), if_pos rfl, if_neg (by rw [h3]; simp)]; omega
    · rw [up_n (fun w => e w), frcF_give n (p + 1) (by omega) (by omega) h3]; omega
theorem frcF_clr {fr : Nat → Bool} : ∀ (l : List Nat), l.Nodup → (∀ p, p ∈ l → 64 ≤ p ∧ p < 128 ∧ fr p = false) → frcF (fun p => if p ∈ l then true else fr p) 64 64 = frcF fr 64 64 + l.length
  | [], _, _ => by
    rw [show (fun p => if p ∈ ([] : List Nat) then true else fr p) = fr from funext (fun p => by simp)]; exact (Nat.add_zero _).symm
  | q :: l, hn, h => by
    have hn1 := List.nodup_cons.mp hn
    have ih := frcF_clr l hn1.2 (fun p hp => h p (List.mem_cons_of_mem _ hp))
    have hq := h q List.mem_cons_self
    have e : (fun p => if p ∈ q :: l then true else fr p) = va_up (fun p => if p ∈ l then true else fr p) q true := by
      funext p
      by_cases e : p = q
      · subst e; rw [up_s, if_pos List.mem_cons_self]
      · rw [up_n e]
        by_cases e2 : p ∈ l
        · rw [if_pos e2, if_pos (List.mem_cons_of_mem _ e2)]
        · rw [if_neg e2, if_neg (fun w => (List.mem_cons.mp w).elim e e2)]
    rw [e, frcF_give 64 64 hq.1 (by omega) (by show (if q ∈ l then true else fr q) = false; rw [if_neg hn1.1]; exact hq.2.2), ih, List.length_cons, Nat.add_assoc]
theorem clr_fc {A : AS} {b : Nat} (h : WFc A) (hb : b < 64) : (A.clr b).fc = A.fc + (A.tl b).length := frcF_clr (A.tl b) (h.2.1 b hb) (fun p hp => ⟨(h.1 b hb p hp).1, (h.1 b hb p hp).2.1, (h.1 b hb p hp).2.2.1⟩)
theorem clr_self (A : AS) (b : Nat) : (A.clr b).tl b = [] ∧ (A.clr b).cnt b = 0 := by
  have e : (A.clr b).tl b = [] := up_s
  refine ⟨e, ?_⟩
  unfold AS.cnt AS.la
  rw [e]
  show 0 * 4 + (A.clr b).sz b = 0
  rw [show (A.clr b).sz b = 0 from if_pos (show b ∈ A.ch b from List.mem_cons_self)]
theorem clr_other {A : AS} {b c : Nat} (h : WFc A) (hb : b < 64) (hc : c < 64) (hcb : ¬ c = b) : (A.clr b).tl c = A.tl c ∧ (∀ p, p ∈ A.ch c → (A.clr b).sz p = A.sz p) ∧ (A.clr b).cnt c = A.cnt c ∧ (A.clr b).held c = A.held c := by
  have e : (A.clr b).tl c = A.tl c := up_n hcb
  have e2 : ∀ p, p ∈ A.ch c → (A.clr b).sz p = A.sz p := fun p hp => if_neg (fun w => hcb (h.one hc hb hp w))
  have hl : ∀ l : List Nat, (∀ p, p ∈ l → p ∈ A.ch c) → (A.clr b).heldL l = A.heldL l := by
    intro l
    induction l with
    | nil => intro _; rfl
    | cons q l ih =>
      intro hl
      show (A.clr b).hp q ((A.clr b).sz q) ++ (A.clr b).heldL l = A.hp q (A.sz q) ++ A.heldL l
      rw [ih (fun p hp => hl p (List.mem_cons_of_mem _ hp)), e2 q (hl q List.mem_cons_self)]; rfl
  refine ⟨e, e2, ?_, ?_⟩
  · unfold AS.cnt AS.la
    rw [e, e2 _ (lst_in _ _)]
  · unfold AS.held AS.ch
    rw [e]; exact hl _ (fun p hp => hp)
theorem WFc_clr {A : AS} {b : Nat} (h : WFc A) (hb : b < 64) : WFc (A.clr b) := by
  -- a picture of A serves
  have hout : ∀ c, c < 64 → ¬ c = b → ∀ p, p ∈ A.ch c → ¬ p ∈ A.ch b := fun c hc hcb p hp w => hcb (h.one hc hb hp w)
  have htl : ∀ c p, p ∈ va_up A.tl b [] c → ¬ c = b ∧ p ∈ A.tl c := by
    intro c p hp
    by_cases e : c = b
    · subst e; rw [up_s] at hp; cases hp
    · rw [up_n e] at hp; exact ⟨e, hp⟩
  have hsz : ∀ p, ¬ p ∈ A.ch b → (A.clr b).sz p = A.sz p := fun p hp => if_neg hp
  have hsz0 : ∀ p, p ∈ A.ch b → (A.clr b).sz p = 0 := fun p hp => if_pos hp
  have hfr : ∀ p, ¬ p ∈ A.ch b → (A.clr b).fr p = A.fr p := fun p hp => if_neg (fun w => hp (List.mem_cons_of_mem _ w))
  refine ⟨fun c hc p hp => ?_, fun c hc => ?_, fun c d hc hd p g1 g2 => h.2.2.1 c d hc hd p (htl c p g1).2 (htl d p g2).2, fun p g1 g2 g3 => ?_, fun p hp => ?_, fun p g1 g2 g3 => ?_, fun c hc => ?_⟩
  · obtain ⟨e, hp⟩ := htl c p hp
    have := hout c hc e p (List.mem_cons_of_mem _ hp)
    rw [hfr p this, hsz p this]; exact h.1 c hc p hp
  · show (va_up A.tl b [] c).Nodup
    by_cases e : c = b
    · subst e; rw [up_s]; exact List.nodup_nil
    · rw [up_n e]; exact h.2.1 c hc
  · have g3 : (if p ∈ A.tl b then true else A.fr p) = false := g3
    have e : ¬ p ∈ A.tl b := fun w => by rw [if_pos w] at g3; cases g3
    rw [if_neg e] at g3
    obtain ⟨c, hc, hp⟩ := h.2.2.2.1 p g1 g2 g3
    refine ⟨c, hc, ?_⟩
    show p ∈ va_up A.tl b [] c
    rw [up_n (fun w => e (by rw [← w]; exact hp))]; exact hp
  · by_cases e : p ∈ A.ch b
    · rw [hsz0 p e]; decide
    · rw [hsz p e]; exact h.sz4 hp
  · by_cases e : p ∈ A.ch b
    · exact hsz0 p e
    · rw [hfr p e] at g3; rw [hsz p e]; exact h.2.2.2.2.2.1 p g1 g2 g3
  · show flB (A.clr b).sz c (va_up A.tl b [] c)
    by_cases e : c = b
    · subst e; rw [up_s]; trivial
    · rw [up_n e]
      exact flB_congr (f := A.sz) (h.nodup hc) (fun p hp hl => hsz p (hout c hc e p hp)) (h.2.2.2.2.2.2 c hc)
theorem heldL_key {A : AS} {Q : Int32 → Prop} : ∀ (l : List Nat), (∀ p, p ∈ l → ∀ i, i < A.sz p → Q (A.ks (p * 4 + i))) → ∀ kv, kv ∈ A.heldL l → Q kv.1
  | [], _, _, h => by cases h
  | q :: l, hq, kv, h => by
    rcases List.mem_append.mp h with w | w
    · obtain ⟨i, hi, e⟩ := List.mem_map.mp w
      rw [← e]; exact hq q List.mem_cons_self i (List.mem_range.mp hi)
    · exact heldL_key l (fun p hp => hq p (List.mem_cons_of_mem _ hp)) kv w
theorem held_key {A : AS} {b : Nat} (ha : WFa A) (hb : b < A.nb) : ∀ kv, kv ∈ A.held b → A.ad kv.1 = b := heldL_key (Q := fun k => A.ad k = b) (A.ch b) (fun p hp i hi => ha.2.2.2.2 b hb p hp i hi)
theorem lay_snoc (A : AS) (h : EL) (kv : Int32 × Int32) : A.lay (h ++ [kv]) = (A.lay h).add ((A.lay h).ad kv.1) kv.1 kv.2 := by unfold AS.lay; rw [List.foldl_append]; rfl
theorem lay_LS (A : AS) (h : EL) : (A.lay h).L = A.L ∧ (A.lay h).S = A.S := by
  unfold AS.lay
  induction h generalizing A with
  | nil => exact ⟨rfl, rfl⟩
  | cons kv h ih =>
    have := ih (A.add (A.ad kv.1) kv.1 kv.2)
    rw [(add_LS _ _ _ _).1, (add_LS _ _ _ _).2] at this
    exact this
theorem lay_ad (A : AS) (h : EL) (key : Int32) : (A.lay h).ad key = A.ad key := by unfold AS.ad; rw [(lay_LS A h).1, (lay_LS A h).2]
theorem take_succ' {h : EL} {i : Nat} (hi : i < h.length) : h.take (i + 1) = h.take i ++ [h.getD i (0, 0)] := by
  rw [List.take_succ, List.getD_eq_getElem?_getD, List.getElem?_eq_getElem hi]; rfl
theorem getD_mem {h : EL} {i : Nat} (hi : i < h.length) : h.getD i (0, 0) ∈ h := by
  rw [List.getD_eq_getElem?_getD, List.getElem?_eq_getElem hi]; exact List.getElem_mem hi
/-- the state from which growing lays -/
def AS.g0 (A : AS) : AS := (A.clr A.S).setLS (nxL A.L A.S) (nxS A.L A.S)
theorem WFa.S_lt {A : AS} (ha : WFa A) : A.S < A.nb := by
  have := ha.2.1
  unfold AS.nb nbN
  omega
theorem grow_LI {A : AS} (h : WFc A) (ha : WFa A) (hn : A.nb < 64) : LI A.g0 (A.fc + (A.tl A.S).length) A.S A.nb 0 := by
  have hS := ha.S_lt
  have hS64 : A.S < 64 := by omega
  have hne : ¬ A.nb = A.S := by omega
  obtain ⟨c1, c2⟩ := clr_self A A.S
  obtain ⟨d1, d2, d3, -⟩ := clr_other h hS64 hn hne
  obtain ⟨e1, e2⟩ := ha.2.2.2.1 A.nb (Nat.le_refl _) hn
  have e3 : A.cnt A.nb = 0 := by unfold AS.cnt AS.la; rw [e1]; show 0 * 4 + A.sz A.nb = 0; rw [e2]
  refine ⟨WFc_clr h hS64, hS64, hn, fun w => hne w.symm, ?_, ?_⟩
  · show (A.clr A.S).fc + ((A.clr A.S).tl A.S).length + ((A.clr A.S).tl A.nb).length = _
    rw [clr_fc h hS64, c1, d1, e1, List.length_nil, Nat.add_zero]
  · show (A.clr A.S).cnt A.S + (A.clr A.S).cnt A.nb = 0
    rw [c2, d3, e3]
theorem grow_WFa {A : AS} (h : WFc A) (ha : WFa A) (hn : A.nb < 64) : WFa A.g0 := by
  have hS := ha.S_lt
  have hS64 : A.S < 64 := by omega
  obtain ⟨n1, n2⟩ := nx_ok ha.1 ha.2.1 hn
  have hnb : A.g0.nb = A.nb + 1 := nb_next A.L A.S
  refine ⟨n1, n2, by omega, fun b hb hb64 => ?_, fun b hb p hp i hi => ?_⟩
  · have hbS : ¬ b = A.S := by omega
    obtain ⟨d1, d2, -⟩ := clr_other h hS64 hb64 hbS
    obtain ⟨e1, e2⟩ := ha.2.2.2.1 b (by omega) hb64
    exact ⟨d1.trans e1, (d2 b List.mem_cons_self).trans e2⟩
  · have hb64 : b < 64 := by omega
    have hp : p ∈ b :: (A.clr A.S).tl b := hp
    have hi : i < (A.clr A.S).sz p := hi
    have hpS : ¬ p ∈ A.ch A.S := fun w => by rw [show (A.clr A.S).sz p = 0 from if_pos w] at hi; exact absurd hi (Nat.not_lt_zero _)
    have hbS : ¬ b = A.S := fun e => by
      rw [e, (clr_self A A.S).1] at hp
      exact hpS (by rw [List.mem_singleton.mp hp]; exact List.mem_cons_self)
    obtain ⟨d1, d2, -⟩ := clr_other h hS64 hb64 hbS
    rw [d1] at hp
    rw [d2 p hp] at hi
    have hbn : b < A.nb := by
      rcases Nat.lt_or_ge b A.nb with w | w
      · exact w
      · obtain ⟨e1, e2⟩ := ha.2.2.2.1 b w hb64
        rw [e1] at hp
        rw [List.mem_singleton.mp hp, e2] at hi
        exact absurd hi (Nat.not_lt_zero _)
    have h5 := ha.2.2.2.2 b hbn p hp i hi
    show adr (nxL A.L A.S) (nxS A.L A.S) (A.ks (p * 4 + i)) = b
    rw [(adr_next ha.2.1 _).1 (by rw [show adr A.L A.S (A.ks (p * 4 + i)) = b from h5]; exact hbS)]; exact h5
theorem grow_ad {A : AS} (ha : WFa A) : ∀ kv, kv ∈ A.held A.S → A.g0.ad kv.1 = A.S ∨ A.g0.ad kv.1 = A.nb := fun kv hk => by
  rcases (adr_next ha.2.1 kv.1).2 (held_key ha ha.S_lt kv hk) with w | w
  · exact Or.inl w
  · refine Or.inr ?_
    show adr (nxL A.L A.S) (nxS A.L A.S) kv.1 = nbN A.L A.S
    rw [w]; unfold nbN; omega
theorem held_len {A : AS} {b : Nat} (h : WFc A) (hb : b < 64) : (A.held b).length = A.cnt b := by unfold AS.held; rw [heldL_len, h.sum hb]
theorem cnt_le {A : AS} {b : Nat} (h : WFc A) (hb : b < 64) : A.cnt b ≤ 260 := by
  have := h.len hb
  have := h.sz4 (h.la hb)
  unfold AS.cnt; omega
/-- there are pages enough to grow -/
theorem grow_room {A : AS} (h : WFc A) (hb : A.S < 64) : ((A.held A.S).length + 3) / 4 - 1 ≤ A.fc + (A.tl A.S).length := by
  rw [held_len h hb]
  have := h.sz4 (h.la hb)
  unfold AS.cnt; omega
/-- the state from which shrinking lays -/
def AS.s0 (A : AS) : AS := ((A.clr A.st).clr A.go).setLS (pvL A.L A.S) (pvS A.L A.S)
theorem st_go {A : AS} (ha : WFa A) (hn : 4 < A.nb) : A.st < A.go ∧ A.go < A.nb ∧ A.st < 64 ∧ A.go < 64 := by
  obtain ⟨-, p2, -, -, p5, p6⟩ := pv_ok ha.1 ha.2.1 hn
  have := ha.2.2.1
  have hp : 0 < 2 ^ pvL A.L A.S := Nat.pow_pos (by decide)
  unfold AS.st AS.go AS.nb at *
  omega
theorem two_len {A : AS} {s t : Nat} (h : WFc A) (hs : s < 64) (ht : t < 64) (hst : ¬ s = t) : (A.tl s).length + (A.tl t).length ≤ 64 := by
  have h1 : (A.tl s ++ A.tl t).Nodup := List.nodup_append.mpr ⟨h.2.1 s hs, h.2.1 t ht, fun x hx y hy e => hst (h.2.2.1 s t hs ht x hx (by rw [e]; exact hy))⟩
  have h2 := nodup_le h1 64 64 (fun p hp => by
    rcases List.mem_append.mp hp with w | w
    · exact ⟨(h.1 s hs p w).1, (h.1 s hs p w).2.1⟩
    · exact ⟨(h.1 t ht p w).1, (h.1 t ht p w).2.1⟩)
  rw [List.length_append] at h2
  exact h2
theorem shrink_LI {A : AS} (h : WFc A) (ha : WFa A) (hn : 4 < A.nb) : LI A.s0 (A.fc + ((A.tl A.st).length + (A.tl A.go).length)) A.st A.go 0 := by
  obtain ⟨g1, g2, g3, g4⟩ := st_go ha hn
  have hne : ¬ A.go = A.st := by omega
  have h1 := WFc_clr h g3
  obtain ⟨c1, c2⟩ := clr_self A A.st
  obtain ⟨d1, d2, d3, -⟩ := clr_other h g3 g4 hne
  obtain ⟨k1, k2⟩ := clr_self (A.clr A.st) A.go
  obtain ⟨m1, m2, m3, -⟩ := clr_other h1 g4 g3 (fun w => hne w.symm)
  refine ⟨WFc_clr h1 g4, g3, g4, fun w => hne w.symm, ?_, ?_⟩
  · show ((A.clr A.st).clr A.go).fc + (((A.clr A.st).clr A.go).tl A.st).length + (((A.clr A.st).clr A.go).tl A.go).length = _
    rw [clr_fc h1 g4, clr_fc h g3, k1, m1, c1, d1, List.length_nil]
    omega
  · show ((A.clr A.st).clr A.go).cnt A.st + ((A.clr A.st).clr A.go).cnt A.go = 0
    rw [k2, m3, c2]
theorem shrink_ad {A : AS} (ha : WFa A) (hn : 4 < A.nb) {key : Int32} {b : Nat} (hk : A.ad key = b) : (b = A.st ∨ b = A.go → A.s0.ad key = A.st) ∧ (¬ b = A.st → ¬ b = A.go → A.s0.ad key = b) := by
  obtain ⟨p1, p2, p3, p4, p5, p6⟩ := pv_ok ha.1 ha.2.1 hn
  have hx := adr_next p2 key
  rw [p3, p4] at hx
  have hk : adr A.L A.S key = b := hk
  have hlt := adr_lt (pvL A.L A.S) (pvS A.L A.S) key
  show (_ → adr (pvL A.L A.S) (pvS A.L A.S) key = A.st) ∧ (_ → _ → adr (pvL A.L A.S) (pvS A.L A.S) key = b)
  unfold AS.st AS.go AS.nb
  rw [hk] at hx
  constructor
  · intro hb
    by_cases e : adr (pvL A.L A.S) (pvS A.L A.S) key = pvS A.L A.S
    · exact e
    · have := hx.1 e
      rcases hb with hb | hb
      · omega
      · omega
  · intro h1 h2
    by_cases e : adr (pvL A.L A.S) (pvS A.L A.S) key = pvS A.L A.S
    · rcases hx.2 e with w | w
      · exact absurd w h1
      · omega
    · exact (hx.1 e).symm
theorem shrink_WFa {A : AS} (h : WFc A) (ha : WFa A) (hn : 4 < A.nb) : WFa A.s0 := by
  obtain ⟨g1, g2, g3, g4⟩ := st_go ha hn
  obtain ⟨p1, p2, p3, p4, p5, p6⟩ := pv_ok ha.1 ha.2.1 hn
  have hne : ¬ A.go = A.st := by omega
  have h1 := WFc_clr h g3
  have hnb : A.s0.nb + 1 = A.nb := p5
  have hgo : A.go + 1 = A.nb := by unfold AS.go; omega
  have n64 := ha.2.2.1
  refine ⟨p1, p2, by omega, fun b hb hb64 => ?_, fun b hb p hp i hi => ?_⟩
  · by_cases e : b = A.go
    · subst e
      obtain ⟨k1, -⟩ := clr_self (A.clr A.st) A.go
      exact ⟨k1, if_pos (show A.go ∈ (A.clr A.st).ch A.go from List.mem_cons_self)⟩
    · have hbs : ¬ b = A.st := by omega
      obtain ⟨d1, d2, -⟩ := clr_other h g3 hb64 hbs
      obtain ⟨m1, m2, -⟩ := clr_other h1 g4 hb64 e
      obtain ⟨e1, e2⟩ := ha.2.2.2.1 b (by omega) hb64
      exact ⟨m1.trans (d1.trans e1), ((m2 b List.mem_cons_self).trans (d2 b List.mem_cons_self)).trans e2⟩
  · have hb64 : b < 64 := by omega
    have hp : p ∈ b :: ((A.clr A.st).clr A.go).tl b := hp
    have hi : i < ((A.clr A.st).clr A.go).sz p := hi
    have hbg : ¬ b = A.go := by omega
    obtain ⟨m1, m2, -⟩ := clr_other h1 g4 hb64 hbg
    rw [m1] at hp
    rw [m2 p hp] at hi
    have hpS : ¬ p ∈ A.ch A.st := fun w => by rw [show (A.clr A.st).sz p = 0 from if_pos w] at hi; exact absurd hi (Nat.not_lt_zero _)
    have hbS : ¬ b = A.st := fun e => by
      rw [e, (clr_self A A.st).1] at hp
      exact hpS (by rw [List.mem_singleton.mp hp]; exact List.mem_cons_self)
    obtain ⟨d1, d2, -⟩ := clr_other h g3 hb64 hbS
    rw [d1] at hp
    rw [d2 p hp] at hi
    have h5 := ha.2.2.2.2 b (by omega) p hp i hi
    show A.s0.ad (A.ks (p * 4 + i)) = b
    exact (shrink_ad ha hn h5).2 hbS hbg
theorem shrink_key {A : AS} (ha : WFa A) (hn : 4 < A.nb) : ∀ kv, kv ∈ A.held A.st ++ A.held A.go → A.s0.ad kv.1 = A.st := fun kv hk => by
  obtain ⟨g1, g2, g3, g4⟩ := st_go ha hn
  rcases List.mem_append.mp hk with w | w
  · exact (shrink_ad ha hn (held_key ha (by omega) kv w)).1 (Or.inl rfl)
  · exact (shrink_ad ha hn (held_key ha g2 kv w)).1 (Or.inr rfl)
theorem shrink_len {A : AS} (h : WFc A) (ha : WFa A) (hn : 4 < A.nb) : (A.held A.st ++ A.held A.go).length = A.cnt A.st + A.cnt A.go ∧ A.cnt A.st + A.cnt A.go ≤ 264 := by
  obtain ⟨g1, g2, g3, g4⟩ := st_go ha hn
  have := two_len h g3 g4 (by omega)
  have := h.sz4 (h.la g3)
  have := h.sz4 (h.la g4)
  refine ⟨by rw [List.length_append, held_len h g3, held_len h g4], ?_⟩
  unfold AS.cnt; omega
theorem shrink_room {A : AS} (h : WFc A) (ha : WFa A) (hn : 4 < A.nb) (hc : A.can A.st A.go) : ((A.held A.st ++ A.held A.go).length + 3) / 4 - 1 ≤ A.fc + ((A.tl A.st).length + (A.tl A.go).length) := by
  rw [(shrink_len h ha hn).1]
  have e : (A.cnt A.st + A.cnt A.go + 3) / 4 - 1 = A.need A.st A.go := by unfold AS.cnt AS.need; congr 2; omega
  rw [e]; exact hc
/-- one entry is laid -/
theorem RP_add {A : AS} {P P1 : Mem} {k v : Int32} (hr : RP A P) (hm : A.rm (A.ad k)) (h : RC (A.add (A.ad k) k v) P1) (h0 : P1 0 0 = P 0 0) (h1 : P1 0 1 = P 0 1) : RP (A.add (A.ad k) k v) P1 := by
  obtain ⟨l1, l2⟩ := add_LS A (A.ad k) k v
  exact ⟨h, WFa_add hr.1.1 hr.2.1 rfl hm, by rw [h0, l1]; exact hr.2.2.1, by rw [h1, l2]; exact hr.2.2.2⟩
/-! find, set, put, remove -/
theorem fndI_some {ks : Nat → Int32} {key : Int32} {q : Nat} : ∀ (n i c : Nat), fndI ks key q n i = some c → ∃ j, i ≤ j ∧ j < i + n ∧ c = q * 4 + j ∧ ks c = key
  | 0, _, _, h => by cases h
  | n + 1, i, c, h => by
    have h : (if ks (q * 4 + i) = key then some (q * 4 + i) else fndI ks key q n (i + 1)) = some c := h
    by_cases e : ks (q * 4 + i) = key
    · rw [if_pos e] at h
      cases h
      exact ⟨i, Nat.le_refl _, by omega, rfl, e⟩
    · rw [if_neg e] at h
      obtain ⟨j, h1, h2, h3, h4⟩ := fndI_some n (i + 1) c h
      exact ⟨j, by omega, by omega, h3, h4⟩
theorem fndL_some {sz : Nat → Nat} {ks : Nat → Int32} {key : Int32} : ∀ (l : List Nat) (c : Nat), fndL sz ks key l = some c → ∃ p i, p ∈ l ∧ i < sz p ∧ c = p * 4 + i ∧ ks c = key
  | [], _, h => by cases h
  | q :: l, c, h => by
    have h : (match fndI ks key q (sz q) 0 with | some c => some c | none => fndL sz ks key l) = some c := h
    cases e : fndI ks key q (sz q) 0 with
    | some d =>
      rw [e] at h
      cases h
      obtain ⟨j, -, h2, h3, h4⟩ := fndI_some _ _ _ e
      exact ⟨q, j, List.mem_cons_self, by omega, h3, h4⟩
    | none =>
      rw [e] at h
      obtain ⟨p, i, h1, h2, h3, h4⟩ := fndL_some l c h
      exact ⟨p, i, List.mem_cons_of_mem _ h1, h2, h3, h4⟩
theorem fnd_live {A : AS} {key : Int32} {c : Nat} (h : A.fnd key = some c) : A.live (A.ad key) c ∧ A.ks c = key := by
  obtain ⟨p, i, h1, h2, h3, h4⟩ := fndL_some _ _ h
  exact ⟨⟨p, i, h1, h2, h3⟩, h4⟩
theorem live_lt {A : AS} {b c : Nat} (h : WFc A) (hb : b < 64) (hl : A.live b c) : c < 512 := by
  obtain ⟨p, i, h1, h2, h3⟩ := hl
  have := h.page hb h1
  have := h.sz4 this
  omega
theorem fnd_lt {A : AS} {key : Int32} {c : Nat} (h : WFc A) (ha : WFa A) (hf : A.fnd key = some c) : c < 512 := live_lt h (ha.lt key) (fnd_live hf).1
def AS.setV (A : AS) (c : Nat) (v : Int32) : AS := (A.sz, A.tl, A.ks, va_up A.vs c v, A.fr, A.L, A.S)
theorem RP_setV {A : AS} {P : Mem} (hr : RP A P) (c : Nat) (v : Int32) : RP (A.setV c v) (ps P 2 c v) := by
  obtain ⟨⟨h, p1, p2, p3, p4, p5, p6, p7, p8⟩, ha, h0, h1⟩ := hr
  refine ⟨⟨h, p1, p2, p3, p4, p5, p6, p7, fun p hp i hi => ⟨(p8 p hp i hi).1, ?_⟩⟩, ha, h0, h1⟩
  show upd (P 2) c v (p * 4 + i) = va_up A.vs c v (p * 4 + i)
  by_cases e : p * 4 + i = c
  · rw [e, pk_us, up_s]
  · rw [pk_un e, up_n e]; exact (p8 p hp i hi).2
def AS.put (A : AS) (E : Int32) (k v : Int32) : AS × Int32 := match A.fnd k with
  | some c => (A.setV c v, E)
  | none => if 3 * nI A.nb < E + 1 ∧ A.nb < 64 then ((A.add (A.ad k) k v).grow, E + 1) else (A.add (A.ad k) k v, E + 1)
def AS.rem (A : AS) (E : Int32) (k : Int32) : AS × Int32 := match A.fnd k with
  | none => (A, E)
  | some c => if 4 < A.nb ∧ 2 * (E - 1) < 3 * nI A.nb then ((A.del (A.ad k) c).shrink, E - 1) else (A.del (A.ad k) c, E - 1)
theorem del_LS (A : AS) (b c : Nat) : (A.del b c).L = A.L ∧ (A.del b c).S = A.S := by
  unfold AS.del
  split <;> exact ⟨rfl, rfl⟩
theorem WFa_del {A : AS} {b c : Nat} (h : WFc A) (ha : WFa A) (hb : b < A.nb) (hl : A.live b c) : WFa (A.del b c) := by
  have hb64 : b < 64 := Nat.lt_of_lt_of_le hb ha.2.2.1
  have h1 := h.la1 hb64 hl
  obtain ⟨p0, i0, l1, l2, l3⟩ := hl
  obtain ⟨e1, e2⟩ := del_LS A b c
  have hnb : (A.del b c).nb = A.nb := by unfold AS.nb; rw [e1, e2]
  have had : ∀ key, (A.del b c).ad key = A.ad key := fun key => by unfold AS.ad; rw [e1, e2]
  have hq : A.la b ∈ A.ch b := lst_in _ _
  -- what the new state's parts are at most
  have htl : ∀ d, ∀ p, p ∈ (A.del b c).tl d → p ∈ A.tl d := by
    intro d p hp
    unfold AS.del at hp
    by_cases hs : A.sz (A.la b) - 1 = 0 ∧ 64 ≤ A.la b
    · rw [if_pos hs] at hp
      have hp : p ∈ va_up A.tl b (A.tl b).dropLast d := hp
      by_cases e : d = b
      · subst e; rw [up_s] at hp; exact List.dropLast_subset _ hp
      · rw [up_n e] at hp; exact hp
    · rw [if_neg hs] at hp; exact hp
  have hsz : ∀ p, (A.del b c).sz p ≤ A.sz p := by
    intro p
    unfold AS.del
    by_cases hs : A.sz (A.la b) - 1 = 0 ∧ 64 ≤ A.la b
    · rw [if_pos hs]
      show va_up A.sz (A.la b) 0 p ≤ A.sz p
      by_cases e : p = A.la b
      · rw [e, up_s]; omega
      · rw [up_n e]; exact Nat.le_refl _
    · rw [if_neg hs]
      show va_up A.sz (A.la b) (A.sz (A.la b) - 1) p ≤ A.sz p
      by_cases e : p = A.la b
      · rw [e, up_s]; omega
      · rw [up_n e]; exact Nat.le_refl _
  have hks : (A.del b c).ks = va_up A.ks c (A.ks (A.la b * 4 + (A.sz (A.la b) - 1))) := by
    unfold AS.del
    split <;> rfl
  refine ⟨by rw [e1]; exact ha.1, by rw [e1, e2]; exact ha.2.1, by rw [hnb]; exact ha.2.2.1, fun d hd hd64 => ?_, fun d hd p hp i hi => ?_⟩
  · rw [hnb] at hd
    obtain ⟨g1, g2⟩ := ha.2.2.2.1 d hd hd64
    refine ⟨?_, by have := hsz d; omega⟩
    have h3 := htl d
    rw [g1] at h3
    exact List.eq_nil_iff_forall_not_mem.mpr (fun p hp => by cases h3 p hp)
  · rw [hnb] at hd
    rw [had, hks]
    have hp : p ∈ A.ch d := by
      rcases List.mem_cons.mp hp with w | w
      · rw [w]; exact List.mem_cons_self
      · exact List.mem_cons_of_mem _ (htl d p w)
    have hi : i < A.sz p := Nat.lt_of_lt_of_le hi (hsz p)
    by_cases e : p * 4 + i = c
    · rw [e, up_s]
      have hd64 : d < 64 := Nat.lt_of_lt_of_le hd ha.2.2.1
      have hz1 := h.sz4 (h.page hd64 hp)
      have hz2 := h.sz4 (h.page hb64 l1)
      have hpp : p = p0 := by omega
      have hdb : d = b := h.one hd64 hb64 hp (by rw [hpp]; exact l1)
      rw [hdb]
      exact ha.2.2.2.2 b hb _ hq _ (by omega)
    · rw [up_n e]; exact ha.2.2.2.2 d hd p hp i hi
theorem RP_del {A : AS} {P P1 : Mem} {b c : Nat} (hr : RP A P) (hb : b < A.nb) (hl : A.live b c) (h : RC (A.del b c) P1) (h0 : P1 0 0 = P 0 0) (h1 : P1 0 1 = P 0 1) : RP (A.del b c) P1 := by
  obtain ⟨l1, l2⟩ := del_LS A b c
  exact ⟨h, WFa_del hr.1.1 hr.2.1 hb hl, by rw [h0, l1]; exact hr.2.2.1, by rw [h1, l2]; exact hr.2.2.2⟩
