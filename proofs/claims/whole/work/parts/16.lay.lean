/-! growing and shrinking, abstractly -/
def AS.setLS (A : AS) (L S : Nat) : AS := (A.sz, A.tl, A.ks, A.vs, A.fr, L, S)
def AS.lay (A : AS) (h : EL) : AS := h.foldl (fun B kv => B.add (B.ad kv.1) kv.1 kv.2) A
def AS.layTo (A : AS) (b : Nat) (h : EL) : AS := h.foldl (fun B kv => B.add b kv.1 kv.2) A
def nxL (L S : Nat) : Nat := if S + 1 = 4 * 2 ^ L then L + 1 else L
def nxS (L S : Nat) : Nat := if S + 1 = 4 * 2 ^ L then 0 else S + 1
def pvL (L S : Nat) : Nat := if S = 0 then L - 1 else L
def pvS (L S : Nat) : Nat := if S = 0 then 4 * 2 ^ (L - 1) - 1 else S - 1
def AS.grow (A : AS) : AS := ((A.clr A.S).setLS (nxL A.L A.S) (nxS A.L A.S)).lay (A.held A.S)
/-- the bucket that goes -/
def AS.go (A : AS) : Nat := A.nb - 1
def AS.st (A : AS) : Nat := pvS A.L A.S
def AS.shrink (A : AS) : AS :=
  if A.can A.st A.go then (((A.clr A.st).clr A.go).setLS (pvL A.L A.S) (pvS A.L A.S)).lay (A.held A.st ++ A.held A.go) else A
theorem p2 (L : Nat) : 2 ^ (L + 2) = 4 * 2 ^ L := by rw [Nat.pow_add]; omega
theorem p3 (L : Nat) : 2 ^ (L + 3) = 2 * (4 * 2 ^ L) := by rw [Nat.pow_succ, p2]; omega
theorem mod2 (n m : Nat) (h : 0 < m) : n % (2 * m) = n % m ∨ n % (2 * m) = n % m + m := by
  have h1 : n % (m * 2) = n % m + m * (n / m % 2) := Nat.mod_mul
  have h2 : n / m % 2 < 2 := Nat.mod_lt _ (by decide)
  rw [Nat.mul_comm 2 m, h1]
  rcases (show n / m % 2 = 0 ∨ n / m % 2 = 1 by omega) with e | e <;> rw [e] <;> omega
theorem mod2m (n m : Nat) : n % (2 * m) % m = n % m := by rw [Nat.mul_comm 2 m]; exact Nat.mod_mul_right_mod n m 2
theorem adr_next {L S : Nat} (hS : S < 4 * 2 ^ L) (key : Int32) : (¬ adr L S key = S → adr (nxL L S) (nxS L S) key = adr L S key) ∧ (adr L S key = S → adr (nxL L S) (nxS L S) key = S ∨ adr (nxL L S) (nxS L S) key = S + 4 * 2 ^ L) := by
  have hpos : 0 < 4 * 2 ^ L := by omega
  have ha : hN key % 2 ^ (L + 2) < 4 * 2 ^ L := by rw [p2]; exact Nat.mod_lt _ hpos
  have h3 := mod2 (hN key) (4 * 2 ^ L) hpos
  have h4 := mod2m (hN key) (4 * 2 ^ L)
  have e0 : adr L S key = if hN key % (4 * 2 ^ L) < S then hN key % (2 * (4 * 2 ^ L)) else hN key % (4 * 2 ^ L) := by unfold adr; rw [p2, p3]
  rw [p2] at ha
  rw [e0]
  by_cases e : S + 1 = 4 * 2 ^ L
  · have e1 : adr (nxL L S) (nxS L S) key = hN key % (2 * (4 * 2 ^ L)) := by
      unfold adr nxL nxS
      rw [if_pos e, if_pos e, if_neg (Nat.not_lt_zero _), show 2 ^ (L + 1 + 2) = 2 * (4 * 2 ^ L) from p3 L]
    rw [e1]
    generalize hN key % (2 * (4 * 2 ^ L)) = c at *
    generalize hN key % (4 * 2 ^ L) = a at *
    constructor
    · intro h
      by_cases h5 : a < S
      · rw [if_pos h5]
      · rw [if_neg h5] at h; omega
    · intro h
      by_cases h5 : a < S
      · rw [if_pos h5] at h; exact Or.inl h
      · rw [if_neg h5] at h
        rcases h3 with h3 | h3
        · exact Or.inl (by omega)
        · exact Or.inr (by omega)
  · have e1 : adr (nxL L S) (nxS L S) key = if hN key % (4 * 2 ^ L) < S + 1 then hN key % (2 * (4 * 2 ^ L)) else hN key % (4 * 2 ^ L) := by
      unfold adr nxL nxS
      rw [if_neg e, if_neg e, p2, p3]
    rw [e1]
    generalize hN key % (2 * (4 * 2 ^ L)) = c at *
    generalize hN key % (4 * 2 ^ L) = a at *
    constructor
    · intro h
      by_cases h5 : a < S
      · rw [if_pos h5, if_pos (by omega)]
      · rw [if_neg h5] at h ⊢
        rw [if_neg (by omega)]
    · intro h
      by_cases h5 : a < S
      · rw [if_pos h5] at h
        rw [if_pos (by omega)]
        exact Or.inl h
      · rw [if_neg h5] at h
        rw [if_pos (by omega)]
        rcases h3 with h3 | h3
        · exact Or.inl (by omega)
        · exact Or.inr (by omega)
theorem nb_next (L S : Nat) : nbN (nxL L S) (nxS L S) = nbN L S + 1 := by
  unfold nbN nxL nxS
  by_cases e : S + 1 = 4 * 2 ^ L
  · rw [if_pos e, if_pos e, Nat.pow_succ]; omega
  · rw [if_neg e, if_neg e]; omega
theorem nx_ok {L S : Nat} (h4 : L ≤ 4) (hS : S < 4 * 2 ^ L) (hn : nbN L S < 64) : nxL L S ≤ 4 ∧ nxS L S < 4 * 2 ^ nxL L S := by
  unfold nbN at hn
  unfold nxL nxS
  rcases L5 h4 with rfl | rfl | rfl | rfl | rfl <;> (split <;> (refine ⟨by omega, ?_⟩ <;> omega))
theorem pv_ok {L S : Nat} (h4 : L ≤ 4) (hS : S < 4 * 2 ^ L) (hn : 4 < nbN L S) : pvL L S ≤ 4 ∧ pvS L S < 4 * 2 ^ pvL L S ∧ nxL (pvL L S) (pvS L S) = L ∧ nxS (pvL L S) (pvS L S) = S ∧ nbN (pvL L S) (pvS L S) + 1 = nbN L S ∧ pvS L S + 4 * 2 ^ pvL L S + 1 = nbN L S := by
  unfold nbN at *
  unfold pvL pvS nxL nxS
  by_cases e : S = 0
  · subst e
    rcases L5 h4 with rfl | rfl | rfl | rfl | rfl
    · omega
    all_goals decide
  · rw [if_neg e, if_neg e, if_neg (by omega), if_neg (by omega)]
    exact ⟨h4, by omega, rfl, by omega, by omega, by omega⟩
/-! what adding does to the count of free pages -/
theorem frcF_up {fr : Nat → Bool} {r : Nat} {x : Bool} : ∀ (n p : Nat), ¬ (p ≤ r ∧ r < p + n) → frcF (va_up fr r x) n p = frcF fr n p
  | 0, _, _ => rfl
  | n + 1, p, h => by
    show (if va_up fr r x p = true then 1 else 0) + frcF (va_up fr r x) n (p + 1) = (if fr p = true then 1 else 0) + frcF fr n (p + 1)
    rw [up_n (by omega), frcF_up n (p + 1) (by omega)]
theorem frcF_take {fr : Nat → Bool} {r : Nat} : ∀ (n p : Nat), p ≤ r → r < p + n → fr r = true → frcF (va_up fr r false) n p + 1 = frcF fr n p
  | 0, _, _, _, _ => by omega
  | n + 1, p, h1, h2, h3 => by
    show (if va_up fr r false p = true then 1 else 0) + frcF (va_up fr r false) n (p + 1) + 1 = (if fr p = true then 1 else 0) + frcF fr n (p + 1)
    by_cases e : p = r
    · subst e
      rw [up_s, frcF_up n (p + 1) (by omega), if_pos h3, if_neg (by simp)]; omega
    · rw [up_n (fun w => e w), Nat.add_assoc, frcF_take n (p + 1) (by omega) (by omega) h3]
theorem frcF_pos {fr : Nat → Bool} : ∀ (n p : Nat), 0 < frcF fr n p → ¬ lfrF fr n p = none
  | 0, _, h => absurd h (Nat.lt_irrefl _)
  | n + 1, p, h => by
    have h : 0 < (if fr p = true then 1 else 0) + frcF fr n (p + 1) := h
    show ¬ (if fr p = true then some p else lfrF fr n (p + 1)) = none
    by_cases e : fr p = true
    · rw [if_pos e]; simp
    · rw [if_neg e] at h ⊢; exact frcF_pos n (p + 1) (by omega)
theorem frcF_zero {fr : Nat → Bool} : ∀ (n p : Nat), frcF fr n p = 0 → lfrF fr n p = none
  | 0, _, _ => rfl
  | n + 1, p, h => by
    have h : (if fr p = true then 1 else 0) + frcF fr n (p + 1) = 0 := h
    show (if fr p = true then some p else lfrF fr n (p + 1)) = none
    by_cases e : fr p = true
    · rw [if_pos e] at h; omega
    · rw [if_neg e] at h ⊢; exact frcF_zero n (p + 1) (by omega)
/-- one more entry at a bucket with room -/
def AS.rm (A : AS) (b : Nat) : Prop := A.sz (A.la b) < 4 ∨ ¬ A.lf = none
theorem rm_some {A : AS} {b : Nat} (h : A.rm b) (hs : ¬ A.sz (A.la b) < 4) : ∃ r, A.lf = some r := by
  cases e : A.lf with
  | none => exact absurd e (h.resolve_left hs)
  | some r => exact ⟨r, rfl⟩
theorem WFc_add {A : AS} {b : Nat} (h : WFc A) (hb : b < 64) (hr : A.rm b) (k v : Int32) : WFc (A.add b k v) := by
  by_cases hs : A.sz (A.la b) < 4
  · exact WFc_add1 h hb hs k v
  · obtain ⟨r, hf⟩ := rm_some hr hs
    exact WFc_add2 h hb hs hf k v
theorem add_LS (A : AS) (b : Nat) (k v : Int32) : (A.add b k v).L = A.L ∧ (A.add b k v).S = A.S := by
  unfold AS.add
  split
  · exact ⟨rfl, rfl⟩
  · split <;> exact ⟨rfl, rfl⟩
theorem add_cnt {A : AS} {b : Nat} (h : WFc A) (hb : b < 64) (hr : A.rm b) (k v : Int32) : (A.add b k v).cnt b = A.cnt b + 1 ∧ (A.add b k v).fc + ((A.add b k v).tl b).length = A.fc + (A.tl b).length ∧ ∀ c, c < 64 → ¬ c = b → (A.add b k v).cnt c = A.cnt c ∧ (A.add b k v).tl c = A.tl c := by
  by_cases hs : A.sz (A.la b) < 4
  · have e : A.add b k v = (va_up A.sz (A.la b) (A.sz (A.la b) + 1), A.tl, va_up A.ks (A.la b * 4 + A.sz (A.la b)) k, va_up A.vs (A.la b * 4 + A.sz (A.la b)) v, A.fr, A.L, A.S) := by unfold AS.add; rw [if_pos hs]
    rw [e]
    refine ⟨?_, rfl, fun c hc hcb => ⟨?_, rfl⟩⟩
    · show (A.tl b).length * 4 + va_up A.sz (A.la b) (A.sz (A.la b) + 1) (A.la b) = A.cnt b + 1
      rw [up_s]; rfl
    · show (A.tl c).length * 4 + va_up A.sz (A.la b) (A.sz (A.la b) + 1) (A.la c) = A.cnt c
      rw [up_n (fun w => hcb (h.one hc hb (lst_in _ _) (show lst c (A.tl c) ∈ A.ch b from by show A.la c ∈ A.ch b; rw [w]; exact lst_in _ _)))]; rfl
  · obtain ⟨r, hf⟩ := rm_some hr hs
    obtain ⟨r1, r2, r3⟩ := WFc.lf hf
    have hs4 : A.sz (A.la b) = 4 := by have := h.sz4 (h.la hb); omega
    have hrn : ∀ c, c < 64 → ¬ r ∈ A.ch c := fun c hc w => by have := h.nfree hc w r1; rw [r3] at this; cases this
    have e : A.add b k v = (va_up A.sz r 1, va_up A.tl b (A.tl b ++ [r]), va_up A.ks (r * 4) k, va_up A.vs (r * 4) v, va_up A.fr r false, A.L, A.S) := by unfold AS.add; rw [if_neg hs, hf]
    rw [e]
    refine ⟨?_, ?_, fun c hc hcb => ⟨?_, up_n hcb⟩⟩
    · show (va_up A.tl b (A.tl b ++ [r]) b).length * 4 + va_up A.sz r 1 (lst b (va_up A.tl b (A.tl b ++ [r]) b)) = A.cnt b + 1
      rw [up_s, lst_snoc, up_s, List.length_append]
      unfold AS.cnt
      rw [hs4]
      simp; omega
    · show frcF (va_up A.fr r false) 64 64 + (va_up A.tl b (A.tl b ++ [r]) b).length = A.fc + (A.tl b).length
      rw [up_s, List.length_append]
      have := frcF_take (fr := A.fr) (r := r) 64 64 r1 (by omega) r3
      unfold AS.fc
      simp; omega
    · show (va_up A.tl b (A.tl b ++ [r]) c).length * 4 + va_up A.sz r 1 (lst c (va_up A.tl b (A.tl b ++ [r]) c)) = A.cnt c
      rw [up_n hcb, up_n (fun w => hrn c hc (by rw [← w]; exact lst_in _ _))]; rfl
/-- laying entries at two buckets: how many there are, how many pages are left -/
def LI (A : AS) (F s t i : Nat) : Prop := WFc A ∧ s < 64 ∧ t < 64 ∧ ¬ s = t ∧ A.fc + (A.tl s).length + (A.tl t).length = F ∧ A.cnt s + A.cnt t = i
theorem LI_room {A : AS} {F s t i n b : Nat} (h : LI A F s t i) (hi : i < n) (hF : (n + 3) / 4 - 1 ≤ F) (hb : b = s ∨ b = t) : A.rm b := by
  obtain ⟨h1, h2, h3, h4, h5, h6⟩ := h
  by_cases hs : A.sz (A.la b) < 4
  · exact Or.inl hs
  · refine Or.inr (frcF_pos 64 64 ?_)
    have h7 : A.cnt b = (A.tl b).length * 4 + A.sz (A.la b) := rfl
    have h8 : (A.tl s).length * 4 ≤ A.cnt s := Nat.le_add_right _ _
    have h9 : (A.tl t).length * 4 ≤ A.cnt t := Nat.le_add_right _ _
    show 0 < A.fc
    rcases hb with rfl | rfl <;> omega
theorem LI_step {A : AS} {F s t i b : Nat} (h : LI A F s t i) (hb : b = s ∨ b = t) (hr : A.rm b) (k v : Int32) : LI (A.add b k v) F s t (i + 1) := by
  obtain ⟨h1, h2, h3, h4, h5, h6⟩ := h
  have hb64 : b < 64 := by rcases hb with rfl | rfl <;> assumption
  obtain ⟨a1, a2, a3⟩ := add_cnt h1 hb64 hr k v
  refine ⟨WFc_add h1 hb64 hr k v, h2, h3, h4, ?_, ?_⟩
  · rcases hb with rfl | rfl
    · rw [(a3 t h3 (fun w => h4 w.symm)).2]; omega
    · rw [(a3 s h2 h4).2]; omega
  · rcases hb with rfl | rfl
    · rw [a1, (a3 t h3 (fun w => h4 w.symm)).1]; omega
    · rw [a1, (a3 s h2 h4).1]; omega
/-- keys stand where their addresses say -/
theorem WFa_add {A : AS} {b : Nat} {k v : Int32} (h : WFc A) (ha : WFa A) (hb : A.ad k = b) (hr : A.rm b) : WFa (A.add b k v) := by
  have hbn : b < A.nb := by rw [← hb]; exact adr_lt A.L A.S k
  have hb64 : b < 64 := Nat.lt_of_lt_of_le hbn ha.2.2.1
  obtain ⟨l1, l2⟩ := add_LS A b k v
  have hnb : (A.add b k v).nb = A.nb := by unfold AS.nb; rw [l1, l2]
  have had : ∀ key, (A.add b k v).ad key = A.ad key := fun key => by unfold AS.ad; rw [l1, l2]
  refine ⟨by rw [l1]; exact ha.1, by rw [l1, l2]; exact ha.2.1, by rw [hnb]; exact ha.2.2.1, fun c hc hc64 => ?_, fun c hc p hp i hi => ?_⟩
  · rw [hnb] at hc
    obtain ⟨g1, g2⟩ := ha.2.2.2.1 c hc hc64
    have hcb : ¬ c = b := by omega
    by_cases hs : A.sz (A.la b) < 4
    · unfold AS.add; rw [if_pos hs]
      refine ⟨g1, ?_⟩
      show va_up A.sz (A.la b) (A.sz (A.la b) + 1) c = 0
      rw [up_n (fun w => hcb (h.one hc64 hb64 (show c ∈ A.ch c from List.mem_cons_self) (by rw [w]; exact lst_in _ _)))]; exact g2
    · obtain ⟨r, hf⟩ := rm_some hr hs
      obtain ⟨r1, r2, r3⟩ := WFc.lf hf
      unfold AS.add; rw [if_neg hs, hf]
      refine ⟨(up_n hcb).trans g1, ?_⟩
      show va_up A.sz r 1 c = 0
      rw [up_n (by omega)]; exact g2
  · rw [hnb] at hc
    have hc64 : c < 64 := Nat.lt_of_lt_of_le hc ha.2.2.1
    rw [had]
    by_cases hs : A.sz (A.la b) < 4
    · have e : A.add b k v = (va_up A.sz (A.la b) (A.sz (A.la b) + 1), A.tl, va_up A.ks (A.la b * 4 + A.sz (A.la b)) k, va_up A.vs (A.la b * 4 + A.sz (A.la b)) v, A.fr, A.L, A.S) := by unfold AS.add; rw [if_pos hs]
      rw [e] at hp hi ⊢
      have hp : p ∈ A.ch c := hp
      have hi : i < va_up A.sz (A.la b) (A.sz (A.la b) + 1) p := hi
      show A.ad (va_up A.ks (A.la b * 4 + A.sz (A.la b)) k (p * 4 + i)) = c
      have hz := h.sz4 (h.page hc64 hp)
      by_cases e3 : p = A.la b
      · have hcb : c = b := h.one hc64 hb64 hp (by rw [e3]; exact lst_in _ _)
        rw [e3, up_s] at hi
        by_cases e4 : i = A.sz (A.la b)
        · rw [e3, e4, up_s, hb, hcb]
        · rw [e3, up_n (by omega)]
          exact ha.2.2.2.2 c hc _ (by rw [← e3]; exact hp) i (by omega)
      · rw [up_n e3] at hi
        rw [up_n (by omega)]
        exact ha.2.2.2.2 c hc p hp i hi
    · obtain ⟨r, hf⟩ := rm_some hr hs
      obtain ⟨r1, r2, r3⟩ := WFc.lf hf
      have hrn : ∀ c, c < 64 → ¬ r ∈ A.ch c := fun c hc w => by have := h.nfree hc w r1; rw [r3] at this; cases this
      have e : A.add b k v = (va_up A.sz r 1, va_up A.tl b (A.tl b ++ [r]), va_up A.ks (r * 4) k, va_up A.vs (r * 4) v, va_up A.fr r false, A.L, A.S) := by unfold AS.add; rw [if_neg hs, hf]
      rw [e] at hp hi ⊢
      have hp : p ∈ c :: va_up A.tl b (A.tl b ++ [r]) c := hp
      have hi : i < va_up A.sz r 1 p := hi
      show A.ad (va_up A.ks (r * 4) k (p * 4 + i)) = c
      by_cases e3 : p = r
      · subst e3
        rw [up_s] at hi
        have hi0 : i = 0 := by omega
        have hcb : c = b := by
          by_cases e5 : c = b
          · exact e5
          · rw [up_n e5] at hp; exact absurd hp (hrn c hc64)
        rw [hi0, Nat.add_zero, up_s, hb, hcb]
      · rw [up_n e3] at hi
        have hp2 : p ∈ A.ch c := by
          by_cases e5 : c = b
          · subst e5; rw [up_s] at hp
            rcases List.mem_cons.mp hp with w | w
            · rw [w]; exact List.mem_cons_self
            · rcases List.mem_append.mp w with w | w
              · exact List.mem_cons_of_mem _ w
              · exact absurd (List.mem_singleton.mp w) e3
          · rw [up_n e5] at hp; exact hp
        have hz := h.sz4 (h.page hc64 hp2)
        rw [up_n (by omega)]
        exact ha.2.2.2.2 c hc p hp2 i hi
