/-! THE STORE, ABSTRACTLY: sizes of pages, tails of chains, keys, values, which spare pages are free, level, split -/
def hsh (key : Int32) : Int32 := (key * (-1640531527)) ^^^ ((key * (-1640531527)).toUInt32 >>> ((15 : Int32).toUInt32 &&& Int32.toUInt32 31)).toInt32
def hN (key : Int32) : Nat := (hsh key).toBitVec.toNat
def adr (L S : Nat) (key : Int32) : Nat := if hN key % 2 ^ (L + 2) < S then hN key % 2 ^ (L + 3) else hN key % 2 ^ (L + 2)
theorem L5 {L : Nat} (h : L ≤ 4) : L = 0 ∨ L = 1 ∨ L = 2 ∨ L = 3 ∨ L = 4 := by omega
theorem adr_m1 {L : Nat} (h : L ≤ 4) : (((4 : Int32) <<< (nI L &&& 31)) - 1).toBitVec.toNat = 2 ^ (L + 2) - 1 := by
  rcases L5 h with rfl | rfl | rfl | rfl | rfl <;> decide
theorem adr_m2 {L : Nat} (h : L ≤ 4) : (((8 : Int32) <<< (nI L &&& 31)) - 1).toBitVec.toNat = 2 ^ (L + 3) - 1 := by
  rcases L5 h with rfl | rfl | rfl | rfl | rfl <;> decide
theorem adr_m3 {L : Nat} (h : L ≤ 4) : (2 * ((4 : Int32) <<< (nI L &&& 31)) - 1).toBitVec.toNat = 2 ^ (L + 3) - 1 := by
  rcases L5 h with rfl | rfl | rfl | rfl | rfl <;> decide
theorem adr_lo (key : Int32) {L : Nat} (h : L ≤ 4) : hsh key &&& (((4 : Int32) <<< (nI L &&& 31)) - 1) = nI (hN key % 2 ^ (L + 2)) := pk_and (hsh key) (L + 2) (adr_m1 h)
theorem adr_hi (key : Int32) {L : Nat} (h : L ≤ 4) : hsh key &&& (((8 : Int32) <<< (nI L &&& 31)) - 1) = nI (hN key % 2 ^ (L + 3)) := pk_and (hsh key) (L + 3) (adr_m2 h)
theorem adr_hi3 (key : Int32) {L : Nat} (h : L ≤ 4) : hsh key &&& (2 * ((4 : Int32) <<< (nI L &&& 31)) - 1) = nI (hN key % 2 ^ (L + 3)) := pk_and (hsh key) (L + 3) (adr_m3 h)
theorem adr_lt2 (key : Int32) {L : Nat} (h : L ≤ 4) : hN key % 2 ^ (L + 2) < 64 := by
  have h1 : hN key % 2 ^ (L + 2) < 2 ^ (L + 2) := Nat.mod_lt _ (Nat.pow_pos (by decide))
  have h2 : 2 ^ (L + 2) ≤ 2 ^ 6 := Nat.pow_le_pow_right (by decide) (by omega)
  omega
theorem adr_t {L S : Nat} {key : Int32} (h4 : L ≤ 4) (h5 : S ≤ 64) (c : nI S ≤ nI (hN key % 2 ^ (L + 2))) : nI (hN key % 2 ^ (L + 2)) = nI (adr L S key) := by
  have h1 := adr_lt2 key h4
  have h2 := (nI_leI (by omega) (by omega)).mp c
  unfold adr
  rw [if_neg (by omega)]
theorem adr_f {L S : Nat} {key : Int32} (h4 : L ≤ 4) (h5 : S ≤ 64) (c : ¬ nI S ≤ nI (hN key % 2 ^ (L + 2))) : nI (hN key % 2 ^ (L + 3)) = nI (adr L S key) := by
  have h1 := adr_lt2 key h4
  have h2 : ¬ S ≤ hN key % 2 ^ (L + 2) := fun q => c (nI_le q (by omega))
  unfold adr
  rw [if_pos (by omega)]
def nbN (L S : Nat) : Nat := 4 * 2 ^ L + S
theorem nb_eq {L S : Nat} (h : L ≤ 4) : ((4 : Int32) <<< (nI L &&& 31)) + nI S = nI (nbN L S) := by
  have e : ((4 : Int32) <<< (nI L &&& 31)) = nI (4 * 2 ^ L) := by rcases L5 h with rfl | rfl | rfl | rfl | rfl <;> decide
  rw [e, nI_add]; rfl
theorem base_eq {L : Nat} (h : L ≤ 4) : ((4 : Int32) <<< (nI L &&& 31)) = nI (4 * 2 ^ L) := by rcases L5 h with rfl | rfl | rfl | rfl | rfl <;> decide
/-- an address lies among the buckets -/
theorem adr_lt (L S : Nat) (key : Int32) : adr L S key < nbN L S := by
  unfold adr nbN
  have h1 : hN key % 2 ^ (L + 2) < 2 ^ (L + 2) := Nat.mod_lt _ (Nat.pow_pos (by decide))
  have e2 : 2 ^ (L + 2) = 4 * 2 ^ L := by rw [Nat.pow_add]; omega
  have e3 : 2 ^ (L + 3) = 2 ^ (L + 2) * 2 := by rw [Nat.pow_succ]
  split
  · rename_i h
    have e4 : hN key % 2 ^ (L + 3) = hN key % 2 ^ (L + 2) + 2 ^ (L + 2) * (hN key / 2 ^ (L + 2) % 2) := by rw [e3]; exact Nat.mod_mul
    have h2 : hN key / 2 ^ (L + 2) % 2 < 2 := Nat.mod_lt _ (by decide)
    rw [e4]
    rcases (show hN key / 2 ^ (L + 2) % 2 = 0 ∨ hN key / 2 ^ (L + 2) % 2 = 1 by omega) with e | e <;> rw [e] <;> omega
  · omega
/-! lists of pages -/
def hdI : List Nat → Int32
  | [] => vNONE
  | q :: _ => nI q
def isCh (f : Nat → Int32) : List Nat → Prop
  | [] => True
  | q :: l => q < 128 ∧ f q = hdI l ∧ isCh f l
def ocI : Option Nat → Int32
  | none => vNONE
  | some c => nI c
def lst : Nat → List Nat → Nat
  | b, [] => b
  | _, q :: l => lst q l
def isAh (f : Nat → Int32) : Nat → List Nat → Prop
  | _, [] => True
  | q, r :: l => f r = nI q ∧ isAh f r l
def flB (sz : Nat → Nat) : Nat → List Nat → Prop
  | _, [] => True
  | q, r :: l => sz q = 4 ∧ flB sz r l
def fndI (ks : Nat → Int32) (key : Int32) (q : Nat) : Nat → Nat → Option Nat
  | 0, _ => none
  | n + 1, i => if ks (q * 4 + i) = key then some (q * 4 + i) else fndI ks key q n (i + 1)
def fndL (sz : Nat → Nat) (ks : Nat → Int32) (key : Int32) : List Nat → Option Nat
  | [] => none
  | q :: l => match fndI ks key q (sz q) 0 with
    | some c => some c
    | none => fndL sz ks key l
def lookL (o : Option Nat) : List Nat → Nat
  | [] => 0
  | q :: l => match o with
    | none => 1 + lookL o l
    | some c => if q = c / 4 then 1 else 1 + lookL o l
def rdL (sz : Nat → Nat) (ks : Nat → Int32) (key : Int32) : List Nat → Nat
  | [] => 0
  | q :: l => match fndI ks key q (sz q) 0 with
    | some _ => 1
    | none => 1 + rdL sz ks key l
def sumL (sz : Nat → Nat) : List Nat → Nat
  | [] => 0
  | q :: l => sz q + sumL sz l
def effL (sz : Nat → Nat) : Nat → List Nat → Nat
  | _, [] => 0
  | k, q :: l => k * sz q + effL sz (k + 1) l
def entL (sz : Nat → Nat) : List Nat → Nat → Option Nat
  | [], _ => none
  | q :: l, i => if i < sz q then some (q * 4 + i) else entL sz l (i - sz q)
/-- the first free page from p on, n of them -/
def lfrF (fr : Nat → Bool) : Nat → Nat → Option Nat
  | 0, _ => none
  | n + 1, p => if fr p = true then some p else lfrF fr n (p + 1)
def frcF (fr : Nat → Bool) : Nat → Nat → Nat
  | 0, _ => 0
  | n + 1, p => (if fr p = true then 1 else 0) + frcF fr n (p + 1)
def smF (f : Nat → Nat) : Nat → Nat → Nat
  | 0, _ => 0
  | n + 1, b => f b + smF f n (b + 1)
def mxF (f : Nat → Nat) : Nat → Nat → Nat → Nat
  | 0, _, m => m
  | n + 1, b, m => mxF f n (b + 1) (if m < f b then f b else m)
def pgF (ch : Nat → List Nat) : Nat → Nat → List Nat
  | 0, _ => []
  | n + 1, b => ch b ++ pgF ch n (b + 1)
/-- the first bucket from b on whose chain has page p -/
def ownF (ch : Nat → List Nat) (p : Nat) : Nat → Nat → Option Nat
  | 0, _ => none
  | n + 1, b => if p ∈ ch b then some b else ownF ch p n (b + 1)
/-! the state -/
abbrev AS : Type := (Nat → Nat) × (Nat → List Nat) × (Nat → Int32) × (Nat → Int32) × (Nat → Bool) × Nat × Nat
def AS.sz (A : AS) : Nat → Nat := A.1
def AS.tl (A : AS) : Nat → List Nat := A.2.1
def AS.ks (A : AS) : Nat → Int32 := A.2.2.1
def AS.vs (A : AS) : Nat → Int32 := A.2.2.2.1
def AS.fr (A : AS) : Nat → Bool := A.2.2.2.2.1
def AS.L (A : AS) : Nat := A.2.2.2.2.2.1
def AS.S (A : AS) : Nat := A.2.2.2.2.2.2
def AS.ch (A : AS) (b : Nat) : List Nat := b :: A.tl b
def AS.nb (A : AS) : Nat := nbN A.L A.S
def AS.ad (A : AS) (key : Int32) : Nat := adr A.L A.S key
def AS.la (A : AS) (b : Nat) : Nat := lst b (A.tl b)
def AS.fnd (A : AS) (key : Int32) : Option Nat := fndL A.sz A.ks key (A.ch (A.ad key))
def AS.lf (A : AS) : Option Nat := lfrF A.fr 64 64
def AS.fc (A : AS) : Nat := frcF A.fr 64 64
def AS.lng (A : AS) : Nat := mxF (fun b => (A.tl b).length + 1) A.nb 0 0
def AS.eff (A : AS) : Nat := smF (fun b => effL A.sz 1 (A.ch b)) A.nb 0
def AS.ent (A : AS) (i : Nat) : Option Nat := entL A.sz (pgF A.ch A.nb 0) i
def AS.own (A : AS) (p : Nat) : Option Nat := ownF A.ch p A.nb 0
/-- the chains are as they must be -/
def WFc (A : AS) : Prop :=
  (∀ b, b < 64 → ∀ p, p ∈ A.tl b → 64 ≤ p ∧ p < 128 ∧ A.fr p = false ∧ 1 ≤ A.sz p) ∧
  (∀ b, b < 64 → (A.tl b).Nodup) ∧
  (∀ b c, b < 64 → c < 64 → ∀ p, p ∈ A.tl b → p ∈ A.tl c → b = c) ∧
  (∀ p, 64 ≤ p → p < 128 → A.fr p = false → ∃ b, b < 64 ∧ p ∈ A.tl b) ∧
  (∀ p, p < 128 → A.sz p ≤ 4) ∧
  (∀ p, 64 ≤ p → p < 128 → A.fr p = true → A.sz p = 0) ∧
  (∀ b, b < 64 → flB A.sz b (A.tl b))
/-- level and split, and where keys stand -/
def WFa (A : AS) : Prop :=
  A.L ≤ 4 ∧ A.S < 4 * 2 ^ A.L ∧ A.nb ≤ 64 ∧
  (∀ b, A.nb ≤ b → b < 64 → A.tl b = [] ∧ A.sz b = 0) ∧
  (∀ b, b < A.nb → ∀ p, p ∈ A.ch b → ∀ i, i < A.sz p → A.ad (A.ks (p * 4 + i)) = b)
/-- the class's arrays hold it -/
def RPc (A : AS) (P : Mem) : Prop :=
  (∀ p, p < 128 → P 3 p = nI (A.sz p)) ∧
  (∀ b, b < 64 → isCh (P 4) (A.ch b)) ∧
  (∀ p, 64 ≤ p → p < 128 → A.fr p = true → P 4 p = vNONE) ∧
  (∀ b, b < 64 → isAh (P 5) b (A.tl b)) ∧
  (∀ b, b < 64 → ∀ p, p ∈ A.tl b → P 6 p = nI b) ∧
  (∀ p, 64 ≤ p → p < 128 → A.fr p = true → P 6 p = vNONE) ∧
  (∀ b, b < 64 → P 7 b = nI (A.la b)) ∧
  (∀ p, p < 128 → ∀ i, i < A.sz p → P 1 (p * 4 + i) = A.ks (p * 4 + i) ∧ P 2 (p * 4 + i) = A.vs (p * 4 + i))
def RC (A : AS) (P : Mem) : Prop := WFc A ∧ RPc A P
def RP (A : AS) (P : Mem) : Prop := RC A P ∧ WFa A ∧ P 0 0 = nI A.L ∧ P 0 1 = nI A.S
/-- the reference's arrays hold it -/
def RMc (A : AS) (M : Mem) : Prop :=
  (∀ p, p < 128 → M 3 p = nI (A.sz p)) ∧
  (∀ b, b < 64 → isCh (M 4) (A.ch b)) ∧
  (∀ p, 64 ≤ p → p < 128 → A.fr p = true → M 4 p = vNONE) ∧
  (∀ p, 64 ≤ p → p < 128 → M 5 p = if A.fr p = true then 1 else 0) ∧
  (∀ p, p < 128 → ∀ i, i < A.sz p → M 1 (p * 4 + i) = A.ks (p * 4 + i) ∧ M 2 (p * 4 + i) = A.vs (p * 4 + i))
def RD (A : AS) (M : Mem) : Prop := WFc A ∧ RMc A M
def RM (A : AS) (M : Mem) : Prop := RD A M ∧ WFa A ∧ M 0 0 = nI A.L ∧ M 0 1 = nI A.S
/-! first rows -/
theorem NONE_nI {p : Nat} (h : p < 2 ^ 31) : ¬ nI p = vNONE := by
  intro e
  have := nI_pos h
  rw [e] at this
  exact this (by decide)
theorem nodup_le {l : List Nat} (h1 : l.Nodup) : ∀ (n a : Nat), (∀ p, p ∈ l → a ≤ p ∧ p < a + n) → l.length ≤ n := by
  intro n a h2
  have h3 : l ⊆ List.range' a n := fun p hp => List.mem_range'_1.mpr (h2 p hp)
  have h4 := (List.nodup_range' (step := 1) (s := a) (n := n) (by decide))
  have := List.Nodup.length_le_of_subset h1 h3
  simpa using this
theorem WFc.len {A : AS} (h : WFc A) {b : Nat} (hb : b < 64) : (A.tl b).length ≤ 64 := nodup_le (h.2.1 b hb) 64 64 (fun p hp => ⟨(h.1 b hb p hp).1, (h.1 b hb p hp).2.1⟩)
theorem WFc.sz4 {A : AS} (h : WFc A) {p : Nat} (hp : p < 128) : A.sz p ≤ 4 := h.2.2.2.2.1 p hp
theorem RC.used {A : AS} {P : Mem} (h : RC A P) {p : Nat} (hp : p < 128) : P 3 p = nI (A.sz p) := h.2.1 p hp
theorem RC.sz4 {A : AS} {P : Mem} (h : RC A P) {p : Nat} (hp : p < 128) : A.sz p ≤ 4 := h.1.sz4 hp
theorem RC.chain {A : AS} {P : Mem} (h : RC A P) {b : Nat} (hb : b < 64) : isCh (P 4) (A.ch b) := h.2.2.1 b hb
theorem RC.len {A : AS} {P : Mem} (h : RC A P) {b : Nat} (hb : b < 64) : (A.ch b).length ≤ 65 := by
  have := h.1.len hb
  show (A.tl b).length + 1 ≤ 65
  omega
theorem RC.last {A : AS} {P : Mem} (h : RC A P) {b : Nat} (hb : b < 64) : P 7 b = nI (A.la b) := h.2.2.2.2.2.2.2.1 b hb
theorem RC.key {A : AS} {P : Mem} (h : RC A P) {p i : Nat} (hp : p < 128) (hi : i < A.sz p) : P 1 (p * 4 + i) = A.ks (p * 4 + i) := (h.2.2.2.2.2.2.2.2 p hp i hi).1
theorem RC.val {A : AS} {P : Mem} (h : RC A P) {p i : Nat} (hp : p < 128) (hi : i < A.sz p) : P 2 (p * 4 + i) = A.vs (p * 4 + i) := (h.2.2.2.2.2.2.2.2 p hp i hi).2
theorem RC.hold {A : AS} {P : Mem} (h : RC A P) {p : Nat} (h1 : 64 ≤ p) (h2 : p < 128) : P 6 p = vNONE ↔ A.fr p = true := by
  constructor
  · intro e
    cases hf : A.fr p with
    | true => rfl
    | false =>
      obtain ⟨b, hb, hp⟩ := h.1.2.2.2.1 p h1 h2 hf
      have h3 := h.2.2.2.2.2.1 b hb p hp
      rw [h3] at e
      exact absurd e (NONE_nI (by omega))
  · exact h.2.2.2.2.2.2.1 p h1 h2
theorem lst_in (b : Nat) (l : List Nat) : lst b l ∈ b :: l := by
  induction l generalizing b with
  | nil => exact List.mem_cons_self
  | cons q l ih => exact List.mem_cons_of_mem _ (ih q)
theorem WFc.page {A : AS} (h : WFc A) {b p : Nat} (hb : b < 64) (hp : p ∈ A.ch b) : p < 128 := by
  rcases List.mem_cons.mp hp with rfl | h1
  · omega
  · exact (h.1 b hb p h1).2.1
theorem WFc.la {A : AS} (h : WFc A) {b : Nat} (hb : b < 64) : A.la b < 128 := h.page hb (lst_in _ _)
theorem RC.la {A : AS} {P : Mem} (h : RC A P) {b : Nat} (hb : b < 64) : A.la b < 128 := h.1.la hb
theorem WFa.lt {A : AS} (h : WFa A) (key : Int32) : A.ad key < 64 := Nat.lt_of_lt_of_le (adr_lt A.L A.S key) h.2.2.1
theorem RP.nb {A : AS} {P : Mem} (h : RP A P) : ((4 : Int32) <<< (P 0 0 &&& 31)) + P 0 1 = nI A.nb := by
  rw [h.2.2.1, h.2.2.2]; exact nb_eq h.2.1.1
theorem RP.nb64 {A : AS} {P : Mem} (h : RP A P) : A.nb ≤ 64 := h.2.1.2.2.1
theorem RP.S64 {A : AS} {P : Mem} (h : RP A P) : A.S ≤ 64 := by
  have := h.nb64
  unfold AS.nb nbN at this
  omega
theorem RP.adlt {A : AS} {P : Mem} (h : RP A P) (key : Int32) : A.ad key < 64 := h.2.1.lt key
theorem fndI_miss {ks : Nat → Int32} {key : Int32} {q n i : Nat} (h : i < n) (hk : ¬ ks (q * 4 + i) = key) : fndI ks key q (n - i) i = fndI ks key q (n - (i + 1)) (i + 1) := by
  rw [show n - i = (n - (i + 1)) + 1 by omega]
  show (if ks (q * 4 + i) = key then _ else _) = _
  rw [if_neg hk]
theorem fndI_hit {ks : Nat → Int32} {key : Int32} {q n i : Nat} (h : i < n) (hk : ks (q * 4 + i) = key) : fndI ks key q (n - i) i = some (q * 4 + i) := by
  rw [show n - i = (n - (i + 1)) + 1 by omega]
  show (if ks (q * 4 + i) = key then _ else _) = _
  rw [if_pos hk]
theorem lfrF_miss {fr : Nat → Bool} {p : Nat} (h : p < 128) (hf : ¬ fr p = true) : lfrF fr (128 - p) p = lfrF fr (128 - (p + 1)) (p + 1) := by
  rw [show 128 - p = (128 - (p + 1)) + 1 by omega]
  show (if fr p = true then _ else _) = _
  rw [if_neg hf]
theorem lfrF_hit {fr : Nat → Bool} {p : Nat} (h : p < 128) (hf : fr p = true) : lfrF fr (128 - p) p = some p := by
  rw [show 128 - p = (128 - (p + 1)) + 1 by omega]
  show (if fr p = true then _ else _) = _
  rw [if_pos hf]
theorem frcF_step {fr : Nat → Bool} {p : Nat} (h : p < 128) : frcF fr (128 - p) p = (if fr p = true then 1 else 0) + frcF fr (128 - (p + 1)) (p + 1) := by
  rw [show 128 - p = (128 - (p + 1)) + 1 by omega]
  rfl
theorem smF_step {f : Nat → Nat} {n b : Nat} (h : b < n) : smF f (n - b) b = f b + smF f (n - (b + 1)) (b + 1) := by
  rw [show n - b = (n - (b + 1)) + 1 by omega]
  rfl
theorem mxF_step {f : Nat → Nat} {n b m : Nat} (h : b < n) : mxF f (n - b) b m = mxF f (n - (b + 1)) (b + 1) (if m < f b then f b else m) := by
  rw [show n - b = (n - (b + 1)) + 1 by omega]
  rfl
theorem pgF_step {ch : Nat → List Nat} {n b : Nat} (h : b < n) : pgF ch (n - b) b = ch b ++ pgF ch (n - (b + 1)) (b + 1) := by
  rw [show n - b = (n - (b + 1)) + 1 by omega]
  rfl
theorem nI_ite {p : Prop} [Decidable p] {a b : Nat} : (if p then nI a else nI b) = nI (if p then a else b) := by
  split <;> rfl
