/-! the reference: laying, clearing -/
theorem KA.rf (M : Mem) : KA M M := ⟨rfl, rfl, rfl, rfl, rfl, rfl⟩
theorem KA.tr {M N O : Mem} (h1 : KA M N) (h2 : KA N O) : KA M O := ⟨h2.1.trans h1.1, h2.2.1.trans h1.2.1, h2.2.2.1.trans h1.2.2.1, h2.2.2.2.1.trans h1.2.2.2.1, h2.2.2.2.2.1.trans h1.2.2.2.2.1, h2.2.2.2.2.2.trans h1.2.2.2.2.2⟩
theorem RM_add {A : AS} {M M1 : Mem} {k v : Int32} (hr : RM A M) (hm : A.rm (A.ad k)) (h : RD (A.add (A.ad k) k v) M1) (h0 : M1 0 = M 0) : RM (A.add (A.ad k) k v) M1 := by
  obtain ⟨l1, l2⟩ := add_LS A (A.ad k) k v
  exact ⟨h, WFa_add hr.1.1 hr.2.1 rfl hm, by rw [h0, l1]; exact hr.2.2.1, by rw [h0, l2]; exact hr.2.2.2⟩
theorem RM_del {A : AS} {M M1 : Mem} {b c : Nat} (hr : RM A M) (hb : b < A.nb) (hl : A.live b c) (h : RD (A.del b c) M1) (h0 : M1 0 = M 0) : RM (A.del b c) M1 := by
  obtain ⟨l1, l2⟩ := del_LS A b c
  exact ⟨h, WFa_del hr.1.1 hr.2.1 hb hl, by rw [h0, l1]; exact hr.2.2.1, by rw [h0, l2]; exact hr.2.2.2⟩
theorem RM_setV {A : AS} {M : Mem} (hr : RM A M) (c : Nat) (v : Int32) : RM (A.setV c v) (ps M 2 c v) := by
  obtain ⟨⟨h, p1, p2, p3, p4, p5⟩, ha, h0, h1⟩ := hr
  refine ⟨⟨h, p1, p2, p3, p4, fun p hp i hi => ⟨(p5 p hp i hi).1, ?_⟩⟩, ha, h0, h1⟩
  show upd (M 2) c v (p * 4 + i) = va_up A.vs c v (p * 4 + i)
  by_cases e : p * 4 + i = c
  · rw [e, pk_us, up_s]
  · rw [pk_un e, up_n e]; exact (p5 p hp i hi).2
theorem KA_add1 {M : Mem} {k j : Nat} {v : Int32} (hk : 1 ≤ k ∧ k ≤ 5) : KA M (ps M k j v) := by
  have h : ∀ a, ¬ a = k → ps M k j v a = M a := fun a ha => by unfold ps; rw [if_neg ha]
  exact ⟨h 0 (by omega), h 6 (by omega), h 7 (by omega), h 8 (by omega), h 9 (by omega), h 10 (by omega)⟩
theorem RM.valC {A : AS} {M : Mem} (hr : RM A M) {b c : Nat} (hb : b < 64) (hl : A.live b c) : M 2 c = A.vs c := by
  obtain ⟨p, i, h1, h2, rfl⟩ := hl
  exact hr.1.val (hr.1.1.page hb h1) h2
theorem RM.keyC {A : AS} {M : Mem} (hr : RM A M) {b c : Nat} (hb : b < 64) (hl : A.live b c) : M 1 c = A.ks c := by
  obtain ⟨p, i, h1, h2, rfl⟩ := hl
  exact hr.1.key (hr.1.1.page hb h1) h2
/-- the new store -/
theorem A0_WFc : WFc A0 := by
  refine ⟨fun b hb p hp => ?_, fun b hb => List.nodup_nil, fun b c hb hc p hp => ?_, fun p h1 h2 h3 => ?_, fun p hp => Nat.zero_le _, fun p h1 h2 h3 => rfl, fun b hb => trivial⟩
  · cases hp
  · cases hp
  · have h4 : decide (64 ≤ p) = false := h3
    simp at h4; omega
theorem A0_WFa : WFa A0 := ⟨Nat.zero_le _, by decide, by decide, fun b h1 h2 => ⟨rfl, rfl⟩, fun b hb p hp i hi => absurd hi (Nat.not_lt_zero _)⟩
theorem A0_RM {M : Mem} (h3 : ∀ q, q < 128 → M 3 q = 0 ∧ M 4 q = vNONE ∧ M 5 q = if 64 ≤ q then 1 else 0) (h0 : M 0 0 = 0) (h1 : M 0 1 = 0) : RM A0 M := by
  refine ⟨⟨A0_WFc, fun p hp => (h3 p hp).1, fun b hb => ⟨by omega, (h3 b (by omega)).2.1, trivial⟩, fun p g1 g2 _ => (h3 p g2).2.1, fun p g1 g2 => ?_, fun p hp i hi => absurd hi (Nat.not_lt_zero _)⟩, A0_WFa, h0, h1⟩
  rw [(h3 p g2).2.2, if_pos g1, show A0.fr p = true from decide_eq_true g1, if_pos rfl]
theorem A0_RP {P : Mem} (h3 : ∀ q, q < 128 → P 3 q = 0 ∧ P 4 q = vNONE ∧ P 6 q = vNONE) (h7 : ∀ b, b < 64 → P 7 b = nI b) (h0 : P 0 0 = 0) (h1 : P 0 1 = 0) : RP A0 P :=
  ⟨⟨A0_WFc, fun p hp => (h3 p hp).1, fun b hb => ⟨by omega, (h3 b (by omega)).2.1, trivial⟩, fun p g1 g2 _ => (h3 p g2).2.1, fun b hb => trivial, fun b hb p hp => (by cases hp), fun p g1 g2 _ => (h3 p g2).2.2, h7, fun p hp i hi => absurd hi (Nat.not_lt_zero _)⟩, A0_WFa, h0, h1⟩
theorem need_eq (A : AS) (s t : Nat) : A.need s t = (A.cnt t + A.cnt s + 3) / 4 - 1 := by unfold AS.cnt AS.need; congr 2; omega
