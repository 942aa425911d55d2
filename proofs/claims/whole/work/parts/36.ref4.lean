/-! the reference's calls -/
theorem RM_same {A : AS} {M M1 : Mem} (h : RM A M) (h1 : M1 1 = M 1) (h2 : M1 2 = M 2) (h3 : M1 3 = M 3) (h4 : M1 4 = M 4) (h5 : M1 5 = M 5) (h00 : M1 0 0 = M 0 0) (h01 : M1 0 1 = M 0 1) : RM A M1 := by
  obtain ⟨⟨h, p1, p2, p3, p4, p5⟩, ha, g0, g1⟩ := h
  exact ⟨⟨h, by rw [h3]; exact p1, by rw [h4]; exact p2, by rw [h4]; exact p3, by rw [h5]; exact p4, by rw [h1, h2]; exact p5⟩, ha, h00.trans g0, h01.trans g1⟩
theorem RY_get {T : TS} {M M1 : Mem} {x : Int32} (hy : RY T M) (h : ∀ a, 1 ≤ a → M1 a = M a) (h0 : ∀ j, ¬ j = 8 → M1 0 j = M 0 j) (h8 : M1 0 8 = x) : RY (T.kl, T.w, T.gs, T.op, x) M1 := by
  obtain ⟨y1, y2, y3, y4, y5, y6, y7, y8, y9, y10, y11⟩ := hy
  refine ⟨RM_same y1 (h 1 (by decide)) (h 2 (by decide)) (h 3 (by decide)) (h 4 (by decide)) (h 5 (by decide)) (h0 0 (by decide)) (h0 1 (by decide)), (h0 2 (by decide)).trans y2, (h0 3 (by decide)).trans y3, (h0 4 (by decide)).trans y4, fun i hi => ?_, (h0 5 (by decide)).trans y6, fun i hi => ?_, (h0 6 (by decide)).trans y8, fun k hk => (h0 7 (by decide)).trans (y9 k hk), h8, y11⟩
  · rw [h 6 (by decide), h 7 (by decide)]; exact y5 i hi
  · rw [h 8 (by decide)]; exact y7 i hi
def gvA (A : AS) : Option Nat → Int32
  | none => vNONE
  | some c => A.vs c
theorem aGet_fst {T : TS} {k : Int32} {o : Option Nat} (h : T.A.fnd k = o) : (aGet T k).1 = gvA T.A o := by
  subst h
  unfold aGet
  cases T.A.fnd k <;> rfl
theorem aGet_snd {T : TS} {k : Int32} {n : Nat} (h : WFc T.A) (ha : WFa T.A) (hn : rdL T.A.sz T.A.ks k (T.A.ch (T.A.ad k)) = n) : (aGet T k).2 = (T.kl, T.w, T.gs, T.op, T.rd + nI n) := by
  have := look_rd (ks := T.A.ks) (key := k) (fun p hp => h.sz4 hp) (T.A.ch (T.A.ad k)) (h.nodup (ha.lt k)) (fun p hp => h.page (ha.lt k) hp)
  unfold aGet
  show (T.kl, T.w, T.gs, T.op, T.rd + nI (lookL (fndL T.A.sz T.A.ks k (T.A.ch (T.A.ad k))) (T.A.ch (T.A.ad k)))) = _
  rw [this, hn]
theorem rdL_hit {sz : Nat → Nat} {ks : Nat → Int32} {key : Int32} {q c : Nat} {l : List Nat} (h : fndI ks key q (sz q) 0 = some c) : rdL sz ks key (q :: l) = 1 := by
  show (match fndI ks key q (sz q) 0 with | some _ => 1 | none => 1 + rdL sz ks key l) = 1
  rw [h]
theorem rdL_miss {sz : Nat → Nat} {ks : Nat → Int32} {key : Int32} {q : Nat} {l : List Nat} (h : fndI ks key q (sz q) 0 = none) : rdL sz ks key (q :: l) = 1 + rdL sz ks key l := by
  show (match fndI ks key q (sz q) 0 with | some _ => 1 | none => 1 + rdL sz ks key l) = _
  rw [h]
theorem fndL_hit {sz : Nat → Nat} {ks : Nat → Int32} {key : Int32} {q c : Nat} {l : List Nat} (h : fndI ks key q (sz q) 0 = some c) : fndL sz ks key (q :: l) = some c := by
  show (match fndI ks key q (sz q) 0 with | some c => some c | none => fndL sz ks key l) = some c
  rw [h]
theorem fndL_miss {sz : Nat → Nat} {ks : Nat → Int32} {key : Int32} {q : Nat} {l : List Nat} (h : fndI ks key q (sz q) 0 = none) : fndL sz ks key (q :: l) = fndL sz ks key l := by
  show (match fndI ks key q (sz q) 0 with | some c => some c | none => fndL sz ks key l) = _
  rw [h]
theorem log_take (T : TS) (s : Nat) : T.log.take (T.kl.length + s) = T.kl ++ T.w.take s := by
  unfold TS.log
  rw [List.take_append, List.take_of_length_le (by omega), Nat.add_sub_cancel_left]
theorem WT_cut {T : TS} (h : WT T) : WT (T.kl, T.w.take T.gs.sum, T.gs, none, T.rd) := by
  have hg := h.gl
  refine ⟨OKL_pre h.1 _, ?_, ?_, h.2.2.2⟩
  · show (T.w.take T.gs.sum).length = T.gs.sum + 0
    rw [List.length_take]; omega
  · show (T.w.take T.gs.sum).length ≤ 64
    rw [List.length_take]; omega
theorem WT_kept {T : TS} (h : WT T) (s : Nat) : WT (T.kl ++ T.w.take s, [], [], none, T.rd) := by
  refine ⟨?_, rfl, Nat.zero_le _, fun g hg => by cases hg⟩
  show OKL ((T.kl ++ T.w.take s) ++ [])
  rw [List.append_nil]; exact OKL_pre h.1 _
theorem RY_cut {T : TS} {M M1 : Mem} {k w : List LE} {gs : List Nat} {x : Int32} (hy : RY T M) {n : Nat} (hn : T.log.take n = k ++ w) (hnl : n ≤ T.log.length) (h1 : RM (sto (T.log.take n)).1 M1) (h2 : M1 0 2 = (sto (T.log.take n)).2) (h3 : M1 0 3 = nI n) (h6 : M1 6 = M 6) (h7 : M1 7 = M 7) (h4 : M1 0 4 = nI k.length) (h5 : M1 0 5 = nI gs.length) (h8 : ∀ i, i < gs.length → M1 8 i = nI (gs.getD i 0)) (h06 : M1 0 6 = 0) (h08 : M1 0 8 = x) (hw : WT (k, w, gs, none, x)) : RY (k, w, gs, none, x) M1 := by
  obtain ⟨y1, y2, y3, y4, y5, y6, y7, y8, y9, y10, y11⟩ := hy
  refine ⟨?_, ?_, ?_, h4, ?_, h5, h8, h06, fun k hk => (by cases hk), h08, hw⟩
  · show RM (sto (k ++ w)).1 M1
    rw [← hn]; exact h1
  · show M1 0 2 = (sto (k ++ w)).2
    rw [← hn]; exact h2
  · show M1 0 3 = nI (k ++ w).length
    rw [← hn, List.length_take, Nat.min_eq_left hnl]; exact h3
  · show RYl M1 (k ++ w)
    rw [← hn]; exact RYl_take y5 h6 h7
theorem aBucket_out2 {A : AS} {p what : Int32} (hn : A.nb ≤ 64) (h : inI (nI A.nb) p = 0) : aBucket A p what = vBAD := by
  refine aBucket_out hn ?_
  unfold inI at h
  by_cases h1 : p < 0
  · exact Or.inl h1
  · rw [if_neg h1] at h
    by_cases h2 : nI A.nb ≤ p
    · exact Or.inr (Int32.not_lt.mpr h2)
    · rw [if_neg h2] at h; exact absurd h (by decide)
theorem sw_neg {what : Int32} (h : what < 0) (n : Nat) : ¬ (0 ≤ what.toInt ∧ what.toInt ≤ (n : Int)) := fun w => by
  have := Int32.lt_iff_toInt_lt.mp h
  simp at this
  omega
theorem sw_big {what : Int32} {n : Nat} (hn : n < 2 ^ 31) (h : ¬ what ≤ nI n) : ¬ (0 ≤ what.toInt ∧ what.toInt ≤ (n : Int)) := fun w => h (by
  rw [Int32.le_iff_toInt_le, nI_toInt hn]
  exact w.2)
theorem RD.lk {A : AS} {M : Mem} (h : RD A M) {q : Nat} (hq : q < 128) : M 4 q = A.lk q := lk_of h.1 h.2.2.1 h.2.2.2.1 hq
theorem entL_hit {sz : Nat → Nat} {l : List Nat} {q i : Nat} (h : i < sz q) : entL sz (q :: l) i = some (q * 4 + i) := by
  show (if i < sz q then _ else _) = _
  rw [if_pos h]
theorem ownF_hit {ch : Nat → List Nat} {p n b : Nat} (hb : b < n) (h : p ∈ ch b) : ownF ch p (n - b) b = some b := by
  rw [show n - b = (n - (b + 1)) + 1 by omega]
  show (if p ∈ ch b then _ else _) = _
  rw [if_pos h]
theorem ownF_miss {ch : Nat → List Nat} {p n b : Nat} (hb : b < n) (h : ¬ p ∈ ch b) : ownF ch p (n - b) b = ownF ch p (n - (b + 1)) (b + 1) := by
  rw [show n - b = (n - (b + 1)) + 1 by omega]
  show (if p ∈ ch b then _ else _) = _
  rw [if_neg h]
