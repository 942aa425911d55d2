section
-- ===== PART A: goes FIRST, ahead of the names: the tables' words, and 'selects' of the private methods out of them =====
/-- a private method of a class that the tables say can be made, by its rows of tables_1 -/
def lw_okq (q : MethodName × Nat) : Prop := (q.1.cls ≠ "java/lang/invoke/MethodHandle" ∧ q.1.cls ≠ "java/lang/invoke/VarHandle") ∧ Cond.instantiable q.1.cls q.2 ∈ tables_1 ∧ Cond.privateMethod q.1 ∈ tables_1 ∧ Cond.instanceMethod q.1 ∈ tables_1
theorem lw_p0 : lw_okq (⟨"PageBuckets$Pages", "leastFreePage", "()I"⟩, 11) := ⟨⟨by decide +kernel, by decide +kernel⟩, List.mem_of_getElem? (i := 38) (by decide +kernel), List.mem_of_getElem? (i := 163) (by decide +kernel), List.mem_of_getElem? (i := 164) (by decide +kernel)⟩
theorem lw_p1 : lw_okq (⟨"PageBuckets", "write", "(III)V"⟩, 5) := ⟨⟨by decide +kernel, by decide +kernel⟩, List.mem_of_getElem? (i := 10) (by decide +kernel), List.mem_of_getElem? (i := 173) (by decide +kernel), List.mem_of_getElem? (i := 174) (by decide +kernel)⟩
theorem lw_p2 : lw_okq (⟨"PageBuckets$Pages", "append", "(III)V"⟩, 11) := ⟨⟨by decide +kernel, by decide +kernel⟩, List.mem_of_getElem? (i := 38) (by decide +kernel), List.mem_of_getElem? (i := 182) (by decide +kernel), List.mem_of_getElem? (i := 183) (by decide +kernel)⟩
theorem lw_p3 : lw_okq (⟨"PageBuckets$Pages", "linkNewPage", "(II)I"⟩, 11) := ⟨⟨by decide +kernel, by decide +kernel⟩, List.mem_of_getElem? (i := 38) (by decide +kernel), List.mem_of_getElem? (i := 186) (by decide +kernel), List.mem_of_getElem? (i := 187) (by decide +kernel)⟩
theorem lw_p4 : lw_okq (⟨"PageBuckets$Pages", "grow", "()V"⟩, 11) := ⟨⟨by decide +kernel, by decide +kernel⟩, List.mem_of_getElem? (i := 38) (by decide +kernel), List.mem_of_getElem? (i := 194) (by decide +kernel), List.mem_of_getElem? (i := 195) (by decide +kernel)⟩
theorem lw_p5 : lw_okq (⟨"PageBuckets$Pages", "setAside", "(I)V"⟩, 11) := ⟨⟨by decide +kernel, by decide +kernel⟩, List.mem_of_getElem? (i := 38) (by decide +kernel), List.mem_of_getElem? (i := 198) (by decide +kernel), List.mem_of_getElem? (i := 199) (by decide +kernel)⟩
theorem lw_p6 : lw_okq (⟨"PageBuckets$Pages", "clearPage", "(I)V"⟩, 11) := ⟨⟨by decide +kernel, by decide +kernel⟩, List.mem_of_getElem? (i := 38) (by decide +kernel), List.mem_of_getElem? (i := 206) (by decide +kernel), List.mem_of_getElem? (i := 207) (by decide +kernel)⟩
theorem lw_p7 : lw_okq (⟨"PageBuckets$Pages", "setValue", "(II)V"⟩, 11) := ⟨⟨by decide +kernel, by decide +kernel⟩, List.mem_of_getElem? (i := 38) (by decide +kernel), List.mem_of_getElem? (i := 210) (by decide +kernel), List.mem_of_getElem? (i := 211) (by decide +kernel)⟩
theorem lw_p8 : lw_okq (⟨"PageBuckets$Pages", "takeOut", "(II)V"⟩, 11) := ⟨⟨by decide +kernel, by decide +kernel⟩, List.mem_of_getElem? (i := 38) (by decide +kernel), List.mem_of_getElem? (i := 214) (by decide +kernel), List.mem_of_getElem? (i := 215) (by decide +kernel)⟩
theorem lw_p9 : lw_okq (⟨"PageBuckets$Pages", "unlinkLast", "(II)V"⟩, 11) := ⟨⟨by decide +kernel, by decide +kernel⟩, List.mem_of_getElem? (i := 38) (by decide +kernel), List.mem_of_getElem? (i := 218) (by decide +kernel), List.mem_of_getElem? (i := 219) (by decide +kernel)⟩
theorem lw_p10 : lw_okq (⟨"PageBuckets$Pages", "shrink", "()V"⟩, 11) := ⟨⟨by decide +kernel, by decide +kernel⟩, List.mem_of_getElem? (i := 38) (by decide +kernel), List.mem_of_getElem? (i := 222) (by decide +kernel), List.mem_of_getElem? (i := 223) (by decide +kernel)⟩
theorem lw_p11 : lw_okq (⟨"PageBuckets$Pages", "canJoin", "(II)Z"⟩, 11) := ⟨⟨by decide +kernel, by decide +kernel⟩, List.mem_of_getElem? (i := 38) (by decide +kernel), List.mem_of_getElem? (i := 226) (by decide +kernel), List.mem_of_getElem? (i := 227) (by decide +kernel)⟩
theorem lw_p12 : lw_okq (⟨"PageBuckets$Journal", "endGroupHere", "()V"⟩, 8) := ⟨⟨by decide +kernel, by decide +kernel⟩, List.mem_of_getElem? (i := 82) (by decide +kernel), List.mem_of_getElem? (i := 245) (by decide +kernel), List.mem_of_getElem? (i := 246) (by decide +kernel)⟩
theorem lw_p13 : lw_okq (⟨"PageBuckets", "takeBack", "(II)V"⟩, 5) := ⟨⟨by decide +kernel, by decide +kernel⟩, List.mem_of_getElem? (i := 10) (by decide +kernel), List.mem_of_getElem? (i := 303) (by decide +kernel), List.mem_of_getElem? (i := 304) (by decide +kernel)⟩
theorem lw_p14 : lw_okq (⟨"PageBuckets$Journal", "isWrite", "(I)Z"⟩, 8) := ⟨⟨by decide +kernel, by decide +kernel⟩, List.mem_of_getElem? (i := 82) (by decide +kernel), List.mem_of_getElem? (i := 318) (by decide +kernel), List.mem_of_getElem? (i := 319) (by decide +kernel)⟩
theorem lw_p15 : lw_okq (⟨"PageBuckets", "keepCurrent", "()V"⟩, 5) := ⟨⟨by decide +kernel, by decide +kernel⟩, List.mem_of_getElem? (i := 10) (by decide +kernel), List.mem_of_getElem? (i := 335) (by decide +kernel), List.mem_of_getElem? (i := 336) (by decide +kernel)⟩
def lw_privs_1 : List (MethodName × Nat) := [(⟨"PageBuckets$Pages", "leastFreePage", "()I"⟩, 11), (⟨"PageBuckets", "write", "(III)V"⟩, 5), (⟨"PageBuckets$Pages", "append", "(III)V"⟩, 11), (⟨"PageBuckets$Pages", "linkNewPage", "(II)I"⟩, 11), (⟨"PageBuckets$Pages", "grow", "()V"⟩, 11), (⟨"PageBuckets$Pages", "setAside", "(I)V"⟩, 11), (⟨"PageBuckets$Pages", "clearPage", "(I)V"⟩, 11), (⟨"PageBuckets$Pages", "setValue", "(II)V"⟩, 11), (⟨"PageBuckets$Pages", "takeOut", "(II)V"⟩, 11), (⟨"PageBuckets$Pages", "unlinkLast", "(II)V"⟩, 11), (⟨"PageBuckets$Pages", "shrink", "()V"⟩, 11), (⟨"PageBuckets$Pages", "canJoin", "(II)Z"⟩, 11), (⟨"PageBuckets$Journal", "endGroupHere", "()V"⟩, 8), (⟨"PageBuckets", "takeBack", "(II)V"⟩, 5), (⟨"PageBuckets$Journal", "isWrite", "(I)Z"⟩, 8), (⟨"PageBuckets", "keepCurrent", "()V"⟩, 5)]
theorem lw_r1 : ∀ q ∈ lw_privs_1, lw_okq q := List.forall_mem_cons.mpr ⟨lw_p0, List.forall_mem_cons.mpr ⟨lw_p1, List.forall_mem_cons.mpr ⟨lw_p2, List.forall_mem_cons.mpr ⟨lw_p3, List.forall_mem_cons.mpr ⟨lw_p4, List.forall_mem_cons.mpr ⟨lw_p5, List.forall_mem_cons.mpr ⟨lw_p6, List.forall_mem_cons.mpr ⟨lw_p7, List.forall_mem_cons.mpr ⟨lw_p8, List.forall_mem_cons.mpr ⟨lw_p9, List.forall_mem_cons.mpr ⟨lw_p10, List.forall_mem_cons.mpr ⟨lw_p11, List.forall_mem_cons.mpr ⟨lw_p12, List.forall_mem_cons.mpr ⟨lw_p13, List.forall_mem_cons.mpr ⟨lw_p14, List.forall_mem_cons.mpr ⟨lw_p15, fun _ h => absurd h List.not_mem_nil⟩⟩⟩⟩⟩⟩⟩⟩⟩⟩⟩⟩⟩⟩⟩⟩
theorem lw_p16 : lw_okq (⟨"PageBucketsModel", "clear", "()V"⟩, 20) := ⟨⟨by decide +kernel, by decide +kernel⟩, List.mem_of_getElem? (i := 433) (by decide +kernel), List.mem_of_getElem? (i := 439) (by decide +kernel), List.mem_of_getElem? (i := 440) (by decide +kernel)⟩
theorem lw_p17 : lw_okq (⟨"PageBucketsModel", "placeOf", "(I)I"⟩, 20) := ⟨⟨by decide +kernel, by decide +kernel⟩, List.mem_of_getElem? (i := 433) (by decide +kernel), List.mem_of_getElem? (i := 512) (by decide +kernel), List.mem_of_getElem? (i := 513) (by decide +kernel)⟩
theorem lw_p18 : lw_okq (⟨"PageBucketsModel", "addressOf", "(I)I"⟩, 20) := ⟨⟨by decide +kernel, by decide +kernel⟩, List.mem_of_getElem? (i := 433) (by decide +kernel), List.mem_of_getElem? (i := 516) (by decide +kernel), List.mem_of_getElem? (i := 517) (by decide +kernel)⟩
theorem lw_p19 : lw_okq (⟨"PageBucketsModel", "base", "()I"⟩, 20) := ⟨⟨by decide +kernel, by decide +kernel⟩, List.mem_of_getElem? (i := 433) (by decide +kernel), List.mem_of_getElem? (i := 521) (by decide +kernel), List.mem_of_getElem? (i := 522) (by decide +kernel)⟩
theorem lw_p20 : lw_okq (⟨"PageBucketsModel", "lastOf", "(I)I"⟩, 20) := ⟨⟨by decide +kernel, by decide +kernel⟩, List.mem_of_getElem? (i := 433) (by decide +kernel), List.mem_of_getElem? (i := 525) (by decide +kernel), List.mem_of_getElem? (i := 526) (by decide +kernel)⟩
theorem lw_p21 : lw_okq (⟨"PageBucketsModel", "freeOnes", "()I"⟩, 20) := ⟨⟨by decide +kernel, by decide +kernel⟩, List.mem_of_getElem? (i := 433) (by decide +kernel), List.mem_of_getElem? (i := 529) (by decide +kernel), List.mem_of_getElem? (i := 530) (by decide +kernel)⟩
theorem lw_p22 : lw_okq (⟨"PageBucketsModel", "isLogFull", "()Z"⟩, 20) := ⟨⟨by decide +kernel, by decide +kernel⟩, List.mem_of_getElem? (i := 433) (by decide +kernel), List.mem_of_getElem? (i := 534) (by decide +kernel), List.mem_of_getElem? (i := 535) (by decide +kernel)⟩
theorem lw_p23 : lw_okq (⟨"PageBucketsModel", "note", "(II)V"⟩, 20) := ⟨⟨by decide +kernel, by decide +kernel⟩, List.mem_of_getElem? (i := 433) (by decide +kernel), List.mem_of_getElem? (i := 539) (by decide +kernel), List.mem_of_getElem? (i := 540) (by decide +kernel)⟩
theorem lw_p24 : lw_okq (⟨"PageBucketsModel", "write", "(II)V"⟩, 20) := ⟨⟨by decide +kernel, by decide +kernel⟩, List.mem_of_getElem? (i := 433) (by decide +kernel), List.mem_of_getElem? (i := 543) (by decide +kernel), List.mem_of_getElem? (i := 544) (by decide +kernel)⟩
theorem lw_p25 : lw_okq (⟨"PageBucketsModel", "takeOut", "(I)V"⟩, 20) := ⟨⟨by decide +kernel, by decide +kernel⟩, List.mem_of_getElem? (i := 433) (by decide +kernel), List.mem_of_getElem? (i := 547) (by decide +kernel), List.mem_of_getElem? (i := 548) (by decide +kernel)⟩
theorem lw_p26 : lw_okq (⟨"PageBucketsModel", "buckets", "()I"⟩, 20) := ⟨⟨by decide +kernel, by decide +kernel⟩, List.mem_of_getElem? (i := 433) (by decide +kernel), List.mem_of_getElem? (i := 551) (by decide +kernel), List.mem_of_getElem? (i := 552) (by decide +kernel)⟩
theorem lw_p27 : lw_okq (⟨"PageBucketsModel", "shrink", "()V"⟩, 20) := ⟨⟨by decide +kernel, by decide +kernel⟩, List.mem_of_getElem? (i := 433) (by decide +kernel), List.mem_of_getElem? (i := 555) (by decide +kernel), List.mem_of_getElem? (i := 556) (by decide +kernel)⟩
theorem lw_p28 : lw_okq (⟨"PageBucketsModel", "manyIn", "(I)I"⟩, 20) := ⟨⟨by decide +kernel, by decide +kernel⟩, List.mem_of_getElem? (i := 433) (by decide +kernel), List.mem_of_getElem? (i := 559) (by decide +kernel), List.mem_of_getElem? (i := 560) (by decide +kernel)⟩
theorem lw_p29 : lw_okq (⟨"PageBucketsModel", "pagesIn", "(I)I"⟩, 20) := ⟨⟨by decide +kernel, by decide +kernel⟩, List.mem_of_getElem? (i := 433) (by decide +kernel), List.mem_of_getElem? (i := 563) (by decide +kernel), List.mem_of_getElem? (i := 564) (by decide +kernel)⟩
theorem lw_p30 : lw_okq (⟨"PageBucketsModel", "hold", "(I)V"⟩, 20) := ⟨⟨by decide +kernel, by decide +kernel⟩, List.mem_of_getElem? (i := 433) (by decide +kernel), List.mem_of_getElem? (i := 567) (by decide +kernel), List.mem_of_getElem? (i := 568) (by decide +kernel)⟩
theorem lw_p31 : lw_okq (⟨"PageBucketsModel", "layHeld", "()V"⟩, 20) := ⟨⟨by decide +kernel, by decide +kernel⟩, List.mem_of_getElem? (i := 433) (by decide +kernel), List.mem_of_getElem? (i := 571) (by decide +kernel), List.mem_of_getElem? (i := 572) (by decide +kernel)⟩
def lw_privs_2 : List (MethodName × Nat) := [(⟨"PageBucketsModel", "clear", "()V"⟩, 20), (⟨"PageBucketsModel", "placeOf", "(I)I"⟩, 20), (⟨"PageBucketsModel", "addressOf", "(I)I"⟩, 20), (⟨"PageBucketsModel", "base", "()I"⟩, 20), (⟨"PageBucketsModel", "lastOf", "(I)I"⟩, 20), (⟨"PageBucketsModel", "freeOnes", "()I"⟩, 20), (⟨"PageBucketsModel", "isLogFull", "()Z"⟩, 20), (⟨"PageBucketsModel", "note", "(II)V"⟩, 20), (⟨"PageBucketsModel", "write", "(II)V"⟩, 20), (⟨"PageBucketsModel", "takeOut", "(I)V"⟩, 20), (⟨"PageBucketsModel", "buckets", "()I"⟩, 20), (⟨"PageBucketsModel", "shrink", "()V"⟩, 20), (⟨"PageBucketsModel", "manyIn", "(I)I"⟩, 20), (⟨"PageBucketsModel", "pagesIn", "(I)I"⟩, 20), (⟨"PageBucketsModel", "hold", "(I)V"⟩, 20), (⟨"PageBucketsModel", "layHeld", "()V"⟩, 20)]
theorem lw_r2 : ∀ q ∈ lw_privs_2, lw_okq q := List.forall_mem_cons.mpr ⟨lw_p16, List.forall_mem_cons.mpr ⟨lw_p17, List.forall_mem_cons.mpr ⟨lw_p18, List.forall_mem_cons.mpr ⟨lw_p19, List.forall_mem_cons.mpr ⟨lw_p20, List.forall_mem_cons.mpr ⟨lw_p21, List.forall_mem_cons.mpr ⟨lw_p22, List.forall_mem_cons.mpr ⟨lw_p23, List.forall_mem_cons.mpr ⟨lw_p24, List.forall_mem_cons.mpr ⟨lw_p25, List.forall_mem_cons.mpr ⟨lw_p26, List.forall_mem_cons.mpr ⟨lw_p27, List.forall_mem_cons.mpr ⟨lw_p28, List.forall_mem_cons.mpr ⟨lw_p29, List.forall_mem_cons.mpr ⟨lw_p30, List.forall_mem_cons.mpr ⟨lw_p31, fun _ h => absurd h List.not_mem_nil⟩⟩⟩⟩⟩⟩⟩⟩⟩⟩⟩⟩⟩⟩⟩⟩
theorem lw_p32 : lw_okq (⟨"PageBucketsModel", "add", "(III)V"⟩, 20) := ⟨⟨by decide +kernel, by decide +kernel⟩, List.mem_of_getElem? (i := 433) (by decide +kernel), List.mem_of_getElem? (i := 575) (by decide +kernel), List.mem_of_getElem? (i := 576) (by decide +kernel)⟩
theorem lw_p33 : lw_okq (⟨"PageBucketsModel", "grow", "()V"⟩, 20) := ⟨⟨by decide +kernel, by decide +kernel⟩, List.mem_of_getElem? (i := 433) (by decide +kernel), List.mem_of_getElem? (i := 579) (by decide +kernel), List.mem_of_getElem? (i := 580) (by decide +kernel)⟩
theorem lw_p34 : lw_okq (⟨"PageBucketsModel", "again", "(I)V"⟩, 20) := ⟨⟨by decide +kernel, by decide +kernel⟩, List.mem_of_getElem? (i := 433) (by decide +kernel), List.mem_of_getElem? (i := 604) (by decide +kernel), List.mem_of_getElem? (i := 605) (by decide +kernel)⟩
theorem lw_p35 : lw_okq (⟨"PageBucketsModel", "isBucket", "(I)Z"⟩, 20) := ⟨⟨by decide +kernel, by decide +kernel⟩, List.mem_of_getElem? (i := 433) (by decide +kernel), List.mem_of_getElem? (i := 624) (by decide +kernel), List.mem_of_getElem? (i := 625) (by decide +kernel)⟩
theorem lw_p36 : lw_okq (⟨"PageBucketsModel", "ownerOf", "(I)I"⟩, 20) := ⟨⟨by decide +kernel, by decide +kernel⟩, List.mem_of_getElem? (i := 433) (by decide +kernel), List.mem_of_getElem? (i := 635) (by decide +kernel), List.mem_of_getElem? (i := 636) (by decide +kernel)⟩
theorem lw_p37 : lw_okq (⟨"PageBucketsModel", "longest", "()I"⟩, 20) := ⟨⟨by decide +kernel, by decide +kernel⟩, List.mem_of_getElem? (i := 433) (by decide +kernel), List.mem_of_getElem? (i := 655) (by decide +kernel), List.mem_of_getElem? (i := 656) (by decide +kernel)⟩
def lw_privs_3 : List (MethodName × Nat) := [(⟨"PageBucketsModel", "add", "(III)V"⟩, 20), (⟨"PageBucketsModel", "grow", "()V"⟩, 20), (⟨"PageBucketsModel", "again", "(I)V"⟩, 20), (⟨"PageBucketsModel", "isBucket", "(I)Z"⟩, 20), (⟨"PageBucketsModel", "ownerOf", "(I)I"⟩, 20), (⟨"PageBucketsModel", "longest", "()I"⟩, 20)]
theorem lw_r3 : ∀ q ∈ lw_privs_3, lw_okq q := List.forall_mem_cons.mpr ⟨lw_p32, List.forall_mem_cons.mpr ⟨lw_p33, List.forall_mem_cons.mpr ⟨lw_p34, List.forall_mem_cons.mpr ⟨lw_p35, List.forall_mem_cons.mpr ⟨lw_p36, List.forall_mem_cons.mpr ⟨lw_p37, fun _ h => absurd h List.not_mem_nil⟩⟩⟩⟩⟩⟩
def lw_privs : List (MethodName × Nat) := lw_privs_1 ++ (lw_privs_2 ++ (lw_privs_3))
def lw_tbl : List Cond := k2_sels lw_privs ++ tables_1
theorem lw_privs_ok : ∀ q ∈ lw_privs, lw_okq q := by
  show ∀ q ∈ lw_privs_1 ++ (lw_privs_2 ++ (lw_privs_3)), lw_okq q
  exact List.forall_mem_append.mpr ⟨lw_r1, List.forall_mem_append.mpr ⟨lw_r2, lw_r3⟩⟩
end
section
/-! ===== BEGIN words of one list among another's, by their places ===== -/
theorem goodIn_r {big : List Cond} (ws : List Cond) (ps : List Nat) (hp : ws = ps.filterMap (fun i => big[i]?)) (h : ws.all goodWord = true) : GoodIn big ws := by
  intro w hw
  have h1 := List.all_eq_true.mp h w hw
  rw [hp] at hw
  obtain ⟨i, -, hi⟩ := List.mem_filterMap.mp hw
  have hm : w ∈ big := by first | exact List.mem_of_getElem? hi | exact List.getElem?_mem hi
  exact ⟨hm, good_of_word h1⟩
theorem goodIn_app {big a b : List Cond} (ha : GoodIn big a) (hb : GoodIn big b) : GoodIn big (a ++ b) := fun w h => (List.mem_append.mp h).elim (ha w) (hb w)
theorem goodIn_ca {big a b : List Cond} {c : Cond} (ha : GoodIn big (c :: a)) (hb : GoodIn big b) : GoodIn big (c :: (a ++ b)) := fun w h => (List.mem_cons.mp h).elim (fun e => ha w (List.mem_cons.mpr (Or.inl e))) (fun h => (List.mem_append.mp h).elim (fun h => ha w (List.mem_cons.mpr (Or.inr h))) (hb w))
theorem goodIn_sub {big ws : List Cond} (hm : ∀ w ∈ ws, w ∈ big) (h : ws.all goodWord = true) : GoodIn big ws := fun w hw => ⟨hm w hw, good_of_word (List.all_eq_true.mp h w hw)⟩
/-! ===== END ===== -/

/-! ===== BEGIN printed: names, fields, word lists, decode rows ===== -/
def RX0 : String := "PageBuckets$Aside"
def TX0 : u_T := fun k => match k with
  | 0 => ("PageBuckets$Aside", "keys", "[I", true)
  | 1 => ("PageBuckets$Aside", "values", "[I", true)
  | _ => ("PageBuckets$Aside", "size", "I", false)
def tyX0 : Nat → FieldType := fun k => match k with
  | 0 => .array .int
  | 1 => .array .int
  | _ => .int
abbrev wsX00 : List Cond := u_ws RX0 TX0 3
theorem nmX0 : ∀ a, a < 3 → ∀ b, b < 3 → a ≠ b → (TX0 a).2.1 ≠ (TX0 b).2.1 := by decide +kernel
theorem tyX0_ok : ∀ k, k < 3 → parseFieldDescriptor (TX0 k).2.2.1 = some (tyX0 k) := by decide +kernel
abbrev cX0_init : ByteArray := prog_2_method_1_code
def yX0_init : MethodName := ⟨RX0, "<init>", "()V"⟩
abbrev cX0_push : ByteArray := prog_2_method_2_code
def yX0_push : MethodName := ⟨RX0, "push", "(II)V"⟩
def RX1 : String := "PageBuckets$Journal"
def TX1 : u_T := fun k => match k with
  | 0 => ("PageBuckets$Journal", "kinds", "[I", true)
  | 1 => ("PageBuckets$Journal", "keys", "[I", true)
  | 2 => ("PageBuckets$Journal", "values", "[I", true)
  | 3 => ("PageBuckets$Journal", "groupEnds", "[I", true)
  | 4 => ("PageBuckets$Journal", "writes", "I", false)
  | 5 => ("PageBuckets$Journal", "groups", "I", false)
  | 6 => ("PageBuckets$Journal", "open", "Z", false)
  | _ => ("PageBuckets$Journal", "openFrom", "I", false)
def tyX1 : Nat → FieldType := fun k => match k with
  | 0 => .array .int
  | 1 => .array .int
  | 2 => .array .int
  | 3 => .array .int
  | 4 => .int
  | 5 => .int
  | 6 => .boolean
  | _ => .int
abbrev wsX10 : List Cond := u_ws RX1 TX1 8
theorem nmX1 : ∀ a, a < 8 → ∀ b, b < 8 → a ≠ b → (TX1 a).2.1 ≠ (TX1 b).2.1 := by decide +kernel
theorem tyX1_ok : ∀ k, k < 8 → parseFieldDescriptor (TX1 k).2.2.1 = some (tyX1 k) := by decide +kernel
abbrev cX1_init : ByteArray := prog_3_method_1_code
def yX1_init : MethodName := ⟨RX1, "<init>", "()V"⟩
abbrev cX1_isFull : ByteArray := prog_3_method_2_code
def yX1_isFull : MethodName := ⟨RX1, "isFull", "()Z"⟩
abbrev cX1_isOpen : ByteArray := prog_3_method_3_code
def yX1_isOpen : MethodName := ⟨RX1, "isOpen", "()Z"⟩
abbrev cX1_writeCount : ByteArray := prog_3_method_4_code
def yX1_writeCount : MethodName := ⟨RX1, "writeCount", "()I"⟩
abbrev cX1_groupCount : ByteArray := prog_3_method_5_code
def yX1_groupCount : MethodName := ⟨RX1, "groupCount", "()I"⟩
abbrev cX1_openWrites : ByteArray := prog_3_method_6_code
def yX1_openWrites : MethodName := ⟨RX1, "openWrites", "()I"⟩
abbrev cX1_note : ByteArray := prog_3_method_7_code
def yX1_note : MethodName := ⟨RX1, "note", "(III)V"⟩
abbrev cX1_openGroup : ByteArray := prog_3_method_8_code
def yX1_openGroup : MethodName := ⟨RX1, "openGroup", "()V"⟩
abbrev cX1_closeGroup : ByteArray := prog_3_method_9_code
def yX1_closeGroup : MethodName := ⟨RX1, "closeGroup", "()V"⟩
abbrev cX1_dropOpenGroup : ByteArray := prog_3_method_10_code
def yX1_dropOpenGroup : MethodName := ⟨RX1, "dropOpenGroup", "()V"⟩
abbrev cX1_clear : ByteArray := prog_3_method_11_code
def yX1_clear : MethodName := ⟨RX1, "clear", "()V"⟩
abbrev cX1_writesInFirstGroups : ByteArray := prog_3_method_12_code
def yX1_writesInFirstGroups : MethodName := ⟨RX1, "writesInFirstGroups", "(I)I"⟩
abbrev cX1_kindOf : ByteArray := prog_3_method_13_code
def yX1_kindOf : MethodName := ⟨RX1, "kindOf", "(I)I"⟩
abbrev cX1_keyOf : ByteArray := prog_3_method_14_code
def yX1_keyOf : MethodName := ⟨RX1, "keyOf", "(I)I"⟩
abbrev cX1_valueOf : ByteArray := prog_3_method_15_code
def yX1_valueOf : MethodName := ⟨RX1, "valueOf", "(I)I"⟩
abbrev cX1_isWrite : ByteArray := prog_3_method_16_code
def yX1_isWrite : MethodName := ⟨RX1, "isWrite", "(I)Z"⟩
abbrev cX1_endGroupHere : ByteArray := prog_3_method_17_code
def yX1_endGroupHere : MethodName := ⟨RX1, "endGroupHere", "()V"⟩
def RX2 : String := "PageBuckets$Pages"
def TX2 : u_T := fun k => match k with
  | 0 => ("PageBuckets$Pages", "keys", "[I", true)
  | 1 => ("PageBuckets$Pages", "values", "[I", true)
  | 2 => ("PageBuckets$Pages", "used", "[I", true)
  | 3 => ("PageBuckets$Pages", "behind", "[I", true)
  | 4 => ("PageBuckets$Pages", "ahead", "[I", true)
  | 5 => ("PageBuckets$Pages", "holder", "[I", true)
  | 6 => ("PageBuckets$Pages", "last", "[I", true)
  | 7 => ("PageBuckets$Pages", "aside", "LPageBuckets$Aside;", true)
  | 8 => ("PageBuckets$Pages", "level", "I", false)
  | 9 => ("PageBuckets$Pages", "split", "I", false)
  | _ => ("PageBuckets$Pages", "entries", "I", false)
def tyX2 : Nat → FieldType := fun k => match k with
  | 0 => .array .int
  | 1 => .array .int
  | 2 => .array .int
  | 3 => .array .int
  | 4 => .array .int
  | 5 => .array .int
  | 6 => .array .int
  | 7 => .object "PageBuckets$Aside"
  | 8 => .int
  | 9 => .int
  | _ => .int
abbrev wsX20 : List Cond := u_ws RX2 TX2 11
theorem nmX2 : ∀ a, a < 11 → ∀ b, b < 11 → a ≠ b → (TX2 a).2.1 ≠ (TX2 b).2.1 := by decide +kernel
theorem tyX2_ok : ∀ k, k < 11 → parseFieldDescriptor (TX2 k).2.2.1 = some (tyX2 k) := by decide +kernel
abbrev cX2_init : ByteArray := prog_4_method_1_code
def yX2_init : MethodName := ⟨RX2, "<init>", "(LPageBuckets$Aside;)V"⟩
abbrev cX2_copyFrom : ByteArray := prog_4_method_2_code
def yX2_copyFrom : MethodName := ⟨RX2, "copyFrom", "(LPageBuckets$Pages;)V"⟩
abbrev cX2_entryCount : ByteArray := prog_4_method_3_code
def yX2_entryCount : MethodName := ⟨RX2, "entryCount", "()I"⟩
abbrev cX2_levelNumber : ByteArray := prog_4_method_4_code
def yX2_levelNumber : MethodName := ⟨RX2, "levelNumber", "()I"⟩
abbrev cX2_splitNumber : ByteArray := prog_4_method_5_code
def yX2_splitNumber : MethodName := ⟨RX2, "splitNumber", "()I"⟩
abbrev cX2_bucketCount : ByteArray := prog_4_method_6_code
def yX2_bucketCount : MethodName := ⟨RX2, "bucketCount", "()I"⟩
abbrev cX2_addressOf : ByteArray := prog_4_method_7_code
def yX2_addressOf : MethodName := ⟨RX2, "addressOf", "(I)I"⟩
abbrev cX2_keyIn : ByteArray := prog_4_method_8_code
def yX2_keyIn : MethodName := ⟨RX2, "keyIn", "(I)I"⟩
abbrev cX2_valueIn : ByteArray := prog_4_method_9_code
def yX2_valueIn : MethodName := ⟨RX2, "valueIn", "(I)I"⟩
abbrev cX2_entriesOnPage : ByteArray := prog_4_method_10_code
def yX2_entriesOnPage : MethodName := ⟨RX2, "entriesOnPage", "(I)I"⟩
abbrev cX2_pageBehind : ByteArray := prog_4_method_11_code
def yX2_pageBehind : MethodName := ⟨RX2, "pageBehind", "(I)I"⟩
abbrev cX2_bucketOfPage : ByteArray := prog_4_method_12_code
def yX2_bucketOfPage : MethodName := ⟨RX2, "bucketOfPage", "(I)I"⟩
abbrev cX2_lastPage : ByteArray := prog_4_method_13_code
def yX2_lastPage : MethodName := ⟨RX2, "lastPage", "(I)I"⟩
abbrev cX2_pagesInChain : ByteArray := prog_4_method_14_code
def yX2_pagesInChain : MethodName := ⟨RX2, "pagesInChain", "(I)I"⟩
abbrev cX2_entriesInChain : ByteArray := prog_4_method_15_code
def yX2_entriesInChain : MethodName := ⟨RX2, "entriesInChain", "(I)I"⟩
abbrev cX2_freePages : ByteArray := prog_4_method_16_code
def yX2_freePages : MethodName := ⟨RX2, "freePages", "()I"⟩
abbrev cX2_longestChain : ByteArray := prog_4_method_17_code
def yX2_longestChain : MethodName := ⟨RX2, "longestChain", "()I"⟩
abbrev cX2_effortForAll : ByteArray := prog_4_method_18_code
def yX2_effortForAll : MethodName := ⟨RX2, "effortForAll", "()I"⟩
abbrev cX2_cellOfEntry : ByteArray := prog_4_method_19_code
def yX2_cellOfEntry : MethodName := ⟨RX2, "cellOfEntry", "(I)I"⟩
abbrev cX2_find : ByteArray := prog_4_method_20_code
def yX2_find : MethodName := ⟨RX2, "find", "(I)I"⟩
abbrev cX2_pagesLookedAt : ByteArray := prog_4_method_21_code
def yX2_pagesLookedAt : MethodName := ⟨RX2, "pagesLookedAt", "(II)I"⟩
abbrev cX2_hasRoomFor : ByteArray := prog_4_method_22_code
def yX2_hasRoomFor : MethodName := ⟨RX2, "hasRoomFor", "(I)Z"⟩
abbrev cX2_carryOut : ByteArray := prog_4_method_23_code
def yX2_carryOut : MethodName := ⟨RX2, "carryOut", "(III)V"⟩
abbrev cX2_setValue : ByteArray := prog_4_method_24_code
def yX2_setValue : MethodName := ⟨RX2, "setValue", "(II)V"⟩
abbrev cX2_grow : ByteArray := prog_4_method_25_code
def yX2_grow : MethodName := ⟨RX2, "grow", "()V"⟩
abbrev cX2_shrink : ByteArray := prog_4_method_26_code
def yX2_shrink : MethodName := ⟨RX2, "shrink", "()V"⟩
abbrev cX2_canJoin : ByteArray := prog_4_method_27_code
def yX2_canJoin : MethodName := ⟨RX2, "canJoin", "(II)Z"⟩
abbrev cX2_setAside : ByteArray := prog_4_method_28_code
def yX2_setAside : MethodName := ⟨RX2, "setAside", "(I)V"⟩
abbrev cX2_clearPage : ByteArray := prog_4_method_29_code
def yX2_clearPage : MethodName := ⟨RX2, "clearPage", "(I)V"⟩
abbrev cX2_append : ByteArray := prog_4_method_30_code
def yX2_append : MethodName := ⟨RX2, "append", "(III)V"⟩
abbrev cX2_linkNewPage : ByteArray := prog_4_method_31_code
def yX2_linkNewPage : MethodName := ⟨RX2, "linkNewPage", "(II)I"⟩
abbrev cX2_takeOut : ByteArray := prog_4_method_32_code
def yX2_takeOut : MethodName := ⟨RX2, "takeOut", "(II)V"⟩
abbrev cX2_unlinkLast : ByteArray := prog_4_method_33_code
def yX2_unlinkLast : MethodName := ⟨RX2, "unlinkLast", "(II)V"⟩
abbrev cX2_leastFreePage : ByteArray := prog_4_method_34_code
def yX2_leastFreePage : MethodName := ⟨RX2, "leastFreePage", "()I"⟩
abbrev cX2_isBucketPlace : ByteArray := prog_4_method_35_code
def yX2_isBucketPlace : MethodName := ⟨RX2, "isBucketPlace", "(I)Z"⟩
def RX3 : String := "PageBuckets"
def TX3 : u_T := fun k => match k with
  | 0 => ("PageBuckets", "current", "LPageBuckets$Pages;", true)
  | 1 => ("PageBuckets", "kept", "LPageBuckets$Pages;", true)
  | 2 => ("PageBuckets", "journal", "LPageBuckets$Journal;", true)
  | 3 => ("PageBuckets", "pagesRead", "I", false)
  | _ => ("PageBuckets", "writesThatStand", "I", false)
def tyX3 : Nat → FieldType := fun k => match k with
  | 0 => .object "PageBuckets$Pages"
  | 1 => .object "PageBuckets$Pages"
  | 2 => .object "PageBuckets$Journal"
  | 3 => .int
  | _ => .int
abbrev wsX30 : List Cond := u_ws RX3 TX3 5
theorem nmX3 : ∀ a, a < 5 → ∀ b, b < 5 → a ≠ b → (TX3 a).2.1 ≠ (TX3 b).2.1 := by decide +kernel
theorem tyX3_ok : ∀ k, k < 5 → parseFieldDescriptor (TX3 k).2.2.1 = some (tyX3 k) := by decide +kernel
abbrev cX3_init : ByteArray := prog_1_method_1_code
def yX3_init : MethodName := ⟨RX3, "<init>", "()V"⟩
abbrev cX3_put : ByteArray := prog_1_method_2_code
def yX3_put : MethodName := ⟨RX3, "put", "(II)I"⟩
abbrev cX3_remove : ByteArray := prog_1_method_3_code
def yX3_remove : MethodName := ⟨RX3, "remove", "(I)I"⟩
abbrev cX3_get : ByteArray := prog_1_method_4_code
def yX3_get : MethodName := ⟨RX3, "get", "(I)I"⟩
abbrev cX3_begin : ByteArray := prog_1_method_5_code
def yX3_begin : MethodName := ⟨RX3, "begin", "()I"⟩
abbrev cX3_end : ByteArray := prog_1_method_6_code
def yX3_end : MethodName := ⟨RX3, "end", "()I"⟩
abbrev cX3_undo : ByteArray := prog_1_method_7_code
def yX3_undo : MethodName := ⟨RX3, "undo", "()I"⟩
abbrev cX3_keep : ByteArray := prog_1_method_8_code
def yX3_keep : MethodName := ⟨RX3, "keep", "()I"⟩
abbrev cX3_stop : ByteArray := prog_1_method_9_code
def yX3_stop : MethodName := ⟨RX3, "stop", "(I)I"⟩
abbrev cX3_address : ByteArray := prog_1_method_10_code
def yX3_address : MethodName := ⟨RX3, "address", "(I)I"⟩
abbrev cX3_bucket : ByteArray := prog_1_method_11_code
def yX3_bucket : MethodName := ⟨RX3, "bucket", "(II)I"⟩
abbrev cX3_page : ByteArray := prog_1_method_12_code
def yX3_page : MethodName := ⟨RX3, "page", "(II)I"⟩
abbrev cX3_cell : ByteArray := prog_1_method_13_code
def yX3_cell : MethodName := ⟨RX3, "cell", "(III)I"⟩
abbrev cX3_entry : ByteArray := prog_1_method_14_code
def yX3_entry : MethodName := ⟨RX3, "entry", "(I)I"⟩
abbrev cX3_effort : ByteArray := prog_1_method_15_code
def yX3_effort : MethodName := ⟨RX3, "effort", "()I"⟩
abbrev cX3_count : ByteArray := prog_1_method_16_code
def yX3_count : MethodName := ⟨RX3, "count", "(I)I"⟩
abbrev cX3_isPage : ByteArray := prog_1_method_17_code
def yX3_isPage : MethodName := ⟨RX3, "isPage", "(I)Z"⟩
abbrev cX3_write : ByteArray := prog_1_method_18_code
def yX3_write : MethodName := ⟨RX3, "write", "(III)V"⟩
abbrev cX3_takeBack : ByteArray := prog_1_method_19_code
def yX3_takeBack : MethodName := ⟨RX3, "takeBack", "(II)V"⟩
abbrev cX3_keepCurrent : ByteArray := prog_1_method_20_code
def yX3_keepCurrent : MethodName := ⟨RX3, "keepCurrent", "()V"⟩
def RX4 : String := "PageBucketsModel"
def TX4 : u_T := fun k => match k with
  | 0 => ("PageBucketsModel", "keys", "[I", true)
  | 1 => ("PageBucketsModel", "values", "[I", true)
  | 2 => ("PageBucketsModel", "sizes", "[I", true)
  | 3 => ("PageBucketsModel", "links", "[I", true)
  | 4 => ("PageBucketsModel", "isFree", "[Z", true)
  | 5 => ("PageBucketsModel", "level", "I", false)
  | 6 => ("PageBucketsModel", "split", "I", false)
  | 7 => ("PageBucketsModel", "entries", "I", false)
  | 8 => ("PageBucketsModel", "writeKey", "[I", true)
  | 9 => ("PageBucketsModel", "writeValue", "[I", true)
  | 10 => ("PageBucketsModel", "writes", "I", false)
  | 11 => ("PageBucketsModel", "keptWrites", "I", false)
  | 12 => ("PageBucketsModel", "groups", "[I", true)
  | 13 => ("PageBucketsModel", "groupCount", "I", false)
  | 14 => ("PageBucketsModel", "isOpen", "Z", false)
  | 15 => ("PageBucketsModel", "openWrites", "I", false)
  | 16 => ("PageBucketsModel", "read", "I", false)
  | 17 => ("PageBucketsModel", "heldKey", "[I", true)
  | 18 => ("PageBucketsModel", "heldValue", "[I", true)
  | _ => ("PageBucketsModel", "held", "I", false)
def tyX4 : Nat → FieldType := fun k => match k with
  | 0 => .array .int
  | 1 => .array .int
  | 2 => .array .int
  | 3 => .array .int
  | 4 => .array .boolean
  | 5 => .int
  | 6 => .int
  | 7 => .int
  | 8 => .array .int
  | 9 => .array .int
  | 10 => .int
  | 11 => .int
  | 12 => .array .int
  | 13 => .int
  | 14 => .boolean
  | 15 => .int
  | 16 => .int
  | 17 => .array .int
  | 18 => .array .int
  | _ => .int
abbrev wsX40 : List Cond := u_ws RX4 TX4 20
theorem nmX4 : ∀ a, a < 20 → ∀ b, b < 20 → a ≠ b → (TX4 a).2.1 ≠ (TX4 b).2.1 := by decide +kernel
theorem tyX4_ok : ∀ k, k < 20 → parseFieldDescriptor (TX4 k).2.2.1 = some (tyX4 k) := by decide +kernel
abbrev cX4_init : ByteArray := prog_6_method_1_code
def yX4_init : MethodName := ⟨RX4, "<init>", "()V"⟩
abbrev cX4_clear : ByteArray := prog_6_method_2_code
def yX4_clear : MethodName := ⟨RX4, "clear", "()V"⟩
abbrev cX4_base : ByteArray := prog_6_method_3_code
def yX4_base : MethodName := ⟨RX4, "base", "()I"⟩
abbrev cX4_buckets : ByteArray := prog_6_method_4_code
def yX4_buckets : MethodName := ⟨RX4, "buckets", "()I"⟩
abbrev cX4_addressOf : ByteArray := prog_6_method_5_code
def yX4_addressOf : MethodName := ⟨RX4, "addressOf", "(I)I"⟩
abbrev cX4_lastOf : ByteArray := prog_6_method_6_code
def yX4_lastOf : MethodName := ⟨RX4, "lastOf", "(I)I"⟩
abbrev cX4_freeOnes : ByteArray := prog_6_method_7_code
def yX4_freeOnes : MethodName := ⟨RX4, "freeOnes", "()I"⟩
abbrev cX4_add : ByteArray := prog_6_method_8_code
def yX4_add : MethodName := ⟨RX4, "add", "(III)V"⟩
abbrev cX4_placeOf : ByteArray := prog_6_method_9_code
def yX4_placeOf : MethodName := ⟨RX4, "placeOf", "(I)I"⟩
abbrev cX4_hold : ByteArray := prog_6_method_10_code
def yX4_hold : MethodName := ⟨RX4, "hold", "(I)V"⟩
abbrev cX4_layHeld : ByteArray := prog_6_method_11_code
def yX4_layHeld : MethodName := ⟨RX4, "layHeld", "()V"⟩
abbrev cX4_grow : ByteArray := prog_6_method_12_code
def yX4_grow : MethodName := ⟨RX4, "grow", "()V"⟩
abbrev cX4_manyIn : ByteArray := prog_6_method_13_code
def yX4_manyIn : MethodName := ⟨RX4, "manyIn", "(I)I"⟩
abbrev cX4_pagesIn : ByteArray := prog_6_method_14_code
def yX4_pagesIn : MethodName := ⟨RX4, "pagesIn", "(I)I"⟩
abbrev cX4_shrink : ByteArray := prog_6_method_15_code
def yX4_shrink : MethodName := ⟨RX4, "shrink", "()V"⟩
abbrev cX4_takeOut : ByteArray := prog_6_method_16_code
def yX4_takeOut : MethodName := ⟨RX4, "takeOut", "(I)V"⟩
abbrev cX4_write : ByteArray := prog_6_method_17_code
def yX4_write : MethodName := ⟨RX4, "write", "(II)V"⟩
abbrev cX4_note : ByteArray := prog_6_method_18_code
def yX4_note : MethodName := ⟨RX4, "note", "(II)V"⟩
abbrev cX4_again : ByteArray := prog_6_method_19_code
def yX4_again : MethodName := ⟨RX4, "again", "(I)V"⟩
abbrev cX4_isLogFull : ByteArray := prog_6_method_20_code
def yX4_isLogFull : MethodName := ⟨RX4, "isLogFull", "()Z"⟩
abbrev cX4_put : ByteArray := prog_6_method_21_code
def yX4_put : MethodName := ⟨RX4, "put", "(II)I"⟩
abbrev cX4_remove : ByteArray := prog_6_method_22_code
def yX4_remove : MethodName := ⟨RX4, "remove", "(I)I"⟩
abbrev cX4_get : ByteArray := prog_6_method_23_code
def yX4_get : MethodName := ⟨RX4, "get", "(I)I"⟩
abbrev cX4_begin : ByteArray := prog_6_method_24_code
def yX4_begin : MethodName := ⟨RX4, "begin", "()I"⟩
abbrev cX4_end : ByteArray := prog_6_method_25_code
def yX4_end : MethodName := ⟨RX4, "end", "()I"⟩
abbrev cX4_undo : ByteArray := prog_6_method_26_code
def yX4_undo : MethodName := ⟨RX4, "undo", "()I"⟩
abbrev cX4_keep : ByteArray := prog_6_method_27_code
def yX4_keep : MethodName := ⟨RX4, "keep", "()I"⟩
abbrev cX4_stop : ByteArray := prog_6_method_28_code
def yX4_stop : MethodName := ⟨RX4, "stop", "(I)I"⟩
abbrev cX4_address : ByteArray := prog_6_method_29_code
def yX4_address : MethodName := ⟨RX4, "address", "(I)I"⟩
abbrev cX4_isBucket : ByteArray := prog_6_method_30_code
def yX4_isBucket : MethodName := ⟨RX4, "isBucket", "(I)Z"⟩
abbrev cX4_bucket : ByteArray := prog_6_method_31_code
def yX4_bucket : MethodName := ⟨RX4, "bucket", "(II)I"⟩
abbrev cX4_ownerOf : ByteArray := prog_6_method_32_code
def yX4_ownerOf : MethodName := ⟨RX4, "ownerOf", "(I)I"⟩
abbrev cX4_isPage : ByteArray := prog_6_method_33_code
def yX4_isPage : MethodName := ⟨RX4, "isPage", "(I)Z"⟩
abbrev cX4_page : ByteArray := prog_6_method_34_code
def yX4_page : MethodName := ⟨RX4, "page", "(II)I"⟩
abbrev cX4_cell : ByteArray := prog_6_method_35_code
def yX4_cell : MethodName := ⟨RX4, "cell", "(III)I"⟩
abbrev cX4_entry : ByteArray := prog_6_method_36_code
def yX4_entry : MethodName := ⟨RX4, "entry", "(I)I"⟩
abbrev cX4_effort : ByteArray := prog_6_method_37_code
def yX4_effort : MethodName := ⟨RX4, "effort", "()I"⟩
abbrev cX4_longest : ByteArray := prog_6_method_38_code
def yX4_longest : MethodName := ⟨RX4, "longest", "()I"⟩
abbrev cX4_count : ByteArray := prog_6_method_39_code
def yX4_count : MethodName := ⟨RX4, "count", "(I)I"⟩
def RJ9 : String := "java/lang/Math"
def TJ9 : u_T := fun k => match k with
  | _ => ("", "", "", false)
def tyJ9 : Nat → FieldType := fun k => match k with
  | _ => .int
abbrev wsJ90 : List Cond := u_ws RJ9 TJ9 0
theorem nmJ9 : ∀ a, a < 0 → ∀ b, b < 0 → a ≠ b → (TJ9 a).2.1 ≠ (TJ9 b).2.1 := by decide +kernel
theorem tyJ9_ok : ∀ k, k < 0 → parseFieldDescriptor (TJ9 k).2.2.1 = some (tyJ9 k) := by decide +kernel
abbrev cJ9_max_7cf53 : ByteArray := prog_7_method_65_code
def yJ9_max_7cf53 : MethodName := ⟨RJ9, "max", "(II)I"⟩
abbrev cJ9_min_7cf53 : ByteArray := prog_7_method_69_code
def yJ9_min_7cf53 : MethodName := ⟨RJ9, "min", "(II)I"⟩
def RJ10 : String := "java/lang/System"
def TJ10 : u_T := fun k => match k with
  | _ => ("", "", "", false)
def tyJ10 : Nat → FieldType := fun k => match k with
  | _ => .int
abbrev wsJ100 : List Cond := u_ws RJ10 TJ10 0
theorem nmJ10 : ∀ a, a < 0 → ∀ b, b < 0 → a ≠ b → (TJ10 a).2.1 ≠ (TJ10 b).2.1 := by decide +kernel
theorem tyJ10_ok : ∀ k, k < 0 → parseFieldDescriptor (TJ10 k).2.2.1 = some (tyJ10 k) := by decide +kernel
def RJ7 : String := "java/util/Arrays"
def TJ7 : u_T := fun k => match k with
  | _ => ("", "", "", false)
def tyJ7 : Nat → FieldType := fun k => match k with
  | _ => .int
abbrev wsJ70 : List Cond := u_ws RJ7 TJ7 0
theorem nmJ7 : ∀ a, a < 0 → ∀ b, b < 0 → a ≠ b → (TJ7 a).2.1 ≠ (TJ7 b).2.1 := by decide +kernel
theorem tyJ7_ok : ∀ k, k < 0 → parseFieldDescriptor (TJ7 k).2.2.1 = some (tyJ7 k) := by decide +kernel
abbrev cJ7_fill_53178 : ByteArray := prog_9_method_103_code
def yJ7_fill_53178 : MethodName := ⟨RJ7, "fill", "([II)V"⟩
def RL : String := "PageBucketsLaw"
abbrev cL_law : ByteArray := code
def yL_law : MethodName := ⟨RL, "law", "([I)Z"⟩
def wsX0_init : List Cond := .code yX0_init cX0_init 1 none :: ([.methodLink RX0 3 objectInit, .instanceMethod objectInit, .code objectInit ⟨#[0xb1]⟩ 1 none, .arrayClass .int, .fieldLink RX0 9 "PageBuckets$Aside" "keys" "[I", .fieldLink RX0 15 "PageBuckets$Aside" "values" "[I"] ++ wsX00)
def wsX0_push : List Cond := .code yX0_push cX0_push 3 none :: ([.fieldLink RX0 18 "PageBuckets$Aside" "size" "I", .fieldLink RX0 9 "PageBuckets$Aside" "keys" "[I", .fieldLink RX0 15 "PageBuckets$Aside" "values" "[I"] ++ wsX00)
def wsX1_init : List Cond := .code yX1_init cX1_init 1 none :: ([.methodLink RX1 3 objectInit, .instanceMethod objectInit, .code objectInit ⟨#[0xb1]⟩ 1 none, .arrayClass .int, .fieldLink RX1 9 "PageBuckets$Journal" "kinds" "[I", .fieldLink RX1 15 "PageBuckets$Journal" "keys" "[I", .fieldLink RX1 18 "PageBuckets$Journal" "values" "[I", .fieldLink RX1 21 "PageBuckets$Journal" "groupEnds" "[I"] ++ wsX10)
def wsX1_isFull : List Cond := .code yX1_isFull cX1_isFull 1 (some .boolean) :: ([.fieldLink RX1 24 "PageBuckets$Journal" "writes" "I"] ++ wsX10)
def wsX1_isOpen : List Cond := .code yX1_isOpen cX1_isOpen 1 (some .boolean) :: ([.fieldLink RX1 28 "PageBuckets$Journal" "open" "Z"] ++ wsX10)
def wsX1_writeCount : List Cond := .code yX1_writeCount cX1_writeCount 1 (some .int) :: ([.fieldLink RX1 24 "PageBuckets$Journal" "writes" "I"] ++ wsX10)
def wsX1_groupCount : List Cond := .code yX1_groupCount cX1_groupCount 1 (some .int) :: ([.fieldLink RX1 32 "PageBuckets$Journal" "groups" "I"] ++ wsX10)
def wsX1_openWrites : List Cond := .code yX1_openWrites cX1_openWrites 1 (some .int) :: ([.fieldLink RX1 28 "PageBuckets$Journal" "open" "Z", .fieldLink RX1 24 "PageBuckets$Journal" "writes" "I", .fieldLink RX1 35 "PageBuckets$Journal" "openFrom" "I"] ++ wsX10)
def wsX1_endGroupHere : List Cond := .code yX1_endGroupHere cX1_endGroupHere 1 none :: ([.fieldLink RX1 32 "PageBuckets$Journal" "groups" "I", .fieldLink RX1 21 "PageBuckets$Journal" "groupEnds" "[I", .fieldLink RX1 24 "PageBuckets$Journal" "writes" "I"] ++ wsX10)
def wsX1_note : List Cond := .code yX1_note cX1_note 4 none :: ([.fieldLink RX1 24 "PageBuckets$Journal" "writes" "I", .fieldLink RX1 9 "PageBuckets$Journal" "kinds" "[I", .fieldLink RX1 15 "PageBuckets$Journal" "keys" "[I", .fieldLink RX1 18 "PageBuckets$Journal" "values" "[I", .fieldLink RX1 28 "PageBuckets$Journal" "open" "Z", .methodLink RX1 38 yX1_endGroupHere, .instanceMethod yX1_endGroupHere, .selects RX1 yX1_endGroupHere yX1_endGroupHere, .initialized RX1, .code yX1_endGroupHere cX1_endGroupHere 1 none, .fieldLink RX1 32 "PageBuckets$Journal" "groups" "I", .fieldLink RX1 21 "PageBuckets$Journal" "groupEnds" "[I"] ++ wsX10)
def wsX1_openGroup : List Cond := .code yX1_openGroup cX1_openGroup 1 none :: ([.fieldLink RX1 28 "PageBuckets$Journal" "open" "Z", .fieldLink RX1 24 "PageBuckets$Journal" "writes" "I", .fieldLink RX1 35 "PageBuckets$Journal" "openFrom" "I"] ++ wsX10)
def wsX1_closeGroup : List Cond := .code yX1_closeGroup cX1_closeGroup 1 none :: ([.fieldLink RX1 28 "PageBuckets$Journal" "open" "Z", .methodLink RX1 41 yX1_openWrites, .instanceMethod yX1_openWrites, .selects RX1 yX1_openWrites yX1_openWrites, .initialized RX1, .code yX1_openWrites cX1_openWrites 1 (some .int), .fieldLink RX1 24 "PageBuckets$Journal" "writes" "I", .fieldLink RX1 35 "PageBuckets$Journal" "openFrom" "I", .methodLink RX1 38 yX1_endGroupHere, .instanceMethod yX1_endGroupHere, .selects RX1 yX1_endGroupHere yX1_endGroupHere, .code yX1_endGroupHere cX1_endGroupHere 1 none, .fieldLink RX1 32 "PageBuckets$Journal" "groups" "I", .fieldLink RX1 21 "PageBuckets$Journal" "groupEnds" "[I"] ++ wsX10)
def wsX1_dropOpenGroup : List Cond := .code yX1_dropOpenGroup cX1_dropOpenGroup 1 none :: ([.fieldLink RX1 28 "PageBuckets$Journal" "open" "Z", .fieldLink RX1 35 "PageBuckets$Journal" "openFrom" "I", .fieldLink RX1 24 "PageBuckets$Journal" "writes" "I"] ++ wsX10)
def wsX1_clear : List Cond := .code yX1_clear cX1_clear 1 none :: ([.fieldLink RX1 24 "PageBuckets$Journal" "writes" "I", .fieldLink RX1 32 "PageBuckets$Journal" "groups" "I", .fieldLink RX1 28 "PageBuckets$Journal" "open" "Z"] ++ wsX10)
def wsX1_writesInFirstGroups : List Cond := .code yX1_writesInFirstGroups cX1_writesInFirstGroups 3 (some .int) :: ([.fieldLink RX1 32 "PageBuckets$Journal" "groups" "I", .methodLink RX1 45 Lib.Math.min.name, .static Lib.Math.min.name, .initialized "java/lang/Math", .code Lib.Math.min.name Lib.Math.min.code 2 (some .int), .fieldLink RX1 21 "PageBuckets$Journal" "groupEnds" "[I"] ++ wsX10)
def wsX1_isWrite : List Cond := .code yX1_isWrite cX1_isWrite 2 (some .boolean) :: ([.fieldLink RX1 24 "PageBuckets$Journal" "writes" "I"] ++ wsX10)
def wsX1_kindOf : List Cond := .code yX1_kindOf cX1_kindOf 2 (some .int) :: ([.fieldLink RX1 9 "PageBuckets$Journal" "kinds" "[I", .constant RX1 55 (-2000000005), .methodLink RX1 51 yX1_isWrite, .instanceMethod yX1_isWrite, .selects RX1 yX1_isWrite yX1_isWrite, .initialized RX1, .code yX1_isWrite cX1_isWrite 2 (some .boolean), .fieldLink RX1 24 "PageBuckets$Journal" "writes" "I"] ++ wsX10)
def wsX1_keyOf : List Cond := .code yX1_keyOf cX1_keyOf 2 (some .int) :: ([.fieldLink RX1 15 "PageBuckets$Journal" "keys" "[I", .constant RX1 55 (-2000000005), .methodLink RX1 51 yX1_isWrite, .instanceMethod yX1_isWrite, .selects RX1 yX1_isWrite yX1_isWrite, .initialized RX1, .code yX1_isWrite cX1_isWrite 2 (some .boolean), .fieldLink RX1 24 "PageBuckets$Journal" "writes" "I"] ++ wsX10)
def wsX1_valueOf : List Cond := .code yX1_valueOf cX1_valueOf 2 (some .int) :: ([.fieldLink RX1 18 "PageBuckets$Journal" "values" "[I", .constant RX1 55 (-2000000005), .methodLink RX1 51 yX1_isWrite, .instanceMethod yX1_isWrite, .selects RX1 yX1_isWrite yX1_isWrite, .initialized RX1, .code yX1_isWrite cX1_isWrite 2 (some .boolean), .fieldLink RX1 24 "PageBuckets$Journal" "writes" "I"] ++ wsX10)
def wsJ7_fill_53178 : List Cond := .code yJ7_fill_53178 cJ7_fill_53178 4 none :: ([])
def wsX2_init : List Cond := .code yX2_init cX2_init 3 none :: ([.methodLink RX2 3 objectInit, .instanceMethod objectInit, .code objectInit ⟨#[0xb1]⟩ 1 none, .arrayClass .int, .fieldLink RX2 9 "PageBuckets$Pages" "keys" "[I", .fieldLink RX2 15 "PageBuckets$Pages" "values" "[I", .fieldLink RX2 18 "PageBuckets$Pages" "used" "[I", .fieldLink RX2 21 "PageBuckets$Pages" "behind" "[I", .fieldLink RX2 24 "PageBuckets$Pages" "ahead" "[I", .fieldLink RX2 27 "PageBuckets$Pages" "holder" "[I", .fieldLink RX2 30 "PageBuckets$Pages" "last" "[I", .fieldLink RX2 33 "PageBuckets$Pages" "aside" "LPageBuckets$Aside;", .constant RX2 37 (-2000000005), .methodLink RX2 38 yJ7_fill_53178, .static yJ7_fill_53178, .initialized RJ7, .code yJ7_fill_53178 cJ7_fill_53178 4 none] ++ wsX20)
def wsX2_copyFrom : List Cond := .code yX2_copyFrom cX2_copyFrom 2 none :: ([.fieldLink RX2 9 "PageBuckets$Pages" "keys" "[I", .methodLink RX2 44 arraycopyName, .native arraycopyName, .static arraycopyName, .initialized "java/lang/System", .fieldLink RX2 15 "PageBuckets$Pages" "values" "[I", .fieldLink RX2 18 "PageBuckets$Pages" "used" "[I", .fieldLink RX2 21 "PageBuckets$Pages" "behind" "[I", .fieldLink RX2 24 "PageBuckets$Pages" "ahead" "[I", .fieldLink RX2 27 "PageBuckets$Pages" "holder" "[I", .fieldLink RX2 30 "PageBuckets$Pages" "last" "[I", .fieldLink RX2 50 "PageBuckets$Pages" "level" "I", .fieldLink RX2 54 "PageBuckets$Pages" "split" "I", .fieldLink RX2 57 "PageBuckets$Pages" "entries" "I"] ++ wsX20)
def wsX2_entryCount : List Cond := .code yX2_entryCount cX2_entryCount 1 (some .int) :: ([.fieldLink RX2 57 "PageBuckets$Pages" "entries" "I"] ++ wsX20)
def wsX2_levelNumber : List Cond := .code yX2_levelNumber cX2_levelNumber 1 (some .int) :: ([.fieldLink RX2 50 "PageBuckets$Pages" "level" "I"] ++ wsX20)
def wsX2_splitNumber : List Cond := .code yX2_splitNumber cX2_splitNumber 1 (some .int) :: ([.fieldLink RX2 54 "PageBuckets$Pages" "split" "I"] ++ wsX20)
def wsX2_bucketCount : List Cond := .code yX2_bucketCount cX2_bucketCount 1 (some .int) :: ([.fieldLink RX2 50 "PageBuckets$Pages" "level" "I", .fieldLink RX2 54 "PageBuckets$Pages" "split" "I"] ++ wsX20)
def wsX2_addressOf : List Cond := .code yX2_addressOf cX2_addressOf 4 (some .int) :: ([.constant RX2 60 (-1640531527), .fieldLink RX2 50 "PageBuckets$Pages" "level" "I", .fieldLink RX2 54 "PageBuckets$Pages" "split" "I"] ++ wsX20)
def wsX2_keyIn : List Cond := .code yX2_keyIn cX2_keyIn 2 (some .int) :: ([.fieldLink RX2 9 "PageBuckets$Pages" "keys" "[I", .constant RX2 37 (-2000000005)] ++ wsX20)
def wsX2_valueIn : List Cond := .code yX2_valueIn cX2_valueIn 2 (some .int) :: ([.fieldLink RX2 15 "PageBuckets$Pages" "values" "[I", .constant RX2 37 (-2000000005)] ++ wsX20)
def wsX3_isPage : List Cond := .code yX3_isPage cX3_isPage 1 (some .boolean) :: ([])
def wsX2_entriesOnPage : List Cond := .code yX2_entriesOnPage cX2_entriesOnPage 2 (some .int) :: ([.fieldLink RX2 18 "PageBuckets$Pages" "used" "[I", .static yX3_isPage, .initialized RX3, .code yX3_isPage cX3_isPage 1 (some .boolean)] ++ wsX20)
def wsX2_pageBehind : List Cond := .code yX2_pageBehind cX2_pageBehind 2 (some .int) :: ([.fieldLink RX2 21 "PageBuckets$Pages" "behind" "[I", .constant RX2 37 (-2000000005), .static yX3_isPage, .initialized RX3, .code yX3_isPage cX3_isPage 1 (some .boolean)] ++ wsX20)
def wsX2_bucketOfPage : List Cond := .code yX2_bucketOfPage cX2_bucketOfPage 2 (some .int) :: ([.constant RX2 37 (-2000000005), .fieldLink RX2 27 "PageBuckets$Pages" "holder" "[I", .static yX3_isPage, .initialized RX3, .code yX3_isPage cX3_isPage 1 (some .boolean), .methodLink RX2 65 yX2_bucketCount, .instanceMethod yX2_bucketCount, .selects RX2 yX2_bucketCount yX2_bucketCount, .initialized RX2, .code yX2_bucketCount cX2_bucketCount 1 (some .int), .fieldLink RX2 50 "PageBuckets$Pages" "level" "I", .fieldLink RX2 54 "PageBuckets$Pages" "split" "I"] ++ wsX20)
def wsX2_isBucketPlace : List Cond := .code yX2_isBucketPlace cX2_isBucketPlace 1 (some .boolean) :: ([])
def wsX2_lastPage : List Cond := .code yX2_lastPage cX2_lastPage 2 (some .int) :: ([.fieldLink RX2 30 "PageBuckets$Pages" "last" "[I", .constant RX2 37 (-2000000005), .methodLink RX2 69 yX2_isBucketPlace, .static yX2_isBucketPlace, .initialized RX2, .code yX2_isBucketPlace cX2_isBucketPlace 1 (some .boolean)] ++ wsX20)
def wsX2_pagesInChain : List Cond := .code yX2_pagesInChain cX2_pagesInChain 4 (some .int) :: ([.fieldLink RX2 21 "PageBuckets$Pages" "behind" "[I", .static yX3_isPage, .initialized RX3, .code yX3_isPage cX3_isPage 1 (some .boolean)] ++ wsX20)
def wsX2_entriesInChain : List Cond := .code yX2_entriesInChain cX2_entriesInChain 2 (some .int) :: ([.methodLink RX2 72 yX2_pagesInChain, .instanceMethod yX2_pagesInChain, .selects RX2 yX2_pagesInChain yX2_pagesInChain, .initialized RX2, .code yX2_pagesInChain cX2_pagesInChain 4 (some .int), .fieldLink RX2 21 "PageBuckets$Pages" "behind" "[I", .static yX3_isPage, .initialized RX3, .code yX3_isPage cX3_isPage 1 (some .boolean), .methodLink RX2 76 yX2_lastPage, .instanceMethod yX2_lastPage, .selects RX2 yX2_lastPage yX2_lastPage, .code yX2_lastPage cX2_lastPage 2 (some .int), .fieldLink RX2 30 "PageBuckets$Pages" "last" "[I", .constant RX2 37 (-2000000005), .methodLink RX2 69 yX2_isBucketPlace, .static yX2_isBucketPlace, .code yX2_isBucketPlace cX2_isBucketPlace 1 (some .boolean), .methodLink RX2 79 yX2_entriesOnPage, .instanceMethod yX2_entriesOnPage, .selects RX2 yX2_entriesOnPage yX2_entriesOnPage, .code yX2_entriesOnPage cX2_entriesOnPage 2 (some .int), .fieldLink RX2 18 "PageBuckets$Pages" "used" "[I"] ++ wsX20)
def wsX2_freePages : List Cond := .code yX2_freePages cX2_freePages 3 (some .int) :: ([.fieldLink RX2 27 "PageBuckets$Pages" "holder" "[I", .constant RX2 37 (-2000000005)] ++ wsX20)
def wsX2_longestChain : List Cond := .code yX2_longestChain cX2_longestChain 3 (some .int) :: ([.methodLink RX2 82 Lib.Math.max.name, .static Lib.Math.max.name, .initialized "java/lang/Math", .code Lib.Math.max.name Lib.Math.max.code 2 (some .int), .methodLink RX2 65 yX2_bucketCount, .instanceMethod yX2_bucketCount, .selects RX2 yX2_bucketCount yX2_bucketCount, .initialized RX2, .code yX2_bucketCount cX2_bucketCount 1 (some .int), .fieldLink RX2 50 "PageBuckets$Pages" "level" "I", .fieldLink RX2 54 "PageBuckets$Pages" "split" "I", .methodLink RX2 72 yX2_pagesInChain, .instanceMethod yX2_pagesInChain, .selects RX2 yX2_pagesInChain yX2_pagesInChain, .code yX2_pagesInChain cX2_pagesInChain 4 (some .int), .fieldLink RX2 21 "PageBuckets$Pages" "behind" "[I", .static yX3_isPage, .initialized RX3, .code yX3_isPage cX3_isPage 1 (some .boolean)] ++ wsX20)
def wsX2_effortForAll : List Cond := .code yX2_effortForAll cX2_effortForAll 5 (some .int) :: ([.fieldLink RX2 18 "PageBuckets$Pages" "used" "[I", .fieldLink RX2 21 "PageBuckets$Pages" "behind" "[I", .methodLink RX2 65 yX2_bucketCount, .instanceMethod yX2_bucketCount, .selects RX2 yX2_bucketCount yX2_bucketCount, .initialized RX2, .code yX2_bucketCount cX2_bucketCount 1 (some .int), .fieldLink RX2 50 "PageBuckets$Pages" "level" "I", .fieldLink RX2 54 "PageBuckets$Pages" "split" "I", .static yX3_isPage, .initialized RX3, .code yX3_isPage cX3_isPage 1 (some .boolean)] ++ wsX20)
def wsX2_cellOfEntry : List Cond := .code yX2_cellOfEntry cX2_cellOfEntry 6 (some .int) :: ([.fieldLink RX2 18 "PageBuckets$Pages" "used" "[I", .fieldLink RX2 21 "PageBuckets$Pages" "behind" "[I", .constant RX2 37 (-2000000005), .methodLink RX2 65 yX2_bucketCount, .instanceMethod yX2_bucketCount, .selects RX2 yX2_bucketCount yX2_bucketCount, .initialized RX2, .code yX2_bucketCount cX2_bucketCount 1 (some .int), .fieldLink RX2 50 "PageBuckets$Pages" "level" "I", .fieldLink RX2 54 "PageBuckets$Pages" "split" "I", .static yX3_isPage, .initialized RX3, .code yX3_isPage cX3_isPage 1 (some .boolean)] ++ wsX20)
def wsX2_find : List Cond := .code yX2_find cX2_find 5 (some .int) :: ([.fieldLink RX2 18 "PageBuckets$Pages" "used" "[I", .fieldLink RX2 9 "PageBuckets$Pages" "keys" "[I", .fieldLink RX2 21 "PageBuckets$Pages" "behind" "[I", .constant RX2 37 (-2000000005), .methodLink RX2 88 yX2_addressOf, .instanceMethod yX2_addressOf, .selects RX2 yX2_addressOf yX2_addressOf, .initialized RX2, .code yX2_addressOf cX2_addressOf 4 (some .int), .constant RX2 60 (-1640531527), .fieldLink RX2 50 "PageBuckets$Pages" "level" "I", .fieldLink RX2 54 "PageBuckets$Pages" "split" "I", .static yX3_isPage, .initialized RX3, .code yX3_isPage cX3_isPage 1 (some .boolean)] ++ wsX20)
def wsX2_pagesLookedAt : List Cond := .code yX2_pagesLookedAt cX2_pagesLookedAt 5 (some .int) :: ([.constant RX2 37 (-2000000005), .fieldLink RX2 21 "PageBuckets$Pages" "behind" "[I", .methodLink RX2 88 yX2_addressOf, .instanceMethod yX2_addressOf, .selects RX2 yX2_addressOf yX2_addressOf, .initialized RX2, .code yX2_addressOf cX2_addressOf 4 (some .int), .constant RX2 60 (-1640531527), .fieldLink RX2 50 "PageBuckets$Pages" "level" "I", .fieldLink RX2 54 "PageBuckets$Pages" "split" "I", .static yX3_isPage, .initialized RX3, .code yX3_isPage cX3_isPage 1 (some .boolean)] ++ wsX20)
def wsX2_leastFreePage : List Cond := .code yX2_leastFreePage cX2_leastFreePage 2 (some .int) :: ([.fieldLink RX2 27 "PageBuckets$Pages" "holder" "[I", .constant RX2 37 (-2000000005)] ++ wsX20)
def wsX2_hasRoomFor_r1 : List Cond := [Cond.constant RX2 37 (-2000000005), Cond.methodLink RX2 88 yX2_addressOf, Cond.instanceMethod yX2_addressOf, Cond.selects RX2 yX2_addressOf yX2_addressOf, Cond.initialized RX2, Cond.code yX2_addressOf cX2_addressOf 4 (some .int), Cond.constant RX2 60 (-1640531527), Cond.fieldLink RX2 50 "PageBuckets$Pages" "level" "I", Cond.fieldLink RX2 54 "PageBuckets$Pages" "split" "I", Cond.methodLink RX2 76 yX2_lastPage, Cond.instanceMethod yX2_lastPage, Cond.selects RX2 yX2_lastPage yX2_lastPage, Cond.code yX2_lastPage cX2_lastPage 2 (some .int), Cond.fieldLink RX2 30 "PageBuckets$Pages" "last" "[I", Cond.methodLink RX2 69 yX2_isBucketPlace, Cond.static yX2_isBucketPlace, Cond.code yX2_isBucketPlace cX2_isBucketPlace 1 (some .boolean), Cond.methodLink RX2 79 yX2_entriesOnPage, Cond.instanceMethod yX2_entriesOnPage, Cond.selects RX2 yX2_entriesOnPage yX2_entriesOnPage, Cond.code yX2_entriesOnPage cX2_entriesOnPage 2 (some .int), Cond.fieldLink RX2 18 "PageBuckets$Pages" "used" "[I", Cond.static yX3_isPage, Cond.initialized RX3]
def wsX2_hasRoomFor_r2 : List Cond := [Cond.code yX3_isPage cX3_isPage 1 (some .boolean), Cond.methodLink RX2 91 yX2_leastFreePage, Cond.instanceMethod yX2_leastFreePage, Cond.selects RX2 yX2_leastFreePage yX2_leastFreePage, Cond.code yX2_leastFreePage cX2_leastFreePage 2 (some .int), Cond.fieldLink RX2 27 "PageBuckets$Pages" "holder" "[I"]
def wsX2_hasRoomFor : List Cond := .code yX2_hasRoomFor cX2_hasRoomFor 2 (some .boolean) :: ((wsX2_hasRoomFor_r1 ++ wsX2_hasRoomFor_r2) ++ wsX20)
def wsX2_linkNewPage : List Cond := .code yX2_linkNewPage cX2_linkNewPage 4 (some .int) :: ([.fieldLink RX2 21 "PageBuckets$Pages" "behind" "[I", .fieldLink RX2 24 "PageBuckets$Pages" "ahead" "[I", .fieldLink RX2 27 "PageBuckets$Pages" "holder" "[I", .fieldLink RX2 30 "PageBuckets$Pages" "last" "[I", .methodLink RX2 91 yX2_leastFreePage, .instanceMethod yX2_leastFreePage, .selects RX2 yX2_leastFreePage yX2_leastFreePage, .initialized RX2, .code yX2_leastFreePage cX2_leastFreePage 2 (some .int), .constant RX2 37 (-2000000005), .static yX3_isPage, .initialized RX3, .code yX3_isPage cX3_isPage 1 (some .boolean), .methodLink RX2 69 yX2_isBucketPlace, .static yX2_isBucketPlace, .code yX2_isBucketPlace cX2_isBucketPlace 1 (some .boolean)] ++ wsX20)
def wsX2_append_r1 : List Cond := [Cond.fieldLink RX2 18 "PageBuckets$Pages" "used" "[I", Cond.fieldLink RX2 9 "PageBuckets$Pages" "keys" "[I", Cond.fieldLink RX2 15 "PageBuckets$Pages" "values" "[I", Cond.fieldLink RX2 57 "PageBuckets$Pages" "entries" "I", Cond.methodLink RX2 76 yX2_lastPage, Cond.instanceMethod yX2_lastPage, Cond.selects RX2 yX2_lastPage yX2_lastPage, Cond.initialized RX2, Cond.code yX2_lastPage cX2_lastPage 2 (some .int), Cond.fieldLink RX2 30 "PageBuckets$Pages" "last" "[I", Cond.constant RX2 37 (-2000000005), Cond.methodLink RX2 69 yX2_isBucketPlace, Cond.static yX2_isBucketPlace, Cond.code yX2_isBucketPlace cX2_isBucketPlace 1 (some .boolean), Cond.methodLink RX2 79 yX2_entriesOnPage, Cond.instanceMethod yX2_entriesOnPage, Cond.selects RX2 yX2_entriesOnPage yX2_entriesOnPage, Cond.code yX2_entriesOnPage cX2_entriesOnPage 2 (some .int), Cond.static yX3_isPage, Cond.initialized RX3, Cond.code yX3_isPage cX3_isPage 1 (some .boolean), Cond.methodLink RX2 138 yX2_linkNewPage, Cond.instanceMethod yX2_linkNewPage, Cond.selects RX2 yX2_linkNewPage yX2_linkNewPage]
def wsX2_append_r2 : List Cond := [Cond.code yX2_linkNewPage cX2_linkNewPage 4 (some .int), Cond.fieldLink RX2 21 "PageBuckets$Pages" "behind" "[I", Cond.fieldLink RX2 24 "PageBuckets$Pages" "ahead" "[I", Cond.fieldLink RX2 27 "PageBuckets$Pages" "holder" "[I", Cond.methodLink RX2 91 yX2_leastFreePage, Cond.instanceMethod yX2_leastFreePage, Cond.selects RX2 yX2_leastFreePage yX2_leastFreePage, Cond.code yX2_leastFreePage cX2_leastFreePage 2 (some .int)]
def wsX2_append : List Cond := .code yX2_append cX2_append 6 none :: ((wsX2_append_r1 ++ wsX2_append_r2) ++ wsX20)
def wsX2_clearPage : List Cond := .code yX2_clearPage cX2_clearPage 2 none :: ([.fieldLink RX2 18 "PageBuckets$Pages" "used" "[I", .fieldLink RX2 21 "PageBuckets$Pages" "behind" "[I", .constant RX2 37 (-2000000005), .fieldLink RX2 24 "PageBuckets$Pages" "ahead" "[I", .fieldLink RX2 27 "PageBuckets$Pages" "holder" "[I", .static yX3_isPage, .initialized RX3, .code yX3_isPage cX3_isPage 1 (some .boolean)] ++ wsX20)
def wsX2_setAside_r1 : List Cond := [Cond.fieldLink RX2 18 "PageBuckets$Pages" "used" "[I", Cond.fieldLink RX2 33 "PageBuckets$Pages" "aside" "LPageBuckets$Aside;", Cond.fieldLink RX2 9 "PageBuckets$Pages" "keys" "[I", Cond.fieldLink RX2 15 "PageBuckets$Pages" "values" "[I", Cond.fieldLink RX2 57 "PageBuckets$Pages" "entries" "I", Cond.fieldLink RX2 21 "PageBuckets$Pages" "behind" "[I", Cond.fieldLink RX2 30 "PageBuckets$Pages" "last" "[I", Cond.methodLink RX2 69 yX2_isBucketPlace, Cond.static yX2_isBucketPlace, Cond.initialized RX2, Cond.code yX2_isBucketPlace cX2_isBucketPlace 1 (some .boolean), Cond.static yX3_isPage, Cond.initialized RX3, Cond.code yX3_isPage cX3_isPage 1 (some .boolean), Cond.methodLink RX2 132 yX0_push, Cond.instanceMethod yX0_push, Cond.selects RX0 yX0_push yX0_push, Cond.initialized RX0, Cond.code yX0_push cX0_push 3 none, Cond.fieldLink RX0 18 "PageBuckets$Aside" "size" "I", Cond.fieldLink RX0 9 "PageBuckets$Aside" "keys" "[I", Cond.fieldLink RX0 15 "PageBuckets$Aside" "values" "[I", Cond.methodLink RX2 135 yX2_clearPage, Cond.instanceMethod yX2_clearPage]
def wsX2_setAside_r2 : List Cond := [Cond.selects RX2 yX2_clearPage yX2_clearPage, Cond.code yX2_clearPage cX2_clearPage 2 none, Cond.constant RX2 37 (-2000000005), Cond.fieldLink RX2 24 "PageBuckets$Pages" "ahead" "[I", Cond.fieldLink RX2 27 "PageBuckets$Pages" "holder" "[I"]
def wsX2_setAside : List Cond := .code yX2_setAside cX2_setAside 5 none :: ((wsX2_setAside_r1 ++ wsX2_setAside_r2) ++ wsX20 ++ wsX00)
def wsX2_grow_r1 : List Cond := [Cond.fieldLink RX2 33 "PageBuckets$Pages" "aside" "LPageBuckets$Aside;", Cond.fieldLink RX2 114 "PageBuckets$Aside" "size" "I", Cond.fieldLink RX2 54 "PageBuckets$Pages" "split" "I", Cond.fieldLink RX2 50 "PageBuckets$Pages" "level" "I", Cond.fieldLink RX2 123 "PageBuckets$Aside" "keys" "[I", Cond.fieldLink RX2 124 "PageBuckets$Aside" "values" "[I", Cond.methodLink RX2 119 yX2_setAside, Cond.instanceMethod yX2_setAside, Cond.selects RX2 yX2_setAside yX2_setAside, Cond.initialized RX2, Cond.code yX2_setAside cX2_setAside 5 none, Cond.fieldLink RX2 18 "PageBuckets$Pages" "used" "[I", Cond.fieldLink RX2 9 "PageBuckets$Pages" "keys" "[I", Cond.fieldLink RX2 15 "PageBuckets$Pages" "values" "[I", Cond.fieldLink RX2 57 "PageBuckets$Pages" "entries" "I", Cond.fieldLink RX2 21 "PageBuckets$Pages" "behind" "[I", Cond.fieldLink RX2 30 "PageBuckets$Pages" "last" "[I", Cond.methodLink RX2 69 yX2_isBucketPlace, Cond.static yX2_isBucketPlace, Cond.code yX2_isBucketPlace cX2_isBucketPlace 1 (some .boolean), Cond.static yX3_isPage, Cond.initialized RX3, Cond.code yX3_isPage cX3_isPage 1 (some .boolean), Cond.methodLink RX2 132 yX0_push]
def wsX2_grow_r2 : List Cond := [Cond.instanceMethod yX0_push, Cond.selects RX0 yX0_push yX0_push, Cond.initialized RX0, Cond.code yX0_push cX0_push 3 none, Cond.fieldLink RX0 18 "PageBuckets$Aside" "size" "I", Cond.fieldLink RX0 9 "PageBuckets$Aside" "keys" "[I", Cond.fieldLink RX0 15 "PageBuckets$Aside" "values" "[I", Cond.methodLink RX2 135 yX2_clearPage, Cond.instanceMethod yX2_clearPage, Cond.selects RX2 yX2_clearPage yX2_clearPage, Cond.code yX2_clearPage cX2_clearPage 2 none, Cond.constant RX2 37 (-2000000005), Cond.fieldLink RX2 24 "PageBuckets$Pages" "ahead" "[I", Cond.fieldLink RX2 27 "PageBuckets$Pages" "holder" "[I", Cond.methodLink RX2 88 yX2_addressOf, Cond.instanceMethod yX2_addressOf, Cond.selects RX2 yX2_addressOf yX2_addressOf, Cond.code yX2_addressOf cX2_addressOf 4 (some .int), Cond.constant RX2 60 (-1640531527), Cond.methodLink RX2 97 yX2_append, Cond.instanceMethod yX2_append, Cond.selects RX2 yX2_append yX2_append, Cond.code yX2_append cX2_append 6 none, Cond.methodLink RX2 76 yX2_lastPage]
def wsX2_grow_r3 : List Cond := [Cond.instanceMethod yX2_lastPage, Cond.selects RX2 yX2_lastPage yX2_lastPage, Cond.code yX2_lastPage cX2_lastPage 2 (some .int), Cond.methodLink RX2 79 yX2_entriesOnPage, Cond.instanceMethod yX2_entriesOnPage, Cond.selects RX2 yX2_entriesOnPage yX2_entriesOnPage, Cond.code yX2_entriesOnPage cX2_entriesOnPage 2 (some .int), Cond.methodLink RX2 138 yX2_linkNewPage, Cond.instanceMethod yX2_linkNewPage, Cond.selects RX2 yX2_linkNewPage yX2_linkNewPage, Cond.code yX2_linkNewPage cX2_linkNewPage 4 (some .int), Cond.methodLink RX2 91 yX2_leastFreePage, Cond.instanceMethod yX2_leastFreePage, Cond.selects RX2 yX2_leastFreePage yX2_leastFreePage, Cond.code yX2_leastFreePage cX2_leastFreePage 2 (some .int)]
def wsX2_grow : List Cond := .code yX2_grow cX2_grow 2 none :: ((wsX2_grow_r1 ++ (wsX2_grow_r2 ++ wsX2_grow_r3)) ++ wsX20 ++ wsX00)
def wsX2_setValue : List Cond := .code yX2_setValue cX2_setValue 3 none :: ([.fieldLink RX2 15 "PageBuckets$Pages" "values" "[I"] ++ wsX20)
def wsX2_unlinkLast : List Cond := .code yX2_unlinkLast cX2_unlinkLast 4 none :: ([.fieldLink RX2 24 "PageBuckets$Pages" "ahead" "[I", .constant RX2 37 (-2000000005), .fieldLink RX2 21 "PageBuckets$Pages" "behind" "[I", .fieldLink RX2 30 "PageBuckets$Pages" "last" "[I", .static yX3_isPage, .initialized RX3, .code yX3_isPage cX3_isPage 1 (some .boolean), .methodLink RX2 69 yX2_isBucketPlace, .static yX2_isBucketPlace, .initialized RX2, .code yX2_isBucketPlace cX2_isBucketPlace 1 (some .boolean), .methodLink RX2 135 yX2_clearPage, .instanceMethod yX2_clearPage, .selects RX2 yX2_clearPage yX2_clearPage, .code yX2_clearPage cX2_clearPage 2 none, .fieldLink RX2 18 "PageBuckets$Pages" "used" "[I", .fieldLink RX2 27 "PageBuckets$Pages" "holder" "[I"] ++ wsX20)
def wsX2_takeOut_r1 : List Cond := [Cond.fieldLink RX2 9 "PageBuckets$Pages" "keys" "[I", Cond.fieldLink RX2 18 "PageBuckets$Pages" "used" "[I", Cond.fieldLink RX2 15 "PageBuckets$Pages" "values" "[I", Cond.fieldLink RX2 57 "PageBuckets$Pages" "entries" "I", Cond.methodLink RX2 76 yX2_lastPage, Cond.instanceMethod yX2_lastPage, Cond.selects RX2 yX2_lastPage yX2_lastPage, Cond.initialized RX2, Cond.code yX2_lastPage cX2_lastPage 2 (some .int), Cond.fieldLink RX2 30 "PageBuckets$Pages" "last" "[I", Cond.constant RX2 37 (-2000000005), Cond.methodLink RX2 69 yX2_isBucketPlace, Cond.static yX2_isBucketPlace, Cond.code yX2_isBucketPlace cX2_isBucketPlace 1 (some .boolean), Cond.static yX3_isPage, Cond.initialized RX3, Cond.code yX3_isPage cX3_isPage 1 (some .boolean), Cond.methodLink RX2 141 yX2_unlinkLast, Cond.instanceMethod yX2_unlinkLast, Cond.selects RX2 yX2_unlinkLast yX2_unlinkLast, Cond.code yX2_unlinkLast cX2_unlinkLast 4 none, Cond.fieldLink RX2 24 "PageBuckets$Pages" "ahead" "[I", Cond.fieldLink RX2 21 "PageBuckets$Pages" "behind" "[I", Cond.methodLink RX2 135 yX2_clearPage]
def wsX2_takeOut_r2 : List Cond := [Cond.instanceMethod yX2_clearPage, Cond.selects RX2 yX2_clearPage yX2_clearPage, Cond.code yX2_clearPage cX2_clearPage 2 none, Cond.fieldLink RX2 27 "PageBuckets$Pages" "holder" "[I"]
def wsX2_takeOut : List Cond := .code yX2_takeOut cX2_takeOut 5 none :: ((wsX2_takeOut_r1 ++ wsX2_takeOut_r2) ++ wsX20)
def wsX2_canJoin_r1 : List Cond := [Cond.methodLink RX2 82 Lib.Math.max.name, Cond.static Lib.Math.max.name, Cond.initialized "java/lang/Math", Cond.code Lib.Math.max.name Lib.Math.max.code 2 (some .int), Cond.methodLink RX2 72 yX2_pagesInChain, Cond.instanceMethod yX2_pagesInChain, Cond.selects RX2 yX2_pagesInChain yX2_pagesInChain, Cond.initialized RX2, Cond.code yX2_pagesInChain cX2_pagesInChain 4 (some .int), Cond.fieldLink RX2 21 "PageBuckets$Pages" "behind" "[I", Cond.static yX3_isPage, Cond.initialized RX3, Cond.code yX3_isPage cX3_isPage 1 (some .boolean), Cond.methodLink RX2 76 yX2_lastPage, Cond.instanceMethod yX2_lastPage, Cond.selects RX2 yX2_lastPage yX2_lastPage, Cond.code yX2_lastPage cX2_lastPage 2 (some .int), Cond.fieldLink RX2 30 "PageBuckets$Pages" "last" "[I", Cond.constant RX2 37 (-2000000005), Cond.methodLink RX2 69 yX2_isBucketPlace, Cond.static yX2_isBucketPlace, Cond.code yX2_isBucketPlace cX2_isBucketPlace 1 (some .boolean), Cond.methodLink RX2 79 yX2_entriesOnPage, Cond.instanceMethod yX2_entriesOnPage]
def wsX2_canJoin_r2 : List Cond := [Cond.selects RX2 yX2_entriesOnPage yX2_entriesOnPage, Cond.code yX2_entriesOnPage cX2_entriesOnPage 2 (some .int), Cond.fieldLink RX2 18 "PageBuckets$Pages" "used" "[I", Cond.methodLink RX2 129 yX2_freePages, Cond.instanceMethod yX2_freePages, Cond.selects RX2 yX2_freePages yX2_freePages, Cond.code yX2_freePages cX2_freePages 3 (some .int), Cond.fieldLink RX2 27 "PageBuckets$Pages" "holder" "[I"]
def wsX2_canJoin : List Cond := .code yX2_canJoin cX2_canJoin 6 (some .boolean) :: ((wsX2_canJoin_r1 ++ wsX2_canJoin_r2) ++ wsX20)
def wsX2_shrink_r1 : List Cond := [Cond.fieldLink RX2 54 "PageBuckets$Pages" "split" "I", Cond.fieldLink RX2 50 "PageBuckets$Pages" "level" "I", Cond.fieldLink RX2 33 "PageBuckets$Pages" "aside" "LPageBuckets$Aside;", Cond.fieldLink RX2 114 "PageBuckets$Aside" "size" "I", Cond.fieldLink RX2 123 "PageBuckets$Aside" "keys" "[I", Cond.fieldLink RX2 124 "PageBuckets$Aside" "values" "[I", Cond.methodLink RX2 65 yX2_bucketCount, Cond.instanceMethod yX2_bucketCount, Cond.selects RX2 yX2_bucketCount yX2_bucketCount, Cond.initialized RX2, Cond.code yX2_bucketCount cX2_bucketCount 1 (some .int), Cond.methodLink RX2 125 yX2_canJoin, Cond.instanceMethod yX2_canJoin, Cond.selects RX2 yX2_canJoin yX2_canJoin, Cond.code yX2_canJoin cX2_canJoin 6 (some .boolean), Cond.methodLink RX2 82 Lib.Math.max.name, Cond.static Lib.Math.max.name, Cond.initialized "java/lang/Math", Cond.code Lib.Math.max.name Lib.Math.max.code 2 (some .int), Cond.methodLink RX2 72 yX2_pagesInChain, Cond.instanceMethod yX2_pagesInChain, Cond.selects RX2 yX2_pagesInChain yX2_pagesInChain, Cond.code yX2_pagesInChain cX2_pagesInChain 4 (some .int), Cond.fieldLink RX2 21 "PageBuckets$Pages" "behind" "[I"]
def wsX2_shrink_r2 : List Cond := [Cond.static yX3_isPage, Cond.initialized RX3, Cond.code yX3_isPage cX3_isPage 1 (some .boolean), Cond.methodLink RX2 76 yX2_lastPage, Cond.instanceMethod yX2_lastPage, Cond.selects RX2 yX2_lastPage yX2_lastPage, Cond.code yX2_lastPage cX2_lastPage 2 (some .int), Cond.fieldLink RX2 30 "PageBuckets$Pages" "last" "[I", Cond.constant RX2 37 (-2000000005), Cond.methodLink RX2 69 yX2_isBucketPlace, Cond.static yX2_isBucketPlace, Cond.code yX2_isBucketPlace cX2_isBucketPlace 1 (some .boolean), Cond.methodLink RX2 79 yX2_entriesOnPage, Cond.instanceMethod yX2_entriesOnPage, Cond.selects RX2 yX2_entriesOnPage yX2_entriesOnPage, Cond.code yX2_entriesOnPage cX2_entriesOnPage 2 (some .int), Cond.fieldLink RX2 18 "PageBuckets$Pages" "used" "[I", Cond.methodLink RX2 129 yX2_freePages, Cond.instanceMethod yX2_freePages, Cond.selects RX2 yX2_freePages yX2_freePages, Cond.code yX2_freePages cX2_freePages 3 (some .int), Cond.fieldLink RX2 27 "PageBuckets$Pages" "holder" "[I", Cond.methodLink RX2 119 yX2_setAside, Cond.instanceMethod yX2_setAside]
def wsX2_shrink_r3 : List Cond := [Cond.selects RX2 yX2_setAside yX2_setAside, Cond.code yX2_setAside cX2_setAside 5 none, Cond.fieldLink RX2 9 "PageBuckets$Pages" "keys" "[I", Cond.fieldLink RX2 15 "PageBuckets$Pages" "values" "[I", Cond.fieldLink RX2 57 "PageBuckets$Pages" "entries" "I", Cond.methodLink RX2 132 yX0_push, Cond.instanceMethod yX0_push, Cond.selects RX0 yX0_push yX0_push, Cond.initialized RX0, Cond.code yX0_push cX0_push 3 none, Cond.fieldLink RX0 18 "PageBuckets$Aside" "size" "I", Cond.fieldLink RX0 9 "PageBuckets$Aside" "keys" "[I", Cond.fieldLink RX0 15 "PageBuckets$Aside" "values" "[I", Cond.methodLink RX2 135 yX2_clearPage, Cond.instanceMethod yX2_clearPage, Cond.selects RX2 yX2_clearPage yX2_clearPage, Cond.code yX2_clearPage cX2_clearPage 2 none, Cond.fieldLink RX2 24 "PageBuckets$Pages" "ahead" "[I", Cond.methodLink RX2 97 yX2_append, Cond.instanceMethod yX2_append, Cond.selects RX2 yX2_append yX2_append, Cond.code yX2_append cX2_append 6 none, Cond.methodLink RX2 138 yX2_linkNewPage, Cond.instanceMethod yX2_linkNewPage]
def wsX2_shrink_r4 : List Cond := [Cond.selects RX2 yX2_linkNewPage yX2_linkNewPage, Cond.code yX2_linkNewPage cX2_linkNewPage 4 (some .int), Cond.methodLink RX2 91 yX2_leastFreePage, Cond.instanceMethod yX2_leastFreePage, Cond.selects RX2 yX2_leastFreePage yX2_leastFreePage, Cond.code yX2_leastFreePage cX2_leastFreePage 2 (some .int)]
def wsX2_shrink : List Cond := .code yX2_shrink cX2_shrink 5 none :: ((wsX2_shrink_r1 ++ (wsX2_shrink_r2 ++ (wsX2_shrink_r3 ++ wsX2_shrink_r4))) ++ wsX20 ++ wsX00)
def wsX2_carryOut_r1 : List Cond := [Cond.constant RX2 37 (-2000000005), Cond.fieldLink RX2 57 "PageBuckets$Pages" "entries" "I", Cond.methodLink RX2 94 yX2_find, Cond.instanceMethod yX2_find, Cond.selects RX2 yX2_find yX2_find, Cond.initialized RX2, Cond.code yX2_find cX2_find 5 (some .int), Cond.fieldLink RX2 18 "PageBuckets$Pages" "used" "[I", Cond.fieldLink RX2 9 "PageBuckets$Pages" "keys" "[I", Cond.fieldLink RX2 21 "PageBuckets$Pages" "behind" "[I", Cond.methodLink RX2 88 yX2_addressOf, Cond.instanceMethod yX2_addressOf, Cond.selects RX2 yX2_addressOf yX2_addressOf, Cond.code yX2_addressOf cX2_addressOf 4 (some .int), Cond.constant RX2 60 (-1640531527), Cond.fieldLink RX2 50 "PageBuckets$Pages" "level" "I", Cond.fieldLink RX2 54 "PageBuckets$Pages" "split" "I", Cond.static yX3_isPage, Cond.initialized RX3, Cond.code yX3_isPage cX3_isPage 1 (some .boolean), Cond.methodLink RX2 97 yX2_append, Cond.instanceMethod yX2_append, Cond.selects RX2 yX2_append yX2_append, Cond.code yX2_append cX2_append 6 none]
def wsX2_carryOut_r2 : List Cond := [Cond.fieldLink RX2 15 "PageBuckets$Pages" "values" "[I", Cond.methodLink RX2 76 yX2_lastPage, Cond.instanceMethod yX2_lastPage, Cond.selects RX2 yX2_lastPage yX2_lastPage, Cond.code yX2_lastPage cX2_lastPage 2 (some .int), Cond.fieldLink RX2 30 "PageBuckets$Pages" "last" "[I", Cond.methodLink RX2 69 yX2_isBucketPlace, Cond.static yX2_isBucketPlace, Cond.code yX2_isBucketPlace cX2_isBucketPlace 1 (some .boolean), Cond.methodLink RX2 79 yX2_entriesOnPage, Cond.instanceMethod yX2_entriesOnPage, Cond.selects RX2 yX2_entriesOnPage yX2_entriesOnPage, Cond.code yX2_entriesOnPage cX2_entriesOnPage 2 (some .int), Cond.methodLink RX2 138 yX2_linkNewPage, Cond.instanceMethod yX2_linkNewPage, Cond.selects RX2 yX2_linkNewPage yX2_linkNewPage, Cond.code yX2_linkNewPage cX2_linkNewPage 4 (some .int), Cond.fieldLink RX2 24 "PageBuckets$Pages" "ahead" "[I", Cond.fieldLink RX2 27 "PageBuckets$Pages" "holder" "[I", Cond.methodLink RX2 91 yX2_leastFreePage, Cond.instanceMethod yX2_leastFreePage, Cond.selects RX2 yX2_leastFreePage yX2_leastFreePage, Cond.code yX2_leastFreePage cX2_leastFreePage 2 (some .int), Cond.methodLink RX2 65 yX2_bucketCount]
def wsX2_carryOut_r3 : List Cond := [Cond.instanceMethod yX2_bucketCount, Cond.selects RX2 yX2_bucketCount yX2_bucketCount, Cond.code yX2_bucketCount cX2_bucketCount 1 (some .int), Cond.methodLink RX2 101 yX2_grow, Cond.instanceMethod yX2_grow, Cond.selects RX2 yX2_grow yX2_grow, Cond.code yX2_grow cX2_grow 2 none, Cond.fieldLink RX2 33 "PageBuckets$Pages" "aside" "LPageBuckets$Aside;", Cond.fieldLink RX2 114 "PageBuckets$Aside" "size" "I", Cond.fieldLink RX2 123 "PageBuckets$Aside" "keys" "[I", Cond.fieldLink RX2 124 "PageBuckets$Aside" "values" "[I", Cond.methodLink RX2 119 yX2_setAside, Cond.instanceMethod yX2_setAside, Cond.selects RX2 yX2_setAside yX2_setAside, Cond.code yX2_setAside cX2_setAside 5 none, Cond.methodLink RX2 132 yX0_push, Cond.instanceMethod yX0_push, Cond.selects RX0 yX0_push yX0_push, Cond.initialized RX0, Cond.code yX0_push cX0_push 3 none, Cond.fieldLink RX0 18 "PageBuckets$Aside" "size" "I", Cond.fieldLink RX0 9 "PageBuckets$Aside" "keys" "[I", Cond.fieldLink RX0 15 "PageBuckets$Aside" "values" "[I", Cond.methodLink RX2 135 yX2_clearPage]
def wsX2_carryOut_r4 : List Cond := [Cond.instanceMethod yX2_clearPage, Cond.selects RX2 yX2_clearPage yX2_clearPage, Cond.code yX2_clearPage cX2_clearPage 2 none, Cond.methodLink RX2 104 yX2_setValue, Cond.instanceMethod yX2_setValue, Cond.selects RX2 yX2_setValue yX2_setValue, Cond.code yX2_setValue cX2_setValue 3 none, Cond.methodLink RX2 108 yX2_takeOut, Cond.instanceMethod yX2_takeOut, Cond.selects RX2 yX2_takeOut yX2_takeOut, Cond.code yX2_takeOut cX2_takeOut 5 none, Cond.methodLink RX2 141 yX2_unlinkLast, Cond.instanceMethod yX2_unlinkLast, Cond.selects RX2 yX2_unlinkLast yX2_unlinkLast, Cond.code yX2_unlinkLast cX2_unlinkLast 4 none, Cond.methodLink RX2 111 yX2_shrink, Cond.instanceMethod yX2_shrink, Cond.selects RX2 yX2_shrink yX2_shrink, Cond.code yX2_shrink cX2_shrink 5 none, Cond.methodLink RX2 125 yX2_canJoin, Cond.instanceMethod yX2_canJoin, Cond.selects RX2 yX2_canJoin yX2_canJoin, Cond.code yX2_canJoin cX2_canJoin 6 (some .boolean), Cond.methodLink RX2 82 Lib.Math.max.name]
def wsX2_carryOut_r5 : List Cond := [Cond.static Lib.Math.max.name, Cond.initialized "java/lang/Math", Cond.code Lib.Math.max.name Lib.Math.max.code 2 (some .int), Cond.methodLink RX2 72 yX2_pagesInChain, Cond.instanceMethod yX2_pagesInChain, Cond.selects RX2 yX2_pagesInChain yX2_pagesInChain, Cond.code yX2_pagesInChain cX2_pagesInChain 4 (some .int), Cond.methodLink RX2 129 yX2_freePages, Cond.instanceMethod yX2_freePages, Cond.selects RX2 yX2_freePages yX2_freePages, Cond.code yX2_freePages cX2_freePages 3 (some .int)]
def wsX2_carryOut : List Cond := .code yX2_carryOut cX2_carryOut 5 none :: ((wsX2_carryOut_r1 ++ (wsX2_carryOut_r2 ++ (wsX2_carryOut_r3 ++ (wsX2_carryOut_r4 ++ wsX2_carryOut_r5)))) ++ wsX20 ++ wsX00)
def wsX3_init_r1 : List Cond := [Cond.methodLink RX3 3 objectInit, Cond.instanceMethod objectInit, Cond.code objectInit ⟨#[0xb1]⟩ 1 none, Cond.classLink RX3 9 RX0, Cond.instantiable RX0 3, Cond.initialized RX0, Cond.classLink RX3 12 RX2, Cond.instantiable RX2 11, Cond.initialized RX2, Cond.fieldLink RX3 17 "PageBuckets" "current" "LPageBuckets$Pages;", Cond.fieldLink RX3 21 "PageBuckets" "kept" "LPageBuckets$Pages;", Cond.classLink RX3 24 RX1, Cond.instantiable RX1 8, Cond.initialized RX1, Cond.fieldLink RX3 27 "PageBuckets" "journal" "LPageBuckets$Journal;", Cond.instanceMethod yX0_init, Cond.code yX0_init cX0_init 1 none, Cond.methodLink RX0 3 objectInit, Cond.arrayClass .int, Cond.fieldLink RX0 9 "PageBuckets$Aside" "keys" "[I", Cond.fieldLink RX0 15 "PageBuckets$Aside" "values" "[I", Cond.methodLink RX3 14 yX2_init, Cond.instanceMethod yX2_init, Cond.code yX2_init cX2_init 3 none]
def wsX3_init_r2 : List Cond := [Cond.methodLink RX2 3 objectInit, Cond.fieldLink RX2 9 "PageBuckets$Pages" "keys" "[I", Cond.fieldLink RX2 15 "PageBuckets$Pages" "values" "[I", Cond.fieldLink RX2 18 "PageBuckets$Pages" "used" "[I", Cond.fieldLink RX2 21 "PageBuckets$Pages" "behind" "[I", Cond.fieldLink RX2 24 "PageBuckets$Pages" "ahead" "[I", Cond.fieldLink RX2 27 "PageBuckets$Pages" "holder" "[I", Cond.fieldLink RX2 30 "PageBuckets$Pages" "last" "[I", Cond.fieldLink RX2 33 "PageBuckets$Pages" "aside" "LPageBuckets$Aside;", Cond.constant RX2 37 (-2000000005), Cond.methodLink RX2 38 yJ7_fill_53178, Cond.static yJ7_fill_53178, Cond.initialized RJ7, Cond.code yJ7_fill_53178 cJ7_fill_53178 4 none, Cond.instanceMethod yX1_init, Cond.code yX1_init cX1_init 1 none, Cond.methodLink RX1 3 objectInit, Cond.fieldLink RX1 9 "PageBuckets$Journal" "kinds" "[I", Cond.fieldLink RX1 15 "PageBuckets$Journal" "keys" "[I", Cond.fieldLink RX1 18 "PageBuckets$Journal" "values" "[I", Cond.fieldLink RX1 21 "PageBuckets$Journal" "groupEnds" "[I"]
def wsX3_init : List Cond := .code yX3_init cX3_init 2 none :: ((wsX3_init_r1 ++ wsX3_init_r2) ++ wsX00 ++ wsX20 ++ wsX30 ++ wsX10)
def wsX3_write_r1 : List Cond := [Cond.fieldLink RX3 17 "PageBuckets" "current" "LPageBuckets$Pages;", Cond.fieldLink RX3 27 "PageBuckets" "journal" "LPageBuckets$Journal;", Cond.fieldLink RX3 144 "PageBuckets" "writesThatStand" "I", Cond.methodLink RX3 150 yX2_carryOut, Cond.instanceMethod yX2_carryOut, Cond.selects RX2 yX2_carryOut yX2_carryOut, Cond.initialized RX2, Cond.code yX2_carryOut cX2_carryOut 5 none, Cond.constant RX2 37 (-2000000005), Cond.fieldLink RX2 57 "PageBuckets$Pages" "entries" "I", Cond.methodLink RX2 94 yX2_find, Cond.instanceMethod yX2_find, Cond.selects RX2 yX2_find yX2_find, Cond.code yX2_find cX2_find 5 (some .int), Cond.fieldLink RX2 18 "PageBuckets$Pages" "used" "[I", Cond.fieldLink RX2 9 "PageBuckets$Pages" "keys" "[I", Cond.fieldLink RX2 21 "PageBuckets$Pages" "behind" "[I", Cond.methodLink RX2 88 yX2_addressOf, Cond.instanceMethod yX2_addressOf, Cond.selects RX2 yX2_addressOf yX2_addressOf, Cond.code yX2_addressOf cX2_addressOf 4 (some .int), Cond.constant RX2 60 (-1640531527), Cond.fieldLink RX2 50 "PageBuckets$Pages" "level" "I", Cond.fieldLink RX2 54 "PageBuckets$Pages" "split" "I"]
def wsX3_write_r2 : List Cond := [Cond.static yX3_isPage, Cond.initialized RX3, Cond.code yX3_isPage cX3_isPage 1 (some .boolean), Cond.methodLink RX2 97 yX2_append, Cond.instanceMethod yX2_append, Cond.selects RX2 yX2_append yX2_append, Cond.code yX2_append cX2_append 6 none, Cond.fieldLink RX2 15 "PageBuckets$Pages" "values" "[I", Cond.methodLink RX2 76 yX2_lastPage, Cond.instanceMethod yX2_lastPage, Cond.selects RX2 yX2_lastPage yX2_lastPage, Cond.code yX2_lastPage cX2_lastPage 2 (some .int), Cond.fieldLink RX2 30 "PageBuckets$Pages" "last" "[I", Cond.methodLink RX2 69 yX2_isBucketPlace, Cond.static yX2_isBucketPlace, Cond.code yX2_isBucketPlace cX2_isBucketPlace 1 (some .boolean), Cond.methodLink RX2 79 yX2_entriesOnPage, Cond.instanceMethod yX2_entriesOnPage, Cond.selects RX2 yX2_entriesOnPage yX2_entriesOnPage, Cond.code yX2_entriesOnPage cX2_entriesOnPage 2 (some .int), Cond.methodLink RX2 138 yX2_linkNewPage, Cond.instanceMethod yX2_linkNewPage, Cond.selects RX2 yX2_linkNewPage yX2_linkNewPage, Cond.code yX2_linkNewPage cX2_linkNewPage 4 (some .int)]
def wsX3_write_r3 : List Cond := [Cond.fieldLink RX2 24 "PageBuckets$Pages" "ahead" "[I", Cond.fieldLink RX2 27 "PageBuckets$Pages" "holder" "[I", Cond.methodLink RX2 91 yX2_leastFreePage, Cond.instanceMethod yX2_leastFreePage, Cond.selects RX2 yX2_leastFreePage yX2_leastFreePage, Cond.code yX2_leastFreePage cX2_leastFreePage 2 (some .int), Cond.methodLink RX2 65 yX2_bucketCount, Cond.instanceMethod yX2_bucketCount, Cond.selects RX2 yX2_bucketCount yX2_bucketCount, Cond.code yX2_bucketCount cX2_bucketCount 1 (some .int), Cond.methodLink RX2 101 yX2_grow, Cond.instanceMethod yX2_grow, Cond.selects RX2 yX2_grow yX2_grow, Cond.code yX2_grow cX2_grow 2 none, Cond.fieldLink RX2 33 "PageBuckets$Pages" "aside" "LPageBuckets$Aside;", Cond.fieldLink RX2 114 "PageBuckets$Aside" "size" "I", Cond.fieldLink RX2 123 "PageBuckets$Aside" "keys" "[I", Cond.fieldLink RX2 124 "PageBuckets$Aside" "values" "[I", Cond.methodLink RX2 119 yX2_setAside, Cond.instanceMethod yX2_setAside, Cond.selects RX2 yX2_setAside yX2_setAside, Cond.code yX2_setAside cX2_setAside 5 none, Cond.methodLink RX2 132 yX0_push, Cond.instanceMethod yX0_push]
def wsX3_write_r4 : List Cond := [Cond.selects RX0 yX0_push yX0_push, Cond.initialized RX0, Cond.code yX0_push cX0_push 3 none, Cond.fieldLink RX0 18 "PageBuckets$Aside" "size" "I", Cond.fieldLink RX0 9 "PageBuckets$Aside" "keys" "[I", Cond.fieldLink RX0 15 "PageBuckets$Aside" "values" "[I", Cond.methodLink RX2 135 yX2_clearPage, Cond.instanceMethod yX2_clearPage, Cond.selects RX2 yX2_clearPage yX2_clearPage, Cond.code yX2_clearPage cX2_clearPage 2 none, Cond.methodLink RX2 104 yX2_setValue, Cond.instanceMethod yX2_setValue, Cond.selects RX2 yX2_setValue yX2_setValue, Cond.code yX2_setValue cX2_setValue 3 none, Cond.methodLink RX2 108 yX2_takeOut, Cond.instanceMethod yX2_takeOut, Cond.selects RX2 yX2_takeOut yX2_takeOut, Cond.code yX2_takeOut cX2_takeOut 5 none, Cond.methodLink RX2 141 yX2_unlinkLast, Cond.instanceMethod yX2_unlinkLast, Cond.selects RX2 yX2_unlinkLast yX2_unlinkLast, Cond.code yX2_unlinkLast cX2_unlinkLast 4 none, Cond.methodLink RX2 111 yX2_shrink, Cond.instanceMethod yX2_shrink]
def wsX3_write_r5 : List Cond := [Cond.selects RX2 yX2_shrink yX2_shrink, Cond.code yX2_shrink cX2_shrink 5 none, Cond.methodLink RX2 125 yX2_canJoin, Cond.instanceMethod yX2_canJoin, Cond.selects RX2 yX2_canJoin yX2_canJoin, Cond.code yX2_canJoin cX2_canJoin 6 (some .boolean), Cond.methodLink RX2 82 Lib.Math.max.name, Cond.static Lib.Math.max.name, Cond.initialized "java/lang/Math", Cond.code Lib.Math.max.name Lib.Math.max.code 2 (some .int), Cond.methodLink RX2 72 yX2_pagesInChain, Cond.instanceMethod yX2_pagesInChain, Cond.selects RX2 yX2_pagesInChain yX2_pagesInChain, Cond.code yX2_pagesInChain cX2_pagesInChain 4 (some .int), Cond.methodLink RX2 129 yX2_freePages, Cond.instanceMethod yX2_freePages, Cond.selects RX2 yX2_freePages yX2_freePages, Cond.code yX2_freePages cX2_freePages 3 (some .int), Cond.methodLink RX3 153 yX1_note, Cond.instanceMethod yX1_note, Cond.selects RX1 yX1_note yX1_note, Cond.initialized RX1, Cond.code yX1_note cX1_note 4 none, Cond.fieldLink RX1 24 "PageBuckets$Journal" "writes" "I"]
def wsX3_write_r6 : List Cond := [Cond.fieldLink RX1 9 "PageBuckets$Journal" "kinds" "[I", Cond.fieldLink RX1 15 "PageBuckets$Journal" "keys" "[I", Cond.fieldLink RX1 18 "PageBuckets$Journal" "values" "[I", Cond.fieldLink RX1 28 "PageBuckets$Journal" "open" "Z", Cond.methodLink RX1 38 yX1_endGroupHere, Cond.instanceMethod yX1_endGroupHere, Cond.selects RX1 yX1_endGroupHere yX1_endGroupHere, Cond.code yX1_endGroupHere cX1_endGroupHere 1 none, Cond.fieldLink RX1 32 "PageBuckets$Journal" "groups" "I", Cond.fieldLink RX1 21 "PageBuckets$Journal" "groupEnds" "[I"]
def wsX3_write : List Cond := .code yX3_write cX3_write 4 none :: ((wsX3_write_r1 ++ (wsX3_write_r2 ++ (wsX3_write_r3 ++ (wsX3_write_r4 ++ (wsX3_write_r5 ++ wsX3_write_r6))))) ++ wsX30 ++ wsX20 ++ wsX00 ++ wsX10)
def wsX3_put_r1 : List Cond := [Cond.constant RX3 31 (1000000000), Cond.constant RX3 32 (-2000000001), Cond.fieldLink RX3 17 "PageBuckets" "current" "LPageBuckets$Pages;", Cond.constant RX3 37 (-2000000005), Cond.constant RX3 42 (-2000000003), Cond.fieldLink RX3 27 "PageBuckets" "journal" "LPageBuckets$Journal;", Cond.constant RX3 47 (-2000000004), Cond.methodLink RX3 33 yX2_find, Cond.instanceMethod yX2_find, Cond.selects RX2 yX2_find yX2_find, Cond.initialized RX2, Cond.code yX2_find cX2_find 5 (some .int), Cond.fieldLink RX2 18 "PageBuckets$Pages" "used" "[I", Cond.fieldLink RX2 9 "PageBuckets$Pages" "keys" "[I", Cond.fieldLink RX2 21 "PageBuckets$Pages" "behind" "[I", Cond.constant RX2 37 (-2000000005), Cond.methodLink RX2 88 yX2_addressOf, Cond.instanceMethod yX2_addressOf, Cond.selects RX2 yX2_addressOf yX2_addressOf, Cond.code yX2_addressOf cX2_addressOf 4 (some .int), Cond.constant RX2 60 (-1640531527), Cond.fieldLink RX2 50 "PageBuckets$Pages" "level" "I", Cond.fieldLink RX2 54 "PageBuckets$Pages" "split" "I", Cond.static yX3_isPage]
def wsX3_put_r2 : List Cond := [Cond.initialized RX3, Cond.code yX3_isPage cX3_isPage 1 (some .boolean), Cond.methodLink RX3 38 yX2_hasRoomFor, Cond.instanceMethod yX2_hasRoomFor, Cond.selects RX2 yX2_hasRoomFor yX2_hasRoomFor, Cond.code yX2_hasRoomFor cX2_hasRoomFor 2 (some .boolean), Cond.methodLink RX2 76 yX2_lastPage, Cond.instanceMethod yX2_lastPage, Cond.selects RX2 yX2_lastPage yX2_lastPage, Cond.code yX2_lastPage cX2_lastPage 2 (some .int), Cond.fieldLink RX2 30 "PageBuckets$Pages" "last" "[I", Cond.methodLink RX2 69 yX2_isBucketPlace, Cond.static yX2_isBucketPlace, Cond.code yX2_isBucketPlace cX2_isBucketPlace 1 (some .boolean), Cond.methodLink RX2 79 yX2_entriesOnPage, Cond.instanceMethod yX2_entriesOnPage, Cond.selects RX2 yX2_entriesOnPage yX2_entriesOnPage, Cond.code yX2_entriesOnPage cX2_entriesOnPage 2 (some .int), Cond.methodLink RX2 91 yX2_leastFreePage, Cond.instanceMethod yX2_leastFreePage, Cond.selects RX2 yX2_leastFreePage yX2_leastFreePage, Cond.code yX2_leastFreePage cX2_leastFreePage 2 (some .int), Cond.fieldLink RX2 27 "PageBuckets$Pages" "holder" "[I", Cond.methodLink RX3 43 yX1_isFull]
def wsX3_put_r3 : List Cond := [Cond.instanceMethod yX1_isFull, Cond.selects RX1 yX1_isFull yX1_isFull, Cond.initialized RX1, Cond.code yX1_isFull cX1_isFull 1 (some .boolean), Cond.fieldLink RX1 24 "PageBuckets$Journal" "writes" "I", Cond.methodLink RX3 48 yX3_write, Cond.instanceMethod yX3_write, Cond.selects RX3 yX3_write yX3_write, Cond.code yX3_write cX3_write 4 none, Cond.fieldLink RX3 144 "PageBuckets" "writesThatStand" "I", Cond.methodLink RX3 150 yX2_carryOut, Cond.instanceMethod yX2_carryOut, Cond.selects RX2 yX2_carryOut yX2_carryOut, Cond.code yX2_carryOut cX2_carryOut 5 none, Cond.fieldLink RX2 57 "PageBuckets$Pages" "entries" "I", Cond.methodLink RX2 94 yX2_find, Cond.methodLink RX2 97 yX2_append, Cond.instanceMethod yX2_append, Cond.selects RX2 yX2_append yX2_append, Cond.code yX2_append cX2_append 6 none, Cond.fieldLink RX2 15 "PageBuckets$Pages" "values" "[I", Cond.methodLink RX2 138 yX2_linkNewPage, Cond.instanceMethod yX2_linkNewPage, Cond.selects RX2 yX2_linkNewPage yX2_linkNewPage]
def wsX3_put_r4 : List Cond := [Cond.code yX2_linkNewPage cX2_linkNewPage 4 (some .int), Cond.fieldLink RX2 24 "PageBuckets$Pages" "ahead" "[I", Cond.methodLink RX2 65 yX2_bucketCount, Cond.instanceMethod yX2_bucketCount, Cond.selects RX2 yX2_bucketCount yX2_bucketCount, Cond.code yX2_bucketCount cX2_bucketCount 1 (some .int), Cond.methodLink RX2 101 yX2_grow, Cond.instanceMethod yX2_grow, Cond.selects RX2 yX2_grow yX2_grow, Cond.code yX2_grow cX2_grow 2 none, Cond.fieldLink RX2 33 "PageBuckets$Pages" "aside" "LPageBuckets$Aside;", Cond.fieldLink RX2 114 "PageBuckets$Aside" "size" "I", Cond.fieldLink RX2 123 "PageBuckets$Aside" "keys" "[I", Cond.fieldLink RX2 124 "PageBuckets$Aside" "values" "[I", Cond.methodLink RX2 119 yX2_setAside, Cond.instanceMethod yX2_setAside, Cond.selects RX2 yX2_setAside yX2_setAside, Cond.code yX2_setAside cX2_setAside 5 none, Cond.methodLink RX2 132 yX0_push, Cond.instanceMethod yX0_push, Cond.selects RX0 yX0_push yX0_push, Cond.initialized RX0, Cond.code yX0_push cX0_push 3 none, Cond.fieldLink RX0 18 "PageBuckets$Aside" "size" "I"]
def wsX3_put_r5 : List Cond := [Cond.fieldLink RX0 9 "PageBuckets$Aside" "keys" "[I", Cond.fieldLink RX0 15 "PageBuckets$Aside" "values" "[I", Cond.methodLink RX2 135 yX2_clearPage, Cond.instanceMethod yX2_clearPage, Cond.selects RX2 yX2_clearPage yX2_clearPage, Cond.code yX2_clearPage cX2_clearPage 2 none, Cond.methodLink RX2 104 yX2_setValue, Cond.instanceMethod yX2_setValue, Cond.selects RX2 yX2_setValue yX2_setValue, Cond.code yX2_setValue cX2_setValue 3 none, Cond.methodLink RX2 108 yX2_takeOut, Cond.instanceMethod yX2_takeOut, Cond.selects RX2 yX2_takeOut yX2_takeOut, Cond.code yX2_takeOut cX2_takeOut 5 none, Cond.methodLink RX2 141 yX2_unlinkLast, Cond.instanceMethod yX2_unlinkLast, Cond.selects RX2 yX2_unlinkLast yX2_unlinkLast, Cond.code yX2_unlinkLast cX2_unlinkLast 4 none, Cond.methodLink RX2 111 yX2_shrink, Cond.instanceMethod yX2_shrink, Cond.selects RX2 yX2_shrink yX2_shrink, Cond.code yX2_shrink cX2_shrink 5 none, Cond.methodLink RX2 125 yX2_canJoin, Cond.instanceMethod yX2_canJoin]
def wsX3_put_r6 : List Cond := [Cond.selects RX2 yX2_canJoin yX2_canJoin, Cond.code yX2_canJoin cX2_canJoin 6 (some .boolean), Cond.methodLink RX2 82 Lib.Math.max.name, Cond.static Lib.Math.max.name, Cond.initialized "java/lang/Math", Cond.code Lib.Math.max.name Lib.Math.max.code 2 (some .int), Cond.methodLink RX2 72 yX2_pagesInChain, Cond.instanceMethod yX2_pagesInChain, Cond.selects RX2 yX2_pagesInChain yX2_pagesInChain, Cond.code yX2_pagesInChain cX2_pagesInChain 4 (some .int), Cond.methodLink RX2 129 yX2_freePages, Cond.instanceMethod yX2_freePages, Cond.selects RX2 yX2_freePages yX2_freePages, Cond.code yX2_freePages cX2_freePages 3 (some .int), Cond.methodLink RX3 153 yX1_note, Cond.instanceMethod yX1_note, Cond.selects RX1 yX1_note yX1_note, Cond.code yX1_note cX1_note 4 none, Cond.fieldLink RX1 9 "PageBuckets$Journal" "kinds" "[I", Cond.fieldLink RX1 15 "PageBuckets$Journal" "keys" "[I", Cond.fieldLink RX1 18 "PageBuckets$Journal" "values" "[I", Cond.fieldLink RX1 28 "PageBuckets$Journal" "open" "Z", Cond.methodLink RX1 38 yX1_endGroupHere, Cond.instanceMethod yX1_endGroupHere]
def wsX3_put_r7 : List Cond := [Cond.selects RX1 yX1_endGroupHere yX1_endGroupHere, Cond.code yX1_endGroupHere cX1_endGroupHere 1 none, Cond.fieldLink RX1 32 "PageBuckets$Journal" "groups" "I", Cond.fieldLink RX1 21 "PageBuckets$Journal" "groupEnds" "[I"]
def wsX3_put : List Cond := .code yX3_put cX3_put 4 (some .int) :: ((wsX3_put_r1 ++ (wsX3_put_r2 ++ (wsX3_put_r3 ++ (wsX3_put_r4 ++ (wsX3_put_r5 ++ (wsX3_put_r6 ++ wsX3_put_r7)))))) ++ wsX30 ++ wsX20 ++ wsX10 ++ wsX00)
def wsX3_remove_r1 : List Cond := [Cond.fieldLink RX3 17 "PageBuckets" "current" "LPageBuckets$Pages;", Cond.constant RX3 37 (-2000000005), Cond.fieldLink RX3 27 "PageBuckets" "journal" "LPageBuckets$Journal;", Cond.constant RX3 47 (-2000000004), Cond.methodLink RX3 33 yX2_find, Cond.instanceMethod yX2_find, Cond.selects RX2 yX2_find yX2_find, Cond.initialized RX2, Cond.code yX2_find cX2_find 5 (some .int), Cond.fieldLink RX2 18 "PageBuckets$Pages" "used" "[I", Cond.fieldLink RX2 9 "PageBuckets$Pages" "keys" "[I", Cond.fieldLink RX2 21 "PageBuckets$Pages" "behind" "[I", Cond.constant RX2 37 (-2000000005), Cond.methodLink RX2 88 yX2_addressOf, Cond.instanceMethod yX2_addressOf, Cond.selects RX2 yX2_addressOf yX2_addressOf, Cond.code yX2_addressOf cX2_addressOf 4 (some .int), Cond.constant RX2 60 (-1640531527), Cond.fieldLink RX2 50 "PageBuckets$Pages" "level" "I", Cond.fieldLink RX2 54 "PageBuckets$Pages" "split" "I", Cond.static yX3_isPage, Cond.initialized RX3, Cond.code yX3_isPage cX3_isPage 1 (some .boolean), Cond.methodLink RX3 43 yX1_isFull]
def wsX3_remove_r2 : List Cond := [Cond.instanceMethod yX1_isFull, Cond.selects RX1 yX1_isFull yX1_isFull, Cond.initialized RX1, Cond.code yX1_isFull cX1_isFull 1 (some .boolean), Cond.fieldLink RX1 24 "PageBuckets$Journal" "writes" "I", Cond.methodLink RX3 52 yX2_valueIn, Cond.instanceMethod yX2_valueIn, Cond.selects RX2 yX2_valueIn yX2_valueIn, Cond.code yX2_valueIn cX2_valueIn 2 (some .int), Cond.fieldLink RX2 15 "PageBuckets$Pages" "values" "[I", Cond.methodLink RX3 48 yX3_write, Cond.instanceMethod yX3_write, Cond.selects RX3 yX3_write yX3_write, Cond.code yX3_write cX3_write 4 none, Cond.fieldLink RX3 144 "PageBuckets" "writesThatStand" "I", Cond.methodLink RX3 150 yX2_carryOut, Cond.instanceMethod yX2_carryOut, Cond.selects RX2 yX2_carryOut yX2_carryOut, Cond.code yX2_carryOut cX2_carryOut 5 none, Cond.fieldLink RX2 57 "PageBuckets$Pages" "entries" "I", Cond.methodLink RX2 94 yX2_find, Cond.methodLink RX2 97 yX2_append, Cond.instanceMethod yX2_append, Cond.selects RX2 yX2_append yX2_append]
def wsX3_remove_r3 : List Cond := [Cond.code yX2_append cX2_append 6 none, Cond.methodLink RX2 76 yX2_lastPage, Cond.instanceMethod yX2_lastPage, Cond.selects RX2 yX2_lastPage yX2_lastPage, Cond.code yX2_lastPage cX2_lastPage 2 (some .int), Cond.fieldLink RX2 30 "PageBuckets$Pages" "last" "[I", Cond.methodLink RX2 69 yX2_isBucketPlace, Cond.static yX2_isBucketPlace, Cond.code yX2_isBucketPlace cX2_isBucketPlace 1 (some .boolean), Cond.methodLink RX2 79 yX2_entriesOnPage, Cond.instanceMethod yX2_entriesOnPage, Cond.selects RX2 yX2_entriesOnPage yX2_entriesOnPage, Cond.code yX2_entriesOnPage cX2_entriesOnPage 2 (some .int), Cond.methodLink RX2 138 yX2_linkNewPage, Cond.instanceMethod yX2_linkNewPage, Cond.selects RX2 yX2_linkNewPage yX2_linkNewPage, Cond.code yX2_linkNewPage cX2_linkNewPage 4 (some .int), Cond.fieldLink RX2 24 "PageBuckets$Pages" "ahead" "[I", Cond.fieldLink RX2 27 "PageBuckets$Pages" "holder" "[I", Cond.methodLink RX2 91 yX2_leastFreePage, Cond.instanceMethod yX2_leastFreePage, Cond.selects RX2 yX2_leastFreePage yX2_leastFreePage, Cond.code yX2_leastFreePage cX2_leastFreePage 2 (some .int), Cond.methodLink RX2 65 yX2_bucketCount]
def wsX3_remove_r4 : List Cond := [Cond.instanceMethod yX2_bucketCount, Cond.selects RX2 yX2_bucketCount yX2_bucketCount, Cond.code yX2_bucketCount cX2_bucketCount 1 (some .int), Cond.methodLink RX2 101 yX2_grow, Cond.instanceMethod yX2_grow, Cond.selects RX2 yX2_grow yX2_grow, Cond.code yX2_grow cX2_grow 2 none, Cond.fieldLink RX2 33 "PageBuckets$Pages" "aside" "LPageBuckets$Aside;", Cond.fieldLink RX2 114 "PageBuckets$Aside" "size" "I", Cond.fieldLink RX2 123 "PageBuckets$Aside" "keys" "[I", Cond.fieldLink RX2 124 "PageBuckets$Aside" "values" "[I", Cond.methodLink RX2 119 yX2_setAside, Cond.instanceMethod yX2_setAside, Cond.selects RX2 yX2_setAside yX2_setAside, Cond.code yX2_setAside cX2_setAside 5 none, Cond.methodLink RX2 132 yX0_push, Cond.instanceMethod yX0_push, Cond.selects RX0 yX0_push yX0_push, Cond.initialized RX0, Cond.code yX0_push cX0_push 3 none, Cond.fieldLink RX0 18 "PageBuckets$Aside" "size" "I", Cond.fieldLink RX0 9 "PageBuckets$Aside" "keys" "[I", Cond.fieldLink RX0 15 "PageBuckets$Aside" "values" "[I", Cond.methodLink RX2 135 yX2_clearPage]
def wsX3_remove_r5 : List Cond := [Cond.instanceMethod yX2_clearPage, Cond.selects RX2 yX2_clearPage yX2_clearPage, Cond.code yX2_clearPage cX2_clearPage 2 none, Cond.methodLink RX2 104 yX2_setValue, Cond.instanceMethod yX2_setValue, Cond.selects RX2 yX2_setValue yX2_setValue, Cond.code yX2_setValue cX2_setValue 3 none, Cond.methodLink RX2 108 yX2_takeOut, Cond.instanceMethod yX2_takeOut, Cond.selects RX2 yX2_takeOut yX2_takeOut, Cond.code yX2_takeOut cX2_takeOut 5 none, Cond.methodLink RX2 141 yX2_unlinkLast, Cond.instanceMethod yX2_unlinkLast, Cond.selects RX2 yX2_unlinkLast yX2_unlinkLast, Cond.code yX2_unlinkLast cX2_unlinkLast 4 none, Cond.methodLink RX2 111 yX2_shrink, Cond.instanceMethod yX2_shrink, Cond.selects RX2 yX2_shrink yX2_shrink, Cond.code yX2_shrink cX2_shrink 5 none, Cond.methodLink RX2 125 yX2_canJoin, Cond.instanceMethod yX2_canJoin, Cond.selects RX2 yX2_canJoin yX2_canJoin, Cond.code yX2_canJoin cX2_canJoin 6 (some .boolean), Cond.methodLink RX2 82 Lib.Math.max.name]
def wsX3_remove_r6 : List Cond := [Cond.static Lib.Math.max.name, Cond.initialized "java/lang/Math", Cond.code Lib.Math.max.name Lib.Math.max.code 2 (some .int), Cond.methodLink RX2 72 yX2_pagesInChain, Cond.instanceMethod yX2_pagesInChain, Cond.selects RX2 yX2_pagesInChain yX2_pagesInChain, Cond.code yX2_pagesInChain cX2_pagesInChain 4 (some .int), Cond.methodLink RX2 129 yX2_freePages, Cond.instanceMethod yX2_freePages, Cond.selects RX2 yX2_freePages yX2_freePages, Cond.code yX2_freePages cX2_freePages 3 (some .int), Cond.methodLink RX3 153 yX1_note, Cond.instanceMethod yX1_note, Cond.selects RX1 yX1_note yX1_note, Cond.code yX1_note cX1_note 4 none, Cond.fieldLink RX1 9 "PageBuckets$Journal" "kinds" "[I", Cond.fieldLink RX1 15 "PageBuckets$Journal" "keys" "[I", Cond.fieldLink RX1 18 "PageBuckets$Journal" "values" "[I", Cond.fieldLink RX1 28 "PageBuckets$Journal" "open" "Z", Cond.methodLink RX1 38 yX1_endGroupHere, Cond.instanceMethod yX1_endGroupHere, Cond.selects RX1 yX1_endGroupHere yX1_endGroupHere, Cond.code yX1_endGroupHere cX1_endGroupHere 1 none, Cond.fieldLink RX1 32 "PageBuckets$Journal" "groups" "I"]
def wsX3_remove_r7 : List Cond := [Cond.fieldLink RX1 21 "PageBuckets$Journal" "groupEnds" "[I"]
def wsX3_remove : List Cond := .code yX3_remove cX3_remove 4 (some .int) :: ((wsX3_remove_r1 ++ (wsX3_remove_r2 ++ (wsX3_remove_r3 ++ (wsX3_remove_r4 ++ (wsX3_remove_r5 ++ (wsX3_remove_r6 ++ wsX3_remove_r7)))))) ++ wsX30 ++ wsX20 ++ wsX10 ++ wsX00)
def wsX3_get_r1 : List Cond := [Cond.fieldLink RX3 17 "PageBuckets" "current" "LPageBuckets$Pages;", Cond.fieldLink RX3 55 "PageBuckets" "pagesRead" "I", Cond.constant RX3 37 (-2000000005), Cond.methodLink RX3 33 yX2_find, Cond.instanceMethod yX2_find, Cond.selects RX2 yX2_find yX2_find, Cond.initialized RX2, Cond.code yX2_find cX2_find 5 (some .int), Cond.fieldLink RX2 18 "PageBuckets$Pages" "used" "[I", Cond.fieldLink RX2 9 "PageBuckets$Pages" "keys" "[I", Cond.fieldLink RX2 21 "PageBuckets$Pages" "behind" "[I", Cond.constant RX2 37 (-2000000005), Cond.methodLink RX2 88 yX2_addressOf, Cond.instanceMethod yX2_addressOf, Cond.selects RX2 yX2_addressOf yX2_addressOf, Cond.code yX2_addressOf cX2_addressOf 4 (some .int), Cond.constant RX2 60 (-1640531527), Cond.fieldLink RX2 50 "PageBuckets$Pages" "level" "I", Cond.fieldLink RX2 54 "PageBuckets$Pages" "split" "I", Cond.static yX3_isPage, Cond.initialized RX3, Cond.code yX3_isPage cX3_isPage 1 (some .boolean), Cond.methodLink RX3 59 yX2_pagesLookedAt, Cond.instanceMethod yX2_pagesLookedAt]
def wsX3_get_r2 : List Cond := [Cond.selects RX2 yX2_pagesLookedAt yX2_pagesLookedAt, Cond.code yX2_pagesLookedAt cX2_pagesLookedAt 5 (some .int), Cond.methodLink RX3 52 yX2_valueIn, Cond.instanceMethod yX2_valueIn, Cond.selects RX2 yX2_valueIn yX2_valueIn, Cond.code yX2_valueIn cX2_valueIn 2 (some .int), Cond.fieldLink RX2 15 "PageBuckets$Pages" "values" "[I"]
def wsX3_get : List Cond := .code yX3_get cX3_get 3 (some .int) :: ((wsX3_get_r1 ++ wsX3_get_r2) ++ wsX30 ++ wsX20)
def wsX3_begin : List Cond := .code yX3_begin cX3_begin 1 (some .int) :: ([.fieldLink RX3 27 "PageBuckets" "journal" "LPageBuckets$Journal;", .constant RX3 66 (-2000000002), .methodLink RX3 63 yX1_isOpen, .instanceMethod yX1_isOpen, .selects RX1 yX1_isOpen yX1_isOpen, .initialized RX1, .code yX1_isOpen cX1_isOpen 1 (some .boolean), .fieldLink RX1 28 "PageBuckets$Journal" "open" "Z", .methodLink RX3 67 yX1_openGroup, .instanceMethod yX1_openGroup, .selects RX1 yX1_openGroup yX1_openGroup, .code yX1_openGroup cX1_openGroup 1 none, .fieldLink RX1 24 "PageBuckets$Journal" "writes" "I", .fieldLink RX1 35 "PageBuckets$Journal" "openFrom" "I"] ++ wsX30 ++ wsX10)
def wsX3_end_r1 : List Cond := [Cond.fieldLink RX3 27 "PageBuckets" "journal" "LPageBuckets$Journal;", Cond.constant RX3 66 (-2000000002), Cond.methodLink RX3 63 yX1_isOpen, Cond.instanceMethod yX1_isOpen, Cond.selects RX1 yX1_isOpen yX1_isOpen, Cond.initialized RX1, Cond.code yX1_isOpen cX1_isOpen 1 (some .boolean), Cond.fieldLink RX1 28 "PageBuckets$Journal" "open" "Z", Cond.methodLink RX3 70 yX1_openWrites, Cond.instanceMethod yX1_openWrites, Cond.selects RX1 yX1_openWrites yX1_openWrites, Cond.code yX1_openWrites cX1_openWrites 1 (some .int), Cond.fieldLink RX1 24 "PageBuckets$Journal" "writes" "I", Cond.fieldLink RX1 35 "PageBuckets$Journal" "openFrom" "I", Cond.methodLink RX3 74 yX1_closeGroup, Cond.instanceMethod yX1_closeGroup, Cond.selects RX1 yX1_closeGroup yX1_closeGroup, Cond.code yX1_closeGroup cX1_closeGroup 1 none, Cond.methodLink RX1 41 yX1_openWrites, Cond.methodLink RX1 38 yX1_endGroupHere, Cond.instanceMethod yX1_endGroupHere, Cond.selects RX1 yX1_endGroupHere yX1_endGroupHere, Cond.code yX1_endGroupHere cX1_endGroupHere 1 none, Cond.fieldLink RX1 32 "PageBuckets$Journal" "groups" "I"]
def wsX3_end_r2 : List Cond := [Cond.fieldLink RX1 21 "PageBuckets$Journal" "groupEnds" "[I"]
def wsX3_end : List Cond := .code yX3_end cX3_end 2 (some .int) :: ((wsX3_end_r1 ++ wsX3_end_r2) ++ wsX30 ++ wsX10)
def wsX3_takeBack_r1 : List Cond := [Cond.fieldLink RX3 144 "PageBuckets" "writesThatStand" "I", Cond.fieldLink RX3 17 "PageBuckets" "current" "LPageBuckets$Pages;", Cond.fieldLink RX3 21 "PageBuckets" "kept" "LPageBuckets$Pages;", Cond.fieldLink RX3 27 "PageBuckets" "journal" "LPageBuckets$Journal;", Cond.methodLink RX3 156 yX2_copyFrom, Cond.instanceMethod yX2_copyFrom, Cond.selects RX2 yX2_copyFrom yX2_copyFrom, Cond.initialized RX2, Cond.code yX2_copyFrom cX2_copyFrom 2 none, Cond.fieldLink RX2 9 "PageBuckets$Pages" "keys" "[I", Cond.methodLink RX2 44 arraycopyName, Cond.native arraycopyName, Cond.static arraycopyName, Cond.initialized "java/lang/System", Cond.fieldLink RX2 15 "PageBuckets$Pages" "values" "[I", Cond.fieldLink RX2 18 "PageBuckets$Pages" "used" "[I", Cond.fieldLink RX2 21 "PageBuckets$Pages" "behind" "[I", Cond.fieldLink RX2 24 "PageBuckets$Pages" "ahead" "[I", Cond.fieldLink RX2 27 "PageBuckets$Pages" "holder" "[I", Cond.fieldLink RX2 30 "PageBuckets$Pages" "last" "[I", Cond.fieldLink RX2 50 "PageBuckets$Pages" "level" "I", Cond.fieldLink RX2 54 "PageBuckets$Pages" "split" "I", Cond.fieldLink RX2 57 "PageBuckets$Pages" "entries" "I", Cond.methodLink RX3 160 yX1_kindOf]
def wsX3_takeBack_r2 : List Cond := [Cond.instanceMethod yX1_kindOf, Cond.selects RX1 yX1_kindOf yX1_kindOf, Cond.initialized RX1, Cond.code yX1_kindOf cX1_kindOf 2 (some .int), Cond.fieldLink RX1 9 "PageBuckets$Journal" "kinds" "[I", Cond.constant RX1 55 (-2000000005), Cond.methodLink RX1 51 yX1_isWrite, Cond.instanceMethod yX1_isWrite, Cond.selects RX1 yX1_isWrite yX1_isWrite, Cond.code yX1_isWrite cX1_isWrite 2 (some .boolean), Cond.fieldLink RX1 24 "PageBuckets$Journal" "writes" "I", Cond.methodLink RX3 163 yX1_keyOf, Cond.instanceMethod yX1_keyOf, Cond.selects RX1 yX1_keyOf yX1_keyOf, Cond.code yX1_keyOf cX1_keyOf 2 (some .int), Cond.fieldLink RX1 15 "PageBuckets$Journal" "keys" "[I", Cond.methodLink RX3 166 yX1_valueOf, Cond.instanceMethod yX1_valueOf, Cond.selects RX1 yX1_valueOf yX1_valueOf, Cond.code yX1_valueOf cX1_valueOf 2 (some .int), Cond.fieldLink RX1 18 "PageBuckets$Journal" "values" "[I", Cond.methodLink RX3 150 yX2_carryOut, Cond.instanceMethod yX2_carryOut, Cond.selects RX2 yX2_carryOut yX2_carryOut]
def wsX3_takeBack_r3 : List Cond := [Cond.code yX2_carryOut cX2_carryOut 5 none, Cond.constant RX2 37 (-2000000005), Cond.methodLink RX2 94 yX2_find, Cond.instanceMethod yX2_find, Cond.selects RX2 yX2_find yX2_find, Cond.code yX2_find cX2_find 5 (some .int), Cond.methodLink RX2 88 yX2_addressOf, Cond.instanceMethod yX2_addressOf, Cond.selects RX2 yX2_addressOf yX2_addressOf, Cond.code yX2_addressOf cX2_addressOf 4 (some .int), Cond.constant RX2 60 (-1640531527), Cond.static yX3_isPage, Cond.initialized RX3, Cond.code yX3_isPage cX3_isPage 1 (some .boolean), Cond.methodLink RX2 97 yX2_append, Cond.instanceMethod yX2_append, Cond.selects RX2 yX2_append yX2_append, Cond.code yX2_append cX2_append 6 none, Cond.methodLink RX2 76 yX2_lastPage, Cond.instanceMethod yX2_lastPage, Cond.selects RX2 yX2_lastPage yX2_lastPage, Cond.code yX2_lastPage cX2_lastPage 2 (some .int), Cond.methodLink RX2 69 yX2_isBucketPlace, Cond.static yX2_isBucketPlace]
def wsX3_takeBack_r4 : List Cond := [Cond.code yX2_isBucketPlace cX2_isBucketPlace 1 (some .boolean), Cond.methodLink RX2 79 yX2_entriesOnPage, Cond.instanceMethod yX2_entriesOnPage, Cond.selects RX2 yX2_entriesOnPage yX2_entriesOnPage, Cond.code yX2_entriesOnPage cX2_entriesOnPage 2 (some .int), Cond.methodLink RX2 138 yX2_linkNewPage, Cond.instanceMethod yX2_linkNewPage, Cond.selects RX2 yX2_linkNewPage yX2_linkNewPage, Cond.code yX2_linkNewPage cX2_linkNewPage 4 (some .int), Cond.methodLink RX2 91 yX2_leastFreePage, Cond.instanceMethod yX2_leastFreePage, Cond.selects RX2 yX2_leastFreePage yX2_leastFreePage, Cond.code yX2_leastFreePage cX2_leastFreePage 2 (some .int), Cond.methodLink RX2 65 yX2_bucketCount, Cond.instanceMethod yX2_bucketCount, Cond.selects RX2 yX2_bucketCount yX2_bucketCount, Cond.code yX2_bucketCount cX2_bucketCount 1 (some .int), Cond.methodLink RX2 101 yX2_grow, Cond.instanceMethod yX2_grow, Cond.selects RX2 yX2_grow yX2_grow, Cond.code yX2_grow cX2_grow 2 none, Cond.fieldLink RX2 33 "PageBuckets$Pages" "aside" "LPageBuckets$Aside;", Cond.fieldLink RX2 114 "PageBuckets$Aside" "size" "I", Cond.fieldLink RX2 123 "PageBuckets$Aside" "keys" "[I"]
def wsX3_takeBack_r5 : List Cond := [Cond.fieldLink RX2 124 "PageBuckets$Aside" "values" "[I", Cond.methodLink RX2 119 yX2_setAside, Cond.instanceMethod yX2_setAside, Cond.selects RX2 yX2_setAside yX2_setAside, Cond.code yX2_setAside cX2_setAside 5 none, Cond.methodLink RX2 132 yX0_push, Cond.instanceMethod yX0_push, Cond.selects RX0 yX0_push yX0_push, Cond.initialized RX0, Cond.code yX0_push cX0_push 3 none, Cond.fieldLink RX0 18 "PageBuckets$Aside" "size" "I", Cond.fieldLink RX0 9 "PageBuckets$Aside" "keys" "[I", Cond.fieldLink RX0 15 "PageBuckets$Aside" "values" "[I", Cond.methodLink RX2 135 yX2_clearPage, Cond.instanceMethod yX2_clearPage, Cond.selects RX2 yX2_clearPage yX2_clearPage, Cond.code yX2_clearPage cX2_clearPage 2 none, Cond.methodLink RX2 104 yX2_setValue, Cond.instanceMethod yX2_setValue, Cond.selects RX2 yX2_setValue yX2_setValue, Cond.code yX2_setValue cX2_setValue 3 none, Cond.methodLink RX2 108 yX2_takeOut, Cond.instanceMethod yX2_takeOut, Cond.selects RX2 yX2_takeOut yX2_takeOut]
def wsX3_takeBack_r6 : List Cond := [Cond.code yX2_takeOut cX2_takeOut 5 none, Cond.methodLink RX2 141 yX2_unlinkLast, Cond.instanceMethod yX2_unlinkLast, Cond.selects RX2 yX2_unlinkLast yX2_unlinkLast, Cond.code yX2_unlinkLast cX2_unlinkLast 4 none, Cond.methodLink RX2 111 yX2_shrink, Cond.instanceMethod yX2_shrink, Cond.selects RX2 yX2_shrink yX2_shrink, Cond.code yX2_shrink cX2_shrink 5 none, Cond.methodLink RX2 125 yX2_canJoin, Cond.instanceMethod yX2_canJoin, Cond.selects RX2 yX2_canJoin yX2_canJoin, Cond.code yX2_canJoin cX2_canJoin 6 (some .boolean), Cond.methodLink RX2 82 Lib.Math.max.name, Cond.static Lib.Math.max.name, Cond.initialized "java/lang/Math", Cond.code Lib.Math.max.name Lib.Math.max.code 2 (some .int), Cond.methodLink RX2 72 yX2_pagesInChain, Cond.instanceMethod yX2_pagesInChain, Cond.selects RX2 yX2_pagesInChain yX2_pagesInChain, Cond.code yX2_pagesInChain cX2_pagesInChain 4 (some .int), Cond.methodLink RX2 129 yX2_freePages, Cond.instanceMethod yX2_freePages, Cond.selects RX2 yX2_freePages yX2_freePages]
def wsX3_takeBack_r7 : List Cond := [Cond.code yX2_freePages cX2_freePages 3 (some .int)]
def wsX3_takeBack : List Cond := .code yX3_takeBack cX3_takeBack 4 none :: ((wsX3_takeBack_r1 ++ (wsX3_takeBack_r2 ++ (wsX3_takeBack_r3 ++ (wsX3_takeBack_r4 ++ (wsX3_takeBack_r5 ++ (wsX3_takeBack_r6 ++ wsX3_takeBack_r7)))))) ++ wsX30 ++ wsX20 ++ wsX10 ++ wsX00)
def wsX3_undo_r1 : List Cond := [Cond.fieldLink RX3 27 "PageBuckets" "journal" "LPageBuckets$Journal;", Cond.constant RX3 66 (-2000000002), Cond.methodLink RX3 63 yX1_isOpen, Cond.instanceMethod yX1_isOpen, Cond.selects RX1 yX1_isOpen yX1_isOpen, Cond.initialized RX1, Cond.code yX1_isOpen cX1_isOpen 1 (some .boolean), Cond.fieldLink RX1 28 "PageBuckets$Journal" "open" "Z", Cond.methodLink RX3 70 yX1_openWrites, Cond.instanceMethod yX1_openWrites, Cond.selects RX1 yX1_openWrites yX1_openWrites, Cond.code yX1_openWrites cX1_openWrites 1 (some .int), Cond.fieldLink RX1 24 "PageBuckets$Journal" "writes" "I", Cond.fieldLink RX1 35 "PageBuckets$Journal" "openFrom" "I", Cond.methodLink RX3 77 yX1_dropOpenGroup, Cond.instanceMethod yX1_dropOpenGroup, Cond.selects RX1 yX1_dropOpenGroup yX1_dropOpenGroup, Cond.code yX1_dropOpenGroup cX1_dropOpenGroup 1 none, Cond.methodLink RX3 80 yX1_writeCount, Cond.instanceMethod yX1_writeCount, Cond.selects RX1 yX1_writeCount yX1_writeCount, Cond.code yX1_writeCount cX1_writeCount 1 (some .int), Cond.methodLink RX3 83 yX3_takeBack, Cond.instanceMethod yX3_takeBack]
def wsX3_undo_r2 : List Cond := [Cond.selects RX3 yX3_takeBack yX3_takeBack, Cond.initialized RX3, Cond.code yX3_takeBack cX3_takeBack 4 none, Cond.fieldLink RX3 144 "PageBuckets" "writesThatStand" "I", Cond.fieldLink RX3 17 "PageBuckets" "current" "LPageBuckets$Pages;", Cond.fieldLink RX3 21 "PageBuckets" "kept" "LPageBuckets$Pages;", Cond.methodLink RX3 156 yX2_copyFrom, Cond.instanceMethod yX2_copyFrom, Cond.selects RX2 yX2_copyFrom yX2_copyFrom, Cond.initialized RX2, Cond.code yX2_copyFrom cX2_copyFrom 2 none, Cond.fieldLink RX2 9 "PageBuckets$Pages" "keys" "[I", Cond.methodLink RX2 44 arraycopyName, Cond.native arraycopyName, Cond.static arraycopyName, Cond.initialized "java/lang/System", Cond.fieldLink RX2 15 "PageBuckets$Pages" "values" "[I", Cond.fieldLink RX2 18 "PageBuckets$Pages" "used" "[I", Cond.fieldLink RX2 21 "PageBuckets$Pages" "behind" "[I", Cond.fieldLink RX2 24 "PageBuckets$Pages" "ahead" "[I", Cond.fieldLink RX2 27 "PageBuckets$Pages" "holder" "[I", Cond.fieldLink RX2 30 "PageBuckets$Pages" "last" "[I", Cond.fieldLink RX2 50 "PageBuckets$Pages" "level" "I", Cond.fieldLink RX2 54 "PageBuckets$Pages" "split" "I"]
def wsX3_undo_r3 : List Cond := [Cond.fieldLink RX2 57 "PageBuckets$Pages" "entries" "I", Cond.methodLink RX3 160 yX1_kindOf, Cond.instanceMethod yX1_kindOf, Cond.selects RX1 yX1_kindOf yX1_kindOf, Cond.code yX1_kindOf cX1_kindOf 2 (some .int), Cond.fieldLink RX1 9 "PageBuckets$Journal" "kinds" "[I", Cond.constant RX1 55 (-2000000005), Cond.methodLink RX1 51 yX1_isWrite, Cond.instanceMethod yX1_isWrite, Cond.selects RX1 yX1_isWrite yX1_isWrite, Cond.code yX1_isWrite cX1_isWrite 2 (some .boolean), Cond.methodLink RX3 163 yX1_keyOf, Cond.instanceMethod yX1_keyOf, Cond.selects RX1 yX1_keyOf yX1_keyOf, Cond.code yX1_keyOf cX1_keyOf 2 (some .int), Cond.fieldLink RX1 15 "PageBuckets$Journal" "keys" "[I", Cond.methodLink RX3 166 yX1_valueOf, Cond.instanceMethod yX1_valueOf, Cond.selects RX1 yX1_valueOf yX1_valueOf, Cond.code yX1_valueOf cX1_valueOf 2 (some .int), Cond.fieldLink RX1 18 "PageBuckets$Journal" "values" "[I", Cond.methodLink RX3 150 yX2_carryOut, Cond.instanceMethod yX2_carryOut, Cond.selects RX2 yX2_carryOut yX2_carryOut]
def wsX3_undo_r4 : List Cond := [Cond.code yX2_carryOut cX2_carryOut 5 none, Cond.constant RX2 37 (-2000000005), Cond.methodLink RX2 94 yX2_find, Cond.instanceMethod yX2_find, Cond.selects RX2 yX2_find yX2_find, Cond.code yX2_find cX2_find 5 (some .int), Cond.methodLink RX2 88 yX2_addressOf, Cond.instanceMethod yX2_addressOf, Cond.selects RX2 yX2_addressOf yX2_addressOf, Cond.code yX2_addressOf cX2_addressOf 4 (some .int), Cond.constant RX2 60 (-1640531527), Cond.static yX3_isPage, Cond.code yX3_isPage cX3_isPage 1 (some .boolean), Cond.methodLink RX2 97 yX2_append, Cond.instanceMethod yX2_append, Cond.selects RX2 yX2_append yX2_append, Cond.code yX2_append cX2_append 6 none, Cond.methodLink RX2 76 yX2_lastPage, Cond.instanceMethod yX2_lastPage, Cond.selects RX2 yX2_lastPage yX2_lastPage, Cond.code yX2_lastPage cX2_lastPage 2 (some .int), Cond.methodLink RX2 69 yX2_isBucketPlace, Cond.static yX2_isBucketPlace, Cond.code yX2_isBucketPlace cX2_isBucketPlace 1 (some .boolean)]
def wsX3_undo_r5 : List Cond := [Cond.methodLink RX2 79 yX2_entriesOnPage, Cond.instanceMethod yX2_entriesOnPage, Cond.selects RX2 yX2_entriesOnPage yX2_entriesOnPage, Cond.code yX2_entriesOnPage cX2_entriesOnPage 2 (some .int), Cond.methodLink RX2 138 yX2_linkNewPage, Cond.instanceMethod yX2_linkNewPage, Cond.selects RX2 yX2_linkNewPage yX2_linkNewPage, Cond.code yX2_linkNewPage cX2_linkNewPage 4 (some .int), Cond.methodLink RX2 91 yX2_leastFreePage, Cond.instanceMethod yX2_leastFreePage, Cond.selects RX2 yX2_leastFreePage yX2_leastFreePage, Cond.code yX2_leastFreePage cX2_leastFreePage 2 (some .int), Cond.methodLink RX2 65 yX2_bucketCount, Cond.instanceMethod yX2_bucketCount, Cond.selects RX2 yX2_bucketCount yX2_bucketCount, Cond.code yX2_bucketCount cX2_bucketCount 1 (some .int), Cond.methodLink RX2 101 yX2_grow, Cond.instanceMethod yX2_grow, Cond.selects RX2 yX2_grow yX2_grow, Cond.code yX2_grow cX2_grow 2 none, Cond.fieldLink RX2 33 "PageBuckets$Pages" "aside" "LPageBuckets$Aside;", Cond.fieldLink RX2 114 "PageBuckets$Aside" "size" "I", Cond.fieldLink RX2 123 "PageBuckets$Aside" "keys" "[I", Cond.fieldLink RX2 124 "PageBuckets$Aside" "values" "[I"]
def wsX3_undo_r6 : List Cond := [Cond.methodLink RX2 119 yX2_setAside, Cond.instanceMethod yX2_setAside, Cond.selects RX2 yX2_setAside yX2_setAside, Cond.code yX2_setAside cX2_setAside 5 none, Cond.methodLink RX2 132 yX0_push, Cond.instanceMethod yX0_push, Cond.selects RX0 yX0_push yX0_push, Cond.initialized RX0, Cond.code yX0_push cX0_push 3 none, Cond.fieldLink RX0 18 "PageBuckets$Aside" "size" "I", Cond.fieldLink RX0 9 "PageBuckets$Aside" "keys" "[I", Cond.fieldLink RX0 15 "PageBuckets$Aside" "values" "[I", Cond.methodLink RX2 135 yX2_clearPage, Cond.instanceMethod yX2_clearPage, Cond.selects RX2 yX2_clearPage yX2_clearPage, Cond.code yX2_clearPage cX2_clearPage 2 none, Cond.methodLink RX2 104 yX2_setValue, Cond.instanceMethod yX2_setValue, Cond.selects RX2 yX2_setValue yX2_setValue, Cond.code yX2_setValue cX2_setValue 3 none, Cond.methodLink RX2 108 yX2_takeOut, Cond.instanceMethod yX2_takeOut, Cond.selects RX2 yX2_takeOut yX2_takeOut, Cond.code yX2_takeOut cX2_takeOut 5 none]
def wsX3_undo_r7 : List Cond := [Cond.methodLink RX2 141 yX2_unlinkLast, Cond.instanceMethod yX2_unlinkLast, Cond.selects RX2 yX2_unlinkLast yX2_unlinkLast, Cond.code yX2_unlinkLast cX2_unlinkLast 4 none, Cond.methodLink RX2 111 yX2_shrink, Cond.instanceMethod yX2_shrink, Cond.selects RX2 yX2_shrink yX2_shrink, Cond.code yX2_shrink cX2_shrink 5 none, Cond.methodLink RX2 125 yX2_canJoin, Cond.instanceMethod yX2_canJoin, Cond.selects RX2 yX2_canJoin yX2_canJoin, Cond.code yX2_canJoin cX2_canJoin 6 (some .boolean), Cond.methodLink RX2 82 Lib.Math.max.name, Cond.static Lib.Math.max.name, Cond.initialized "java/lang/Math", Cond.code Lib.Math.max.name Lib.Math.max.code 2 (some .int), Cond.methodLink RX2 72 yX2_pagesInChain, Cond.instanceMethod yX2_pagesInChain, Cond.selects RX2 yX2_pagesInChain yX2_pagesInChain, Cond.code yX2_pagesInChain cX2_pagesInChain 4 (some .int), Cond.methodLink RX2 129 yX2_freePages, Cond.instanceMethod yX2_freePages, Cond.selects RX2 yX2_freePages yX2_freePages, Cond.code yX2_freePages cX2_freePages 3 (some .int)]
def wsX3_undo : List Cond := .code yX3_undo cX3_undo 2 (some .int) :: ((wsX3_undo_r1 ++ (wsX3_undo_r2 ++ (wsX3_undo_r3 ++ (wsX3_undo_r4 ++ (wsX3_undo_r5 ++ (wsX3_undo_r6 ++ wsX3_undo_r7)))))) ++ wsX30 ++ wsX10 ++ wsX20 ++ wsX00)
def wsX3_keepCurrent_r1 : List Cond := [Cond.fieldLink RX3 21 "PageBuckets" "kept" "LPageBuckets$Pages;", Cond.fieldLink RX3 17 "PageBuckets" "current" "LPageBuckets$Pages;", Cond.fieldLink RX3 27 "PageBuckets" "journal" "LPageBuckets$Journal;", Cond.methodLink RX3 156 yX2_copyFrom, Cond.instanceMethod yX2_copyFrom, Cond.selects RX2 yX2_copyFrom yX2_copyFrom, Cond.initialized RX2, Cond.code yX2_copyFrom cX2_copyFrom 2 none, Cond.fieldLink RX2 9 "PageBuckets$Pages" "keys" "[I", Cond.methodLink RX2 44 arraycopyName, Cond.native arraycopyName, Cond.static arraycopyName, Cond.initialized "java/lang/System", Cond.fieldLink RX2 15 "PageBuckets$Pages" "values" "[I", Cond.fieldLink RX2 18 "PageBuckets$Pages" "used" "[I", Cond.fieldLink RX2 21 "PageBuckets$Pages" "behind" "[I", Cond.fieldLink RX2 24 "PageBuckets$Pages" "ahead" "[I", Cond.fieldLink RX2 27 "PageBuckets$Pages" "holder" "[I", Cond.fieldLink RX2 30 "PageBuckets$Pages" "last" "[I", Cond.fieldLink RX2 50 "PageBuckets$Pages" "level" "I", Cond.fieldLink RX2 54 "PageBuckets$Pages" "split" "I", Cond.fieldLink RX2 57 "PageBuckets$Pages" "entries" "I", Cond.methodLink RX3 169 yX1_clear, Cond.instanceMethod yX1_clear]
def wsX3_keepCurrent_r2 : List Cond := [Cond.selects RX1 yX1_clear yX1_clear, Cond.initialized RX1, Cond.code yX1_clear cX1_clear 1 none, Cond.fieldLink RX1 24 "PageBuckets$Journal" "writes" "I", Cond.fieldLink RX1 32 "PageBuckets$Journal" "groups" "I", Cond.fieldLink RX1 28 "PageBuckets$Journal" "open" "Z"]
def wsX3_keepCurrent : List Cond := .code yX3_keepCurrent cX3_keepCurrent 1 none :: ((wsX3_keepCurrent_r1 ++ wsX3_keepCurrent_r2) ++ wsX30 ++ wsX20 ++ wsX10)
def wsX3_keep_r1 : List Cond := [Cond.fieldLink RX3 27 "PageBuckets" "journal" "LPageBuckets$Journal;", Cond.constant RX3 66 (-2000000002), Cond.methodLink RX3 63 yX1_isOpen, Cond.instanceMethod yX1_isOpen, Cond.selects RX1 yX1_isOpen yX1_isOpen, Cond.initialized RX1, Cond.code yX1_isOpen cX1_isOpen 1 (some .boolean), Cond.fieldLink RX1 28 "PageBuckets$Journal" "open" "Z", Cond.methodLink RX3 80 yX1_writeCount, Cond.instanceMethod yX1_writeCount, Cond.selects RX1 yX1_writeCount yX1_writeCount, Cond.code yX1_writeCount cX1_writeCount 1 (some .int), Cond.fieldLink RX1 24 "PageBuckets$Journal" "writes" "I", Cond.methodLink RX3 87 yX3_keepCurrent, Cond.instanceMethod yX3_keepCurrent, Cond.selects RX3 yX3_keepCurrent yX3_keepCurrent, Cond.initialized RX3, Cond.code yX3_keepCurrent cX3_keepCurrent 1 none, Cond.fieldLink RX3 21 "PageBuckets" "kept" "LPageBuckets$Pages;", Cond.fieldLink RX3 17 "PageBuckets" "current" "LPageBuckets$Pages;", Cond.methodLink RX3 156 yX2_copyFrom, Cond.instanceMethod yX2_copyFrom, Cond.selects RX2 yX2_copyFrom yX2_copyFrom, Cond.initialized RX2]
def wsX3_keep_r2 : List Cond := [Cond.code yX2_copyFrom cX2_copyFrom 2 none, Cond.fieldLink RX2 9 "PageBuckets$Pages" "keys" "[I", Cond.methodLink RX2 44 arraycopyName, Cond.native arraycopyName, Cond.static arraycopyName, Cond.initialized "java/lang/System", Cond.fieldLink RX2 15 "PageBuckets$Pages" "values" "[I", Cond.fieldLink RX2 18 "PageBuckets$Pages" "used" "[I", Cond.fieldLink RX2 21 "PageBuckets$Pages" "behind" "[I", Cond.fieldLink RX2 24 "PageBuckets$Pages" "ahead" "[I", Cond.fieldLink RX2 27 "PageBuckets$Pages" "holder" "[I", Cond.fieldLink RX2 30 "PageBuckets$Pages" "last" "[I", Cond.fieldLink RX2 50 "PageBuckets$Pages" "level" "I", Cond.fieldLink RX2 54 "PageBuckets$Pages" "split" "I", Cond.fieldLink RX2 57 "PageBuckets$Pages" "entries" "I", Cond.methodLink RX3 169 yX1_clear, Cond.instanceMethod yX1_clear, Cond.selects RX1 yX1_clear yX1_clear, Cond.code yX1_clear cX1_clear 1 none, Cond.fieldLink RX1 32 "PageBuckets$Journal" "groups" "I"]
def wsX3_keep : List Cond := .code yX3_keep cX3_keep 2 (some .int) :: ((wsX3_keep_r1 ++ wsX3_keep_r2) ++ wsX30 ++ wsX10 ++ wsX20)
def wsX3_stop_r1 : List Cond := [Cond.constant RX3 32 (-2000000001), Cond.fieldLink RX3 27 "PageBuckets" "journal" "LPageBuckets$Journal;", Cond.methodLink RX3 90 yX1_writesInFirstGroups, Cond.instanceMethod yX1_writesInFirstGroups, Cond.selects RX1 yX1_writesInFirstGroups yX1_writesInFirstGroups, Cond.initialized RX1, Cond.code yX1_writesInFirstGroups cX1_writesInFirstGroups 3 (some .int), Cond.fieldLink RX1 32 "PageBuckets$Journal" "groups" "I", Cond.methodLink RX1 45 Lib.Math.min.name, Cond.static Lib.Math.min.name, Cond.initialized "java/lang/Math", Cond.code Lib.Math.min.name Lib.Math.min.code 2 (some .int), Cond.fieldLink RX1 21 "PageBuckets$Journal" "groupEnds" "[I", Cond.methodLink RX3 80 yX1_writeCount, Cond.instanceMethod yX1_writeCount, Cond.selects RX1 yX1_writeCount yX1_writeCount, Cond.code yX1_writeCount cX1_writeCount 1 (some .int), Cond.fieldLink RX1 24 "PageBuckets$Journal" "writes" "I", Cond.methodLink RX3 83 yX3_takeBack, Cond.instanceMethod yX3_takeBack, Cond.selects RX3 yX3_takeBack yX3_takeBack, Cond.initialized RX3, Cond.code yX3_takeBack cX3_takeBack 4 none, Cond.fieldLink RX3 144 "PageBuckets" "writesThatStand" "I"]
def wsX3_stop_r2 : List Cond := [Cond.fieldLink RX3 17 "PageBuckets" "current" "LPageBuckets$Pages;", Cond.fieldLink RX3 21 "PageBuckets" "kept" "LPageBuckets$Pages;", Cond.methodLink RX3 156 yX2_copyFrom, Cond.instanceMethod yX2_copyFrom, Cond.selects RX2 yX2_copyFrom yX2_copyFrom, Cond.initialized RX2, Cond.code yX2_copyFrom cX2_copyFrom 2 none, Cond.fieldLink RX2 9 "PageBuckets$Pages" "keys" "[I", Cond.methodLink RX2 44 arraycopyName, Cond.native arraycopyName, Cond.static arraycopyName, Cond.initialized "java/lang/System", Cond.fieldLink RX2 15 "PageBuckets$Pages" "values" "[I", Cond.fieldLink RX2 18 "PageBuckets$Pages" "used" "[I", Cond.fieldLink RX2 21 "PageBuckets$Pages" "behind" "[I", Cond.fieldLink RX2 24 "PageBuckets$Pages" "ahead" "[I", Cond.fieldLink RX2 27 "PageBuckets$Pages" "holder" "[I", Cond.fieldLink RX2 30 "PageBuckets$Pages" "last" "[I", Cond.fieldLink RX2 50 "PageBuckets$Pages" "level" "I", Cond.fieldLink RX2 54 "PageBuckets$Pages" "split" "I", Cond.fieldLink RX2 57 "PageBuckets$Pages" "entries" "I", Cond.methodLink RX3 160 yX1_kindOf, Cond.instanceMethod yX1_kindOf, Cond.selects RX1 yX1_kindOf yX1_kindOf]
def wsX3_stop_r3 : List Cond := [Cond.code yX1_kindOf cX1_kindOf 2 (some .int), Cond.fieldLink RX1 9 "PageBuckets$Journal" "kinds" "[I", Cond.constant RX1 55 (-2000000005), Cond.methodLink RX1 51 yX1_isWrite, Cond.instanceMethod yX1_isWrite, Cond.selects RX1 yX1_isWrite yX1_isWrite, Cond.code yX1_isWrite cX1_isWrite 2 (some .boolean), Cond.methodLink RX3 163 yX1_keyOf, Cond.instanceMethod yX1_keyOf, Cond.selects RX1 yX1_keyOf yX1_keyOf, Cond.code yX1_keyOf cX1_keyOf 2 (some .int), Cond.fieldLink RX1 15 "PageBuckets$Journal" "keys" "[I", Cond.methodLink RX3 166 yX1_valueOf, Cond.instanceMethod yX1_valueOf, Cond.selects RX1 yX1_valueOf yX1_valueOf, Cond.code yX1_valueOf cX1_valueOf 2 (some .int), Cond.fieldLink RX1 18 "PageBuckets$Journal" "values" "[I", Cond.methodLink RX3 150 yX2_carryOut, Cond.instanceMethod yX2_carryOut, Cond.selects RX2 yX2_carryOut yX2_carryOut, Cond.code yX2_carryOut cX2_carryOut 5 none, Cond.constant RX2 37 (-2000000005), Cond.methodLink RX2 94 yX2_find, Cond.instanceMethod yX2_find]
def wsX3_stop_r4 : List Cond := [Cond.selects RX2 yX2_find yX2_find, Cond.code yX2_find cX2_find 5 (some .int), Cond.methodLink RX2 88 yX2_addressOf, Cond.instanceMethod yX2_addressOf, Cond.selects RX2 yX2_addressOf yX2_addressOf, Cond.code yX2_addressOf cX2_addressOf 4 (some .int), Cond.constant RX2 60 (-1640531527), Cond.static yX3_isPage, Cond.code yX3_isPage cX3_isPage 1 (some .boolean), Cond.methodLink RX2 97 yX2_append, Cond.instanceMethod yX2_append, Cond.selects RX2 yX2_append yX2_append, Cond.code yX2_append cX2_append 6 none, Cond.methodLink RX2 76 yX2_lastPage, Cond.instanceMethod yX2_lastPage, Cond.selects RX2 yX2_lastPage yX2_lastPage, Cond.code yX2_lastPage cX2_lastPage 2 (some .int), Cond.methodLink RX2 69 yX2_isBucketPlace, Cond.static yX2_isBucketPlace, Cond.code yX2_isBucketPlace cX2_isBucketPlace 1 (some .boolean), Cond.methodLink RX2 79 yX2_entriesOnPage, Cond.instanceMethod yX2_entriesOnPage, Cond.selects RX2 yX2_entriesOnPage yX2_entriesOnPage, Cond.code yX2_entriesOnPage cX2_entriesOnPage 2 (some .int)]
def wsX3_stop_r5 : List Cond := [Cond.methodLink RX2 138 yX2_linkNewPage, Cond.instanceMethod yX2_linkNewPage, Cond.selects RX2 yX2_linkNewPage yX2_linkNewPage, Cond.code yX2_linkNewPage cX2_linkNewPage 4 (some .int), Cond.methodLink RX2 91 yX2_leastFreePage, Cond.instanceMethod yX2_leastFreePage, Cond.selects RX2 yX2_leastFreePage yX2_leastFreePage, Cond.code yX2_leastFreePage cX2_leastFreePage 2 (some .int), Cond.methodLink RX2 65 yX2_bucketCount, Cond.instanceMethod yX2_bucketCount, Cond.selects RX2 yX2_bucketCount yX2_bucketCount, Cond.code yX2_bucketCount cX2_bucketCount 1 (some .int), Cond.methodLink RX2 101 yX2_grow, Cond.instanceMethod yX2_grow, Cond.selects RX2 yX2_grow yX2_grow, Cond.code yX2_grow cX2_grow 2 none, Cond.fieldLink RX2 33 "PageBuckets$Pages" "aside" "LPageBuckets$Aside;", Cond.fieldLink RX2 114 "PageBuckets$Aside" "size" "I", Cond.fieldLink RX2 123 "PageBuckets$Aside" "keys" "[I", Cond.fieldLink RX2 124 "PageBuckets$Aside" "values" "[I", Cond.methodLink RX2 119 yX2_setAside, Cond.instanceMethod yX2_setAside, Cond.selects RX2 yX2_setAside yX2_setAside, Cond.code yX2_setAside cX2_setAside 5 none]
def wsX3_stop_r6 : List Cond := [Cond.methodLink RX2 132 yX0_push, Cond.instanceMethod yX0_push, Cond.selects RX0 yX0_push yX0_push, Cond.initialized RX0, Cond.code yX0_push cX0_push 3 none, Cond.fieldLink RX0 18 "PageBuckets$Aside" "size" "I", Cond.fieldLink RX0 9 "PageBuckets$Aside" "keys" "[I", Cond.fieldLink RX0 15 "PageBuckets$Aside" "values" "[I", Cond.methodLink RX2 135 yX2_clearPage, Cond.instanceMethod yX2_clearPage, Cond.selects RX2 yX2_clearPage yX2_clearPage, Cond.code yX2_clearPage cX2_clearPage 2 none, Cond.methodLink RX2 104 yX2_setValue, Cond.instanceMethod yX2_setValue, Cond.selects RX2 yX2_setValue yX2_setValue, Cond.code yX2_setValue cX2_setValue 3 none, Cond.methodLink RX2 108 yX2_takeOut, Cond.instanceMethod yX2_takeOut, Cond.selects RX2 yX2_takeOut yX2_takeOut, Cond.code yX2_takeOut cX2_takeOut 5 none, Cond.methodLink RX2 141 yX2_unlinkLast, Cond.instanceMethod yX2_unlinkLast, Cond.selects RX2 yX2_unlinkLast yX2_unlinkLast, Cond.code yX2_unlinkLast cX2_unlinkLast 4 none]
def wsX3_stop_r7 : List Cond := [Cond.methodLink RX2 111 yX2_shrink, Cond.instanceMethod yX2_shrink, Cond.selects RX2 yX2_shrink yX2_shrink, Cond.code yX2_shrink cX2_shrink 5 none, Cond.methodLink RX2 125 yX2_canJoin, Cond.instanceMethod yX2_canJoin, Cond.selects RX2 yX2_canJoin yX2_canJoin, Cond.code yX2_canJoin cX2_canJoin 6 (some .boolean), Cond.methodLink RX2 82 Lib.Math.max.name, Cond.static Lib.Math.max.name, Cond.code Lib.Math.max.name Lib.Math.max.code 2 (some .int), Cond.methodLink RX2 72 yX2_pagesInChain, Cond.instanceMethod yX2_pagesInChain, Cond.selects RX2 yX2_pagesInChain yX2_pagesInChain, Cond.code yX2_pagesInChain cX2_pagesInChain 4 (some .int), Cond.methodLink RX2 129 yX2_freePages, Cond.instanceMethod yX2_freePages, Cond.selects RX2 yX2_freePages yX2_freePages, Cond.code yX2_freePages cX2_freePages 3 (some .int), Cond.methodLink RX3 87 yX3_keepCurrent, Cond.instanceMethod yX3_keepCurrent, Cond.selects RX3 yX3_keepCurrent yX3_keepCurrent, Cond.code yX3_keepCurrent cX3_keepCurrent 1 none, Cond.methodLink RX3 169 yX1_clear]
def wsX3_stop_r8 : List Cond := [Cond.instanceMethod yX1_clear, Cond.selects RX1 yX1_clear yX1_clear, Cond.code yX1_clear cX1_clear 1 none, Cond.fieldLink RX1 28 "PageBuckets$Journal" "open" "Z"]
def wsX3_stop : List Cond := .code yX3_stop cX3_stop 4 (some .int) :: ((wsX3_stop_r1 ++ (wsX3_stop_r2 ++ (wsX3_stop_r3 ++ (wsX3_stop_r4 ++ (wsX3_stop_r5 ++ (wsX3_stop_r6 ++ (wsX3_stop_r7 ++ wsX3_stop_r8))))))) ++ wsX30 ++ wsX10 ++ wsX20 ++ wsX00)
def wsX3_address : List Cond := .code yX3_address cX3_address 2 (some .int) :: ([.fieldLink RX3 17 "PageBuckets" "current" "LPageBuckets$Pages;", .methodLink RX3 93 yX2_addressOf, .instanceMethod yX2_addressOf, .selects RX2 yX2_addressOf yX2_addressOf, .initialized RX2, .code yX2_addressOf cX2_addressOf 4 (some .int), .constant RX2 60 (-1640531527), .fieldLink RX2 50 "PageBuckets$Pages" "level" "I", .fieldLink RX2 54 "PageBuckets$Pages" "split" "I"] ++ wsX30 ++ wsX20)
def wsX3_bucket_r1 : List Cond := [Cond.fieldLink RX3 17 "PageBuckets" "current" "LPageBuckets$Pages;", Cond.constant RX3 32 (-2000000001), Cond.methodLink RX3 96 yX2_bucketCount, Cond.instanceMethod yX2_bucketCount, Cond.selects RX2 yX2_bucketCount yX2_bucketCount, Cond.initialized RX2, Cond.code yX2_bucketCount cX2_bucketCount 1 (some .int), Cond.fieldLink RX2 50 "PageBuckets$Pages" "level" "I", Cond.fieldLink RX2 54 "PageBuckets$Pages" "split" "I", Cond.methodLink RX3 99 yX2_entriesInChain, Cond.instanceMethod yX2_entriesInChain, Cond.selects RX2 yX2_entriesInChain yX2_entriesInChain, Cond.code yX2_entriesInChain cX2_entriesInChain 2 (some .int), Cond.methodLink RX2 72 yX2_pagesInChain, Cond.instanceMethod yX2_pagesInChain, Cond.selects RX2 yX2_pagesInChain yX2_pagesInChain, Cond.code yX2_pagesInChain cX2_pagesInChain 4 (some .int), Cond.fieldLink RX2 21 "PageBuckets$Pages" "behind" "[I", Cond.static yX3_isPage, Cond.initialized RX3, Cond.code yX3_isPage cX3_isPage 1 (some .boolean), Cond.methodLink RX2 76 yX2_lastPage, Cond.instanceMethod yX2_lastPage, Cond.selects RX2 yX2_lastPage yX2_lastPage]
def wsX3_bucket_r2 : List Cond := [Cond.code yX2_lastPage cX2_lastPage 2 (some .int), Cond.fieldLink RX2 30 "PageBuckets$Pages" "last" "[I", Cond.constant RX2 37 (-2000000005), Cond.methodLink RX2 69 yX2_isBucketPlace, Cond.static yX2_isBucketPlace, Cond.code yX2_isBucketPlace cX2_isBucketPlace 1 (some .boolean), Cond.methodLink RX2 79 yX2_entriesOnPage, Cond.instanceMethod yX2_entriesOnPage, Cond.selects RX2 yX2_entriesOnPage yX2_entriesOnPage, Cond.code yX2_entriesOnPage cX2_entriesOnPage 2 (some .int), Cond.fieldLink RX2 18 "PageBuckets$Pages" "used" "[I", Cond.methodLink RX3 102 yX2_pagesInChain, Cond.methodLink RX3 105 yX2_lastPage]
def wsX3_bucket : List Cond := .code yX3_bucket cX3_bucket 3 (some .int) :: ((wsX3_bucket_r1 ++ wsX3_bucket_r2) ++ wsX30 ++ wsX20)
def wsX3_page_r1 : List Cond := [Cond.constant RX3 32 (-2000000001), Cond.fieldLink RX3 17 "PageBuckets" "current" "LPageBuckets$Pages;", Cond.methodLink RX3 108 yX3_isPage, Cond.static yX3_isPage, Cond.initialized RX3, Cond.code yX3_isPage cX3_isPage 1 (some .boolean), Cond.methodLink RX3 111 yX2_entriesOnPage, Cond.instanceMethod yX2_entriesOnPage, Cond.selects RX2 yX2_entriesOnPage yX2_entriesOnPage, Cond.initialized RX2, Cond.code yX2_entriesOnPage cX2_entriesOnPage 2 (some .int), Cond.fieldLink RX2 18 "PageBuckets$Pages" "used" "[I", Cond.methodLink RX3 114 yX2_pageBehind, Cond.instanceMethod yX2_pageBehind, Cond.selects RX2 yX2_pageBehind yX2_pageBehind, Cond.code yX2_pageBehind cX2_pageBehind 2 (some .int), Cond.fieldLink RX2 21 "PageBuckets$Pages" "behind" "[I", Cond.constant RX2 37 (-2000000005), Cond.methodLink RX3 117 yX2_bucketOfPage, Cond.instanceMethod yX2_bucketOfPage, Cond.selects RX2 yX2_bucketOfPage yX2_bucketOfPage, Cond.code yX2_bucketOfPage cX2_bucketOfPage 2 (some .int), Cond.fieldLink RX2 27 "PageBuckets$Pages" "holder" "[I", Cond.methodLink RX2 65 yX2_bucketCount]
def wsX3_page_r2 : List Cond := [Cond.instanceMethod yX2_bucketCount, Cond.selects RX2 yX2_bucketCount yX2_bucketCount, Cond.code yX2_bucketCount cX2_bucketCount 1 (some .int), Cond.fieldLink RX2 50 "PageBuckets$Pages" "level" "I", Cond.fieldLink RX2 54 "PageBuckets$Pages" "split" "I"]
def wsX3_page : List Cond := .code yX3_page cX3_page 3 (some .int) :: ((wsX3_page_r1 ++ wsX3_page_r2) ++ wsX30 ++ wsX20)
def wsX3_cell : List Cond := .code yX3_cell cX3_cell 5 (some .int) :: ([.constant RX3 32 (-2000000001), .fieldLink RX3 17 "PageBuckets" "current" "LPageBuckets$Pages;", .constant RX3 66 (-2000000002), .methodLink RX3 108 yX3_isPage, .static yX3_isPage, .initialized RX3, .code yX3_isPage cX3_isPage 1 (some .boolean), .methodLink RX3 111 yX2_entriesOnPage, .instanceMethod yX2_entriesOnPage, .selects RX2 yX2_entriesOnPage yX2_entriesOnPage, .initialized RX2, .code yX2_entriesOnPage cX2_entriesOnPage 2 (some .int), .fieldLink RX2 18 "PageBuckets$Pages" "used" "[I", .methodLink RX3 120 yX2_keyIn, .instanceMethod yX2_keyIn, .selects RX2 yX2_keyIn yX2_keyIn, .code yX2_keyIn cX2_keyIn 2 (some .int), .fieldLink RX2 9 "PageBuckets$Pages" "keys" "[I", .constant RX2 37 (-2000000005), .methodLink RX3 52 yX2_valueIn, .instanceMethod yX2_valueIn, .selects RX2 yX2_valueIn yX2_valueIn, .code yX2_valueIn cX2_valueIn 2 (some .int), .fieldLink RX2 15 "PageBuckets$Pages" "values" "[I"] ++ wsX30 ++ wsX20)
def wsX3_entry_r1 : List Cond := [Cond.constant RX3 32 (-2000000001), Cond.fieldLink RX3 17 "PageBuckets" "current" "LPageBuckets$Pages;", Cond.constant RX3 37 (-2000000005), Cond.methodLink RX3 123 yX2_cellOfEntry, Cond.instanceMethod yX2_cellOfEntry, Cond.selects RX2 yX2_cellOfEntry yX2_cellOfEntry, Cond.initialized RX2, Cond.code yX2_cellOfEntry cX2_cellOfEntry 6 (some .int), Cond.fieldLink RX2 18 "PageBuckets$Pages" "used" "[I", Cond.fieldLink RX2 21 "PageBuckets$Pages" "behind" "[I", Cond.constant RX2 37 (-2000000005), Cond.methodLink RX2 65 yX2_bucketCount, Cond.instanceMethod yX2_bucketCount, Cond.selects RX2 yX2_bucketCount yX2_bucketCount, Cond.code yX2_bucketCount cX2_bucketCount 1 (some .int), Cond.fieldLink RX2 50 "PageBuckets$Pages" "level" "I", Cond.fieldLink RX2 54 "PageBuckets$Pages" "split" "I", Cond.static yX3_isPage, Cond.initialized RX3, Cond.code yX3_isPage cX3_isPage 1 (some .boolean), Cond.methodLink RX3 52 yX2_valueIn, Cond.instanceMethod yX2_valueIn, Cond.selects RX2 yX2_valueIn yX2_valueIn, Cond.code yX2_valueIn cX2_valueIn 2 (some .int)]
def wsX3_entry_r2 : List Cond := [Cond.fieldLink RX2 15 "PageBuckets$Pages" "values" "[I"]
def wsX3_entry : List Cond := .code yX3_entry cX3_entry 3 (some .int) :: ((wsX3_entry_r1 ++ wsX3_entry_r2) ++ wsX30 ++ wsX20)
def wsX3_effort : List Cond := .code yX3_effort cX3_effort 1 (some .int) :: ([.fieldLink RX3 17 "PageBuckets" "current" "LPageBuckets$Pages;", .methodLink RX3 126 yX2_effortForAll, .instanceMethod yX2_effortForAll, .selects RX2 yX2_effortForAll yX2_effortForAll, .initialized RX2, .code yX2_effortForAll cX2_effortForAll 5 (some .int), .fieldLink RX2 18 "PageBuckets$Pages" "used" "[I", .fieldLink RX2 21 "PageBuckets$Pages" "behind" "[I", .methodLink RX2 65 yX2_bucketCount, .instanceMethod yX2_bucketCount, .selects RX2 yX2_bucketCount yX2_bucketCount, .code yX2_bucketCount cX2_bucketCount 1 (some .int), .fieldLink RX2 50 "PageBuckets$Pages" "level" "I", .fieldLink RX2 54 "PageBuckets$Pages" "split" "I", .static yX3_isPage, .initialized RX3, .code yX3_isPage cX3_isPage 1 (some .boolean)] ++ wsX30 ++ wsX20)
def wsX3_count_r1 : List Cond := [Cond.fieldLink RX3 17 "PageBuckets" "current" "LPageBuckets$Pages;", Cond.fieldLink RX3 27 "PageBuckets" "journal" "LPageBuckets$Journal;", Cond.fieldLink RX3 55 "PageBuckets" "pagesRead" "I", Cond.fieldLink RX3 144 "PageBuckets" "writesThatStand" "I", Cond.constant RX3 32 (-2000000001), Cond.methodLink RX3 129 yX2_entryCount, Cond.instanceMethod yX2_entryCount, Cond.selects RX2 yX2_entryCount yX2_entryCount, Cond.initialized RX2, Cond.code yX2_entryCount cX2_entryCount 1 (some .int), Cond.fieldLink RX2 57 "PageBuckets$Pages" "entries" "I", Cond.methodLink RX3 96 yX2_bucketCount, Cond.instanceMethod yX2_bucketCount, Cond.selects RX2 yX2_bucketCount yX2_bucketCount, Cond.code yX2_bucketCount cX2_bucketCount 1 (some .int), Cond.fieldLink RX2 50 "PageBuckets$Pages" "level" "I", Cond.fieldLink RX2 54 "PageBuckets$Pages" "split" "I", Cond.methodLink RX3 132 yX2_levelNumber, Cond.instanceMethod yX2_levelNumber, Cond.selects RX2 yX2_levelNumber yX2_levelNumber, Cond.code yX2_levelNumber cX2_levelNumber 1 (some .int), Cond.methodLink RX3 135 yX2_splitNumber, Cond.instanceMethod yX2_splitNumber, Cond.selects RX2 yX2_splitNumber yX2_splitNumber]
def wsX3_count_r2 : List Cond := [Cond.code yX2_splitNumber cX2_splitNumber 1 (some .int), Cond.methodLink RX3 138 yX2_freePages, Cond.instanceMethod yX2_freePages, Cond.selects RX2 yX2_freePages yX2_freePages, Cond.code yX2_freePages cX2_freePages 3 (some .int), Cond.fieldLink RX2 27 "PageBuckets$Pages" "holder" "[I", Cond.constant RX2 37 (-2000000005), Cond.methodLink RX3 80 yX1_writeCount, Cond.instanceMethod yX1_writeCount, Cond.selects RX1 yX1_writeCount yX1_writeCount, Cond.initialized RX1, Cond.code yX1_writeCount cX1_writeCount 1 (some .int), Cond.fieldLink RX1 24 "PageBuckets$Journal" "writes" "I", Cond.methodLink RX3 141 yX1_groupCount, Cond.instanceMethod yX1_groupCount, Cond.selects RX1 yX1_groupCount yX1_groupCount, Cond.code yX1_groupCount cX1_groupCount 1 (some .int), Cond.fieldLink RX1 32 "PageBuckets$Journal" "groups" "I", Cond.methodLink RX3 63 yX1_isOpen, Cond.instanceMethod yX1_isOpen, Cond.selects RX1 yX1_isOpen yX1_isOpen, Cond.code yX1_isOpen cX1_isOpen 1 (some .boolean), Cond.fieldLink RX1 28 "PageBuckets$Journal" "open" "Z", Cond.methodLink RX3 147 yX2_longestChain]
def wsX3_count_r3 : List Cond := [Cond.instanceMethod yX2_longestChain, Cond.selects RX2 yX2_longestChain yX2_longestChain, Cond.code yX2_longestChain cX2_longestChain 3 (some .int), Cond.methodLink RX2 82 Lib.Math.max.name, Cond.static Lib.Math.max.name, Cond.initialized "java/lang/Math", Cond.code Lib.Math.max.name Lib.Math.max.code 2 (some .int), Cond.methodLink RX2 65 yX2_bucketCount, Cond.methodLink RX2 72 yX2_pagesInChain, Cond.instanceMethod yX2_pagesInChain, Cond.selects RX2 yX2_pagesInChain yX2_pagesInChain, Cond.code yX2_pagesInChain cX2_pagesInChain 4 (some .int), Cond.fieldLink RX2 21 "PageBuckets$Pages" "behind" "[I", Cond.static yX3_isPage, Cond.initialized RX3, Cond.code yX3_isPage cX3_isPage 1 (some .boolean)]
def wsX3_count : List Cond := .code yX3_count cX3_count 2 (some .int) :: ((wsX3_count_r1 ++ (wsX3_count_r2 ++ wsX3_count_r3)) ++ wsX30 ++ wsX20 ++ wsX10)
def wsX4_clear : List Cond := .code yX4_clear cX4_clear 2 none :: ([.fieldLink RX4 16 "PageBucketsModel" "sizes" "[I", .fieldLink RX4 19 "PageBucketsModel" "links" "[I", .constant RX4 44 (-2000000005), .fieldLink RX4 22 "PageBucketsModel" "isFree" "[Z", .fieldLink RX4 45 "PageBucketsModel" "level" "I", .fieldLink RX4 49 "PageBucketsModel" "split" "I", .fieldLink RX4 52 "PageBucketsModel" "entries" "I"] ++ wsX40)
def wsX4_init : List Cond := .code yX4_init cX4_init 1 none :: ([.methodLink RX4 1 objectInit, .instanceMethod objectInit, .code objectInit ⟨#[0xb1]⟩ 1 none, .arrayClass .int, .fieldLink RX4 7 "PageBucketsModel" "keys" "[I", .fieldLink RX4 13 "PageBucketsModel" "values" "[I", .fieldLink RX4 16 "PageBucketsModel" "sizes" "[I", .fieldLink RX4 19 "PageBucketsModel" "links" "[I", .arrayClass .boolean, .fieldLink RX4 22 "PageBucketsModel" "isFree" "[Z", .fieldLink RX4 26 "PageBucketsModel" "writeKey" "[I", .fieldLink RX4 29 "PageBucketsModel" "writeValue" "[I", .fieldLink RX4 32 "PageBucketsModel" "groups" "[I", .fieldLink RX4 35 "PageBucketsModel" "heldKey" "[I", .fieldLink RX4 38 "PageBucketsModel" "heldValue" "[I", .methodLink RX4 41 yX4_clear, .instanceMethod yX4_clear, .selects RX4 yX4_clear yX4_clear, .initialized RX4, .code yX4_clear cX4_clear 2 none, .constant RX4 44 (-2000000005), .fieldLink RX4 45 "PageBucketsModel" "level" "I", .fieldLink RX4 49 "PageBucketsModel" "split" "I", .fieldLink RX4 52 "PageBucketsModel" "entries" "I"] ++ wsX40)
def wsX4_base : List Cond := .code yX4_base cX4_base 1 (some .int) :: ([.fieldLink RX4 45 "PageBucketsModel" "level" "I"] ++ wsX40)
def wsX4_buckets : List Cond := .code yX4_buckets cX4_buckets 1 (some .int) :: ([.fieldLink RX4 49 "PageBucketsModel" "split" "I", .methodLink RX4 55 yX4_base, .instanceMethod yX4_base, .selects RX4 yX4_base yX4_base, .initialized RX4, .code yX4_base cX4_base 1 (some .int), .fieldLink RX4 45 "PageBucketsModel" "level" "I"] ++ wsX40)
def wsX4_addressOf : List Cond := .code yX4_addressOf cX4_addressOf 4 (some .int) :: ([.constant RX4 59 (-1640531527), .fieldLink RX4 49 "PageBucketsModel" "split" "I", .methodLink RX4 55 yX4_base, .instanceMethod yX4_base, .selects RX4 yX4_base yX4_base, .initialized RX4, .code yX4_base cX4_base 1 (some .int), .fieldLink RX4 45 "PageBucketsModel" "level" "I"] ++ wsX40)
def wsX4_lastOf : List Cond := .code yX4_lastOf cX4_lastOf 3 (some .int) :: ([.fieldLink RX4 19 "PageBucketsModel" "links" "[I", .constant RX4 44 (-2000000005)] ++ wsX40)
def wsX4_freeOnes : List Cond := .code yX4_freeOnes cX4_freeOnes 3 (some .int) :: ([.fieldLink RX4 22 "PageBucketsModel" "isFree" "[Z"] ++ wsX40)
def wsX4_add : List Cond := .code yX4_add cX4_add 6 none :: ([.fieldLink RX4 16 "PageBucketsModel" "sizes" "[I", .fieldLink RX4 22 "PageBucketsModel" "isFree" "[Z", .fieldLink RX4 19 "PageBucketsModel" "links" "[I", .fieldLink RX4 7 "PageBucketsModel" "keys" "[I", .fieldLink RX4 13 "PageBucketsModel" "values" "[I", .methodLink RX4 60 yX4_lastOf, .instanceMethod yX4_lastOf, .selects RX4 yX4_lastOf yX4_lastOf, .initialized RX4, .code yX4_lastOf cX4_lastOf 3 (some .int), .constant RX4 44 (-2000000005)] ++ wsX40)
def wsX4_placeOf : List Cond := .code yX4_placeOf cX4_placeOf 4 (some .int) :: ([.constant RX4 44 (-2000000005), .fieldLink RX4 16 "PageBucketsModel" "sizes" "[I", .fieldLink RX4 7 "PageBucketsModel" "keys" "[I", .fieldLink RX4 19 "PageBucketsModel" "links" "[I", .methodLink RX4 64 yX4_addressOf, .instanceMethod yX4_addressOf, .selects RX4 yX4_addressOf yX4_addressOf, .initialized RX4, .code yX4_addressOf cX4_addressOf 4 (some .int), .constant RX4 59 (-1640531527), .fieldLink RX4 49 "PageBucketsModel" "split" "I", .methodLink RX4 55 yX4_base, .instanceMethod yX4_base, .selects RX4 yX4_base yX4_base, .code yX4_base cX4_base 1 (some .int), .fieldLink RX4 45 "PageBucketsModel" "level" "I"] ++ wsX40)
def wsX4_hold : List Cond := .code yX4_hold cX4_hold 4 none :: ([.constant RX4 44 (-2000000005), .fieldLink RX4 16 "PageBucketsModel" "sizes" "[I", .fieldLink RX4 35 "PageBucketsModel" "heldKey" "[I", .fieldLink RX4 67 "PageBucketsModel" "held" "I", .fieldLink RX4 7 "PageBucketsModel" "keys" "[I", .fieldLink RX4 38 "PageBucketsModel" "heldValue" "[I", .fieldLink RX4 13 "PageBucketsModel" "values" "[I", .fieldLink RX4 19 "PageBucketsModel" "links" "[I", .fieldLink RX4 22 "PageBucketsModel" "isFree" "[Z"] ++ wsX40)
def wsX4_layHeld_r1 : List Cond := [Cond.fieldLink RX4 67 "PageBucketsModel" "held" "I", Cond.fieldLink RX4 35 "PageBucketsModel" "heldKey" "[I", Cond.fieldLink RX4 38 "PageBucketsModel" "heldValue" "[I", Cond.methodLink RX4 64 yX4_addressOf, Cond.instanceMethod yX4_addressOf, Cond.selects RX4 yX4_addressOf yX4_addressOf, Cond.initialized RX4, Cond.code yX4_addressOf cX4_addressOf 4 (some .int), Cond.constant RX4 59 (-1640531527), Cond.fieldLink RX4 49 "PageBucketsModel" "split" "I", Cond.methodLink RX4 55 yX4_base, Cond.instanceMethod yX4_base, Cond.selects RX4 yX4_base yX4_base, Cond.code yX4_base cX4_base 1 (some .int), Cond.fieldLink RX4 45 "PageBucketsModel" "level" "I", Cond.methodLink RX4 70 yX4_add, Cond.instanceMethod yX4_add, Cond.selects RX4 yX4_add yX4_add, Cond.code yX4_add cX4_add 6 none, Cond.fieldLink RX4 16 "PageBucketsModel" "sizes" "[I", Cond.fieldLink RX4 22 "PageBucketsModel" "isFree" "[Z", Cond.fieldLink RX4 19 "PageBucketsModel" "links" "[I", Cond.fieldLink RX4 7 "PageBucketsModel" "keys" "[I", Cond.fieldLink RX4 13 "PageBucketsModel" "values" "[I"]
def wsX4_layHeld_r2 : List Cond := [Cond.methodLink RX4 60 yX4_lastOf, Cond.instanceMethod yX4_lastOf, Cond.selects RX4 yX4_lastOf yX4_lastOf, Cond.code yX4_lastOf cX4_lastOf 3 (some .int), Cond.constant RX4 44 (-2000000005)]
def wsX4_layHeld : List Cond := .code yX4_layHeld cX4_layHeld 2 none :: ((wsX4_layHeld_r1 ++ wsX4_layHeld_r2) ++ wsX40)
def wsX4_grow_r1 : List Cond := [Cond.fieldLink RX4 67 "PageBucketsModel" "held" "I", Cond.fieldLink RX4 49 "PageBucketsModel" "split" "I", Cond.fieldLink RX4 45 "PageBucketsModel" "level" "I", Cond.methodLink RX4 74 yX4_hold, Cond.instanceMethod yX4_hold, Cond.selects RX4 yX4_hold yX4_hold, Cond.initialized RX4, Cond.code yX4_hold cX4_hold 4 none, Cond.constant RX4 44 (-2000000005), Cond.fieldLink RX4 16 "PageBucketsModel" "sizes" "[I", Cond.fieldLink RX4 35 "PageBucketsModel" "heldKey" "[I", Cond.fieldLink RX4 7 "PageBucketsModel" "keys" "[I", Cond.fieldLink RX4 38 "PageBucketsModel" "heldValue" "[I", Cond.fieldLink RX4 13 "PageBucketsModel" "values" "[I", Cond.fieldLink RX4 19 "PageBucketsModel" "links" "[I", Cond.fieldLink RX4 22 "PageBucketsModel" "isFree" "[Z", Cond.methodLink RX4 55 yX4_base, Cond.instanceMethod yX4_base, Cond.selects RX4 yX4_base yX4_base, Cond.code yX4_base cX4_base 1 (some .int), Cond.methodLink RX4 78 yX4_layHeld, Cond.instanceMethod yX4_layHeld, Cond.selects RX4 yX4_layHeld yX4_layHeld, Cond.code yX4_layHeld cX4_layHeld 2 none]
def wsX4_grow_r2 : List Cond := [Cond.methodLink RX4 64 yX4_addressOf, Cond.instanceMethod yX4_addressOf, Cond.selects RX4 yX4_addressOf yX4_addressOf, Cond.code yX4_addressOf cX4_addressOf 4 (some .int), Cond.constant RX4 59 (-1640531527), Cond.methodLink RX4 70 yX4_add, Cond.instanceMethod yX4_add, Cond.selects RX4 yX4_add yX4_add, Cond.code yX4_add cX4_add 6 none, Cond.methodLink RX4 60 yX4_lastOf, Cond.instanceMethod yX4_lastOf, Cond.selects RX4 yX4_lastOf yX4_lastOf, Cond.code yX4_lastOf cX4_lastOf 3 (some .int)]
def wsX4_grow : List Cond := .code yX4_grow cX4_grow 1 none :: ((wsX4_grow_r1 ++ wsX4_grow_r2) ++ wsX40)
def wsX4_manyIn : List Cond := .code yX4_manyIn cX4_manyIn 4 (some .int) :: ([.constant RX4 44 (-2000000005), .fieldLink RX4 16 "PageBucketsModel" "sizes" "[I", .fieldLink RX4 19 "PageBucketsModel" "links" "[I"] ++ wsX40)
def wsX4_pagesIn : List Cond := .code yX4_pagesIn cX4_pagesIn 4 (some .int) :: ([.constant RX4 44 (-2000000005), .fieldLink RX4 19 "PageBucketsModel" "links" "[I"] ++ wsX40)
def wsX4_shrink_r1 : List Cond := [Cond.fieldLink RX4 49 "PageBucketsModel" "split" "I", Cond.fieldLink RX4 45 "PageBucketsModel" "level" "I", Cond.fieldLink RX4 67 "PageBucketsModel" "held" "I", Cond.methodLink RX4 81 yX4_buckets, Cond.instanceMethod yX4_buckets, Cond.selects RX4 yX4_buckets yX4_buckets, Cond.initialized RX4, Cond.code yX4_buckets cX4_buckets 1 (some .int), Cond.methodLink RX4 55 yX4_base, Cond.instanceMethod yX4_base, Cond.selects RX4 yX4_base yX4_base, Cond.code yX4_base cX4_base 1 (some .int), Cond.methodLink RX4 84 yX4_manyIn, Cond.instanceMethod yX4_manyIn, Cond.selects RX4 yX4_manyIn yX4_manyIn, Cond.code yX4_manyIn cX4_manyIn 4 (some .int), Cond.constant RX4 44 (-2000000005), Cond.fieldLink RX4 16 "PageBucketsModel" "sizes" "[I", Cond.fieldLink RX4 19 "PageBucketsModel" "links" "[I", Cond.methodLink RX4 87 yX4_freeOnes, Cond.instanceMethod yX4_freeOnes, Cond.selects RX4 yX4_freeOnes yX4_freeOnes, Cond.code yX4_freeOnes cX4_freeOnes 3 (some .int), Cond.fieldLink RX4 22 "PageBucketsModel" "isFree" "[Z"]
def wsX4_shrink_r2 : List Cond := [Cond.methodLink RX4 90 yX4_pagesIn, Cond.instanceMethod yX4_pagesIn, Cond.selects RX4 yX4_pagesIn yX4_pagesIn, Cond.code yX4_pagesIn cX4_pagesIn 4 (some .int), Cond.methodLink RX4 74 yX4_hold, Cond.instanceMethod yX4_hold, Cond.selects RX4 yX4_hold yX4_hold, Cond.code yX4_hold cX4_hold 4 none, Cond.fieldLink RX4 35 "PageBucketsModel" "heldKey" "[I", Cond.fieldLink RX4 7 "PageBucketsModel" "keys" "[I", Cond.fieldLink RX4 38 "PageBucketsModel" "heldValue" "[I", Cond.fieldLink RX4 13 "PageBucketsModel" "values" "[I", Cond.methodLink RX4 78 yX4_layHeld, Cond.instanceMethod yX4_layHeld, Cond.selects RX4 yX4_layHeld yX4_layHeld, Cond.code yX4_layHeld cX4_layHeld 2 none, Cond.methodLink RX4 64 yX4_addressOf, Cond.instanceMethod yX4_addressOf, Cond.selects RX4 yX4_addressOf yX4_addressOf, Cond.code yX4_addressOf cX4_addressOf 4 (some .int), Cond.constant RX4 59 (-1640531527), Cond.methodLink RX4 70 yX4_add, Cond.instanceMethod yX4_add, Cond.selects RX4 yX4_add yX4_add]
def wsX4_shrink_r3 : List Cond := [Cond.code yX4_add cX4_add 6 none, Cond.methodLink RX4 60 yX4_lastOf, Cond.instanceMethod yX4_lastOf, Cond.selects RX4 yX4_lastOf yX4_lastOf, Cond.code yX4_lastOf cX4_lastOf 3 (some .int)]
def wsX4_shrink : List Cond := .code yX4_shrink cX4_shrink 7 none :: ((wsX4_shrink_r1 ++ (wsX4_shrink_r2 ++ wsX4_shrink_r3)) ++ wsX40)
def wsX4_takeOut : List Cond := .code yX4_takeOut cX4_takeOut 6 none :: ([.fieldLink RX4 7 "PageBucketsModel" "keys" "[I", .fieldLink RX4 16 "PageBucketsModel" "sizes" "[I", .fieldLink RX4 13 "PageBucketsModel" "values" "[I", .fieldLink RX4 22 "PageBucketsModel" "isFree" "[Z", .constant RX4 44 (-2000000005), .fieldLink RX4 19 "PageBucketsModel" "links" "[I", .methodLink RX4 64 yX4_addressOf, .instanceMethod yX4_addressOf, .selects RX4 yX4_addressOf yX4_addressOf, .initialized RX4, .code yX4_addressOf cX4_addressOf 4 (some .int), .constant RX4 59 (-1640531527), .fieldLink RX4 49 "PageBucketsModel" "split" "I", .methodLink RX4 55 yX4_base, .instanceMethod yX4_base, .selects RX4 yX4_base yX4_base, .code yX4_base cX4_base 1 (some .int), .fieldLink RX4 45 "PageBucketsModel" "level" "I", .methodLink RX4 60 yX4_lastOf, .instanceMethod yX4_lastOf, .selects RX4 yX4_lastOf yX4_lastOf, .code yX4_lastOf cX4_lastOf 3 (some .int)] ++ wsX40)
def wsX4_write_r1 : List Cond := [Cond.fieldLink RX4 52 "PageBucketsModel" "entries" "I", Cond.constant RX4 44 (-2000000005), Cond.fieldLink RX4 13 "PageBucketsModel" "values" "[I", Cond.methodLink RX4 93 yX4_placeOf, Cond.instanceMethod yX4_placeOf, Cond.selects RX4 yX4_placeOf yX4_placeOf, Cond.initialized RX4, Cond.code yX4_placeOf cX4_placeOf 4 (some .int), Cond.fieldLink RX4 16 "PageBucketsModel" "sizes" "[I", Cond.fieldLink RX4 7 "PageBucketsModel" "keys" "[I", Cond.fieldLink RX4 19 "PageBucketsModel" "links" "[I", Cond.methodLink RX4 64 yX4_addressOf, Cond.instanceMethod yX4_addressOf, Cond.selects RX4 yX4_addressOf yX4_addressOf, Cond.code yX4_addressOf cX4_addressOf 4 (some .int), Cond.constant RX4 59 (-1640531527), Cond.fieldLink RX4 49 "PageBucketsModel" "split" "I", Cond.methodLink RX4 55 yX4_base, Cond.instanceMethod yX4_base, Cond.selects RX4 yX4_base yX4_base, Cond.code yX4_base cX4_base 1 (some .int), Cond.fieldLink RX4 45 "PageBucketsModel" "level" "I", Cond.methodLink RX4 96 yX4_takeOut, Cond.instanceMethod yX4_takeOut]
def wsX4_write_r2 : List Cond := [Cond.selects RX4 yX4_takeOut yX4_takeOut, Cond.code yX4_takeOut cX4_takeOut 6 none, Cond.fieldLink RX4 22 "PageBucketsModel" "isFree" "[Z", Cond.methodLink RX4 60 yX4_lastOf, Cond.instanceMethod yX4_lastOf, Cond.selects RX4 yX4_lastOf yX4_lastOf, Cond.code yX4_lastOf cX4_lastOf 3 (some .int), Cond.methodLink RX4 81 yX4_buckets, Cond.instanceMethod yX4_buckets, Cond.selects RX4 yX4_buckets yX4_buckets, Cond.code yX4_buckets cX4_buckets 1 (some .int), Cond.methodLink RX4 99 yX4_shrink, Cond.instanceMethod yX4_shrink, Cond.selects RX4 yX4_shrink yX4_shrink, Cond.code yX4_shrink cX4_shrink 7 none, Cond.fieldLink RX4 67 "PageBucketsModel" "held" "I", Cond.methodLink RX4 84 yX4_manyIn, Cond.instanceMethod yX4_manyIn, Cond.selects RX4 yX4_manyIn yX4_manyIn, Cond.code yX4_manyIn cX4_manyIn 4 (some .int), Cond.methodLink RX4 87 yX4_freeOnes, Cond.instanceMethod yX4_freeOnes, Cond.selects RX4 yX4_freeOnes yX4_freeOnes, Cond.code yX4_freeOnes cX4_freeOnes 3 (some .int)]
def wsX4_write_r3 : List Cond := [Cond.methodLink RX4 90 yX4_pagesIn, Cond.instanceMethod yX4_pagesIn, Cond.selects RX4 yX4_pagesIn yX4_pagesIn, Cond.code yX4_pagesIn cX4_pagesIn 4 (some .int), Cond.methodLink RX4 74 yX4_hold, Cond.instanceMethod yX4_hold, Cond.selects RX4 yX4_hold yX4_hold, Cond.code yX4_hold cX4_hold 4 none, Cond.fieldLink RX4 35 "PageBucketsModel" "heldKey" "[I", Cond.fieldLink RX4 38 "PageBucketsModel" "heldValue" "[I", Cond.methodLink RX4 78 yX4_layHeld, Cond.instanceMethod yX4_layHeld, Cond.selects RX4 yX4_layHeld yX4_layHeld, Cond.code yX4_layHeld cX4_layHeld 2 none, Cond.methodLink RX4 70 yX4_add, Cond.instanceMethod yX4_add, Cond.selects RX4 yX4_add yX4_add, Cond.code yX4_add cX4_add 6 none, Cond.methodLink RX4 102 yX4_grow, Cond.instanceMethod yX4_grow, Cond.selects RX4 yX4_grow yX4_grow, Cond.code yX4_grow cX4_grow 1 none]
def wsX4_write : List Cond := .code yX4_write cX4_write 4 none :: ((wsX4_write_r1 ++ (wsX4_write_r2 ++ wsX4_write_r3)) ++ wsX40)
def wsX4_note_r1 : List Cond := [Cond.fieldLink RX4 26 "PageBucketsModel" "writeKey" "[I", Cond.fieldLink RX4 105 "PageBucketsModel" "writes" "I", Cond.fieldLink RX4 29 "PageBucketsModel" "writeValue" "[I", Cond.fieldLink RX4 108 "PageBucketsModel" "isOpen" "Z", Cond.fieldLink RX4 112 "PageBucketsModel" "openWrites" "I", Cond.fieldLink RX4 32 "PageBucketsModel" "groups" "[I", Cond.fieldLink RX4 115 "PageBucketsModel" "groupCount" "I", Cond.methodLink RX4 118 yX4_write, Cond.instanceMethod yX4_write, Cond.selects RX4 yX4_write yX4_write, Cond.initialized RX4, Cond.code yX4_write cX4_write 4 none, Cond.fieldLink RX4 52 "PageBucketsModel" "entries" "I", Cond.constant RX4 44 (-2000000005), Cond.fieldLink RX4 13 "PageBucketsModel" "values" "[I", Cond.methodLink RX4 93 yX4_placeOf, Cond.instanceMethod yX4_placeOf, Cond.selects RX4 yX4_placeOf yX4_placeOf, Cond.code yX4_placeOf cX4_placeOf 4 (some .int), Cond.fieldLink RX4 16 "PageBucketsModel" "sizes" "[I", Cond.fieldLink RX4 7 "PageBucketsModel" "keys" "[I", Cond.fieldLink RX4 19 "PageBucketsModel" "links" "[I", Cond.methodLink RX4 64 yX4_addressOf, Cond.instanceMethod yX4_addressOf]
def wsX4_note_r2 : List Cond := [Cond.selects RX4 yX4_addressOf yX4_addressOf, Cond.code yX4_addressOf cX4_addressOf 4 (some .int), Cond.constant RX4 59 (-1640531527), Cond.fieldLink RX4 49 "PageBucketsModel" "split" "I", Cond.methodLink RX4 55 yX4_base, Cond.instanceMethod yX4_base, Cond.selects RX4 yX4_base yX4_base, Cond.code yX4_base cX4_base 1 (some .int), Cond.fieldLink RX4 45 "PageBucketsModel" "level" "I", Cond.methodLink RX4 96 yX4_takeOut, Cond.instanceMethod yX4_takeOut, Cond.selects RX4 yX4_takeOut yX4_takeOut, Cond.code yX4_takeOut cX4_takeOut 6 none, Cond.fieldLink RX4 22 "PageBucketsModel" "isFree" "[Z", Cond.methodLink RX4 60 yX4_lastOf, Cond.instanceMethod yX4_lastOf, Cond.selects RX4 yX4_lastOf yX4_lastOf, Cond.code yX4_lastOf cX4_lastOf 3 (some .int), Cond.methodLink RX4 81 yX4_buckets, Cond.instanceMethod yX4_buckets, Cond.selects RX4 yX4_buckets yX4_buckets, Cond.code yX4_buckets cX4_buckets 1 (some .int), Cond.methodLink RX4 99 yX4_shrink, Cond.instanceMethod yX4_shrink]
def wsX4_note_r3 : List Cond := [Cond.selects RX4 yX4_shrink yX4_shrink, Cond.code yX4_shrink cX4_shrink 7 none, Cond.fieldLink RX4 67 "PageBucketsModel" "held" "I", Cond.methodLink RX4 84 yX4_manyIn, Cond.instanceMethod yX4_manyIn, Cond.selects RX4 yX4_manyIn yX4_manyIn, Cond.code yX4_manyIn cX4_manyIn 4 (some .int), Cond.methodLink RX4 87 yX4_freeOnes, Cond.instanceMethod yX4_freeOnes, Cond.selects RX4 yX4_freeOnes yX4_freeOnes, Cond.code yX4_freeOnes cX4_freeOnes 3 (some .int), Cond.methodLink RX4 90 yX4_pagesIn, Cond.instanceMethod yX4_pagesIn, Cond.selects RX4 yX4_pagesIn yX4_pagesIn, Cond.code yX4_pagesIn cX4_pagesIn 4 (some .int), Cond.methodLink RX4 74 yX4_hold, Cond.instanceMethod yX4_hold, Cond.selects RX4 yX4_hold yX4_hold, Cond.code yX4_hold cX4_hold 4 none, Cond.fieldLink RX4 35 "PageBucketsModel" "heldKey" "[I", Cond.fieldLink RX4 38 "PageBucketsModel" "heldValue" "[I", Cond.methodLink RX4 78 yX4_layHeld, Cond.instanceMethod yX4_layHeld, Cond.selects RX4 yX4_layHeld yX4_layHeld]
def wsX4_note_r4 : List Cond := [Cond.code yX4_layHeld cX4_layHeld 2 none, Cond.methodLink RX4 70 yX4_add, Cond.instanceMethod yX4_add, Cond.selects RX4 yX4_add yX4_add, Cond.code yX4_add cX4_add 6 none, Cond.methodLink RX4 102 yX4_grow, Cond.instanceMethod yX4_grow, Cond.selects RX4 yX4_grow yX4_grow, Cond.code yX4_grow cX4_grow 1 none]
def wsX4_note : List Cond := .code yX4_note cX4_note 3 none :: ((wsX4_note_r1 ++ (wsX4_note_r2 ++ (wsX4_note_r3 ++ wsX4_note_r4))) ++ wsX40)
def wsX4_again_r1 : List Cond := [Cond.fieldLink RX4 105 "PageBucketsModel" "writes" "I", Cond.fieldLink RX4 26 "PageBucketsModel" "writeKey" "[I", Cond.fieldLink RX4 29 "PageBucketsModel" "writeValue" "[I", Cond.methodLink RX4 41 yX4_clear, Cond.instanceMethod yX4_clear, Cond.selects RX4 yX4_clear yX4_clear, Cond.initialized RX4, Cond.code yX4_clear cX4_clear 2 none, Cond.fieldLink RX4 16 "PageBucketsModel" "sizes" "[I", Cond.fieldLink RX4 19 "PageBucketsModel" "links" "[I", Cond.constant RX4 44 (-2000000005), Cond.fieldLink RX4 22 "PageBucketsModel" "isFree" "[Z", Cond.fieldLink RX4 45 "PageBucketsModel" "level" "I", Cond.fieldLink RX4 49 "PageBucketsModel" "split" "I", Cond.fieldLink RX4 52 "PageBucketsModel" "entries" "I", Cond.methodLink RX4 118 yX4_write, Cond.instanceMethod yX4_write, Cond.selects RX4 yX4_write yX4_write, Cond.code yX4_write cX4_write 4 none, Cond.fieldLink RX4 13 "PageBucketsModel" "values" "[I", Cond.methodLink RX4 93 yX4_placeOf, Cond.instanceMethod yX4_placeOf, Cond.selects RX4 yX4_placeOf yX4_placeOf, Cond.code yX4_placeOf cX4_placeOf 4 (some .int)]
def wsX4_again_r2 : List Cond := [Cond.fieldLink RX4 7 "PageBucketsModel" "keys" "[I", Cond.methodLink RX4 64 yX4_addressOf, Cond.instanceMethod yX4_addressOf, Cond.selects RX4 yX4_addressOf yX4_addressOf, Cond.code yX4_addressOf cX4_addressOf 4 (some .int), Cond.constant RX4 59 (-1640531527), Cond.methodLink RX4 55 yX4_base, Cond.instanceMethod yX4_base, Cond.selects RX4 yX4_base yX4_base, Cond.code yX4_base cX4_base 1 (some .int), Cond.methodLink RX4 96 yX4_takeOut, Cond.instanceMethod yX4_takeOut, Cond.selects RX4 yX4_takeOut yX4_takeOut, Cond.code yX4_takeOut cX4_takeOut 6 none, Cond.methodLink RX4 60 yX4_lastOf, Cond.instanceMethod yX4_lastOf, Cond.selects RX4 yX4_lastOf yX4_lastOf, Cond.code yX4_lastOf cX4_lastOf 3 (some .int), Cond.methodLink RX4 81 yX4_buckets, Cond.instanceMethod yX4_buckets, Cond.selects RX4 yX4_buckets yX4_buckets, Cond.code yX4_buckets cX4_buckets 1 (some .int), Cond.methodLink RX4 99 yX4_shrink, Cond.instanceMethod yX4_shrink]
def wsX4_again_r3 : List Cond := [Cond.selects RX4 yX4_shrink yX4_shrink, Cond.code yX4_shrink cX4_shrink 7 none, Cond.fieldLink RX4 67 "PageBucketsModel" "held" "I", Cond.methodLink RX4 84 yX4_manyIn, Cond.instanceMethod yX4_manyIn, Cond.selects RX4 yX4_manyIn yX4_manyIn, Cond.code yX4_manyIn cX4_manyIn 4 (some .int), Cond.methodLink RX4 87 yX4_freeOnes, Cond.instanceMethod yX4_freeOnes, Cond.selects RX4 yX4_freeOnes yX4_freeOnes, Cond.code yX4_freeOnes cX4_freeOnes 3 (some .int), Cond.methodLink RX4 90 yX4_pagesIn, Cond.instanceMethod yX4_pagesIn, Cond.selects RX4 yX4_pagesIn yX4_pagesIn, Cond.code yX4_pagesIn cX4_pagesIn 4 (some .int), Cond.methodLink RX4 74 yX4_hold, Cond.instanceMethod yX4_hold, Cond.selects RX4 yX4_hold yX4_hold, Cond.code yX4_hold cX4_hold 4 none, Cond.fieldLink RX4 35 "PageBucketsModel" "heldKey" "[I", Cond.fieldLink RX4 38 "PageBucketsModel" "heldValue" "[I", Cond.methodLink RX4 78 yX4_layHeld, Cond.instanceMethod yX4_layHeld, Cond.selects RX4 yX4_layHeld yX4_layHeld]
def wsX4_again_r4 : List Cond := [Cond.code yX4_layHeld cX4_layHeld 2 none, Cond.methodLink RX4 70 yX4_add, Cond.instanceMethod yX4_add, Cond.selects RX4 yX4_add yX4_add, Cond.code yX4_add cX4_add 6 none, Cond.methodLink RX4 102 yX4_grow, Cond.instanceMethod yX4_grow, Cond.selects RX4 yX4_grow yX4_grow, Cond.code yX4_grow cX4_grow 1 none]
def wsX4_again : List Cond := .code yX4_again cX4_again 3 none :: ((wsX4_again_r1 ++ (wsX4_again_r2 ++ (wsX4_again_r3 ++ wsX4_again_r4))) ++ wsX40)
def wsX4_isLogFull : List Cond := .code yX4_isLogFull cX4_isLogFull 1 (some .boolean) :: ([.fieldLink RX4 105 "PageBucketsModel" "writes" "I", .fieldLink RX4 122 "PageBucketsModel" "keptWrites" "I"] ++ wsX40)
def wsX4_put_r1 : List Cond := [Cond.constant RX4 125 (1000000000), Cond.constant RX4 126 (-2000000001), Cond.constant RX4 44 (-2000000005), Cond.fieldLink RX4 16 "PageBucketsModel" "sizes" "[I", Cond.constant RX4 127 (-2000000003), Cond.constant RX4 132 (-2000000004), Cond.methodLink RX4 93 yX4_placeOf, Cond.instanceMethod yX4_placeOf, Cond.selects RX4 yX4_placeOf yX4_placeOf, Cond.initialized RX4, Cond.code yX4_placeOf cX4_placeOf 4 (some .int), Cond.fieldLink RX4 7 "PageBucketsModel" "keys" "[I", Cond.fieldLink RX4 19 "PageBucketsModel" "links" "[I", Cond.methodLink RX4 64 yX4_addressOf, Cond.instanceMethod yX4_addressOf, Cond.selects RX4 yX4_addressOf yX4_addressOf, Cond.code yX4_addressOf cX4_addressOf 4 (some .int), Cond.constant RX4 59 (-1640531527), Cond.fieldLink RX4 49 "PageBucketsModel" "split" "I", Cond.methodLink RX4 55 yX4_base, Cond.instanceMethod yX4_base, Cond.selects RX4 yX4_base yX4_base, Cond.code yX4_base cX4_base 1 (some .int), Cond.fieldLink RX4 45 "PageBucketsModel" "level" "I"]
def wsX4_put_r2 : List Cond := [Cond.methodLink RX4 60 yX4_lastOf, Cond.instanceMethod yX4_lastOf, Cond.selects RX4 yX4_lastOf yX4_lastOf, Cond.code yX4_lastOf cX4_lastOf 3 (some .int), Cond.methodLink RX4 87 yX4_freeOnes, Cond.instanceMethod yX4_freeOnes, Cond.selects RX4 yX4_freeOnes yX4_freeOnes, Cond.code yX4_freeOnes cX4_freeOnes 3 (some .int), Cond.fieldLink RX4 22 "PageBucketsModel" "isFree" "[Z", Cond.methodLink RX4 128 yX4_isLogFull, Cond.instanceMethod yX4_isLogFull, Cond.selects RX4 yX4_isLogFull yX4_isLogFull, Cond.code yX4_isLogFull cX4_isLogFull 1 (some .boolean), Cond.fieldLink RX4 105 "PageBucketsModel" "writes" "I", Cond.fieldLink RX4 122 "PageBucketsModel" "keptWrites" "I", Cond.methodLink RX4 133 yX4_note, Cond.instanceMethod yX4_note, Cond.selects RX4 yX4_note yX4_note, Cond.code yX4_note cX4_note 3 none, Cond.fieldLink RX4 26 "PageBucketsModel" "writeKey" "[I", Cond.fieldLink RX4 29 "PageBucketsModel" "writeValue" "[I", Cond.fieldLink RX4 108 "PageBucketsModel" "isOpen" "Z", Cond.fieldLink RX4 112 "PageBucketsModel" "openWrites" "I", Cond.fieldLink RX4 32 "PageBucketsModel" "groups" "[I"]
def wsX4_put_r3 : List Cond := [Cond.fieldLink RX4 115 "PageBucketsModel" "groupCount" "I", Cond.methodLink RX4 118 yX4_write, Cond.instanceMethod yX4_write, Cond.selects RX4 yX4_write yX4_write, Cond.code yX4_write cX4_write 4 none, Cond.fieldLink RX4 52 "PageBucketsModel" "entries" "I", Cond.fieldLink RX4 13 "PageBucketsModel" "values" "[I", Cond.methodLink RX4 96 yX4_takeOut, Cond.instanceMethod yX4_takeOut, Cond.selects RX4 yX4_takeOut yX4_takeOut, Cond.code yX4_takeOut cX4_takeOut 6 none, Cond.methodLink RX4 81 yX4_buckets, Cond.instanceMethod yX4_buckets, Cond.selects RX4 yX4_buckets yX4_buckets, Cond.code yX4_buckets cX4_buckets 1 (some .int), Cond.methodLink RX4 99 yX4_shrink, Cond.instanceMethod yX4_shrink, Cond.selects RX4 yX4_shrink yX4_shrink, Cond.code yX4_shrink cX4_shrink 7 none, Cond.fieldLink RX4 67 "PageBucketsModel" "held" "I", Cond.methodLink RX4 84 yX4_manyIn, Cond.instanceMethod yX4_manyIn, Cond.selects RX4 yX4_manyIn yX4_manyIn, Cond.code yX4_manyIn cX4_manyIn 4 (some .int)]
def wsX4_put_r4 : List Cond := [Cond.methodLink RX4 90 yX4_pagesIn, Cond.instanceMethod yX4_pagesIn, Cond.selects RX4 yX4_pagesIn yX4_pagesIn, Cond.code yX4_pagesIn cX4_pagesIn 4 (some .int), Cond.methodLink RX4 74 yX4_hold, Cond.instanceMethod yX4_hold, Cond.selects RX4 yX4_hold yX4_hold, Cond.code yX4_hold cX4_hold 4 none, Cond.fieldLink RX4 35 "PageBucketsModel" "heldKey" "[I", Cond.fieldLink RX4 38 "PageBucketsModel" "heldValue" "[I", Cond.methodLink RX4 78 yX4_layHeld, Cond.instanceMethod yX4_layHeld, Cond.selects RX4 yX4_layHeld yX4_layHeld, Cond.code yX4_layHeld cX4_layHeld 2 none, Cond.methodLink RX4 70 yX4_add, Cond.instanceMethod yX4_add, Cond.selects RX4 yX4_add yX4_add, Cond.code yX4_add cX4_add 6 none, Cond.methodLink RX4 102 yX4_grow, Cond.instanceMethod yX4_grow, Cond.selects RX4 yX4_grow yX4_grow, Cond.code yX4_grow cX4_grow 1 none]
def wsX4_put : List Cond := .code yX4_put cX4_put 4 (some .int) :: ((wsX4_put_r1 ++ (wsX4_put_r2 ++ (wsX4_put_r3 ++ wsX4_put_r4))) ++ wsX40)
def wsX4_remove_r1 : List Cond := [Cond.constant RX4 44 (-2000000005), Cond.constant RX4 132 (-2000000004), Cond.fieldLink RX4 13 "PageBucketsModel" "values" "[I", Cond.methodLink RX4 93 yX4_placeOf, Cond.instanceMethod yX4_placeOf, Cond.selects RX4 yX4_placeOf yX4_placeOf, Cond.initialized RX4, Cond.code yX4_placeOf cX4_placeOf 4 (some .int), Cond.fieldLink RX4 16 "PageBucketsModel" "sizes" "[I", Cond.fieldLink RX4 7 "PageBucketsModel" "keys" "[I", Cond.fieldLink RX4 19 "PageBucketsModel" "links" "[I", Cond.methodLink RX4 64 yX4_addressOf, Cond.instanceMethod yX4_addressOf, Cond.selects RX4 yX4_addressOf yX4_addressOf, Cond.code yX4_addressOf cX4_addressOf 4 (some .int), Cond.constant RX4 59 (-1640531527), Cond.fieldLink RX4 49 "PageBucketsModel" "split" "I", Cond.methodLink RX4 55 yX4_base, Cond.instanceMethod yX4_base, Cond.selects RX4 yX4_base yX4_base, Cond.code yX4_base cX4_base 1 (some .int), Cond.fieldLink RX4 45 "PageBucketsModel" "level" "I", Cond.methodLink RX4 128 yX4_isLogFull, Cond.instanceMethod yX4_isLogFull]
def wsX4_remove_r2 : List Cond := [Cond.selects RX4 yX4_isLogFull yX4_isLogFull, Cond.code yX4_isLogFull cX4_isLogFull 1 (some .boolean), Cond.fieldLink RX4 105 "PageBucketsModel" "writes" "I", Cond.fieldLink RX4 122 "PageBucketsModel" "keptWrites" "I", Cond.methodLink RX4 133 yX4_note, Cond.instanceMethod yX4_note, Cond.selects RX4 yX4_note yX4_note, Cond.code yX4_note cX4_note 3 none, Cond.fieldLink RX4 26 "PageBucketsModel" "writeKey" "[I", Cond.fieldLink RX4 29 "PageBucketsModel" "writeValue" "[I", Cond.fieldLink RX4 108 "PageBucketsModel" "isOpen" "Z", Cond.fieldLink RX4 112 "PageBucketsModel" "openWrites" "I", Cond.fieldLink RX4 32 "PageBucketsModel" "groups" "[I", Cond.fieldLink RX4 115 "PageBucketsModel" "groupCount" "I", Cond.methodLink RX4 118 yX4_write, Cond.instanceMethod yX4_write, Cond.selects RX4 yX4_write yX4_write, Cond.code yX4_write cX4_write 4 none, Cond.fieldLink RX4 52 "PageBucketsModel" "entries" "I", Cond.methodLink RX4 96 yX4_takeOut, Cond.instanceMethod yX4_takeOut, Cond.selects RX4 yX4_takeOut yX4_takeOut, Cond.code yX4_takeOut cX4_takeOut 6 none, Cond.fieldLink RX4 22 "PageBucketsModel" "isFree" "[Z"]
def wsX4_remove_r3 : List Cond := [Cond.methodLink RX4 60 yX4_lastOf, Cond.instanceMethod yX4_lastOf, Cond.selects RX4 yX4_lastOf yX4_lastOf, Cond.code yX4_lastOf cX4_lastOf 3 (some .int), Cond.methodLink RX4 81 yX4_buckets, Cond.instanceMethod yX4_buckets, Cond.selects RX4 yX4_buckets yX4_buckets, Cond.code yX4_buckets cX4_buckets 1 (some .int), Cond.methodLink RX4 99 yX4_shrink, Cond.instanceMethod yX4_shrink, Cond.selects RX4 yX4_shrink yX4_shrink, Cond.code yX4_shrink cX4_shrink 7 none, Cond.fieldLink RX4 67 "PageBucketsModel" "held" "I", Cond.methodLink RX4 84 yX4_manyIn, Cond.instanceMethod yX4_manyIn, Cond.selects RX4 yX4_manyIn yX4_manyIn, Cond.code yX4_manyIn cX4_manyIn 4 (some .int), Cond.methodLink RX4 87 yX4_freeOnes, Cond.instanceMethod yX4_freeOnes, Cond.selects RX4 yX4_freeOnes yX4_freeOnes, Cond.code yX4_freeOnes cX4_freeOnes 3 (some .int), Cond.methodLink RX4 90 yX4_pagesIn, Cond.instanceMethod yX4_pagesIn, Cond.selects RX4 yX4_pagesIn yX4_pagesIn]
def wsX4_remove_r4 : List Cond := [Cond.code yX4_pagesIn cX4_pagesIn 4 (some .int), Cond.methodLink RX4 74 yX4_hold, Cond.instanceMethod yX4_hold, Cond.selects RX4 yX4_hold yX4_hold, Cond.code yX4_hold cX4_hold 4 none, Cond.fieldLink RX4 35 "PageBucketsModel" "heldKey" "[I", Cond.fieldLink RX4 38 "PageBucketsModel" "heldValue" "[I", Cond.methodLink RX4 78 yX4_layHeld, Cond.instanceMethod yX4_layHeld, Cond.selects RX4 yX4_layHeld yX4_layHeld, Cond.code yX4_layHeld cX4_layHeld 2 none, Cond.methodLink RX4 70 yX4_add, Cond.instanceMethod yX4_add, Cond.selects RX4 yX4_add yX4_add, Cond.code yX4_add cX4_add 6 none, Cond.methodLink RX4 102 yX4_grow, Cond.instanceMethod yX4_grow, Cond.selects RX4 yX4_grow yX4_grow, Cond.code yX4_grow cX4_grow 1 none]
def wsX4_remove : List Cond := .code yX4_remove cX4_remove 4 (some .int) :: ((wsX4_remove_r1 ++ (wsX4_remove_r2 ++ (wsX4_remove_r3 ++ wsX4_remove_r4))) ++ wsX40)
def wsX4_get : List Cond := .code yX4_get cX4_get 4 (some .int) :: ([.constant RX4 44 (-2000000005), .fieldLink RX4 136 "PageBucketsModel" "read" "I", .fieldLink RX4 16 "PageBucketsModel" "sizes" "[I", .fieldLink RX4 7 "PageBucketsModel" "keys" "[I", .fieldLink RX4 13 "PageBucketsModel" "values" "[I", .fieldLink RX4 19 "PageBucketsModel" "links" "[I", .methodLink RX4 64 yX4_addressOf, .instanceMethod yX4_addressOf, .selects RX4 yX4_addressOf yX4_addressOf, .initialized RX4, .code yX4_addressOf cX4_addressOf 4 (some .int), .constant RX4 59 (-1640531527), .fieldLink RX4 49 "PageBucketsModel" "split" "I", .methodLink RX4 55 yX4_base, .instanceMethod yX4_base, .selects RX4 yX4_base yX4_base, .code yX4_base cX4_base 1 (some .int), .fieldLink RX4 45 "PageBucketsModel" "level" "I"] ++ wsX40)
def wsX4_begin : List Cond := .code yX4_begin cX4_begin 1 (some .int) :: ([.fieldLink RX4 108 "PageBucketsModel" "isOpen" "Z", .constant RX4 139 (-2000000002), .fieldLink RX4 112 "PageBucketsModel" "openWrites" "I"] ++ wsX40)
def wsX4_end : List Cond := .code yX4_end cX4_end 1 (some .int) :: ([.fieldLink RX4 108 "PageBucketsModel" "isOpen" "Z", .constant RX4 139 (-2000000002), .fieldLink RX4 112 "PageBucketsModel" "openWrites" "I", .fieldLink RX4 32 "PageBucketsModel" "groups" "[I", .fieldLink RX4 115 "PageBucketsModel" "groupCount" "I"] ++ wsX40)
def wsX4_undo_r1 : List Cond := [Cond.fieldLink RX4 108 "PageBucketsModel" "isOpen" "Z", Cond.constant RX4 139 (-2000000002), Cond.fieldLink RX4 112 "PageBucketsModel" "openWrites" "I", Cond.fieldLink RX4 105 "PageBucketsModel" "writes" "I", Cond.methodLink RX4 140 yX4_again, Cond.instanceMethod yX4_again, Cond.selects RX4 yX4_again yX4_again, Cond.initialized RX4, Cond.code yX4_again cX4_again 3 none, Cond.fieldLink RX4 26 "PageBucketsModel" "writeKey" "[I", Cond.fieldLink RX4 29 "PageBucketsModel" "writeValue" "[I", Cond.methodLink RX4 41 yX4_clear, Cond.instanceMethod yX4_clear, Cond.selects RX4 yX4_clear yX4_clear, Cond.code yX4_clear cX4_clear 2 none, Cond.fieldLink RX4 16 "PageBucketsModel" "sizes" "[I", Cond.fieldLink RX4 19 "PageBucketsModel" "links" "[I", Cond.constant RX4 44 (-2000000005), Cond.fieldLink RX4 22 "PageBucketsModel" "isFree" "[Z", Cond.fieldLink RX4 45 "PageBucketsModel" "level" "I", Cond.fieldLink RX4 49 "PageBucketsModel" "split" "I", Cond.fieldLink RX4 52 "PageBucketsModel" "entries" "I", Cond.methodLink RX4 118 yX4_write, Cond.instanceMethod yX4_write]
def wsX4_undo_r2 : List Cond := [Cond.selects RX4 yX4_write yX4_write, Cond.code yX4_write cX4_write 4 none, Cond.fieldLink RX4 13 "PageBucketsModel" "values" "[I", Cond.methodLink RX4 93 yX4_placeOf, Cond.instanceMethod yX4_placeOf, Cond.selects RX4 yX4_placeOf yX4_placeOf, Cond.code yX4_placeOf cX4_placeOf 4 (some .int), Cond.fieldLink RX4 7 "PageBucketsModel" "keys" "[I", Cond.methodLink RX4 64 yX4_addressOf, Cond.instanceMethod yX4_addressOf, Cond.selects RX4 yX4_addressOf yX4_addressOf, Cond.code yX4_addressOf cX4_addressOf 4 (some .int), Cond.constant RX4 59 (-1640531527), Cond.methodLink RX4 55 yX4_base, Cond.instanceMethod yX4_base, Cond.selects RX4 yX4_base yX4_base, Cond.code yX4_base cX4_base 1 (some .int), Cond.methodLink RX4 96 yX4_takeOut, Cond.instanceMethod yX4_takeOut, Cond.selects RX4 yX4_takeOut yX4_takeOut, Cond.code yX4_takeOut cX4_takeOut 6 none, Cond.methodLink RX4 60 yX4_lastOf, Cond.instanceMethod yX4_lastOf, Cond.selects RX4 yX4_lastOf yX4_lastOf]
def wsX4_undo_r3 : List Cond := [Cond.code yX4_lastOf cX4_lastOf 3 (some .int), Cond.methodLink RX4 81 yX4_buckets, Cond.instanceMethod yX4_buckets, Cond.selects RX4 yX4_buckets yX4_buckets, Cond.code yX4_buckets cX4_buckets 1 (some .int), Cond.methodLink RX4 99 yX4_shrink, Cond.instanceMethod yX4_shrink, Cond.selects RX4 yX4_shrink yX4_shrink, Cond.code yX4_shrink cX4_shrink 7 none, Cond.fieldLink RX4 67 "PageBucketsModel" "held" "I", Cond.methodLink RX4 84 yX4_manyIn, Cond.instanceMethod yX4_manyIn, Cond.selects RX4 yX4_manyIn yX4_manyIn, Cond.code yX4_manyIn cX4_manyIn 4 (some .int), Cond.methodLink RX4 87 yX4_freeOnes, Cond.instanceMethod yX4_freeOnes, Cond.selects RX4 yX4_freeOnes yX4_freeOnes, Cond.code yX4_freeOnes cX4_freeOnes 3 (some .int), Cond.methodLink RX4 90 yX4_pagesIn, Cond.instanceMethod yX4_pagesIn, Cond.selects RX4 yX4_pagesIn yX4_pagesIn, Cond.code yX4_pagesIn cX4_pagesIn 4 (some .int), Cond.methodLink RX4 74 yX4_hold, Cond.instanceMethod yX4_hold]
def wsX4_undo_r4 : List Cond := [Cond.selects RX4 yX4_hold yX4_hold, Cond.code yX4_hold cX4_hold 4 none, Cond.fieldLink RX4 35 "PageBucketsModel" "heldKey" "[I", Cond.fieldLink RX4 38 "PageBucketsModel" "heldValue" "[I", Cond.methodLink RX4 78 yX4_layHeld, Cond.instanceMethod yX4_layHeld, Cond.selects RX4 yX4_layHeld yX4_layHeld, Cond.code yX4_layHeld cX4_layHeld 2 none, Cond.methodLink RX4 70 yX4_add, Cond.instanceMethod yX4_add, Cond.selects RX4 yX4_add yX4_add, Cond.code yX4_add cX4_add 6 none, Cond.methodLink RX4 102 yX4_grow, Cond.instanceMethod yX4_grow, Cond.selects RX4 yX4_grow yX4_grow, Cond.code yX4_grow cX4_grow 1 none]
def wsX4_undo : List Cond := .code yX4_undo cX4_undo 2 (some .int) :: ((wsX4_undo_r1 ++ (wsX4_undo_r2 ++ (wsX4_undo_r3 ++ wsX4_undo_r4))) ++ wsX40)
def wsX4_keep : List Cond := .code yX4_keep cX4_keep 2 (some .int) :: ([.fieldLink RX4 108 "PageBucketsModel" "isOpen" "Z", .constant RX4 139 (-2000000002), .fieldLink RX4 105 "PageBucketsModel" "writes" "I", .fieldLink RX4 122 "PageBucketsModel" "keptWrites" "I", .fieldLink RX4 115 "PageBucketsModel" "groupCount" "I"] ++ wsX40)
def wsX4_stop_r1 : List Cond := [Cond.constant RX4 126 (-2000000001), Cond.fieldLink RX4 122 "PageBucketsModel" "keptWrites" "I", Cond.fieldLink RX4 115 "PageBucketsModel" "groupCount" "I", Cond.fieldLink RX4 32 "PageBucketsModel" "groups" "[I", Cond.fieldLink RX4 105 "PageBucketsModel" "writes" "I", Cond.fieldLink RX4 108 "PageBucketsModel" "isOpen" "Z", Cond.methodLink RX4 140 yX4_again, Cond.instanceMethod yX4_again, Cond.selects RX4 yX4_again yX4_again, Cond.initialized RX4, Cond.code yX4_again cX4_again 3 none, Cond.fieldLink RX4 26 "PageBucketsModel" "writeKey" "[I", Cond.fieldLink RX4 29 "PageBucketsModel" "writeValue" "[I", Cond.methodLink RX4 41 yX4_clear, Cond.instanceMethod yX4_clear, Cond.selects RX4 yX4_clear yX4_clear, Cond.code yX4_clear cX4_clear 2 none, Cond.fieldLink RX4 16 "PageBucketsModel" "sizes" "[I", Cond.fieldLink RX4 19 "PageBucketsModel" "links" "[I", Cond.constant RX4 44 (-2000000005), Cond.fieldLink RX4 22 "PageBucketsModel" "isFree" "[Z", Cond.fieldLink RX4 45 "PageBucketsModel" "level" "I", Cond.fieldLink RX4 49 "PageBucketsModel" "split" "I", Cond.fieldLink RX4 52 "PageBucketsModel" "entries" "I"]
def wsX4_stop_r2 : List Cond := [Cond.methodLink RX4 118 yX4_write, Cond.instanceMethod yX4_write, Cond.selects RX4 yX4_write yX4_write, Cond.code yX4_write cX4_write 4 none, Cond.fieldLink RX4 13 "PageBucketsModel" "values" "[I", Cond.methodLink RX4 93 yX4_placeOf, Cond.instanceMethod yX4_placeOf, Cond.selects RX4 yX4_placeOf yX4_placeOf, Cond.code yX4_placeOf cX4_placeOf 4 (some .int), Cond.fieldLink RX4 7 "PageBucketsModel" "keys" "[I", Cond.methodLink RX4 64 yX4_addressOf, Cond.instanceMethod yX4_addressOf, Cond.selects RX4 yX4_addressOf yX4_addressOf, Cond.code yX4_addressOf cX4_addressOf 4 (some .int), Cond.constant RX4 59 (-1640531527), Cond.methodLink RX4 55 yX4_base, Cond.instanceMethod yX4_base, Cond.selects RX4 yX4_base yX4_base, Cond.code yX4_base cX4_base 1 (some .int), Cond.methodLink RX4 96 yX4_takeOut, Cond.instanceMethod yX4_takeOut, Cond.selects RX4 yX4_takeOut yX4_takeOut, Cond.code yX4_takeOut cX4_takeOut 6 none, Cond.methodLink RX4 60 yX4_lastOf]
def wsX4_stop_r3 : List Cond := [Cond.instanceMethod yX4_lastOf, Cond.selects RX4 yX4_lastOf yX4_lastOf, Cond.code yX4_lastOf cX4_lastOf 3 (some .int), Cond.methodLink RX4 81 yX4_buckets, Cond.instanceMethod yX4_buckets, Cond.selects RX4 yX4_buckets yX4_buckets, Cond.code yX4_buckets cX4_buckets 1 (some .int), Cond.methodLink RX4 99 yX4_shrink, Cond.instanceMethod yX4_shrink, Cond.selects RX4 yX4_shrink yX4_shrink, Cond.code yX4_shrink cX4_shrink 7 none, Cond.fieldLink RX4 67 "PageBucketsModel" "held" "I", Cond.methodLink RX4 84 yX4_manyIn, Cond.instanceMethod yX4_manyIn, Cond.selects RX4 yX4_manyIn yX4_manyIn, Cond.code yX4_manyIn cX4_manyIn 4 (some .int), Cond.methodLink RX4 87 yX4_freeOnes, Cond.instanceMethod yX4_freeOnes, Cond.selects RX4 yX4_freeOnes yX4_freeOnes, Cond.code yX4_freeOnes cX4_freeOnes 3 (some .int), Cond.methodLink RX4 90 yX4_pagesIn, Cond.instanceMethod yX4_pagesIn, Cond.selects RX4 yX4_pagesIn yX4_pagesIn, Cond.code yX4_pagesIn cX4_pagesIn 4 (some .int)]
def wsX4_stop_r4 : List Cond := [Cond.methodLink RX4 74 yX4_hold, Cond.instanceMethod yX4_hold, Cond.selects RX4 yX4_hold yX4_hold, Cond.code yX4_hold cX4_hold 4 none, Cond.fieldLink RX4 35 "PageBucketsModel" "heldKey" "[I", Cond.fieldLink RX4 38 "PageBucketsModel" "heldValue" "[I", Cond.methodLink RX4 78 yX4_layHeld, Cond.instanceMethod yX4_layHeld, Cond.selects RX4 yX4_layHeld yX4_layHeld, Cond.code yX4_layHeld cX4_layHeld 2 none, Cond.methodLink RX4 70 yX4_add, Cond.instanceMethod yX4_add, Cond.selects RX4 yX4_add yX4_add, Cond.code yX4_add cX4_add 6 none, Cond.methodLink RX4 102 yX4_grow, Cond.instanceMethod yX4_grow, Cond.selects RX4 yX4_grow yX4_grow, Cond.code yX4_grow cX4_grow 1 none]
def wsX4_stop : List Cond := .code yX4_stop cX4_stop 4 (some .int) :: ((wsX4_stop_r1 ++ (wsX4_stop_r2 ++ (wsX4_stop_r3 ++ wsX4_stop_r4))) ++ wsX40)
def wsX4_address : List Cond := .code yX4_address cX4_address 2 (some .int) :: ([.methodLink RX4 64 yX4_addressOf, .instanceMethod yX4_addressOf, .selects RX4 yX4_addressOf yX4_addressOf, .initialized RX4, .code yX4_addressOf cX4_addressOf 4 (some .int), .constant RX4 59 (-1640531527), .fieldLink RX4 49 "PageBucketsModel" "split" "I", .methodLink RX4 55 yX4_base, .instanceMethod yX4_base, .selects RX4 yX4_base yX4_base, .code yX4_base cX4_base 1 (some .int), .fieldLink RX4 45 "PageBucketsModel" "level" "I"] ++ wsX40)
def wsX4_isBucket : List Cond := .code yX4_isBucket cX4_isBucket 2 (some .boolean) :: ([.methodLink RX4 81 yX4_buckets, .instanceMethod yX4_buckets, .selects RX4 yX4_buckets yX4_buckets, .initialized RX4, .code yX4_buckets cX4_buckets 1 (some .int), .fieldLink RX4 49 "PageBucketsModel" "split" "I", .methodLink RX4 55 yX4_base, .instanceMethod yX4_base, .selects RX4 yX4_base yX4_base, .code yX4_base cX4_base 1 (some .int), .fieldLink RX4 45 "PageBucketsModel" "level" "I"] ++ wsX40)
def wsX4_bucket_r1 : List Cond := [Cond.constant RX4 126 (-2000000001), Cond.methodLink RX4 143 yX4_isBucket, Cond.instanceMethod yX4_isBucket, Cond.selects RX4 yX4_isBucket yX4_isBucket, Cond.initialized RX4, Cond.code yX4_isBucket cX4_isBucket 2 (some .boolean), Cond.methodLink RX4 81 yX4_buckets, Cond.instanceMethod yX4_buckets, Cond.selects RX4 yX4_buckets yX4_buckets, Cond.code yX4_buckets cX4_buckets 1 (some .int), Cond.fieldLink RX4 49 "PageBucketsModel" "split" "I", Cond.methodLink RX4 55 yX4_base, Cond.instanceMethod yX4_base, Cond.selects RX4 yX4_base yX4_base, Cond.code yX4_base cX4_base 1 (some .int), Cond.fieldLink RX4 45 "PageBucketsModel" "level" "I", Cond.methodLink RX4 84 yX4_manyIn, Cond.instanceMethod yX4_manyIn, Cond.selects RX4 yX4_manyIn yX4_manyIn, Cond.code yX4_manyIn cX4_manyIn 4 (some .int), Cond.constant RX4 44 (-2000000005), Cond.fieldLink RX4 16 "PageBucketsModel" "sizes" "[I", Cond.fieldLink RX4 19 "PageBucketsModel" "links" "[I", Cond.methodLink RX4 90 yX4_pagesIn]
def wsX4_bucket_r2 : List Cond := [Cond.instanceMethod yX4_pagesIn, Cond.selects RX4 yX4_pagesIn yX4_pagesIn, Cond.code yX4_pagesIn cX4_pagesIn 4 (some .int), Cond.methodLink RX4 60 yX4_lastOf, Cond.instanceMethod yX4_lastOf, Cond.selects RX4 yX4_lastOf yX4_lastOf, Cond.code yX4_lastOf cX4_lastOf 3 (some .int)]
def wsX4_bucket : List Cond := .code yX4_bucket cX4_bucket 3 (some .int) :: ((wsX4_bucket_r1 ++ wsX4_bucket_r2) ++ wsX40)
def wsX4_ownerOf : List Cond := .code yX4_ownerOf cX4_ownerOf 4 (some .int) :: ([.constant RX4 44 (-2000000005), .fieldLink RX4 19 "PageBucketsModel" "links" "[I", .methodLink RX4 81 yX4_buckets, .instanceMethod yX4_buckets, .selects RX4 yX4_buckets yX4_buckets, .initialized RX4, .code yX4_buckets cX4_buckets 1 (some .int), .fieldLink RX4 49 "PageBucketsModel" "split" "I", .methodLink RX4 55 yX4_base, .instanceMethod yX4_base, .selects RX4 yX4_base yX4_base, .code yX4_base cX4_base 1 (some .int), .fieldLink RX4 45 "PageBucketsModel" "level" "I"] ++ wsX40)
def wsX4_isPage : List Cond := .code yX4_isPage cX4_isPage 1 (some .boolean) :: ([])
def wsX4_page : List Cond := .code yX4_page cX4_page 3 (some .int) :: ([.constant RX4 126 (-2000000001), .fieldLink RX4 16 "PageBucketsModel" "sizes" "[I", .fieldLink RX4 19 "PageBucketsModel" "links" "[I", .methodLink RX4 147 yX4_isPage, .static yX4_isPage, .initialized RX4, .code yX4_isPage cX4_isPage 1 (some .boolean), .methodLink RX4 150 yX4_ownerOf, .instanceMethod yX4_ownerOf, .selects RX4 yX4_ownerOf yX4_ownerOf, .code yX4_ownerOf cX4_ownerOf 4 (some .int), .constant RX4 44 (-2000000005), .methodLink RX4 81 yX4_buckets, .instanceMethod yX4_buckets, .selects RX4 yX4_buckets yX4_buckets, .code yX4_buckets cX4_buckets 1 (some .int), .fieldLink RX4 49 "PageBucketsModel" "split" "I", .methodLink RX4 55 yX4_base, .instanceMethod yX4_base, .selects RX4 yX4_base yX4_base, .code yX4_base cX4_base 1 (some .int), .fieldLink RX4 45 "PageBucketsModel" "level" "I"] ++ wsX40)
def wsX4_cell : List Cond := .code yX4_cell cX4_cell 4 (some .int) :: ([.constant RX4 126 (-2000000001), .fieldLink RX4 16 "PageBucketsModel" "sizes" "[I", .constant RX4 139 (-2000000002), .fieldLink RX4 7 "PageBucketsModel" "keys" "[I", .fieldLink RX4 13 "PageBucketsModel" "values" "[I", .methodLink RX4 147 yX4_isPage, .static yX4_isPage, .initialized RX4, .code yX4_isPage cX4_isPage 1 (some .boolean)] ++ wsX40)
def wsX4_entry : List Cond := .code yX4_entry cX4_entry 5 (some .int) :: ([.constant RX4 126 (-2000000001), .constant RX4 44 (-2000000005), .fieldLink RX4 16 "PageBucketsModel" "sizes" "[I", .fieldLink RX4 13 "PageBucketsModel" "values" "[I", .fieldLink RX4 19 "PageBucketsModel" "links" "[I", .methodLink RX4 81 yX4_buckets, .instanceMethod yX4_buckets, .selects RX4 yX4_buckets yX4_buckets, .initialized RX4, .code yX4_buckets cX4_buckets 1 (some .int), .fieldLink RX4 49 "PageBucketsModel" "split" "I", .methodLink RX4 55 yX4_base, .instanceMethod yX4_base, .selects RX4 yX4_base yX4_base, .code yX4_base cX4_base 1 (some .int), .fieldLink RX4 45 "PageBucketsModel" "level" "I"] ++ wsX40)
def wsX4_effort : List Cond := .code yX4_effort cX4_effort 5 (some .int) :: ([.constant RX4 44 (-2000000005), .fieldLink RX4 16 "PageBucketsModel" "sizes" "[I", .fieldLink RX4 19 "PageBucketsModel" "links" "[I", .methodLink RX4 81 yX4_buckets, .instanceMethod yX4_buckets, .selects RX4 yX4_buckets yX4_buckets, .initialized RX4, .code yX4_buckets cX4_buckets 1 (some .int), .fieldLink RX4 49 "PageBucketsModel" "split" "I", .methodLink RX4 55 yX4_base, .instanceMethod yX4_base, .selects RX4 yX4_base yX4_base, .code yX4_base cX4_base 1 (some .int), .fieldLink RX4 45 "PageBucketsModel" "level" "I"] ++ wsX40)
def wsX4_longest : List Cond := .code yX4_longest cX4_longest 3 (some .int) :: ([.methodLink RX4 81 yX4_buckets, .instanceMethod yX4_buckets, .selects RX4 yX4_buckets yX4_buckets, .initialized RX4, .code yX4_buckets cX4_buckets 1 (some .int), .fieldLink RX4 49 "PageBucketsModel" "split" "I", .methodLink RX4 55 yX4_base, .instanceMethod yX4_base, .selects RX4 yX4_base yX4_base, .code yX4_base cX4_base 1 (some .int), .fieldLink RX4 45 "PageBucketsModel" "level" "I", .methodLink RX4 90 yX4_pagesIn, .instanceMethod yX4_pagesIn, .selects RX4 yX4_pagesIn yX4_pagesIn, .code yX4_pagesIn cX4_pagesIn 4 (some .int), .constant RX4 44 (-2000000005), .fieldLink RX4 19 "PageBucketsModel" "links" "[I"] ++ wsX40)
def wsX4_count_r1 : List Cond := [Cond.fieldLink RX4 52 "PageBucketsModel" "entries" "I", Cond.fieldLink RX4 45 "PageBucketsModel" "level" "I", Cond.fieldLink RX4 49 "PageBucketsModel" "split" "I", Cond.fieldLink RX4 105 "PageBucketsModel" "writes" "I", Cond.fieldLink RX4 122 "PageBucketsModel" "keptWrites" "I", Cond.fieldLink RX4 115 "PageBucketsModel" "groupCount" "I", Cond.fieldLink RX4 108 "PageBucketsModel" "isOpen" "Z", Cond.fieldLink RX4 136 "PageBucketsModel" "read" "I", Cond.constant RX4 126 (-2000000001), Cond.methodLink RX4 81 yX4_buckets, Cond.instanceMethod yX4_buckets, Cond.selects RX4 yX4_buckets yX4_buckets, Cond.initialized RX4, Cond.code yX4_buckets cX4_buckets 1 (some .int), Cond.methodLink RX4 55 yX4_base, Cond.instanceMethod yX4_base, Cond.selects RX4 yX4_base yX4_base, Cond.code yX4_base cX4_base 1 (some .int), Cond.methodLink RX4 87 yX4_freeOnes, Cond.instanceMethod yX4_freeOnes, Cond.selects RX4 yX4_freeOnes yX4_freeOnes, Cond.code yX4_freeOnes cX4_freeOnes 3 (some .int), Cond.fieldLink RX4 22 "PageBucketsModel" "isFree" "[Z", Cond.methodLink RX4 153 yX4_longest]
def wsX4_count_r2 : List Cond := [Cond.instanceMethod yX4_longest, Cond.selects RX4 yX4_longest yX4_longest, Cond.code yX4_longest cX4_longest 3 (some .int), Cond.methodLink RX4 90 yX4_pagesIn, Cond.instanceMethod yX4_pagesIn, Cond.selects RX4 yX4_pagesIn yX4_pagesIn, Cond.code yX4_pagesIn cX4_pagesIn 4 (some .int), Cond.constant RX4 44 (-2000000005), Cond.fieldLink RX4 19 "PageBucketsModel" "links" "[I"]
def wsX4_count : List Cond := .code yX4_count cX4_count 2 (some .int) :: ((wsX4_count_r1 ++ wsX4_count_r2) ++ wsX40)
def wsJ9_max_7cf53 : List Cond := .code yJ9_max_7cf53 cJ9_max_7cf53 2 (some .int) :: ([])
def wsJ9_min_7cf53 : List Cond := .code yJ9_min_7cf53 cJ9_min_7cf53 2 (some .int) :: ([])
abbrev vwCl : List vw_C := [(RX0, TX0, 3), (RX1, TX1, 8), (RX2, TX2, 11), (RX3, TX3, 5), (RX4, TX4, 20)]
end
section
theorem dX0_init_0 : decode cX0_init 0 = .ok (.aload_n 0, 1) := by decide +kernel
theorem dX0_init_1 : decode cX0_init 1 = .ok (.invokespecial 3, 3) := by decide +kernel
theorem dX0_init_4 : decode cX0_init 4 = .ok (.aload_n 0, 1) := by decide +kernel
theorem dX0_init_5 : decode cX0_init 5 = .ok (.sipush 264, 3) := by decide +kernel
theorem dX0_init_8 : decode cX0_init 8 = .ok (.newarray .int, 2) := by decide +kernel
theorem dX0_init_10 : decode cX0_init 10 = .ok (.putfield 9, 3) := by decide +kernel
theorem dX0_init_13 : decode cX0_init 13 = .ok (.aload_n 0, 1) := by decide +kernel
theorem dX0_init_14 : decode cX0_init 14 = .ok (.sipush 264, 3) := by decide +kernel
theorem dX0_init_17 : decode cX0_init 17 = .ok (.newarray .int, 2) := by decide +kernel
theorem dX0_init_19 : decode cX0_init 19 = .ok (.putfield 15, 3) := by decide +kernel
theorem dX0_init_22 : decode cX0_init 22 = .ok (.return_, 1) := by decide +kernel
theorem dX0_push_0 : decode cX0_push 0 = .ok (.aload_n 0, 1) := by decide +kernel
theorem dX0_push_1 : decode cX0_push 1 = .ok (.getfield 18, 3) := by decide +kernel
theorem dX0_push_4 : decode cX0_push 4 = .ok (.ifCond .lt 43, 3) := by decide +kernel
theorem dX0_push_7 : decode cX0_push 7 = .ok (.aload_n 0, 1) := by decide +kernel
theorem dX0_push_8 : decode cX0_push 8 = .ok (.getfield 18, 3) := by decide +kernel
theorem dX0_push_11 : decode cX0_push 11 = .ok (.sipush 264, 3) := by decide +kernel
theorem dX0_push_14 : decode cX0_push 14 = .ok (.if_icmp .ge 33, 3) := by decide +kernel
theorem dX0_push_17 : decode cX0_push 17 = .ok (.aload_n 0, 1) := by decide +kernel
theorem dX0_push_18 : decode cX0_push 18 = .ok (.getfield 9, 3) := by decide +kernel
theorem dX0_push_21 : decode cX0_push 21 = .ok (.aload_n 0, 1) := by decide +kernel
theorem dX0_push_22 : decode cX0_push 22 = .ok (.getfield 18, 3) := by decide +kernel
theorem dX0_push_25 : decode cX0_push 25 = .ok (.iload_n 1, 1) := by decide +kernel
theorem dX0_push_26 : decode cX0_push 26 = .ok (.iastore, 1) := by decide +kernel
theorem dX0_push_27 : decode cX0_push 27 = .ok (.aload_n 0, 1) := by decide +kernel
theorem dX0_push_28 : decode cX0_push 28 = .ok (.getfield 15, 3) := by decide +kernel
theorem dX0_push_31 : decode cX0_push 31 = .ok (.aload_n 0, 1) := by decide +kernel
theorem dX0_push_32 : decode cX0_push 32 = .ok (.getfield 18, 3) := by decide +kernel
theorem dX0_push_35 : decode cX0_push 35 = .ok (.iload_n 2, 1) := by decide +kernel
theorem dX0_push_36 : decode cX0_push 36 = .ok (.iastore, 1) := by decide +kernel
theorem dX0_push_37 : decode cX0_push 37 = .ok (.aload_n 0, 1) := by decide +kernel
theorem dX0_push_38 : decode cX0_push 38 = .ok (.dup, 1) := by decide +kernel
theorem dX0_push_39 : decode cX0_push 39 = .ok (.getfield 18, 3) := by decide +kernel
theorem dX0_push_42 : decode cX0_push 42 = .ok (.iconst 1, 1) := by decide +kernel
theorem dX0_push_43 : decode cX0_push 43 = .ok (.iadd, 1) := by decide +kernel
theorem dX0_push_44 : decode cX0_push 44 = .ok (.putfield 18, 3) := by decide +kernel
theorem dX0_push_47 : decode cX0_push 47 = .ok (.return_, 1) := by decide +kernel
theorem dX1_init_0 : decode cX1_init 0 = .ok (.aload_n 0, 1) := by decide +kernel
theorem dX1_init_1 : decode cX1_init 1 = .ok (.invokespecial 3, 3) := by decide +kernel
theorem dX1_init_4 : decode cX1_init 4 = .ok (.aload_n 0, 1) := by decide +kernel
theorem dX1_init_5 : decode cX1_init 5 = .ok (.bipush 64, 2) := by decide +kernel
theorem dX1_init_7 : decode cX1_init 7 = .ok (.newarray .int, 2) := by decide +kernel
theorem dX1_init_9 : decode cX1_init 9 = .ok (.putfield 9, 3) := by decide +kernel
theorem dX1_init_12 : decode cX1_init 12 = .ok (.aload_n 0, 1) := by decide +kernel
theorem dX1_init_13 : decode cX1_init 13 = .ok (.bipush 64, 2) := by decide +kernel
theorem dX1_init_15 : decode cX1_init 15 = .ok (.newarray .int, 2) := by decide +kernel
theorem dX1_init_17 : decode cX1_init 17 = .ok (.putfield 15, 3) := by decide +kernel
theorem dX1_init_20 : decode cX1_init 20 = .ok (.aload_n 0, 1) := by decide +kernel
theorem dX1_init_21 : decode cX1_init 21 = .ok (.bipush 64, 2) := by decide +kernel
theorem dX1_init_23 : decode cX1_init 23 = .ok (.newarray .int, 2) := by decide +kernel
theorem dX1_init_25 : decode cX1_init 25 = .ok (.putfield 18, 3) := by decide +kernel
theorem dX1_init_28 : decode cX1_init 28 = .ok (.aload_n 0, 1) := by decide +kernel
theorem dX1_init_29 : decode cX1_init 29 = .ok (.bipush 64, 2) := by decide +kernel
theorem dX1_init_31 : decode cX1_init 31 = .ok (.newarray .int, 2) := by decide +kernel
theorem dX1_init_33 : decode cX1_init 33 = .ok (.putfield 21, 3) := by decide +kernel
theorem dX1_init_36 : decode cX1_init 36 = .ok (.return_, 1) := by decide +kernel
theorem dX1_isFull_0 : decode cX1_isFull 0 = .ok (.aload_n 0, 1) := by decide +kernel
theorem dX1_isFull_1 : decode cX1_isFull 1 = .ok (.getfield 24, 3) := by decide +kernel
theorem dX1_isFull_4 : decode cX1_isFull 4 = .ok (.bipush 64, 2) := by decide +kernel
theorem dX1_isFull_6 : decode cX1_isFull 6 = .ok (.if_icmp .lt 7, 3) := by decide +kernel
theorem dX1_isFull_9 : decode cX1_isFull 9 = .ok (.iconst 1, 1) := by decide +kernel
theorem dX1_isFull_10 : decode cX1_isFull 10 = .ok (.goto 4, 3) := by decide +kernel
theorem dX1_isFull_13 : decode cX1_isFull 13 = .ok (.iconst 0, 1) := by decide +kernel
theorem dX1_isFull_14 : decode cX1_isFull 14 = .ok (.ireturn, 1) := by decide +kernel
theorem dX1_isOpen_0 : decode cX1_isOpen 0 = .ok (.aload_n 0, 1) := by decide +kernel
theorem dX1_isOpen_1 : decode cX1_isOpen 1 = .ok (.getfield 28, 3) := by decide +kernel
theorem dX1_isOpen_4 : decode cX1_isOpen 4 = .ok (.ireturn, 1) := by decide +kernel
theorem dX1_writeCount_0 : decode cX1_writeCount 0 = .ok (.aload_n 0, 1) := by decide +kernel
theorem dX1_writeCount_1 : decode cX1_writeCount 1 = .ok (.getfield 24, 3) := by decide +kernel
theorem dX1_writeCount_4 : decode cX1_writeCount 4 = .ok (.ireturn, 1) := by decide +kernel
theorem dX1_groupCount_0 : decode cX1_groupCount 0 = .ok (.aload_n 0, 1) := by decide +kernel
theorem dX1_groupCount_1 : decode cX1_groupCount 1 = .ok (.getfield 32, 3) := by decide +kernel
theorem dX1_groupCount_4 : decode cX1_groupCount 4 = .ok (.ireturn, 1) := by decide +kernel
theorem dX1_openWrites_0 : decode cX1_openWrites 0 = .ok (.aload_n 0, 1) := by decide +kernel
theorem dX1_openWrites_1 : decode cX1_openWrites 1 = .ok (.getfield 28, 3) := by decide +kernel
theorem dX1_openWrites_4 : decode cX1_openWrites 4 = .ok (.ifCond .eq 15, 3) := by decide +kernel
theorem dX1_openWrites_7 : decode cX1_openWrites 7 = .ok (.aload_n 0, 1) := by decide +kernel
theorem dX1_openWrites_8 : decode cX1_openWrites 8 = .ok (.getfield 24, 3) := by decide +kernel
theorem dX1_openWrites_11 : decode cX1_openWrites 11 = .ok (.aload_n 0, 1) := by decide +kernel
theorem dX1_openWrites_12 : decode cX1_openWrites 12 = .ok (.getfield 35, 3) := by decide +kernel
theorem dX1_openWrites_15 : decode cX1_openWrites 15 = .ok (.isub, 1) := by decide +kernel
theorem dX1_openWrites_16 : decode cX1_openWrites 16 = .ok (.goto 4, 3) := by decide +kernel
theorem dX1_openWrites_19 : decode cX1_openWrites 19 = .ok (.iconst 0, 1) := by decide +kernel
theorem dX1_openWrites_20 : decode cX1_openWrites 20 = .ok (.ireturn, 1) := by decide +kernel
set_option maxRecDepth 20000 in
theorem ggX1_note_X1_endGroupHere : GoodIn wsX1_note wsX1_endGroupHere := goodIn_r _ [10, 11, 12, 1, 13, 14, 15, 16, 17, 18, 19, 20] (by decide +kernel) (by decide +kernel)
set_option maxRecDepth 20000 in
theorem gX1_note_X1_endGroupHere : GoodIn wsX1_note (wsV RX1 38 RX1 yX1_endGroupHere wsX1_endGroupHere) := goodIn_app (goodIn_of _ (by decide +kernel)) ggX1_note_X1_endGroupHere
theorem dX1_note_0 : decode cX1_note 0 = .ok (.aload_n 0, 1) := by decide +kernel
theorem dX1_note_1 : decode cX1_note 1 = .ok (.getfield 24, 3) := by decide +kernel
theorem dX1_note_4 : decode cX1_note 4 = .ok (.ifCond .lt 12, 3) := by decide +kernel
theorem dX1_note_7 : decode cX1_note 7 = .ok (.aload_n 0, 1) := by decide +kernel
theorem dX1_note_8 : decode cX1_note 8 = .ok (.getfield 24, 3) := by decide +kernel
theorem dX1_note_11 : decode cX1_note 11 = .ok (.bipush 64, 2) := by decide +kernel
theorem dX1_note_13 : decode cX1_note 13 = .ok (.if_icmp .lt 4, 3) := by decide +kernel
theorem dX1_note_16 : decode cX1_note 16 = .ok (.return_, 1) := by decide +kernel
theorem dX1_note_17 : decode cX1_note 17 = .ok (.aload_n 0, 1) := by decide +kernel
theorem dX1_note_18 : decode cX1_note 18 = .ok (.getfield 9, 3) := by decide +kernel
theorem dX1_note_21 : decode cX1_note 21 = .ok (.aload_n 0, 1) := by decide +kernel
theorem dX1_note_22 : decode cX1_note 22 = .ok (.getfield 24, 3) := by decide +kernel
theorem dX1_note_25 : decode cX1_note 25 = .ok (.iload_n 1, 1) := by decide +kernel
theorem dX1_note_26 : decode cX1_note 26 = .ok (.iastore, 1) := by decide +kernel
theorem dX1_note_27 : decode cX1_note 27 = .ok (.aload_n 0, 1) := by decide +kernel
theorem dX1_note_28 : decode cX1_note 28 = .ok (.getfield 15, 3) := by decide +kernel
theorem dX1_note_31 : decode cX1_note 31 = .ok (.aload_n 0, 1) := by decide +kernel
theorem dX1_note_32 : decode cX1_note 32 = .ok (.getfield 24, 3) := by decide +kernel
theorem dX1_note_35 : decode cX1_note 35 = .ok (.iload_n 2, 1) := by decide +kernel
theorem dX1_note_36 : decode cX1_note 36 = .ok (.iastore, 1) := by decide +kernel
theorem dX1_note_37 : decode cX1_note 37 = .ok (.aload_n 0, 1) := by decide +kernel
theorem dX1_note_38 : decode cX1_note 38 = .ok (.getfield 18, 3) := by decide +kernel
theorem dX1_note_41 : decode cX1_note 41 = .ok (.aload_n 0, 1) := by decide +kernel
theorem dX1_note_42 : decode cX1_note 42 = .ok (.getfield 24, 3) := by decide +kernel
theorem dX1_note_45 : decode cX1_note 45 = .ok (.iload_n 3, 1) := by decide +kernel
theorem dX1_note_46 : decode cX1_note 46 = .ok (.iastore, 1) := by decide +kernel
theorem dX1_note_47 : decode cX1_note 47 = .ok (.aload_n 0, 1) := by decide +kernel
theorem dX1_note_48 : decode cX1_note 48 = .ok (.dup, 1) := by decide +kernel
theorem dX1_note_49 : decode cX1_note 49 = .ok (.getfield 24, 3) := by decide +kernel
theorem dX1_note_52 : decode cX1_note 52 = .ok (.iconst 1, 1) := by decide +kernel
theorem dX1_note_53 : decode cX1_note 53 = .ok (.iadd, 1) := by decide +kernel
theorem dX1_note_54 : decode cX1_note 54 = .ok (.putfield 24, 3) := by decide +kernel
theorem dX1_note_57 : decode cX1_note 57 = .ok (.aload_n 0, 1) := by decide +kernel
theorem dX1_note_58 : decode cX1_note 58 = .ok (.getfield 28, 3) := by decide +kernel
theorem dX1_note_61 : decode cX1_note 61 = .ok (.ifCond .ne 7, 3) := by decide +kernel
theorem dX1_note_64 : decode cX1_note 64 = .ok (.aload_n 0, 1) := by decide +kernel
theorem dX1_note_65 : decode cX1_note 65 = .ok (.invokevirtual 38, 3) := by decide +kernel
theorem dX1_note_68 : decode cX1_note 68 = .ok (.return_, 1) := by decide +kernel
theorem dX1_openGroup_0 : decode cX1_openGroup 0 = .ok (.aload_n 0, 1) := by decide +kernel
theorem dX1_openGroup_1 : decode cX1_openGroup 1 = .ok (.iconst 1, 1) := by decide +kernel
theorem dX1_openGroup_2 : decode cX1_openGroup 2 = .ok (.putfield 28, 3) := by decide +kernel
theorem dX1_openGroup_5 : decode cX1_openGroup 5 = .ok (.aload_n 0, 1) := by decide +kernel
theorem dX1_openGroup_6 : decode cX1_openGroup 6 = .ok (.aload_n 0, 1) := by decide +kernel
theorem dX1_openGroup_7 : decode cX1_openGroup 7 = .ok (.getfield 24, 3) := by decide +kernel
theorem dX1_openGroup_10 : decode cX1_openGroup 10 = .ok (.putfield 35, 3) := by decide +kernel
theorem dX1_openGroup_13 : decode cX1_openGroup 13 = .ok (.return_, 1) := by decide +kernel
set_option maxRecDepth 20000 in
theorem ggX1_closeGroup_X1_openWrites : GoodIn wsX1_closeGroup wsX1_openWrites := goodIn_r _ [6, 1, 7, 8, 15, 16, 17, 18, 19, 20, 21, 22] (by decide +kernel) (by decide +kernel)
set_option maxRecDepth 20000 in
theorem gX1_closeGroup_X1_openWrites : GoodIn wsX1_closeGroup (wsV RX1 41 RX1 yX1_openWrites wsX1_openWrites) := goodIn_app (goodIn_of _ (by decide +kernel)) ggX1_closeGroup_X1_openWrites
set_option maxRecDepth 20000 in
theorem ggX1_closeGroup_X1_endGroupHere : GoodIn wsX1_closeGroup wsX1_endGroupHere := goodIn_r _ [12, 13, 14, 7, 15, 16, 17, 18, 19, 20, 21, 22] (by decide +kernel) (by decide +kernel)
set_option maxRecDepth 20000 in
theorem gX1_closeGroup_X1_endGroupHere : GoodIn wsX1_closeGroup (wsV RX1 38 RX1 yX1_endGroupHere wsX1_endGroupHere) := goodIn_app (goodIn_of _ (by decide +kernel)) ggX1_closeGroup_X1_endGroupHere
theorem dX1_closeGroup_0 : decode cX1_closeGroup 0 = .ok (.aload_n 0, 1) := by decide +kernel
theorem dX1_closeGroup_1 : decode cX1_closeGroup 1 = .ok (.invokevirtual 41, 3) := by decide +kernel
theorem dX1_closeGroup_4 : decode cX1_closeGroup 4 = .ok (.ifCond .le 7, 3) := by decide +kernel
theorem dX1_closeGroup_7 : decode cX1_closeGroup 7 = .ok (.aload_n 0, 1) := by decide +kernel
theorem dX1_closeGroup_8 : decode cX1_closeGroup 8 = .ok (.invokevirtual 38, 3) := by decide +kernel
theorem dX1_closeGroup_11 : decode cX1_closeGroup 11 = .ok (.aload_n 0, 1) := by decide +kernel
theorem dX1_closeGroup_12 : decode cX1_closeGroup 12 = .ok (.iconst 0, 1) := by decide +kernel
theorem dX1_closeGroup_13 : decode cX1_closeGroup 13 = .ok (.putfield 28, 3) := by decide +kernel
theorem dX1_closeGroup_16 : decode cX1_closeGroup 16 = .ok (.return_, 1) := by decide +kernel
theorem dX1_dropOpenGroup_0 : decode cX1_dropOpenGroup 0 = .ok (.aload_n 0, 1) := by decide +kernel
theorem dX1_dropOpenGroup_1 : decode cX1_dropOpenGroup 1 = .ok (.getfield 28, 3) := by decide +kernel
theorem dX1_dropOpenGroup_4 : decode cX1_dropOpenGroup 4 = .ok (.ifCond .eq 16, 3) := by decide +kernel
theorem dX1_dropOpenGroup_7 : decode cX1_dropOpenGroup 7 = .ok (.aload_n 0, 1) := by decide +kernel
theorem dX1_dropOpenGroup_8 : decode cX1_dropOpenGroup 8 = .ok (.aload_n 0, 1) := by decide +kernel
theorem dX1_dropOpenGroup_9 : decode cX1_dropOpenGroup 9 = .ok (.getfield 35, 3) := by decide +kernel
theorem dX1_dropOpenGroup_12 : decode cX1_dropOpenGroup 12 = .ok (.putfield 24, 3) := by decide +kernel
theorem dX1_dropOpenGroup_15 : decode cX1_dropOpenGroup 15 = .ok (.aload_n 0, 1) := by decide +kernel
theorem dX1_dropOpenGroup_16 : decode cX1_dropOpenGroup 16 = .ok (.iconst 0, 1) := by decide +kernel
theorem dX1_dropOpenGroup_17 : decode cX1_dropOpenGroup 17 = .ok (.putfield 28, 3) := by decide +kernel
theorem dX1_dropOpenGroup_20 : decode cX1_dropOpenGroup 20 = .ok (.return_, 1) := by decide +kernel
theorem dX1_clear_0 : decode cX1_clear 0 = .ok (.aload_n 0, 1) := by decide +kernel
theorem dX1_clear_1 : decode cX1_clear 1 = .ok (.iconst 0, 1) := by decide +kernel
theorem dX1_clear_2 : decode cX1_clear 2 = .ok (.putfield 24, 3) := by decide +kernel
theorem dX1_clear_5 : decode cX1_clear 5 = .ok (.aload_n 0, 1) := by decide +kernel
theorem dX1_clear_6 : decode cX1_clear 6 = .ok (.iconst 0, 1) := by decide +kernel
theorem dX1_clear_7 : decode cX1_clear 7 = .ok (.putfield 32, 3) := by decide +kernel
theorem dX1_clear_10 : decode cX1_clear 10 = .ok (.aload_n 0, 1) := by decide +kernel
theorem dX1_clear_11 : decode cX1_clear 11 = .ok (.iconst 0, 1) := by decide +kernel
theorem dX1_clear_12 : decode cX1_clear 12 = .ok (.putfield 28, 3) := by decide +kernel
theorem dX1_clear_15 : decode cX1_clear 15 = .ok (.return_, 1) := by decide +kernel
theorem dX1_writesInFirstGroups_0 : decode cX1_writesInFirstGroups 0 = .ok (.iload_n 1, 1) := by decide +kernel
theorem dX1_writesInFirstGroups_1 : decode cX1_writesInFirstGroups 1 = .ok (.aload_n 0, 1) := by decide +kernel
theorem dX1_writesInFirstGroups_2 : decode cX1_writesInFirstGroups 2 = .ok (.getfield 32, 3) := by decide +kernel
theorem dX1_writesInFirstGroups_5 : decode cX1_writesInFirstGroups 5 = .ok (.invokestatic 45, 3) := by decide +kernel
theorem dX1_writesInFirstGroups_8 : decode cX1_writesInFirstGroups 8 = .ok (.istore_n 2, 1) := by decide +kernel
theorem dX1_writesInFirstGroups_9 : decode cX1_writesInFirstGroups 9 = .ok (.iload_n 2, 1) := by decide +kernel
theorem dX1_writesInFirstGroups_10 : decode cX1_writesInFirstGroups 10 = .ok (.ifCond .le 20, 3) := by decide +kernel
theorem dX1_writesInFirstGroups_13 : decode cX1_writesInFirstGroups 13 = .ok (.iload_n 2, 1) := by decide +kernel
theorem dX1_writesInFirstGroups_14 : decode cX1_writesInFirstGroups 14 = .ok (.bipush 64, 2) := by decide +kernel
theorem dX1_writesInFirstGroups_16 : decode cX1_writesInFirstGroups 16 = .ok (.if_icmp .gt 14, 3) := by decide +kernel
theorem dX1_writesInFirstGroups_19 : decode cX1_writesInFirstGroups 19 = .ok (.aload_n 0, 1) := by decide +kernel
theorem dX1_writesInFirstGroups_20 : decode cX1_writesInFirstGroups 20 = .ok (.getfield 21, 3) := by decide +kernel
theorem dX1_writesInFirstGroups_23 : decode cX1_writesInFirstGroups 23 = .ok (.iload_n 2, 1) := by decide +kernel
theorem dX1_writesInFirstGroups_24 : decode cX1_writesInFirstGroups 24 = .ok (.iconst 1, 1) := by decide +kernel
theorem dX1_writesInFirstGroups_25 : decode cX1_writesInFirstGroups 25 = .ok (.isub, 1) := by decide +kernel
theorem dX1_writesInFirstGroups_26 : decode cX1_writesInFirstGroups 26 = .ok (.iaload, 1) := by decide +kernel
theorem dX1_writesInFirstGroups_27 : decode cX1_writesInFirstGroups 27 = .ok (.goto 4, 3) := by decide +kernel
theorem dX1_writesInFirstGroups_30 : decode cX1_writesInFirstGroups 30 = .ok (.iconst 0, 1) := by decide +kernel
theorem dX1_writesInFirstGroups_31 : decode cX1_writesInFirstGroups 31 = .ok (.ireturn, 1) := by decide +kernel
set_option maxRecDepth 20000 in
theorem ggX1_kindOf_X1_isWrite : GoodIn wsX1_kindOf wsX1_isWrite := goodIn_r _ [7, 8, 9, 10, 11, 12, 13, 14, 15, 16] (by decide +kernel) (by decide +kernel)
set_option maxRecDepth 20000 in
theorem gX1_kindOf_X1_isWrite : GoodIn wsX1_kindOf (wsV RX1 51 RX1 yX1_isWrite wsX1_isWrite) := goodIn_app (goodIn_of _ (by decide +kernel)) ggX1_kindOf_X1_isWrite
theorem dX1_kindOf_0 : decode cX1_kindOf 0 = .ok (.aload_n 0, 1) := by decide +kernel
theorem dX1_kindOf_1 : decode cX1_kindOf 1 = .ok (.iload_n 1, 1) := by decide +kernel
theorem dX1_kindOf_2 : decode cX1_kindOf 2 = .ok (.invokevirtual 51, 3) := by decide +kernel
theorem dX1_kindOf_5 : decode cX1_kindOf 5 = .ok (.ifCond .eq 12, 3) := by decide +kernel
theorem dX1_kindOf_8 : decode cX1_kindOf 8 = .ok (.aload_n 0, 1) := by decide +kernel
theorem dX1_kindOf_9 : decode cX1_kindOf 9 = .ok (.getfield 9, 3) := by decide +kernel
theorem dX1_kindOf_12 : decode cX1_kindOf 12 = .ok (.iload_n 1, 1) := by decide +kernel
theorem dX1_kindOf_13 : decode cX1_kindOf 13 = .ok (.iaload, 1) := by decide +kernel
theorem dX1_kindOf_14 : decode cX1_kindOf 14 = .ok (.goto 5, 3) := by decide +kernel
theorem dX1_kindOf_17 : decode cX1_kindOf 17 = .ok (.ldc 55, 2) := by decide +kernel
theorem dX1_kindOf_19 : decode cX1_kindOf 19 = .ok (.ireturn, 1) := by decide +kernel
set_option maxRecDepth 20000 in
theorem ggX1_keyOf_X1_isWrite : GoodIn wsX1_keyOf wsX1_isWrite := goodIn_r _ [7, 8, 9, 10, 11, 12, 13, 14, 15, 16] (by decide +kernel) (by decide +kernel)
set_option maxRecDepth 20000 in
theorem gX1_keyOf_X1_isWrite : GoodIn wsX1_keyOf (wsV RX1 51 RX1 yX1_isWrite wsX1_isWrite) := goodIn_app (goodIn_of _ (by decide +kernel)) ggX1_keyOf_X1_isWrite
theorem dX1_keyOf_0 : decode cX1_keyOf 0 = .ok (.aload_n 0, 1) := by decide +kernel
theorem dX1_keyOf_1 : decode cX1_keyOf 1 = .ok (.iload_n 1, 1) := by decide +kernel
theorem dX1_keyOf_2 : decode cX1_keyOf 2 = .ok (.invokevirtual 51, 3) := by decide +kernel
theorem dX1_keyOf_5 : decode cX1_keyOf 5 = .ok (.ifCond .eq 12, 3) := by decide +kernel
theorem dX1_keyOf_8 : decode cX1_keyOf 8 = .ok (.aload_n 0, 1) := by decide +kernel
theorem dX1_keyOf_9 : decode cX1_keyOf 9 = .ok (.getfield 15, 3) := by decide +kernel
theorem dX1_keyOf_12 : decode cX1_keyOf 12 = .ok (.iload_n 1, 1) := by decide +kernel
theorem dX1_keyOf_13 : decode cX1_keyOf 13 = .ok (.iaload, 1) := by decide +kernel
theorem dX1_keyOf_14 : decode cX1_keyOf 14 = .ok (.goto 5, 3) := by decide +kernel
theorem dX1_keyOf_17 : decode cX1_keyOf 17 = .ok (.ldc 55, 2) := by decide +kernel
theorem dX1_keyOf_19 : decode cX1_keyOf 19 = .ok (.ireturn, 1) := by decide +kernel
set_option maxRecDepth 20000 in
theorem ggX1_valueOf_X1_isWrite : GoodIn wsX1_valueOf wsX1_isWrite := goodIn_r _ [7, 8, 9, 10, 11, 12, 13, 14, 15, 16] (by decide +kernel) (by decide +kernel)
set_option maxRecDepth 20000 in
theorem gX1_valueOf_X1_isWrite : GoodIn wsX1_valueOf (wsV RX1 51 RX1 yX1_isWrite wsX1_isWrite) := goodIn_app (goodIn_of _ (by decide +kernel)) ggX1_valueOf_X1_isWrite
theorem dX1_valueOf_0 : decode cX1_valueOf 0 = .ok (.aload_n 0, 1) := by decide +kernel
theorem dX1_valueOf_1 : decode cX1_valueOf 1 = .ok (.iload_n 1, 1) := by decide +kernel
theorem dX1_valueOf_2 : decode cX1_valueOf 2 = .ok (.invokevirtual 51, 3) := by decide +kernel
theorem dX1_valueOf_5 : decode cX1_valueOf 5 = .ok (.ifCond .eq 12, 3) := by decide +kernel
theorem dX1_valueOf_8 : decode cX1_valueOf 8 = .ok (.aload_n 0, 1) := by decide +kernel
theorem dX1_valueOf_9 : decode cX1_valueOf 9 = .ok (.getfield 18, 3) := by decide +kernel
theorem dX1_valueOf_12 : decode cX1_valueOf 12 = .ok (.iload_n 1, 1) := by decide +kernel
theorem dX1_valueOf_13 : decode cX1_valueOf 13 = .ok (.iaload, 1) := by decide +kernel
theorem dX1_valueOf_14 : decode cX1_valueOf 14 = .ok (.goto 5, 3) := by decide +kernel
theorem dX1_valueOf_17 : decode cX1_valueOf 17 = .ok (.ldc 55, 2) := by decide +kernel
theorem dX1_valueOf_19 : decode cX1_valueOf 19 = .ok (.ireturn, 1) := by decide +kernel
theorem dX1_isWrite_0 : decode cX1_isWrite 0 = .ok (.iload_n 1, 1) := by decide +kernel
theorem dX1_isWrite_1 : decode cX1_isWrite 1 = .ok (.ifCond .lt 21, 3) := by decide +kernel
theorem dX1_isWrite_4 : decode cX1_isWrite 4 = .ok (.iload_n 1, 1) := by decide +kernel
theorem dX1_isWrite_5 : decode cX1_isWrite 5 = .ok (.aload_n 0, 1) := by decide +kernel
theorem dX1_isWrite_6 : decode cX1_isWrite 6 = .ok (.getfield 24, 3) := by decide +kernel
theorem dX1_isWrite_9 : decode cX1_isWrite 9 = .ok (.if_icmp .ge 13, 3) := by decide +kernel
theorem dX1_isWrite_12 : decode cX1_isWrite 12 = .ok (.iload_n 1, 1) := by decide +kernel
theorem dX1_isWrite_13 : decode cX1_isWrite 13 = .ok (.bipush 64, 2) := by decide +kernel
theorem dX1_isWrite_15 : decode cX1_isWrite 15 = .ok (.if_icmp .ge 7, 3) := by decide +kernel
theorem dX1_isWrite_18 : decode cX1_isWrite 18 = .ok (.iconst 1, 1) := by decide +kernel
theorem dX1_isWrite_19 : decode cX1_isWrite 19 = .ok (.goto 4, 3) := by decide +kernel
theorem dX1_isWrite_22 : decode cX1_isWrite 22 = .ok (.iconst 0, 1) := by decide +kernel
theorem dX1_isWrite_23 : decode cX1_isWrite 23 = .ok (.ireturn, 1) := by decide +kernel
theorem dX1_endGroupHere_0 : decode cX1_endGroupHere 0 = .ok (.aload_n 0, 1) := by decide +kernel
theorem dX1_endGroupHere_1 : decode cX1_endGroupHere 1 = .ok (.getfield 32, 3) := by decide +kernel
theorem dX1_endGroupHere_4 : decode cX1_endGroupHere 4 = .ok (.ifCond .lt 35, 3) := by decide +kernel
theorem dX1_endGroupHere_7 : decode cX1_endGroupHere 7 = .ok (.aload_n 0, 1) := by decide +kernel
theorem dX1_endGroupHere_8 : decode cX1_endGroupHere 8 = .ok (.getfield 32, 3) := by decide +kernel
theorem dX1_endGroupHere_11 : decode cX1_endGroupHere 11 = .ok (.bipush 64, 2) := by decide +kernel
theorem dX1_endGroupHere_13 : decode cX1_endGroupHere 13 = .ok (.if_icmp .ge 26, 3) := by decide +kernel
theorem dX1_endGroupHere_16 : decode cX1_endGroupHere 16 = .ok (.aload_n 0, 1) := by decide +kernel
theorem dX1_endGroupHere_17 : decode cX1_endGroupHere 17 = .ok (.getfield 21, 3) := by decide +kernel
theorem dX1_endGroupHere_20 : decode cX1_endGroupHere 20 = .ok (.aload_n 0, 1) := by decide +kernel
theorem dX1_endGroupHere_21 : decode cX1_endGroupHere 21 = .ok (.getfield 32, 3) := by decide +kernel
theorem dX1_endGroupHere_24 : decode cX1_endGroupHere 24 = .ok (.aload_n 0, 1) := by decide +kernel
theorem dX1_endGroupHere_25 : decode cX1_endGroupHere 25 = .ok (.getfield 24, 3) := by decide +kernel
theorem dX1_endGroupHere_28 : decode cX1_endGroupHere 28 = .ok (.iastore, 1) := by decide +kernel
theorem dX1_endGroupHere_29 : decode cX1_endGroupHere 29 = .ok (.aload_n 0, 1) := by decide +kernel
theorem dX1_endGroupHere_30 : decode cX1_endGroupHere 30 = .ok (.dup, 1) := by decide +kernel
theorem dX1_endGroupHere_31 : decode cX1_endGroupHere 31 = .ok (.getfield 32, 3) := by decide +kernel
theorem dX1_endGroupHere_34 : decode cX1_endGroupHere 34 = .ok (.iconst 1, 1) := by decide +kernel
theorem dX1_endGroupHere_35 : decode cX1_endGroupHere 35 = .ok (.iadd, 1) := by decide +kernel
theorem dX1_endGroupHere_36 : decode cX1_endGroupHere 36 = .ok (.putfield 32, 3) := by decide +kernel
theorem dX1_endGroupHere_39 : decode cX1_endGroupHere 39 = .ok (.return_, 1) := by decide +kernel
set_option maxRecDepth 20000 in
theorem ggX2_init_J7_fill_53178 : GoodIn wsX2_init wsJ7_fill_53178 := goodIn_r _ [17] (by decide +kernel) (by decide +kernel)
set_option maxRecDepth 20000 in
theorem gX2_init_J7_fill_53178 : GoodIn wsX2_init (va_wsS RX2 38 yJ7_fill_53178 wsJ7_fill_53178) := goodIn_app (goodIn_of _ (by decide +kernel)) ggX2_init_J7_fill_53178
theorem dX2_init_0 : decode cX2_init 0 = .ok (.aload_n 0, 1) := by decide +kernel
theorem dX2_init_1 : decode cX2_init 1 = .ok (.invokespecial 3, 3) := by decide +kernel
theorem dX2_init_4 : decode cX2_init 4 = .ok (.aload_n 0, 1) := by decide +kernel
theorem dX2_init_5 : decode cX2_init 5 = .ok (.sipush 512, 3) := by decide +kernel
theorem dX2_init_8 : decode cX2_init 8 = .ok (.newarray .int, 2) := by decide +kernel
theorem dX2_init_10 : decode cX2_init 10 = .ok (.putfield 9, 3) := by decide +kernel
theorem dX2_init_13 : decode cX2_init 13 = .ok (.aload_n 0, 1) := by decide +kernel
theorem dX2_init_14 : decode cX2_init 14 = .ok (.sipush 512, 3) := by decide +kernel
theorem dX2_init_17 : decode cX2_init 17 = .ok (.newarray .int, 2) := by decide +kernel
theorem dX2_init_19 : decode cX2_init 19 = .ok (.putfield 15, 3) := by decide +kernel
theorem dX2_init_22 : decode cX2_init 22 = .ok (.aload_n 0, 1) := by decide +kernel
theorem dX2_init_23 : decode cX2_init 23 = .ok (.sipush 128, 3) := by decide +kernel
theorem dX2_init_26 : decode cX2_init 26 = .ok (.newarray .int, 2) := by decide +kernel
theorem dX2_init_28 : decode cX2_init 28 = .ok (.putfield 18, 3) := by decide +kernel
theorem dX2_init_31 : decode cX2_init 31 = .ok (.aload_n 0, 1) := by decide +kernel
theorem dX2_init_32 : decode cX2_init 32 = .ok (.sipush 128, 3) := by decide +kernel
theorem dX2_init_35 : decode cX2_init 35 = .ok (.newarray .int, 2) := by decide +kernel
theorem dX2_init_37 : decode cX2_init 37 = .ok (.putfield 21, 3) := by decide +kernel
theorem dX2_init_40 : decode cX2_init 40 = .ok (.aload_n 0, 1) := by decide +kernel
theorem dX2_init_41 : decode cX2_init 41 = .ok (.sipush 128, 3) := by decide +kernel
theorem dX2_init_44 : decode cX2_init 44 = .ok (.newarray .int, 2) := by decide +kernel
theorem dX2_init_46 : decode cX2_init 46 = .ok (.putfield 24, 3) := by decide +kernel
theorem dX2_init_49 : decode cX2_init 49 = .ok (.aload_n 0, 1) := by decide +kernel
theorem dX2_init_50 : decode cX2_init 50 = .ok (.sipush 128, 3) := by decide +kernel
theorem dX2_init_53 : decode cX2_init 53 = .ok (.newarray .int, 2) := by decide +kernel
theorem dX2_init_55 : decode cX2_init 55 = .ok (.putfield 27, 3) := by decide +kernel
theorem dX2_init_58 : decode cX2_init 58 = .ok (.aload_n 0, 1) := by decide +kernel
theorem dX2_init_59 : decode cX2_init 59 = .ok (.bipush 64, 2) := by decide +kernel
theorem dX2_init_61 : decode cX2_init 61 = .ok (.newarray .int, 2) := by decide +kernel
theorem dX2_init_63 : decode cX2_init 63 = .ok (.putfield 30, 3) := by decide +kernel
theorem dX2_init_66 : decode cX2_init 66 = .ok (.aload_n 0, 1) := by decide +kernel
theorem dX2_init_67 : decode cX2_init 67 = .ok (.aload_n 1, 1) := by decide +kernel
theorem dX2_init_68 : decode cX2_init 68 = .ok (.putfield 33, 3) := by decide +kernel
theorem dX2_init_71 : decode cX2_init 71 = .ok (.aload_n 0, 1) := by decide +kernel
theorem dX2_init_72 : decode cX2_init 72 = .ok (.getfield 21, 3) := by decide +kernel
theorem dX2_init_75 : decode cX2_init 75 = .ok (.ldc 37, 2) := by decide +kernel
theorem dX2_init_77 : decode cX2_init 77 = .ok (.invokestatic 38, 3) := by decide +kernel
theorem dX2_init_80 : decode cX2_init 80 = .ok (.aload_n 0, 1) := by decide +kernel
theorem dX2_init_81 : decode cX2_init 81 = .ok (.getfield 24, 3) := by decide +kernel
theorem dX2_init_84 : decode cX2_init 84 = .ok (.ldc 37, 2) := by decide +kernel
theorem dX2_init_86 : decode cX2_init 86 = .ok (.invokestatic 38, 3) := by decide +kernel
theorem dX2_init_89 : decode cX2_init 89 = .ok (.aload_n 0, 1) := by decide +kernel
theorem dX2_init_90 : decode cX2_init 90 = .ok (.getfield 27, 3) := by decide +kernel
theorem dX2_init_93 : decode cX2_init 93 = .ok (.ldc 37, 2) := by decide +kernel
theorem dX2_init_95 : decode cX2_init 95 = .ok (.invokestatic 38, 3) := by decide +kernel
theorem dX2_init_98 : decode cX2_init 98 = .ok (.iconst 0, 1) := by decide +kernel
theorem dX2_init_99 : decode cX2_init 99 = .ok (.istore_n 2, 1) := by decide +kernel
theorem dX2_init_100 : decode cX2_init 100 = .ok (.iload_n 2, 1) := by decide +kernel
theorem dX2_init_101 : decode cX2_init 101 = .ok (.bipush 64, 2) := by decide +kernel
theorem dX2_init_103 : decode cX2_init 103 = .ok (.if_icmp .ge 16, 3) := by decide +kernel
theorem dX2_init_106 : decode cX2_init 106 = .ok (.aload_n 0, 1) := by decide +kernel
theorem dX2_init_107 : decode cX2_init 107 = .ok (.getfield 30, 3) := by decide +kernel
theorem dX2_init_110 : decode cX2_init 110 = .ok (.iload_n 2, 1) := by decide +kernel
theorem dX2_init_111 : decode cX2_init 111 = .ok (.iload_n 2, 1) := by decide +kernel
theorem dX2_init_112 : decode cX2_init 112 = .ok (.iastore, 1) := by decide +kernel
theorem dX2_init_113 : decode cX2_init 113 = .ok (.iinc 2 1, 3) := by decide +kernel
theorem dX2_init_116 : decode cX2_init 116 = .ok (.goto (-16), 3) := by decide +kernel
theorem dX2_init_119 : decode cX2_init 119 = .ok (.return_, 1) := by decide +kernel
theorem dX2_copyFrom_0 : decode cX2_copyFrom 0 = .ok (.aload_n 1, 1) := by decide +kernel
theorem dX2_copyFrom_1 : decode cX2_copyFrom 1 = .ok (.getfield 9, 3) := by decide +kernel
theorem dX2_copyFrom_4 : decode cX2_copyFrom 4 = .ok (.iconst 0, 1) := by decide +kernel
theorem dX2_copyFrom_5 : decode cX2_copyFrom 5 = .ok (.aload_n 0, 1) := by decide +kernel
theorem dX2_copyFrom_6 : decode cX2_copyFrom 6 = .ok (.getfield 9, 3) := by decide +kernel
theorem dX2_copyFrom_9 : decode cX2_copyFrom 9 = .ok (.iconst 0, 1) := by decide +kernel
theorem dX2_copyFrom_10 : decode cX2_copyFrom 10 = .ok (.aload_n 0, 1) := by decide +kernel
theorem dX2_copyFrom_11 : decode cX2_copyFrom 11 = .ok (.getfield 9, 3) := by decide +kernel
theorem dX2_copyFrom_14 : decode cX2_copyFrom 14 = .ok (.arraylength, 1) := by decide +kernel
theorem dX2_copyFrom_15 : decode cX2_copyFrom 15 = .ok (.invokestatic 44, 3) := by decide +kernel
theorem dX2_copyFrom_18 : decode cX2_copyFrom 18 = .ok (.aload_n 1, 1) := by decide +kernel
theorem dX2_copyFrom_19 : decode cX2_copyFrom 19 = .ok (.getfield 15, 3) := by decide +kernel
theorem dX2_copyFrom_22 : decode cX2_copyFrom 22 = .ok (.iconst 0, 1) := by decide +kernel
theorem dX2_copyFrom_23 : decode cX2_copyFrom 23 = .ok (.aload_n 0, 1) := by decide +kernel
theorem dX2_copyFrom_24 : decode cX2_copyFrom 24 = .ok (.getfield 15, 3) := by decide +kernel
theorem dX2_copyFrom_27 : decode cX2_copyFrom 27 = .ok (.iconst 0, 1) := by decide +kernel
theorem dX2_copyFrom_28 : decode cX2_copyFrom 28 = .ok (.aload_n 0, 1) := by decide +kernel
theorem dX2_copyFrom_29 : decode cX2_copyFrom 29 = .ok (.getfield 15, 3) := by decide +kernel
theorem dX2_copyFrom_32 : decode cX2_copyFrom 32 = .ok (.arraylength, 1) := by decide +kernel
theorem dX2_copyFrom_33 : decode cX2_copyFrom 33 = .ok (.invokestatic 44, 3) := by decide +kernel
theorem dX2_copyFrom_36 : decode cX2_copyFrom 36 = .ok (.aload_n 1, 1) := by decide +kernel
theorem dX2_copyFrom_37 : decode cX2_copyFrom 37 = .ok (.getfield 18, 3) := by decide +kernel
theorem dX2_copyFrom_40 : decode cX2_copyFrom 40 = .ok (.iconst 0, 1) := by decide +kernel
theorem dX2_copyFrom_41 : decode cX2_copyFrom 41 = .ok (.aload_n 0, 1) := by decide +kernel
theorem dX2_copyFrom_42 : decode cX2_copyFrom 42 = .ok (.getfield 18, 3) := by decide +kernel
theorem dX2_copyFrom_45 : decode cX2_copyFrom 45 = .ok (.iconst 0, 1) := by decide +kernel
theorem dX2_copyFrom_46 : decode cX2_copyFrom 46 = .ok (.aload_n 0, 1) := by decide +kernel
theorem dX2_copyFrom_47 : decode cX2_copyFrom 47 = .ok (.getfield 18, 3) := by decide +kernel
theorem dX2_copyFrom_50 : decode cX2_copyFrom 50 = .ok (.arraylength, 1) := by decide +kernel
theorem dX2_copyFrom_51 : decode cX2_copyFrom 51 = .ok (.invokestatic 44, 3) := by decide +kernel
theorem dX2_copyFrom_54 : decode cX2_copyFrom 54 = .ok (.aload_n 1, 1) := by decide +kernel
theorem dX2_copyFrom_55 : decode cX2_copyFrom 55 = .ok (.getfield 21, 3) := by decide +kernel
theorem dX2_copyFrom_58 : decode cX2_copyFrom 58 = .ok (.iconst 0, 1) := by decide +kernel
theorem dX2_copyFrom_59 : decode cX2_copyFrom 59 = .ok (.aload_n 0, 1) := by decide +kernel
theorem dX2_copyFrom_60 : decode cX2_copyFrom 60 = .ok (.getfield 21, 3) := by decide +kernel
theorem dX2_copyFrom_63 : decode cX2_copyFrom 63 = .ok (.iconst 0, 1) := by decide +kernel
theorem dX2_copyFrom_64 : decode cX2_copyFrom 64 = .ok (.aload_n 0, 1) := by decide +kernel
theorem dX2_copyFrom_65 : decode cX2_copyFrom 65 = .ok (.getfield 21, 3) := by decide +kernel
theorem dX2_copyFrom_68 : decode cX2_copyFrom 68 = .ok (.arraylength, 1) := by decide +kernel
theorem dX2_copyFrom_69 : decode cX2_copyFrom 69 = .ok (.invokestatic 44, 3) := by decide +kernel
theorem dX2_copyFrom_72 : decode cX2_copyFrom 72 = .ok (.aload_n 1, 1) := by decide +kernel
theorem dX2_copyFrom_73 : decode cX2_copyFrom 73 = .ok (.getfield 24, 3) := by decide +kernel
theorem dX2_copyFrom_76 : decode cX2_copyFrom 76 = .ok (.iconst 0, 1) := by decide +kernel
theorem dX2_copyFrom_77 : decode cX2_copyFrom 77 = .ok (.aload_n 0, 1) := by decide +kernel
theorem dX2_copyFrom_78 : decode cX2_copyFrom 78 = .ok (.getfield 24, 3) := by decide +kernel
theorem dX2_copyFrom_81 : decode cX2_copyFrom 81 = .ok (.iconst 0, 1) := by decide +kernel
theorem dX2_copyFrom_82 : decode cX2_copyFrom 82 = .ok (.aload_n 0, 1) := by decide +kernel
theorem dX2_copyFrom_83 : decode cX2_copyFrom 83 = .ok (.getfield 24, 3) := by decide +kernel
theorem dX2_copyFrom_86 : decode cX2_copyFrom 86 = .ok (.arraylength, 1) := by decide +kernel
theorem dX2_copyFrom_87 : decode cX2_copyFrom 87 = .ok (.invokestatic 44, 3) := by decide +kernel
theorem dX2_copyFrom_90 : decode cX2_copyFrom 90 = .ok (.aload_n 1, 1) := by decide +kernel
theorem dX2_copyFrom_91 : decode cX2_copyFrom 91 = .ok (.getfield 27, 3) := by decide +kernel
theorem dX2_copyFrom_94 : decode cX2_copyFrom 94 = .ok (.iconst 0, 1) := by decide +kernel
theorem dX2_copyFrom_95 : decode cX2_copyFrom 95 = .ok (.aload_n 0, 1) := by decide +kernel
theorem dX2_copyFrom_96 : decode cX2_copyFrom 96 = .ok (.getfield 27, 3) := by decide +kernel
theorem dX2_copyFrom_99 : decode cX2_copyFrom 99 = .ok (.iconst 0, 1) := by decide +kernel
theorem dX2_copyFrom_100 : decode cX2_copyFrom 100 = .ok (.aload_n 0, 1) := by decide +kernel
theorem dX2_copyFrom_101 : decode cX2_copyFrom 101 = .ok (.getfield 27, 3) := by decide +kernel
theorem dX2_copyFrom_104 : decode cX2_copyFrom 104 = .ok (.arraylength, 1) := by decide +kernel
theorem dX2_copyFrom_105 : decode cX2_copyFrom 105 = .ok (.invokestatic 44, 3) := by decide +kernel
theorem dX2_copyFrom_108 : decode cX2_copyFrom 108 = .ok (.aload_n 1, 1) := by decide +kernel
theorem dX2_copyFrom_109 : decode cX2_copyFrom 109 = .ok (.getfield 30, 3) := by decide +kernel
theorem dX2_copyFrom_112 : decode cX2_copyFrom 112 = .ok (.iconst 0, 1) := by decide +kernel
theorem dX2_copyFrom_113 : decode cX2_copyFrom 113 = .ok (.aload_n 0, 1) := by decide +kernel
theorem dX2_copyFrom_114 : decode cX2_copyFrom 114 = .ok (.getfield 30, 3) := by decide +kernel
theorem dX2_copyFrom_117 : decode cX2_copyFrom 117 = .ok (.iconst 0, 1) := by decide +kernel
theorem dX2_copyFrom_118 : decode cX2_copyFrom 118 = .ok (.aload_n 0, 1) := by decide +kernel
theorem dX2_copyFrom_119 : decode cX2_copyFrom 119 = .ok (.getfield 30, 3) := by decide +kernel
theorem dX2_copyFrom_122 : decode cX2_copyFrom 122 = .ok (.arraylength, 1) := by decide +kernel
theorem dX2_copyFrom_123 : decode cX2_copyFrom 123 = .ok (.invokestatic 44, 3) := by decide +kernel
theorem dX2_copyFrom_126 : decode cX2_copyFrom 126 = .ok (.aload_n 0, 1) := by decide +kernel
theorem dX2_copyFrom_127 : decode cX2_copyFrom 127 = .ok (.aload_n 1, 1) := by decide +kernel
theorem dX2_copyFrom_128 : decode cX2_copyFrom 128 = .ok (.getfield 50, 3) := by decide +kernel
theorem dX2_copyFrom_131 : decode cX2_copyFrom 131 = .ok (.putfield 50, 3) := by decide +kernel
theorem dX2_copyFrom_134 : decode cX2_copyFrom 134 = .ok (.aload_n 0, 1) := by decide +kernel
theorem dX2_copyFrom_135 : decode cX2_copyFrom 135 = .ok (.aload_n 1, 1) := by decide +kernel
theorem dX2_copyFrom_136 : decode cX2_copyFrom 136 = .ok (.getfield 54, 3) := by decide +kernel
theorem dX2_copyFrom_139 : decode cX2_copyFrom 139 = .ok (.putfield 54, 3) := by decide +kernel
theorem dX2_copyFrom_142 : decode cX2_copyFrom 142 = .ok (.aload_n 0, 1) := by decide +kernel
theorem dX2_copyFrom_143 : decode cX2_copyFrom 143 = .ok (.aload_n 1, 1) := by decide +kernel
theorem dX2_copyFrom_144 : decode cX2_copyFrom 144 = .ok (.getfield 57, 3) := by decide +kernel
theorem dX2_copyFrom_147 : decode cX2_copyFrom 147 = .ok (.putfield 57, 3) := by decide +kernel
theorem dX2_copyFrom_150 : decode cX2_copyFrom 150 = .ok (.return_, 1) := by decide +kernel
theorem dX2_entryCount_0 : decode cX2_entryCount 0 = .ok (.aload_n 0, 1) := by decide +kernel
theorem dX2_entryCount_1 : decode cX2_entryCount 1 = .ok (.getfield 57, 3) := by decide +kernel
theorem dX2_entryCount_4 : decode cX2_entryCount 4 = .ok (.ireturn, 1) := by decide +kernel
theorem dX2_levelNumber_0 : decode cX2_levelNumber 0 = .ok (.aload_n 0, 1) := by decide +kernel
theorem dX2_levelNumber_1 : decode cX2_levelNumber 1 = .ok (.getfield 50, 3) := by decide +kernel
theorem dX2_levelNumber_4 : decode cX2_levelNumber 4 = .ok (.ireturn, 1) := by decide +kernel
theorem dX2_splitNumber_0 : decode cX2_splitNumber 0 = .ok (.aload_n 0, 1) := by decide +kernel
theorem dX2_splitNumber_1 : decode cX2_splitNumber 1 = .ok (.getfield 54, 3) := by decide +kernel
theorem dX2_splitNumber_4 : decode cX2_splitNumber 4 = .ok (.ireturn, 1) := by decide +kernel
theorem dX2_bucketCount_0 : decode cX2_bucketCount 0 = .ok (.iconst 4, 1) := by decide +kernel
theorem dX2_bucketCount_1 : decode cX2_bucketCount 1 = .ok (.aload_n 0, 1) := by decide +kernel
theorem dX2_bucketCount_2 : decode cX2_bucketCount 2 = .ok (.getfield 50, 3) := by decide +kernel
theorem dX2_bucketCount_5 : decode cX2_bucketCount 5 = .ok (.ishl, 1) := by decide +kernel
theorem dX2_bucketCount_6 : decode cX2_bucketCount 6 = .ok (.aload_n 0, 1) := by decide +kernel
theorem dX2_bucketCount_7 : decode cX2_bucketCount 7 = .ok (.getfield 54, 3) := by decide +kernel
theorem dX2_bucketCount_10 : decode cX2_bucketCount 10 = .ok (.iadd, 1) := by decide +kernel
theorem dX2_bucketCount_11 : decode cX2_bucketCount 11 = .ok (.ireturn, 1) := by decide +kernel
theorem dX2_addressOf_0 : decode cX2_addressOf 0 = .ok (.iload_n 1, 1) := by decide +kernel
theorem dX2_addressOf_1 : decode cX2_addressOf 1 = .ok (.ldc 60, 2) := by decide +kernel
theorem dX2_addressOf_3 : decode cX2_addressOf 3 = .ok (.imul, 1) := by decide +kernel
theorem dX2_addressOf_4 : decode cX2_addressOf 4 = .ok (.istore_n 2, 1) := by decide +kernel
theorem dX2_addressOf_5 : decode cX2_addressOf 5 = .ok (.iload_n 2, 1) := by decide +kernel
theorem dX2_addressOf_6 : decode cX2_addressOf 6 = .ok (.iload_n 2, 1) := by decide +kernel
theorem dX2_addressOf_7 : decode cX2_addressOf 7 = .ok (.bipush 15, 2) := by decide +kernel
theorem dX2_addressOf_9 : decode cX2_addressOf 9 = .ok (.iushr, 1) := by decide +kernel
theorem dX2_addressOf_10 : decode cX2_addressOf 10 = .ok (.ixor, 1) := by decide +kernel
theorem dX2_addressOf_11 : decode cX2_addressOf 11 = .ok (.istore_n 2, 1) := by decide +kernel
theorem dX2_addressOf_12 : decode cX2_addressOf 12 = .ok (.iload_n 2, 1) := by decide +kernel
theorem dX2_addressOf_13 : decode cX2_addressOf 13 = .ok (.iconst 4, 1) := by decide +kernel
theorem dX2_addressOf_14 : decode cX2_addressOf 14 = .ok (.aload_n 0, 1) := by decide +kernel
theorem dX2_addressOf_15 : decode cX2_addressOf 15 = .ok (.getfield 50, 3) := by decide +kernel
theorem dX2_addressOf_18 : decode cX2_addressOf 18 = .ok (.ishl, 1) := by decide +kernel
theorem dX2_addressOf_19 : decode cX2_addressOf 19 = .ok (.iconst 1, 1) := by decide +kernel
theorem dX2_addressOf_20 : decode cX2_addressOf 20 = .ok (.isub, 1) := by decide +kernel
theorem dX2_addressOf_21 : decode cX2_addressOf 21 = .ok (.iand, 1) := by decide +kernel
theorem dX2_addressOf_22 : decode cX2_addressOf 22 = .ok (.istore_n 3, 1) := by decide +kernel
theorem dX2_addressOf_23 : decode cX2_addressOf 23 = .ok (.iload_n 3, 1) := by decide +kernel
theorem dX2_addressOf_24 : decode cX2_addressOf 24 = .ok (.aload_n 0, 1) := by decide +kernel
theorem dX2_addressOf_25 : decode cX2_addressOf 25 = .ok (.getfield 54, 3) := by decide +kernel
theorem dX2_addressOf_28 : decode cX2_addressOf 28 = .ok (.if_icmp .ge 17, 3) := by decide +kernel
theorem dX2_addressOf_31 : decode cX2_addressOf 31 = .ok (.iload_n 2, 1) := by decide +kernel
theorem dX2_addressOf_32 : decode cX2_addressOf 32 = .ok (.bipush 8, 2) := by decide +kernel
theorem dX2_addressOf_34 : decode cX2_addressOf 34 = .ok (.aload_n 0, 1) := by decide +kernel
theorem dX2_addressOf_35 : decode cX2_addressOf 35 = .ok (.getfield 50, 3) := by decide +kernel
theorem dX2_addressOf_38 : decode cX2_addressOf 38 = .ok (.ishl, 1) := by decide +kernel
theorem dX2_addressOf_39 : decode cX2_addressOf 39 = .ok (.iconst 1, 1) := by decide +kernel
theorem dX2_addressOf_40 : decode cX2_addressOf 40 = .ok (.isub, 1) := by decide +kernel
theorem dX2_addressOf_41 : decode cX2_addressOf 41 = .ok (.iand, 1) := by decide +kernel
theorem dX2_addressOf_42 : decode cX2_addressOf 42 = .ok (.goto 4, 3) := by decide +kernel
theorem dX2_addressOf_45 : decode cX2_addressOf 45 = .ok (.iload_n 3, 1) := by decide +kernel
theorem dX2_addressOf_46 : decode cX2_addressOf 46 = .ok (.ireturn, 1) := by decide +kernel
theorem dX2_keyIn_0 : decode cX2_keyIn 0 = .ok (.iload_n 1, 1) := by decide +kernel
theorem dX2_keyIn_1 : decode cX2_keyIn 1 = .ok (.ifCond .lt 21, 3) := by decide +kernel
theorem dX2_keyIn_4 : decode cX2_keyIn 4 = .ok (.iload_n 1, 1) := by decide +kernel
theorem dX2_keyIn_5 : decode cX2_keyIn 5 = .ok (.aload_n 0, 1) := by decide +kernel
theorem dX2_keyIn_6 : decode cX2_keyIn 6 = .ok (.getfield 9, 3) := by decide +kernel
theorem dX2_keyIn_9 : decode cX2_keyIn 9 = .ok (.arraylength, 1) := by decide +kernel
theorem dX2_keyIn_10 : decode cX2_keyIn 10 = .ok (.if_icmp .ge 12, 3) := by decide +kernel
theorem dX2_keyIn_13 : decode cX2_keyIn 13 = .ok (.aload_n 0, 1) := by decide +kernel
theorem dX2_keyIn_14 : decode cX2_keyIn 14 = .ok (.getfield 9, 3) := by decide +kernel
theorem dX2_keyIn_17 : decode cX2_keyIn 17 = .ok (.iload_n 1, 1) := by decide +kernel
theorem dX2_keyIn_18 : decode cX2_keyIn 18 = .ok (.iaload, 1) := by decide +kernel
theorem dX2_keyIn_19 : decode cX2_keyIn 19 = .ok (.goto 5, 3) := by decide +kernel
theorem dX2_keyIn_22 : decode cX2_keyIn 22 = .ok (.ldc 37, 2) := by decide +kernel
theorem dX2_keyIn_24 : decode cX2_keyIn 24 = .ok (.ireturn, 1) := by decide +kernel
theorem dX2_valueIn_0 : decode cX2_valueIn 0 = .ok (.iload_n 1, 1) := by decide +kernel
theorem dX2_valueIn_1 : decode cX2_valueIn 1 = .ok (.ifCond .lt 21, 3) := by decide +kernel
theorem dX2_valueIn_4 : decode cX2_valueIn 4 = .ok (.iload_n 1, 1) := by decide +kernel
theorem dX2_valueIn_5 : decode cX2_valueIn 5 = .ok (.aload_n 0, 1) := by decide +kernel
theorem dX2_valueIn_6 : decode cX2_valueIn 6 = .ok (.getfield 15, 3) := by decide +kernel
theorem dX2_valueIn_9 : decode cX2_valueIn 9 = .ok (.arraylength, 1) := by decide +kernel
theorem dX2_valueIn_10 : decode cX2_valueIn 10 = .ok (.if_icmp .ge 12, 3) := by decide +kernel
theorem dX2_valueIn_13 : decode cX2_valueIn 13 = .ok (.aload_n 0, 1) := by decide +kernel
theorem dX2_valueIn_14 : decode cX2_valueIn 14 = .ok (.getfield 15, 3) := by decide +kernel
theorem dX2_valueIn_17 : decode cX2_valueIn 17 = .ok (.iload_n 1, 1) := by decide +kernel
theorem dX2_valueIn_18 : decode cX2_valueIn 18 = .ok (.iaload, 1) := by decide +kernel
theorem dX2_valueIn_19 : decode cX2_valueIn 19 = .ok (.goto 5, 3) := by decide +kernel
theorem dX2_valueIn_22 : decode cX2_valueIn 22 = .ok (.ldc 37, 2) := by decide +kernel
theorem dX2_valueIn_24 : decode cX2_valueIn 24 = .ok (.ireturn, 1) := by decide +kernel
set_option maxRecDepth 20000 in
theorem ggX2_entriesOnPage_X3_isPage : GoodIn wsX2_entriesOnPage wsX3_isPage := goodIn_r _ [4] (by decide +kernel) (by decide +kernel)
set_option maxRecDepth 20000 in
theorem gX2_entriesOnPage_X3_isPage_n61 : GoodIn wsX2_entriesOnPage (wsX3_isPage) := ggX2_entriesOnPage_X3_isPage
theorem dX2_entriesOnPage_0 : decode cX2_entriesOnPage 0 = .ok (.iload_n 1, 1) := by decide +kernel
theorem dX2_entriesOnPage_1 : decode cX2_entriesOnPage 1 = .ok (.invokestatic 61, 3) := by decide +kernel
theorem dX2_entriesOnPage_4 : decode cX2_entriesOnPage 4 = .ok (.ifCond .eq 12, 3) := by decide +kernel
theorem dX2_entriesOnPage_7 : decode cX2_entriesOnPage 7 = .ok (.aload_n 0, 1) := by decide +kernel
theorem dX2_entriesOnPage_8 : decode cX2_entriesOnPage 8 = .ok (.getfield 18, 3) := by decide +kernel
theorem dX2_entriesOnPage_11 : decode cX2_entriesOnPage 11 = .ok (.iload_n 1, 1) := by decide +kernel
theorem dX2_entriesOnPage_12 : decode cX2_entriesOnPage 12 = .ok (.iaload, 1) := by decide +kernel
theorem dX2_entriesOnPage_13 : decode cX2_entriesOnPage 13 = .ok (.goto 4, 3) := by decide +kernel
theorem dX2_entriesOnPage_16 : decode cX2_entriesOnPage 16 = .ok (.iconst 0, 1) := by decide +kernel
theorem dX2_entriesOnPage_17 : decode cX2_entriesOnPage 17 = .ok (.ireturn, 1) := by decide +kernel
set_option maxRecDepth 20000 in
theorem ggX2_pageBehind_X3_isPage : GoodIn wsX2_pageBehind wsX3_isPage := goodIn_r _ [5] (by decide +kernel) (by decide +kernel)
set_option maxRecDepth 20000 in
theorem gX2_pageBehind_X3_isPage_n61 : GoodIn wsX2_pageBehind (wsX3_isPage) := ggX2_pageBehind_X3_isPage
theorem dX2_pageBehind_0 : decode cX2_pageBehind 0 = .ok (.iload_n 1, 1) := by decide +kernel
theorem dX2_pageBehind_1 : decode cX2_pageBehind 1 = .ok (.invokestatic 61, 3) := by decide +kernel
theorem dX2_pageBehind_4 : decode cX2_pageBehind 4 = .ok (.ifCond .eq 12, 3) := by decide +kernel
theorem dX2_pageBehind_7 : decode cX2_pageBehind 7 = .ok (.aload_n 0, 1) := by decide +kernel
theorem dX2_pageBehind_8 : decode cX2_pageBehind 8 = .ok (.getfield 21, 3) := by decide +kernel
theorem dX2_pageBehind_11 : decode cX2_pageBehind 11 = .ok (.iload_n 1, 1) := by decide +kernel
theorem dX2_pageBehind_12 : decode cX2_pageBehind 12 = .ok (.iaload, 1) := by decide +kernel
theorem dX2_pageBehind_13 : decode cX2_pageBehind 13 = .ok (.goto 5, 3) := by decide +kernel
theorem dX2_pageBehind_16 : decode cX2_pageBehind 16 = .ok (.ldc 37, 2) := by decide +kernel
theorem dX2_pageBehind_18 : decode cX2_pageBehind 18 = .ok (.ireturn, 1) := by decide +kernel
set_option maxRecDepth 20000 in
theorem ggX2_bucketOfPage_X3_isPage : GoodIn wsX2_bucketOfPage wsX3_isPage := goodIn_r _ [5] (by decide +kernel) (by decide +kernel)
set_option maxRecDepth 20000 in
theorem gX2_bucketOfPage_X3_isPage_n61 : GoodIn wsX2_bucketOfPage (wsX3_isPage) := ggX2_bucketOfPage_X3_isPage
set_option maxRecDepth 20000 in
theorem ggX2_bucketOfPage_X2_bucketCount : GoodIn wsX2_bucketOfPage wsX2_bucketCount := goodIn_r _ [10, 11, 12, 13, 14, 15, 16, 17, 18, 19, 20, 21, 22, 23] (by decide +kernel) (by decide +kernel)
set_option maxRecDepth 20000 in
theorem gX2_bucketOfPage_X2_bucketCount : GoodIn wsX2_bucketOfPage (wsV RX2 65 RX2 yX2_bucketCount wsX2_bucketCount) := goodIn_app (goodIn_of _ (by decide +kernel)) ggX2_bucketOfPage_X2_bucketCount
theorem dX2_bucketOfPage_0 : decode cX2_bucketOfPage 0 = .ok (.iload_n 1, 1) := by decide +kernel
theorem dX2_bucketOfPage_1 : decode cX2_bucketOfPage 1 = .ok (.invokestatic 61, 3) := by decide +kernel
theorem dX2_bucketOfPage_4 : decode cX2_bucketOfPage 4 = .ok (.ifCond .ne 6, 3) := by decide +kernel
theorem dX2_bucketOfPage_7 : decode cX2_bucketOfPage 7 = .ok (.ldc 37, 2) := by decide +kernel
theorem dX2_bucketOfPage_9 : decode cX2_bucketOfPage 9 = .ok (.ireturn, 1) := by decide +kernel
theorem dX2_bucketOfPage_10 : decode cX2_bucketOfPage 10 = .ok (.iload_n 1, 1) := by decide +kernel
theorem dX2_bucketOfPage_11 : decode cX2_bucketOfPage 11 = .ok (.bipush 64, 2) := by decide +kernel
theorem dX2_bucketOfPage_13 : decode cX2_bucketOfPage 13 = .ok (.if_icmp .ge 18, 3) := by decide +kernel
theorem dX2_bucketOfPage_16 : decode cX2_bucketOfPage 16 = .ok (.iload_n 1, 1) := by decide +kernel
theorem dX2_bucketOfPage_17 : decode cX2_bucketOfPage 17 = .ok (.aload_n 0, 1) := by decide +kernel
theorem dX2_bucketOfPage_18 : decode cX2_bucketOfPage 18 = .ok (.invokevirtual 65, 3) := by decide +kernel
theorem dX2_bucketOfPage_21 : decode cX2_bucketOfPage 21 = .ok (.if_icmp .ge 7, 3) := by decide +kernel
theorem dX2_bucketOfPage_24 : decode cX2_bucketOfPage 24 = .ok (.iload_n 1, 1) := by decide +kernel
theorem dX2_bucketOfPage_25 : decode cX2_bucketOfPage 25 = .ok (.goto 5, 3) := by decide +kernel
theorem dX2_bucketOfPage_28 : decode cX2_bucketOfPage 28 = .ok (.ldc 37, 2) := by decide +kernel
theorem dX2_bucketOfPage_30 : decode cX2_bucketOfPage 30 = .ok (.ireturn, 1) := by decide +kernel
theorem dX2_bucketOfPage_31 : decode cX2_bucketOfPage 31 = .ok (.aload_n 0, 1) := by decide +kernel
theorem dX2_bucketOfPage_32 : decode cX2_bucketOfPage 32 = .ok (.getfield 27, 3) := by decide +kernel
theorem dX2_bucketOfPage_35 : decode cX2_bucketOfPage 35 = .ok (.iload_n 1, 1) := by decide +kernel
theorem dX2_bucketOfPage_36 : decode cX2_bucketOfPage 36 = .ok (.iaload, 1) := by decide +kernel
theorem dX2_bucketOfPage_37 : decode cX2_bucketOfPage 37 = .ok (.ireturn, 1) := by decide +kernel
set_option maxRecDepth 20000 in
theorem ggX2_lastPage_X2_isBucketPlace : GoodIn wsX2_lastPage wsX2_isBucketPlace := goodIn_r _ [6] (by decide +kernel) (by decide +kernel)
set_option maxRecDepth 20000 in
theorem gX2_lastPage_X2_isBucketPlace : GoodIn wsX2_lastPage (va_wsS RX2 69 yX2_isBucketPlace wsX2_isBucketPlace) := goodIn_app (goodIn_of _ (by decide +kernel)) ggX2_lastPage_X2_isBucketPlace
theorem dX2_lastPage_0 : decode cX2_lastPage 0 = .ok (.iload_n 1, 1) := by decide +kernel
theorem dX2_lastPage_1 : decode cX2_lastPage 1 = .ok (.invokestatic 69, 3) := by decide +kernel
theorem dX2_lastPage_4 : decode cX2_lastPage 4 = .ok (.ifCond .eq 12, 3) := by decide +kernel
theorem dX2_lastPage_7 : decode cX2_lastPage 7 = .ok (.aload_n 0, 1) := by decide +kernel
theorem dX2_lastPage_8 : decode cX2_lastPage 8 = .ok (.getfield 30, 3) := by decide +kernel
theorem dX2_lastPage_11 : decode cX2_lastPage 11 = .ok (.iload_n 1, 1) := by decide +kernel
theorem dX2_lastPage_12 : decode cX2_lastPage 12 = .ok (.iaload, 1) := by decide +kernel
theorem dX2_lastPage_13 : decode cX2_lastPage 13 = .ok (.goto 5, 3) := by decide +kernel
theorem dX2_lastPage_16 : decode cX2_lastPage 16 = .ok (.ldc 37, 2) := by decide +kernel
theorem dX2_lastPage_18 : decode cX2_lastPage 18 = .ok (.ireturn, 1) := by decide +kernel
set_option maxRecDepth 20000 in
theorem ggX2_pagesInChain_X3_isPage : GoodIn wsX2_pagesInChain wsX3_isPage := goodIn_r _ [4] (by decide +kernel) (by decide +kernel)
set_option maxRecDepth 20000 in
theorem gX2_pagesInChain_X3_isPage_n61 : GoodIn wsX2_pagesInChain (wsX3_isPage) := ggX2_pagesInChain_X3_isPage
theorem dX2_pagesInChain_0 : decode cX2_pagesInChain 0 = .ok (.iconst 0, 1) := by decide +kernel
theorem dX2_pagesInChain_1 : decode cX2_pagesInChain 1 = .ok (.istore_n 2, 1) := by decide +kernel
theorem dX2_pagesInChain_2 : decode cX2_pagesInChain 2 = .ok (.iload_n 1, 1) := by decide +kernel
theorem dX2_pagesInChain_3 : decode cX2_pagesInChain 3 = .ok (.istore_n 3, 1) := by decide +kernel
theorem dX2_pagesInChain_4 : decode cX2_pagesInChain 4 = .ok (.iload_n 2, 1) := by decide +kernel
theorem dX2_pagesInChain_5 : decode cX2_pagesInChain 5 = .ok (.sipush 128, 3) := by decide +kernel
theorem dX2_pagesInChain_8 : decode cX2_pagesInChain 8 = .ok (.if_icmp .ge 23, 3) := by decide +kernel
theorem dX2_pagesInChain_11 : decode cX2_pagesInChain 11 = .ok (.iload_n 3, 1) := by decide +kernel
theorem dX2_pagesInChain_12 : decode cX2_pagesInChain 12 = .ok (.invokestatic 61, 3) := by decide +kernel
theorem dX2_pagesInChain_15 : decode cX2_pagesInChain 15 = .ok (.ifCond .eq 16, 3) := by decide +kernel
theorem dX2_pagesInChain_18 : decode cX2_pagesInChain 18 = .ok (.iinc 2 1, 3) := by decide +kernel
theorem dX2_pagesInChain_21 : decode cX2_pagesInChain 21 = .ok (.aload_n 0, 1) := by decide +kernel
theorem dX2_pagesInChain_22 : decode cX2_pagesInChain 22 = .ok (.getfield 21, 3) := by decide +kernel
theorem dX2_pagesInChain_25 : decode cX2_pagesInChain 25 = .ok (.iload_n 3, 1) := by decide +kernel
theorem dX2_pagesInChain_26 : decode cX2_pagesInChain 26 = .ok (.iaload, 1) := by decide +kernel
theorem dX2_pagesInChain_27 : decode cX2_pagesInChain 27 = .ok (.istore_n 3, 1) := by decide +kernel
theorem dX2_pagesInChain_28 : decode cX2_pagesInChain 28 = .ok (.goto (-24), 3) := by decide +kernel
theorem dX2_pagesInChain_31 : decode cX2_pagesInChain 31 = .ok (.iload_n 2, 1) := by decide +kernel
theorem dX2_pagesInChain_32 : decode cX2_pagesInChain 32 = .ok (.ireturn, 1) := by decide +kernel
set_option maxRecDepth 20000 in
theorem ggX2_entriesInChain_X2_pagesInChain : GoodIn wsX2_entriesInChain wsX2_pagesInChain := goodIn_r _ [5, 6, 7, 8, 9, 24, 25, 26, 27, 28, 29, 30, 31, 32, 33, 34] (by decide +kernel) (by decide +kernel)
set_option maxRecDepth 20000 in
theorem gX2_entriesInChain_X2_pagesInChain : GoodIn wsX2_entriesInChain (wsV RX2 72 RX2 yX2_pagesInChain wsX2_pagesInChain) := goodIn_app (goodIn_of _ (by decide +kernel)) ggX2_entriesInChain_X2_pagesInChain
set_option maxRecDepth 20000 in
theorem ggX2_entriesInChain_X2_lastPage : GoodIn wsX2_entriesInChain wsX2_lastPage := goodIn_r _ [13, 14, 15, 16, 17, 4, 18, 24, 25, 26, 27, 28, 29, 30, 31, 32, 33, 34] (by decide +kernel) (by decide +kernel)
set_option maxRecDepth 20000 in
theorem gX2_entriesInChain_X2_lastPage : GoodIn wsX2_entriesInChain (wsV RX2 76 RX2 yX2_lastPage wsX2_lastPage) := goodIn_app (goodIn_of _ (by decide +kernel)) ggX2_entriesInChain_X2_lastPage
set_option maxRecDepth 20000 in
theorem ggX2_entriesInChain_X2_entriesOnPage : GoodIn wsX2_entriesInChain wsX2_entriesOnPage := goodIn_r _ [22, 23, 7, 8, 9, 24, 25, 26, 27, 28, 29, 30, 31, 32, 33, 34] (by decide +kernel) (by decide +kernel)
set_option maxRecDepth 20000 in
theorem gX2_entriesInChain_X2_entriesOnPage : GoodIn wsX2_entriesInChain (wsV RX2 79 RX2 yX2_entriesOnPage wsX2_entriesOnPage) := goodIn_app (goodIn_of _ (by decide +kernel)) ggX2_entriesInChain_X2_entriesOnPage
theorem dX2_entriesInChain_0 : decode cX2_entriesInChain 0 = .ok (.aload_n 0, 1) := by decide +kernel
theorem dX2_entriesInChain_1 : decode cX2_entriesInChain 1 = .ok (.iload_n 1, 1) := by decide +kernel
theorem dX2_entriesInChain_2 : decode cX2_entriesInChain 2 = .ok (.invokevirtual 72, 3) := by decide +kernel
theorem dX2_entriesInChain_5 : decode cX2_entriesInChain 5 = .ok (.iconst 1, 1) := by decide +kernel
theorem dX2_entriesInChain_6 : decode cX2_entriesInChain 6 = .ok (.isub, 1) := by decide +kernel
theorem dX2_entriesInChain_7 : decode cX2_entriesInChain 7 = .ok (.iconst 4, 1) := by decide +kernel
theorem dX2_entriesInChain_8 : decode cX2_entriesInChain 8 = .ok (.imul, 1) := by decide +kernel
theorem dX2_entriesInChain_9 : decode cX2_entriesInChain 9 = .ok (.aload_n 0, 1) := by decide +kernel
theorem dX2_entriesInChain_10 : decode cX2_entriesInChain 10 = .ok (.aload_n 0, 1) := by decide +kernel
theorem dX2_entriesInChain_11 : decode cX2_entriesInChain 11 = .ok (.iload_n 1, 1) := by decide +kernel
theorem dX2_entriesInChain_12 : decode cX2_entriesInChain 12 = .ok (.invokevirtual 76, 3) := by decide +kernel
theorem dX2_entriesInChain_15 : decode cX2_entriesInChain 15 = .ok (.invokevirtual 79, 3) := by decide +kernel
theorem dX2_entriesInChain_18 : decode cX2_entriesInChain 18 = .ok (.iadd, 1) := by decide +kernel
theorem dX2_entriesInChain_19 : decode cX2_entriesInChain 19 = .ok (.ireturn, 1) := by decide +kernel
theorem dX2_freePages_0 : decode cX2_freePages 0 = .ok (.iconst 0, 1) := by decide +kernel
theorem dX2_freePages_1 : decode cX2_freePages 1 = .ok (.istore_n 1, 1) := by decide +kernel
theorem dX2_freePages_2 : decode cX2_freePages 2 = .ok (.bipush 64, 2) := by decide +kernel
theorem dX2_freePages_4 : decode cX2_freePages 4 = .ok (.istore_n 2, 1) := by decide +kernel
theorem dX2_freePages_5 : decode cX2_freePages 5 = .ok (.iload_n 2, 1) := by decide +kernel
theorem dX2_freePages_6 : decode cX2_freePages 6 = .ok (.sipush 128, 3) := by decide +kernel
theorem dX2_freePages_9 : decode cX2_freePages 9 = .ok (.if_icmp .ge 23, 3) := by decide +kernel
theorem dX2_freePages_12 : decode cX2_freePages 12 = .ok (.aload_n 0, 1) := by decide +kernel
theorem dX2_freePages_13 : decode cX2_freePages 13 = .ok (.getfield 27, 3) := by decide +kernel
theorem dX2_freePages_16 : decode cX2_freePages 16 = .ok (.iload_n 2, 1) := by decide +kernel
theorem dX2_freePages_17 : decode cX2_freePages 17 = .ok (.iaload, 1) := by decide +kernel
theorem dX2_freePages_18 : decode cX2_freePages 18 = .ok (.ldc 37, 2) := by decide +kernel
theorem dX2_freePages_20 : decode cX2_freePages 20 = .ok (.if_icmp .ne 6, 3) := by decide +kernel
theorem dX2_freePages_23 : decode cX2_freePages 23 = .ok (.iinc 1 1, 3) := by decide +kernel
theorem dX2_freePages_26 : decode cX2_freePages 26 = .ok (.iinc 2 1, 3) := by decide +kernel
theorem dX2_freePages_29 : decode cX2_freePages 29 = .ok (.goto (-24), 3) := by decide +kernel
theorem dX2_freePages_32 : decode cX2_freePages 32 = .ok (.iload_n 1, 1) := by decide +kernel
theorem dX2_freePages_33 : decode cX2_freePages 33 = .ok (.ireturn, 1) := by decide +kernel
set_option maxRecDepth 20000 in
theorem ggX2_longestChain_X2_bucketCount : GoodIn wsX2_longestChain wsX2_bucketCount := goodIn_r _ [9, 10, 11, 20, 21, 22, 23, 24, 25, 26, 27, 28, 29, 30] (by decide +kernel) (by decide +kernel)
set_option maxRecDepth 20000 in
theorem gX2_longestChain_X2_bucketCount : GoodIn wsX2_longestChain (wsV RX2 65 RX2 yX2_bucketCount wsX2_bucketCount) := goodIn_app (goodIn_of _ (by decide +kernel)) ggX2_longestChain_X2_bucketCount
set_option maxRecDepth 20000 in
theorem ggX2_longestChain_X2_pagesInChain : GoodIn wsX2_longestChain wsX2_pagesInChain := goodIn_r _ [15, 16, 17, 18, 19, 20, 21, 22, 23, 24, 25, 26, 27, 28, 29, 30] (by decide +kernel) (by decide +kernel)
set_option maxRecDepth 20000 in
theorem gX2_longestChain_X2_pagesInChain : GoodIn wsX2_longestChain (wsV RX2 72 RX2 yX2_pagesInChain wsX2_pagesInChain) := goodIn_app (goodIn_of _ (by decide +kernel)) ggX2_longestChain_X2_pagesInChain
theorem dX2_longestChain_0 : decode cX2_longestChain 0 = .ok (.iconst 0, 1) := by decide +kernel
theorem dX2_longestChain_1 : decode cX2_longestChain 1 = .ok (.istore_n 1, 1) := by decide +kernel
theorem dX2_longestChain_2 : decode cX2_longestChain 2 = .ok (.iconst 0, 1) := by decide +kernel
theorem dX2_longestChain_3 : decode cX2_longestChain 3 = .ok (.istore_n 2, 1) := by decide +kernel
theorem dX2_longestChain_4 : decode cX2_longestChain 4 = .ok (.iload_n 2, 1) := by decide +kernel
theorem dX2_longestChain_5 : decode cX2_longestChain 5 = .ok (.aload_n 0, 1) := by decide +kernel
theorem dX2_longestChain_6 : decode cX2_longestChain 6 = .ok (.invokevirtual 65, 3) := by decide +kernel
theorem dX2_longestChain_9 : decode cX2_longestChain 9 = .ok (.if_icmp .ge 19, 3) := by decide +kernel
theorem dX2_longestChain_12 : decode cX2_longestChain 12 = .ok (.iload_n 1, 1) := by decide +kernel
theorem dX2_longestChain_13 : decode cX2_longestChain 13 = .ok (.aload_n 0, 1) := by decide +kernel
theorem dX2_longestChain_14 : decode cX2_longestChain 14 = .ok (.iload_n 2, 1) := by decide +kernel
theorem dX2_longestChain_15 : decode cX2_longestChain 15 = .ok (.invokevirtual 72, 3) := by decide +kernel
theorem dX2_longestChain_18 : decode cX2_longestChain 18 = .ok (.invokestatic 82, 3) := by decide +kernel
theorem dX2_longestChain_21 : decode cX2_longestChain 21 = .ok (.istore_n 1, 1) := by decide +kernel
theorem dX2_longestChain_22 : decode cX2_longestChain 22 = .ok (.iinc 2 1, 3) := by decide +kernel
theorem dX2_longestChain_25 : decode cX2_longestChain 25 = .ok (.goto (-21), 3) := by decide +kernel
theorem dX2_longestChain_28 : decode cX2_longestChain 28 = .ok (.iload_n 1, 1) := by decide +kernel
theorem dX2_longestChain_29 : decode cX2_longestChain 29 = .ok (.ireturn, 1) := by decide +kernel
set_option maxRecDepth 20000 in
theorem ggX2_effortForAll_X2_bucketCount : GoodIn wsX2_effortForAll wsX2_bucketCount := goodIn_r _ [7, 8, 9, 13, 14, 15, 16, 17, 18, 19, 20, 21, 22, 23] (by decide +kernel) (by decide +kernel)
set_option maxRecDepth 20000 in
theorem gX2_effortForAll_X2_bucketCount : GoodIn wsX2_effortForAll (wsV RX2 65 RX2 yX2_bucketCount wsX2_bucketCount) := goodIn_app (goodIn_of _ (by decide +kernel)) ggX2_effortForAll_X2_bucketCount
set_option maxRecDepth 20000 in
theorem ggX2_effortForAll_X3_isPage : GoodIn wsX2_effortForAll wsX3_isPage := goodIn_r _ [12] (by decide +kernel) (by decide +kernel)
set_option maxRecDepth 20000 in
theorem gX2_effortForAll_X3_isPage_n61 : GoodIn wsX2_effortForAll (wsX3_isPage) := ggX2_effortForAll_X3_isPage
theorem dX2_effortForAll_0 : decode cX2_effortForAll 0 = .ok (.iconst 0, 1) := by decide +kernel
theorem dX2_effortForAll_1 : decode cX2_effortForAll 1 = .ok (.istore_n 1, 1) := by decide +kernel
theorem dX2_effortForAll_2 : decode cX2_effortForAll 2 = .ok (.iconst 0, 1) := by decide +kernel
theorem dX2_effortForAll_3 : decode cX2_effortForAll 3 = .ok (.istore_n 2, 1) := by decide +kernel
theorem dX2_effortForAll_4 : decode cX2_effortForAll 4 = .ok (.iload_n 2, 1) := by decide +kernel
theorem dX2_effortForAll_5 : decode cX2_effortForAll 5 = .ok (.aload_n 0, 1) := by decide +kernel
theorem dX2_effortForAll_6 : decode cX2_effortForAll 6 = .ok (.invokevirtual 65, 3) := by decide +kernel
theorem dX2_effortForAll_9 : decode cX2_effortForAll 9 = .ok (.if_icmp .ge 54, 3) := by decide +kernel
theorem dX2_effortForAll_12 : decode cX2_effortForAll 12 = .ok (.iload_n 2, 1) := by decide +kernel
theorem dX2_effortForAll_13 : decode cX2_effortForAll 13 = .ok (.istore_n 3, 1) := by decide +kernel
theorem dX2_effortForAll_14 : decode cX2_effortForAll 14 = .ok (.iconst 1, 1) := by decide +kernel
theorem dX2_effortForAll_15 : decode cX2_effortForAll 15 = .ok (.istore 4, 2) := by decide +kernel
theorem dX2_effortForAll_17 : decode cX2_effortForAll 17 = .ok (.iload 4, 2) := by decide +kernel
theorem dX2_effortForAll_19 : decode cX2_effortForAll 19 = .ok (.sipush 128, 3) := by decide +kernel
theorem dX2_effortForAll_22 : decode cX2_effortForAll 22 = .ok (.if_icmp .gt 35, 3) := by decide +kernel
theorem dX2_effortForAll_25 : decode cX2_effortForAll 25 = .ok (.iload_n 3, 1) := by decide +kernel
theorem dX2_effortForAll_26 : decode cX2_effortForAll 26 = .ok (.invokestatic 61, 3) := by decide +kernel
theorem dX2_effortForAll_29 : decode cX2_effortForAll 29 = .ok (.ifCond .eq 28, 3) := by decide +kernel
theorem dX2_effortForAll_32 : decode cX2_effortForAll 32 = .ok (.iload_n 1, 1) := by decide +kernel
theorem dX2_effortForAll_33 : decode cX2_effortForAll 33 = .ok (.iload 4, 2) := by decide +kernel
theorem dX2_effortForAll_35 : decode cX2_effortForAll 35 = .ok (.aload_n 0, 1) := by decide +kernel
theorem dX2_effortForAll_36 : decode cX2_effortForAll 36 = .ok (.getfield 18, 3) := by decide +kernel
theorem dX2_effortForAll_39 : decode cX2_effortForAll 39 = .ok (.iload_n 3, 1) := by decide +kernel
theorem dX2_effortForAll_40 : decode cX2_effortForAll 40 = .ok (.iaload, 1) := by decide +kernel
theorem dX2_effortForAll_41 : decode cX2_effortForAll 41 = .ok (.imul, 1) := by decide +kernel
theorem dX2_effortForAll_42 : decode cX2_effortForAll 42 = .ok (.iadd, 1) := by decide +kernel
theorem dX2_effortForAll_43 : decode cX2_effortForAll 43 = .ok (.istore_n 1, 1) := by decide +kernel
theorem dX2_effortForAll_44 : decode cX2_effortForAll 44 = .ok (.aload_n 0, 1) := by decide +kernel
theorem dX2_effortForAll_45 : decode cX2_effortForAll 45 = .ok (.getfield 21, 3) := by decide +kernel
theorem dX2_effortForAll_48 : decode cX2_effortForAll 48 = .ok (.iload_n 3, 1) := by decide +kernel
theorem dX2_effortForAll_49 : decode cX2_effortForAll 49 = .ok (.iaload, 1) := by decide +kernel
theorem dX2_effortForAll_50 : decode cX2_effortForAll 50 = .ok (.istore_n 3, 1) := by decide +kernel
theorem dX2_effortForAll_51 : decode cX2_effortForAll 51 = .ok (.iinc 4 1, 3) := by decide +kernel
theorem dX2_effortForAll_54 : decode cX2_effortForAll 54 = .ok (.goto (-37), 3) := by decide +kernel
theorem dX2_effortForAll_57 : decode cX2_effortForAll 57 = .ok (.iinc 2 1, 3) := by decide +kernel
theorem dX2_effortForAll_60 : decode cX2_effortForAll 60 = .ok (.goto (-56), 3) := by decide +kernel
theorem dX2_effortForAll_63 : decode cX2_effortForAll 63 = .ok (.iload_n 1, 1) := by decide +kernel
theorem dX2_effortForAll_64 : decode cX2_effortForAll 64 = .ok (.ireturn, 1) := by decide +kernel
set_option maxRecDepth 20000 in
theorem ggX2_cellOfEntry_X2_bucketCount : GoodIn wsX2_cellOfEntry wsX2_bucketCount := goodIn_r _ [8, 9, 10, 14, 15, 16, 17, 18, 19, 20, 21, 22, 23, 24] (by decide +kernel) (by decide +kernel)
set_option maxRecDepth 20000 in
theorem gX2_cellOfEntry_X2_bucketCount : GoodIn wsX2_cellOfEntry (wsV RX2 65 RX2 yX2_bucketCount wsX2_bucketCount) := goodIn_app (goodIn_of _ (by decide +kernel)) ggX2_cellOfEntry_X2_bucketCount
set_option maxRecDepth 20000 in
theorem ggX2_cellOfEntry_X3_isPage : GoodIn wsX2_cellOfEntry wsX3_isPage := goodIn_r _ [13] (by decide +kernel) (by decide +kernel)
set_option maxRecDepth 20000 in
theorem gX2_cellOfEntry_X3_isPage_n61 : GoodIn wsX2_cellOfEntry (wsX3_isPage) := ggX2_cellOfEntry_X3_isPage
theorem dX2_cellOfEntry_0 : decode cX2_cellOfEntry 0 = .ok (.iload_n 1, 1) := by decide +kernel
theorem dX2_cellOfEntry_1 : decode cX2_cellOfEntry 1 = .ok (.istore_n 2, 1) := by decide +kernel
theorem dX2_cellOfEntry_2 : decode cX2_cellOfEntry 2 = .ok (.iconst 0, 1) := by decide +kernel
theorem dX2_cellOfEntry_3 : decode cX2_cellOfEntry 3 = .ok (.istore_n 3, 1) := by decide +kernel
theorem dX2_cellOfEntry_4 : decode cX2_cellOfEntry 4 = .ok (.iload_n 3, 1) := by decide +kernel
theorem dX2_cellOfEntry_5 : decode cX2_cellOfEntry 5 = .ok (.aload_n 0, 1) := by decide +kernel
theorem dX2_cellOfEntry_6 : decode cX2_cellOfEntry 6 = .ok (.invokevirtual 65, 3) := by decide +kernel
theorem dX2_cellOfEntry_9 : decode cX2_cellOfEntry 9 = .ok (.if_icmp .ge 74, 3) := by decide +kernel
theorem dX2_cellOfEntry_12 : decode cX2_cellOfEntry 12 = .ok (.iload_n 3, 1) := by decide +kernel
theorem dX2_cellOfEntry_13 : decode cX2_cellOfEntry 13 = .ok (.istore 4, 2) := by decide +kernel
theorem dX2_cellOfEntry_15 : decode cX2_cellOfEntry 15 = .ok (.iconst 0, 1) := by decide +kernel
theorem dX2_cellOfEntry_16 : decode cX2_cellOfEntry 16 = .ok (.istore 5, 2) := by decide +kernel
theorem dX2_cellOfEntry_18 : decode cX2_cellOfEntry 18 = .ok (.iload 5, 2) := by decide +kernel
theorem dX2_cellOfEntry_20 : decode cX2_cellOfEntry 20 = .ok (.sipush 128, 3) := by decide +kernel
theorem dX2_cellOfEntry_23 : decode cX2_cellOfEntry 23 = .ok (.if_icmp .ge 54, 3) := by decide +kernel
theorem dX2_cellOfEntry_26 : decode cX2_cellOfEntry 26 = .ok (.iload 4, 2) := by decide +kernel
theorem dX2_cellOfEntry_28 : decode cX2_cellOfEntry 28 = .ok (.invokestatic 61, 3) := by decide +kernel
theorem dX2_cellOfEntry_31 : decode cX2_cellOfEntry 31 = .ok (.ifCond .eq 46, 3) := by decide +kernel
theorem dX2_cellOfEntry_34 : decode cX2_cellOfEntry 34 = .ok (.iload_n 2, 1) := by decide +kernel
theorem dX2_cellOfEntry_35 : decode cX2_cellOfEntry 35 = .ok (.aload_n 0, 1) := by decide +kernel
theorem dX2_cellOfEntry_36 : decode cX2_cellOfEntry 36 = .ok (.getfield 18, 3) := by decide +kernel
theorem dX2_cellOfEntry_39 : decode cX2_cellOfEntry 39 = .ok (.iload 4, 2) := by decide +kernel
theorem dX2_cellOfEntry_41 : decode cX2_cellOfEntry 41 = .ok (.iaload, 1) := by decide +kernel
theorem dX2_cellOfEntry_42 : decode cX2_cellOfEntry 42 = .ok (.if_icmp .ge 10, 3) := by decide +kernel
theorem dX2_cellOfEntry_45 : decode cX2_cellOfEntry 45 = .ok (.iload 4, 2) := by decide +kernel
theorem dX2_cellOfEntry_47 : decode cX2_cellOfEntry 47 = .ok (.iconst 4, 1) := by decide +kernel
theorem dX2_cellOfEntry_48 : decode cX2_cellOfEntry 48 = .ok (.imul, 1) := by decide +kernel
theorem dX2_cellOfEntry_49 : decode cX2_cellOfEntry 49 = .ok (.iload_n 2, 1) := by decide +kernel
theorem dX2_cellOfEntry_50 : decode cX2_cellOfEntry 50 = .ok (.iadd, 1) := by decide +kernel
theorem dX2_cellOfEntry_51 : decode cX2_cellOfEntry 51 = .ok (.ireturn, 1) := by decide +kernel
theorem dX2_cellOfEntry_52 : decode cX2_cellOfEntry 52 = .ok (.iload_n 2, 1) := by decide +kernel
theorem dX2_cellOfEntry_53 : decode cX2_cellOfEntry 53 = .ok (.aload_n 0, 1) := by decide +kernel
theorem dX2_cellOfEntry_54 : decode cX2_cellOfEntry 54 = .ok (.getfield 18, 3) := by decide +kernel
theorem dX2_cellOfEntry_57 : decode cX2_cellOfEntry 57 = .ok (.iload 4, 2) := by decide +kernel
theorem dX2_cellOfEntry_59 : decode cX2_cellOfEntry 59 = .ok (.iaload, 1) := by decide +kernel
theorem dX2_cellOfEntry_60 : decode cX2_cellOfEntry 60 = .ok (.isub, 1) := by decide +kernel
theorem dX2_cellOfEntry_61 : decode cX2_cellOfEntry 61 = .ok (.istore_n 2, 1) := by decide +kernel
theorem dX2_cellOfEntry_62 : decode cX2_cellOfEntry 62 = .ok (.aload_n 0, 1) := by decide +kernel
theorem dX2_cellOfEntry_63 : decode cX2_cellOfEntry 63 = .ok (.getfield 21, 3) := by decide +kernel
theorem dX2_cellOfEntry_66 : decode cX2_cellOfEntry 66 = .ok (.iload 4, 2) := by decide +kernel
theorem dX2_cellOfEntry_68 : decode cX2_cellOfEntry 68 = .ok (.iaload, 1) := by decide +kernel
theorem dX2_cellOfEntry_69 : decode cX2_cellOfEntry 69 = .ok (.istore 4, 2) := by decide +kernel
theorem dX2_cellOfEntry_71 : decode cX2_cellOfEntry 71 = .ok (.iinc 5 1, 3) := by decide +kernel
theorem dX2_cellOfEntry_74 : decode cX2_cellOfEntry 74 = .ok (.goto (-56), 3) := by decide +kernel
theorem dX2_cellOfEntry_77 : decode cX2_cellOfEntry 77 = .ok (.iinc 3 1, 3) := by decide +kernel
theorem dX2_cellOfEntry_80 : decode cX2_cellOfEntry 80 = .ok (.goto (-76), 3) := by decide +kernel
theorem dX2_cellOfEntry_83 : decode cX2_cellOfEntry 83 = .ok (.ldc 37, 2) := by decide +kernel
theorem dX2_cellOfEntry_85 : decode cX2_cellOfEntry 85 = .ok (.ireturn, 1) := by decide +kernel
set_option maxRecDepth 20000 in
theorem ggX2_find_X2_addressOf : GoodIn wsX2_find wsX2_addressOf := goodIn_r _ [9, 10, 11, 12, 16, 17, 18, 19, 20, 21, 22, 23, 24, 25, 26] (by decide +kernel) (by decide +kernel)
set_option maxRecDepth 20000 in
theorem gX2_find_X2_addressOf : GoodIn wsX2_find (wsV RX2 88 RX2 yX2_addressOf wsX2_addressOf) := goodIn_app (goodIn_of _ (by decide +kernel)) ggX2_find_X2_addressOf
set_option maxRecDepth 20000 in
theorem ggX2_find_X3_isPage : GoodIn wsX2_find wsX3_isPage := goodIn_r _ [15] (by decide +kernel) (by decide +kernel)
set_option maxRecDepth 20000 in
theorem gX2_find_X3_isPage_n61 : GoodIn wsX2_find (wsX3_isPage) := ggX2_find_X3_isPage
theorem dX2_find_0 : decode cX2_find 0 = .ok (.aload_n 0, 1) := by decide +kernel
theorem dX2_find_1 : decode cX2_find 1 = .ok (.iload_n 1, 1) := by decide +kernel
theorem dX2_find_2 : decode cX2_find 2 = .ok (.invokevirtual 88, 3) := by decide +kernel
theorem dX2_find_5 : decode cX2_find 5 = .ok (.istore_n 2, 1) := by decide +kernel
theorem dX2_find_6 : decode cX2_find 6 = .ok (.iconst 0, 1) := by decide +kernel
theorem dX2_find_7 : decode cX2_find 7 = .ok (.istore_n 3, 1) := by decide +kernel
theorem dX2_find_8 : decode cX2_find 8 = .ok (.iload_n 3, 1) := by decide +kernel
theorem dX2_find_9 : decode cX2_find 9 = .ok (.sipush 128, 3) := by decide +kernel
theorem dX2_find_12 : decode cX2_find 12 = .ok (.if_icmp .ge 71, 3) := by decide +kernel
theorem dX2_find_15 : decode cX2_find 15 = .ok (.iload_n 2, 1) := by decide +kernel
theorem dX2_find_16 : decode cX2_find 16 = .ok (.invokestatic 61, 3) := by decide +kernel
theorem dX2_find_19 : decode cX2_find 19 = .ok (.ifCond .eq 64, 3) := by decide +kernel
theorem dX2_find_22 : decode cX2_find 22 = .ok (.iconst 0, 1) := by decide +kernel
theorem dX2_find_23 : decode cX2_find 23 = .ok (.istore 4, 2) := by decide +kernel
theorem dX2_find_25 : decode cX2_find 25 = .ok (.iload 4, 2) := by decide +kernel
theorem dX2_find_27 : decode cX2_find 27 = .ok (.iconst 4, 1) := by decide +kernel
theorem dX2_find_28 : decode cX2_find 28 = .ok (.if_icmp .ge 42, 3) := by decide +kernel
theorem dX2_find_31 : decode cX2_find 31 = .ok (.iload 4, 2) := by decide +kernel
theorem dX2_find_33 : decode cX2_find 33 = .ok (.aload_n 0, 1) := by decide +kernel
theorem dX2_find_34 : decode cX2_find 34 = .ok (.getfield 18, 3) := by decide +kernel
theorem dX2_find_37 : decode cX2_find 37 = .ok (.iload_n 2, 1) := by decide +kernel
theorem dX2_find_38 : decode cX2_find 38 = .ok (.iaload, 1) := by decide +kernel
theorem dX2_find_39 : decode cX2_find 39 = .ok (.if_icmp .ge 31, 3) := by decide +kernel
theorem dX2_find_42 : decode cX2_find 42 = .ok (.aload_n 0, 1) := by decide +kernel
theorem dX2_find_43 : decode cX2_find 43 = .ok (.getfield 9, 3) := by decide +kernel
theorem dX2_find_46 : decode cX2_find 46 = .ok (.iload_n 2, 1) := by decide +kernel
theorem dX2_find_47 : decode cX2_find 47 = .ok (.iconst 4, 1) := by decide +kernel
theorem dX2_find_48 : decode cX2_find 48 = .ok (.imul, 1) := by decide +kernel
theorem dX2_find_49 : decode cX2_find 49 = .ok (.iload 4, 2) := by decide +kernel
theorem dX2_find_51 : decode cX2_find 51 = .ok (.iadd, 1) := by decide +kernel
theorem dX2_find_52 : decode cX2_find 52 = .ok (.iaload, 1) := by decide +kernel
theorem dX2_find_53 : decode cX2_find 53 = .ok (.iload_n 1, 1) := by decide +kernel
theorem dX2_find_54 : decode cX2_find 54 = .ok (.if_icmp .ne 10, 3) := by decide +kernel
theorem dX2_find_57 : decode cX2_find 57 = .ok (.iload_n 2, 1) := by decide +kernel
theorem dX2_find_58 : decode cX2_find 58 = .ok (.iconst 4, 1) := by decide +kernel
theorem dX2_find_59 : decode cX2_find 59 = .ok (.imul, 1) := by decide +kernel
theorem dX2_find_60 : decode cX2_find 60 = .ok (.iload 4, 2) := by decide +kernel
theorem dX2_find_62 : decode cX2_find 62 = .ok (.iadd, 1) := by decide +kernel
theorem dX2_find_63 : decode cX2_find 63 = .ok (.ireturn, 1) := by decide +kernel
theorem dX2_find_64 : decode cX2_find 64 = .ok (.iinc 4 1, 3) := by decide +kernel
theorem dX2_find_67 : decode cX2_find 67 = .ok (.goto (-42), 3) := by decide +kernel
theorem dX2_find_70 : decode cX2_find 70 = .ok (.aload_n 0, 1) := by decide +kernel
theorem dX2_find_71 : decode cX2_find 71 = .ok (.getfield 21, 3) := by decide +kernel
theorem dX2_find_74 : decode cX2_find 74 = .ok (.iload_n 2, 1) := by decide +kernel
theorem dX2_find_75 : decode cX2_find 75 = .ok (.iaload, 1) := by decide +kernel
theorem dX2_find_76 : decode cX2_find 76 = .ok (.istore_n 2, 1) := by decide +kernel
theorem dX2_find_77 : decode cX2_find 77 = .ok (.iinc 3 1, 3) := by decide +kernel
theorem dX2_find_80 : decode cX2_find 80 = .ok (.goto (-72), 3) := by decide +kernel
theorem dX2_find_83 : decode cX2_find 83 = .ok (.ldc 37, 2) := by decide +kernel
theorem dX2_find_85 : decode cX2_find 85 = .ok (.ireturn, 1) := by decide +kernel
set_option maxRecDepth 20000 in
theorem ggX2_pagesLookedAt_X2_addressOf : GoodIn wsX2_pagesLookedAt wsX2_addressOf := goodIn_r _ [7, 8, 9, 10, 14, 15, 16, 17, 18, 19, 20, 21, 22, 23, 24] (by decide +kernel) (by decide +kernel)
set_option maxRecDepth 20000 in
theorem gX2_pagesLookedAt_X2_addressOf : GoodIn wsX2_pagesLookedAt (wsV RX2 88 RX2 yX2_addressOf wsX2_addressOf) := goodIn_app (goodIn_of _ (by decide +kernel)) ggX2_pagesLookedAt_X2_addressOf
set_option maxRecDepth 20000 in
theorem ggX2_pagesLookedAt_X3_isPage : GoodIn wsX2_pagesLookedAt wsX3_isPage := goodIn_r _ [13] (by decide +kernel) (by decide +kernel)
set_option maxRecDepth 20000 in
theorem gX2_pagesLookedAt_X3_isPage_n61 : GoodIn wsX2_pagesLookedAt (wsX3_isPage) := ggX2_pagesLookedAt_X3_isPage
theorem dX2_pagesLookedAt_0 : decode cX2_pagesLookedAt 0 = .ok (.aload_n 0, 1) := by decide +kernel
theorem dX2_pagesLookedAt_1 : decode cX2_pagesLookedAt 1 = .ok (.iload_n 1, 1) := by decide +kernel
theorem dX2_pagesLookedAt_2 : decode cX2_pagesLookedAt 2 = .ok (.invokevirtual 88, 3) := by decide +kernel
theorem dX2_pagesLookedAt_5 : decode cX2_pagesLookedAt 5 = .ok (.istore_n 3, 1) := by decide +kernel
theorem dX2_pagesLookedAt_6 : decode cX2_pagesLookedAt 6 = .ok (.iconst 0, 1) := by decide +kernel
theorem dX2_pagesLookedAt_7 : decode cX2_pagesLookedAt 7 = .ok (.istore 4, 2) := by decide +kernel
theorem dX2_pagesLookedAt_9 : decode cX2_pagesLookedAt 9 = .ok (.iload 4, 2) := by decide +kernel
theorem dX2_pagesLookedAt_11 : decode cX2_pagesLookedAt 11 = .ok (.sipush 128, 3) := by decide +kernel
theorem dX2_pagesLookedAt_14 : decode cX2_pagesLookedAt 14 = .ok (.if_icmp .ge 39, 3) := by decide +kernel
theorem dX2_pagesLookedAt_17 : decode cX2_pagesLookedAt 17 = .ok (.iload_n 3, 1) := by decide +kernel
theorem dX2_pagesLookedAt_18 : decode cX2_pagesLookedAt 18 = .ok (.invokestatic 61, 3) := by decide +kernel
theorem dX2_pagesLookedAt_21 : decode cX2_pagesLookedAt 21 = .ok (.ifCond .eq 32, 3) := by decide +kernel
theorem dX2_pagesLookedAt_24 : decode cX2_pagesLookedAt 24 = .ok (.iinc 4 1, 3) := by decide +kernel
theorem dX2_pagesLookedAt_27 : decode cX2_pagesLookedAt 27 = .ok (.iload_n 2, 1) := by decide +kernel
theorem dX2_pagesLookedAt_28 : decode cX2_pagesLookedAt 28 = .ok (.ldc 37, 2) := by decide +kernel
theorem dX2_pagesLookedAt_30 : decode cX2_pagesLookedAt 30 = .ok (.if_icmp .eq 13, 3) := by decide +kernel
theorem dX2_pagesLookedAt_33 : decode cX2_pagesLookedAt 33 = .ok (.iload_n 3, 1) := by decide +kernel
theorem dX2_pagesLookedAt_34 : decode cX2_pagesLookedAt 34 = .ok (.iload_n 2, 1) := by decide +kernel
theorem dX2_pagesLookedAt_35 : decode cX2_pagesLookedAt 35 = .ok (.iconst 4, 1) := by decide +kernel
theorem dX2_pagesLookedAt_36 : decode cX2_pagesLookedAt 36 = .ok (.idiv, 1) := by decide +kernel
theorem dX2_pagesLookedAt_37 : decode cX2_pagesLookedAt 37 = .ok (.if_icmp .ne 6, 3) := by decide +kernel
theorem dX2_pagesLookedAt_40 : decode cX2_pagesLookedAt 40 = .ok (.iload 4, 2) := by decide +kernel
theorem dX2_pagesLookedAt_42 : decode cX2_pagesLookedAt 42 = .ok (.ireturn, 1) := by decide +kernel
theorem dX2_pagesLookedAt_43 : decode cX2_pagesLookedAt 43 = .ok (.aload_n 0, 1) := by decide +kernel
theorem dX2_pagesLookedAt_44 : decode cX2_pagesLookedAt 44 = .ok (.getfield 21, 3) := by decide +kernel
theorem dX2_pagesLookedAt_47 : decode cX2_pagesLookedAt 47 = .ok (.iload_n 3, 1) := by decide +kernel
theorem dX2_pagesLookedAt_48 : decode cX2_pagesLookedAt 48 = .ok (.iaload, 1) := by decide +kernel
theorem dX2_pagesLookedAt_49 : decode cX2_pagesLookedAt 49 = .ok (.istore_n 3, 1) := by decide +kernel
theorem dX2_pagesLookedAt_50 : decode cX2_pagesLookedAt 50 = .ok (.goto (-41), 3) := by decide +kernel
theorem dX2_pagesLookedAt_53 : decode cX2_pagesLookedAt 53 = .ok (.iload 4, 2) := by decide +kernel
theorem dX2_pagesLookedAt_55 : decode cX2_pagesLookedAt 55 = .ok (.ireturn, 1) := by decide +kernel
set_option maxRecDepth 20000 in
theorem ggX2_hasRoomFor_X2_addressOf : GoodIn wsX2_hasRoomFor wsX2_addressOf := goodIn_r _ [6, 7, 8, 9, 31, 32, 33, 34, 35, 36, 37, 38, 39, 40, 41] (by decide +kernel) (by decide +kernel)
set_option maxRecDepth 20000 in
theorem gX2_hasRoomFor_X2_addressOf : GoodIn wsX2_hasRoomFor (wsV RX2 88 RX2 yX2_addressOf wsX2_addressOf) := goodIn_app (goodIn_of _ (by decide +kernel)) ggX2_hasRoomFor_X2_addressOf
set_option maxRecDepth 20000 in
theorem ggX2_hasRoomFor_X2_lastPage : GoodIn wsX2_hasRoomFor wsX2_lastPage := goodIn_r _ [13, 14, 1, 15, 16, 5, 17, 31, 32, 33, 34, 35, 36, 37, 38, 39, 40, 41] (by decide +kernel) (by decide +kernel)
set_option maxRecDepth 20000 in
theorem gX2_hasRoomFor_X2_lastPage : GoodIn wsX2_hasRoomFor (wsV RX2 76 RX2 yX2_lastPage wsX2_lastPage) := goodIn_app (goodIn_of _ (by decide +kernel)) ggX2_hasRoomFor_X2_lastPage
set_option maxRecDepth 20000 in
theorem ggX2_hasRoomFor_X2_entriesOnPage : GoodIn wsX2_hasRoomFor wsX2_entriesOnPage := goodIn_r _ [21, 22, 23, 24, 25, 31, 32, 33, 34, 35, 36, 37, 38, 39, 40, 41] (by decide +kernel) (by decide +kernel)
set_option maxRecDepth 20000 in
theorem gX2_hasRoomFor_X2_entriesOnPage : GoodIn wsX2_hasRoomFor (wsV RX2 79 RX2 yX2_entriesOnPage wsX2_entriesOnPage) := goodIn_app (goodIn_of _ (by decide +kernel)) ggX2_hasRoomFor_X2_entriesOnPage
set_option maxRecDepth 20000 in
theorem ggX2_hasRoomFor_X2_leastFreePage : GoodIn wsX2_hasRoomFor wsX2_leastFreePage := goodIn_r _ [29, 30, 1, 31, 32, 33, 34, 35, 36, 37, 38, 39, 40, 41] (by decide +kernel) (by decide +kernel)
set_option maxRecDepth 20000 in
theorem gX2_hasRoomFor_X2_leastFreePage : GoodIn wsX2_hasRoomFor (wsV RX2 91 RX2 yX2_leastFreePage wsX2_leastFreePage) := goodIn_app (goodIn_of _ (by decide +kernel)) ggX2_hasRoomFor_X2_leastFreePage
theorem dX2_hasRoomFor_0 : decode cX2_hasRoomFor 0 = .ok (.aload_n 0, 1) := by decide +kernel
theorem dX2_hasRoomFor_1 : decode cX2_hasRoomFor 1 = .ok (.aload_n 0, 1) := by decide +kernel
theorem dX2_hasRoomFor_2 : decode cX2_hasRoomFor 2 = .ok (.aload_n 0, 1) := by decide +kernel
theorem dX2_hasRoomFor_3 : decode cX2_hasRoomFor 3 = .ok (.iload_n 1, 1) := by decide +kernel
theorem dX2_hasRoomFor_4 : decode cX2_hasRoomFor 4 = .ok (.invokevirtual 88, 3) := by decide +kernel
theorem dX2_hasRoomFor_7 : decode cX2_hasRoomFor 7 = .ok (.invokevirtual 76, 3) := by decide +kernel
theorem dX2_hasRoomFor_10 : decode cX2_hasRoomFor 10 = .ok (.invokevirtual 79, 3) := by decide +kernel
theorem dX2_hasRoomFor_13 : decode cX2_hasRoomFor 13 = .ok (.iconst 4, 1) := by decide +kernel
theorem dX2_hasRoomFor_14 : decode cX2_hasRoomFor 14 = .ok (.if_icmp .lt 12, 3) := by decide +kernel
theorem dX2_hasRoomFor_17 : decode cX2_hasRoomFor 17 = .ok (.aload_n 0, 1) := by decide +kernel
theorem dX2_hasRoomFor_18 : decode cX2_hasRoomFor 18 = .ok (.invokevirtual 91, 3) := by decide +kernel
theorem dX2_hasRoomFor_21 : decode cX2_hasRoomFor 21 = .ok (.ldc 37, 2) := by decide +kernel
theorem dX2_hasRoomFor_23 : decode cX2_hasRoomFor 23 = .ok (.if_icmp .eq 7, 3) := by decide +kernel
theorem dX2_hasRoomFor_26 : decode cX2_hasRoomFor 26 = .ok (.iconst 1, 1) := by decide +kernel
theorem dX2_hasRoomFor_27 : decode cX2_hasRoomFor 27 = .ok (.goto 4, 3) := by decide +kernel
theorem dX2_hasRoomFor_30 : decode cX2_hasRoomFor 30 = .ok (.iconst 0, 1) := by decide +kernel
theorem dX2_hasRoomFor_31 : decode cX2_hasRoomFor 31 = .ok (.ireturn, 1) := by decide +kernel
set_option maxRecDepth 20000 in
theorem ggX2_carryOut_X2_find : GoodIn wsX2_carryOut wsX2_find := goodIn_r _ [7, 8, 9, 10, 1, 11, 12, 13, 6, 14, 15, 16, 17, 18, 19, 20, 108, 109, 110, 111, 112, 113, 114, 115, 116, 117, 118] (by decide +kernel) (by decide +kernel)
set_option maxRecDepth 20000 in
theorem gX2_carryOut_X2_find : GoodIn wsX2_carryOut (wsV RX2 94 RX2 yX2_find wsX2_find) := goodIn_app (goodIn_of _ (by decide +kernel)) ggX2_carryOut_X2_find
set_option maxRecDepth 20000 in
theorem ggX2_carryOut_X2_addressOf : GoodIn wsX2_carryOut wsX2_addressOf := goodIn_r _ [14, 15, 16, 17, 108, 109, 110, 111, 112, 113, 114, 115, 116, 117, 118] (by decide +kernel) (by decide +kernel)
set_option maxRecDepth 20000 in
theorem gX2_carryOut_X2_addressOf : GoodIn wsX2_carryOut (wsV RX2 88 RX2 yX2_addressOf wsX2_addressOf) := goodIn_app (goodIn_of _ (by decide +kernel)) ggX2_carryOut_X2_addressOf
set_option maxRecDepth 20000 in
theorem ggX2_carryOut_X2_append : GoodIn wsX2_carryOut wsX2_append := goodIn_r _ [24, 8, 9, 25, 2, 26, 27, 28, 6, 29, 30, 1, 31, 32, 33, 34, 35, 36, 37, 18, 19, 20, 38, 39, 40, 41, 10, 42, 43, 44, 45, 46, 47, 108, 109, 110, 111, 112, 113, 114, 115, 116, 117, 118] (by decide +kernel) (by decide +kernel)
set_option maxRecDepth 20000 in
theorem gX2_carryOut_X2_append : GoodIn wsX2_carryOut (wsV RX2 97 RX2 yX2_append wsX2_append) := goodIn_app (goodIn_of _ (by decide +kernel)) ggX2_carryOut_X2_append
set_option maxRecDepth 20000 in
theorem ggX2_carryOut_X2_bucketCount : GoodIn wsX2_carryOut wsX2_bucketCount := goodIn_r _ [51, 16, 17, 108, 109, 110, 111, 112, 113, 114, 115, 116, 117, 118] (by decide +kernel) (by decide +kernel)
set_option maxRecDepth 20000 in
theorem gX2_carryOut_X2_bucketCount : GoodIn wsX2_carryOut (wsV RX2 65 RX2 yX2_bucketCount wsX2_bucketCount) := goodIn_app (goodIn_of _ (by decide +kernel)) ggX2_carryOut_X2_bucketCount
set_option maxRecDepth 20000 in
theorem ggX2_carryOut_X2_grow : GoodIn wsX2_carryOut wsX2_grow := goodIn_r _ [55, 56, 57, 17, 16, 58, 59, 60, 61, 62, 6, 63, 8, 9, 25, 2, 10, 30, 31, 32, 33, 18, 19, 20, 64, 65, 66, 67, 68, 69, 70, 71, 72, 73, 74, 75, 1, 42, 43, 11, 12, 13, 14, 15, 21, 22, 23, 24, 26, 27, 28, 29, 34, 35, 36, 37, 38, 39, 40, 41, 44, 45, 46, 47, 108, 109, 110, 111, 112, 113, 114, 115, 116, 117, 118, 119, 120, 121] (by decide +kernel) (by decide +kernel)
set_option maxRecDepth 20000 in
theorem gX2_carryOut_X2_grow : GoodIn wsX2_carryOut (wsV RX2 101 RX2 yX2_grow wsX2_grow) := goodIn_app (goodIn_of _ (by decide +kernel)) ggX2_carryOut_X2_grow
set_option maxRecDepth 20000 in
theorem ggX2_carryOut_X2_setValue : GoodIn wsX2_carryOut wsX2_setValue := goodIn_r _ [79, 25, 108, 109, 110, 111, 112, 113, 114, 115, 116, 117, 118] (by decide +kernel) (by decide +kernel)
set_option maxRecDepth 20000 in
theorem gX2_carryOut_X2_setValue : GoodIn wsX2_carryOut (wsV RX2 104 RX2 yX2_setValue wsX2_setValue) := goodIn_app (goodIn_of _ (by decide +kernel)) ggX2_carryOut_X2_setValue
set_option maxRecDepth 20000 in
theorem ggX2_carryOut_X2_takeOut : GoodIn wsX2_carryOut wsX2_takeOut := goodIn_r _ [83, 9, 8, 25, 2, 26, 27, 28, 6, 29, 30, 1, 31, 32, 33, 18, 19, 20, 84, 85, 86, 87, 42, 10, 72, 73, 74, 75, 43, 108, 109, 110, 111, 112, 113, 114, 115, 116, 117, 118] (by decide +kernel) (by decide +kernel)
set_option maxRecDepth 20000 in
theorem gX2_carryOut_X2_takeOut : GoodIn wsX2_carryOut (wsV RX2 108 RX2 yX2_takeOut wsX2_takeOut) := goodIn_app (goodIn_of _ (by decide +kernel)) ggX2_carryOut_X2_takeOut
set_option maxRecDepth 20000 in
theorem ggX2_carryOut_X2_shrink : GoodIn wsX2_carryOut wsX2_shrink := goodIn_r _ [91, 17, 16, 56, 57, 58, 59, 48, 49, 50, 6, 51, 92, 93, 94, 95, 96, 97, 98, 99, 100, 101, 102, 103, 10, 18, 19, 20, 26, 27, 28, 29, 30, 1, 31, 32, 33, 34, 35, 36, 37, 8, 104, 105, 106, 107, 43, 60, 61, 62, 63, 9, 25, 2, 64, 65, 66, 67, 68, 69, 70, 71, 72, 73, 74, 75, 42, 21, 22, 23, 24, 38, 39, 40, 41, 44, 45, 46, 47, 108, 109, 110, 111, 112, 113, 114, 115, 116, 117, 118, 119, 120, 121] (by decide +kernel) (by decide +kernel)
set_option maxRecDepth 20000 in
theorem gX2_carryOut_X2_shrink : GoodIn wsX2_carryOut (wsV RX2 111 RX2 yX2_shrink wsX2_shrink) := goodIn_app (goodIn_of _ (by decide +kernel)) ggX2_carryOut_X2_shrink
theorem dX2_carryOut_0 : decode cX2_carryOut 0 = .ok (.aload_n 0, 1) := by decide +kernel
theorem dX2_carryOut_1 : decode cX2_carryOut 1 = .ok (.iload_n 2, 1) := by decide +kernel
theorem dX2_carryOut_2 : decode cX2_carryOut 2 = .ok (.invokevirtual 94, 3) := by decide +kernel
theorem dX2_carryOut_5 : decode cX2_carryOut 5 = .ok (.istore 4, 2) := by decide +kernel
theorem dX2_carryOut_7 : decode cX2_carryOut 7 = .ok (.iload_n 1, 1) := by decide +kernel
theorem dX2_carryOut_8 : decode cX2_carryOut 8 = .ok (.ifCond .ne 50, 3) := by decide +kernel
theorem dX2_carryOut_11 : decode cX2_carryOut 11 = .ok (.iload 4, 2) := by decide +kernel
theorem dX2_carryOut_13 : decode cX2_carryOut 13 = .ok (.ldc 37, 2) := by decide +kernel
theorem dX2_carryOut_15 : decode cX2_carryOut 15 = .ok (.if_icmp .ne 43, 3) := by decide +kernel
theorem dX2_carryOut_18 : decode cX2_carryOut 18 = .ok (.aload_n 0, 1) := by decide +kernel
theorem dX2_carryOut_19 : decode cX2_carryOut 19 = .ok (.aload_n 0, 1) := by decide +kernel
theorem dX2_carryOut_20 : decode cX2_carryOut 20 = .ok (.iload_n 2, 1) := by decide +kernel
theorem dX2_carryOut_21 : decode cX2_carryOut 21 = .ok (.invokevirtual 88, 3) := by decide +kernel
theorem dX2_carryOut_24 : decode cX2_carryOut 24 = .ok (.iload_n 2, 1) := by decide +kernel
theorem dX2_carryOut_25 : decode cX2_carryOut 25 = .ok (.iload_n 3, 1) := by decide +kernel
theorem dX2_carryOut_26 : decode cX2_carryOut 26 = .ok (.invokevirtual 97, 3) := by decide +kernel
theorem dX2_carryOut_29 : decode cX2_carryOut 29 = .ok (.aload_n 0, 1) := by decide +kernel
theorem dX2_carryOut_30 : decode cX2_carryOut 30 = .ok (.getfield 57, 3) := by decide +kernel
theorem dX2_carryOut_33 : decode cX2_carryOut 33 = .ok (.iconst 3, 1) := by decide +kernel
theorem dX2_carryOut_34 : decode cX2_carryOut 34 = .ok (.aload_n 0, 1) := by decide +kernel
theorem dX2_carryOut_35 : decode cX2_carryOut 35 = .ok (.invokevirtual 65, 3) := by decide +kernel
theorem dX2_carryOut_38 : decode cX2_carryOut 38 = .ok (.imul, 1) := by decide +kernel
theorem dX2_carryOut_39 : decode cX2_carryOut 39 = .ok (.if_icmp .le 78, 3) := by decide +kernel
theorem dX2_carryOut_42 : decode cX2_carryOut 42 = .ok (.aload_n 0, 1) := by decide +kernel
theorem dX2_carryOut_43 : decode cX2_carryOut 43 = .ok (.invokevirtual 65, 3) := by decide +kernel
theorem dX2_carryOut_46 : decode cX2_carryOut 46 = .ok (.bipush 64, 2) := by decide +kernel
theorem dX2_carryOut_48 : decode cX2_carryOut 48 = .ok (.if_icmp .ge 69, 3) := by decide +kernel
theorem dX2_carryOut_51 : decode cX2_carryOut 51 = .ok (.aload_n 0, 1) := by decide +kernel
theorem dX2_carryOut_52 : decode cX2_carryOut 52 = .ok (.invokevirtual 101, 3) := by decide +kernel
theorem dX2_carryOut_55 : decode cX2_carryOut 55 = .ok (.goto 62, 3) := by decide +kernel
theorem dX2_carryOut_58 : decode cX2_carryOut 58 = .ok (.iload_n 1, 1) := by decide +kernel
theorem dX2_carryOut_59 : decode cX2_carryOut 59 = .ok (.ifCond .ne 13, 3) := by decide +kernel
theorem dX2_carryOut_62 : decode cX2_carryOut 62 = .ok (.aload_n 0, 1) := by decide +kernel
theorem dX2_carryOut_63 : decode cX2_carryOut 63 = .ok (.iload 4, 2) := by decide +kernel
theorem dX2_carryOut_65 : decode cX2_carryOut 65 = .ok (.iload_n 3, 1) := by decide +kernel
theorem dX2_carryOut_66 : decode cX2_carryOut 66 = .ok (.invokevirtual 104, 3) := by decide +kernel
theorem dX2_carryOut_69 : decode cX2_carryOut 69 = .ok (.goto 48, 3) := by decide +kernel
theorem dX2_carryOut_72 : decode cX2_carryOut 72 = .ok (.iload 4, 2) := by decide +kernel
theorem dX2_carryOut_74 : decode cX2_carryOut 74 = .ok (.ldc 37, 2) := by decide +kernel
theorem dX2_carryOut_76 : decode cX2_carryOut 76 = .ok (.if_icmp .eq 41, 3) := by decide +kernel
theorem dX2_carryOut_79 : decode cX2_carryOut 79 = .ok (.aload_n 0, 1) := by decide +kernel
theorem dX2_carryOut_80 : decode cX2_carryOut 80 = .ok (.aload_n 0, 1) := by decide +kernel
theorem dX2_carryOut_81 : decode cX2_carryOut 81 = .ok (.iload_n 2, 1) := by decide +kernel
theorem dX2_carryOut_82 : decode cX2_carryOut 82 = .ok (.invokevirtual 88, 3) := by decide +kernel
theorem dX2_carryOut_85 : decode cX2_carryOut 85 = .ok (.iload 4, 2) := by decide +kernel
theorem dX2_carryOut_87 : decode cX2_carryOut 87 = .ok (.invokevirtual 108, 3) := by decide +kernel
theorem dX2_carryOut_90 : decode cX2_carryOut 90 = .ok (.aload_n 0, 1) := by decide +kernel
theorem dX2_carryOut_91 : decode cX2_carryOut 91 = .ok (.invokevirtual 65, 3) := by decide +kernel
theorem dX2_carryOut_94 : decode cX2_carryOut 94 = .ok (.iconst 4, 1) := by decide +kernel
theorem dX2_carryOut_95 : decode cX2_carryOut 95 = .ok (.if_icmp .le 22, 3) := by decide +kernel
theorem dX2_carryOut_98 : decode cX2_carryOut 98 = .ok (.iconst 2, 1) := by decide +kernel
theorem dX2_carryOut_99 : decode cX2_carryOut 99 = .ok (.aload_n 0, 1) := by decide +kernel
theorem dX2_carryOut_100 : decode cX2_carryOut 100 = .ok (.getfield 57, 3) := by decide +kernel
theorem dX2_carryOut_103 : decode cX2_carryOut 103 = .ok (.imul, 1) := by decide +kernel
theorem dX2_carryOut_104 : decode cX2_carryOut 104 = .ok (.iconst 3, 1) := by decide +kernel
theorem dX2_carryOut_105 : decode cX2_carryOut 105 = .ok (.aload_n 0, 1) := by decide +kernel
theorem dX2_carryOut_106 : decode cX2_carryOut 106 = .ok (.invokevirtual 65, 3) := by decide +kernel
theorem dX2_carryOut_109 : decode cX2_carryOut 109 = .ok (.imul, 1) := by decide +kernel
theorem dX2_carryOut_110 : decode cX2_carryOut 110 = .ok (.if_icmp .ge 7, 3) := by decide +kernel
theorem dX2_carryOut_113 : decode cX2_carryOut 113 = .ok (.aload_n 0, 1) := by decide +kernel
theorem dX2_carryOut_114 : decode cX2_carryOut 114 = .ok (.invokevirtual 111, 3) := by decide +kernel
theorem dX2_carryOut_117 : decode cX2_carryOut 117 = .ok (.return_, 1) := by decide +kernel
theorem dX2_setValue_0 : decode cX2_setValue 0 = .ok (.iload_n 1, 1) := by decide +kernel
theorem dX2_setValue_1 : decode cX2_setValue 1 = .ok (.ifCond .lt 19, 3) := by decide +kernel
theorem dX2_setValue_4 : decode cX2_setValue 4 = .ok (.iload_n 1, 1) := by decide +kernel
theorem dX2_setValue_5 : decode cX2_setValue 5 = .ok (.aload_n 0, 1) := by decide +kernel
theorem dX2_setValue_6 : decode cX2_setValue 6 = .ok (.getfield 15, 3) := by decide +kernel
theorem dX2_setValue_9 : decode cX2_setValue 9 = .ok (.arraylength, 1) := by decide +kernel
theorem dX2_setValue_10 : decode cX2_setValue 10 = .ok (.if_icmp .ge 10, 3) := by decide +kernel
theorem dX2_setValue_13 : decode cX2_setValue 13 = .ok (.aload_n 0, 1) := by decide +kernel
theorem dX2_setValue_14 : decode cX2_setValue 14 = .ok (.getfield 15, 3) := by decide +kernel
theorem dX2_setValue_17 : decode cX2_setValue 17 = .ok (.iload_n 1, 1) := by decide +kernel
theorem dX2_setValue_18 : decode cX2_setValue 18 = .ok (.iload_n 2, 1) := by decide +kernel
theorem dX2_setValue_19 : decode cX2_setValue 19 = .ok (.iastore, 1) := by decide +kernel
theorem dX2_setValue_20 : decode cX2_setValue 20 = .ok (.return_, 1) := by decide +kernel
set_option maxRecDepth 20000 in
theorem ggX2_grow_X2_setAside : GoodIn wsX2_grow wsX2_setAside := goodIn_r _ [11, 12, 1, 13, 14, 15, 16, 17, 18, 19, 10, 20, 21, 22, 23, 24, 25, 26, 27, 28, 29, 30, 31, 32, 33, 34, 35, 36, 37, 38, 64, 65, 66, 67, 68, 69, 70, 71, 72, 73, 74, 75, 76, 77] (by decide +kernel) (by decide +kernel)
set_option maxRecDepth 20000 in
theorem gX2_grow_X2_setAside : GoodIn wsX2_grow (wsV RX2 119 RX2 yX2_setAside wsX2_setAside) := goodIn_app (goodIn_of _ (by decide +kernel)) ggX2_grow_X2_setAside
end
section
set_option maxRecDepth 20000 in
theorem ggX2_grow_X2_addressOf : GoodIn wsX2_grow wsX2_addressOf := goodIn_r _ [42, 43, 4, 3, 64, 65, 66, 67, 68, 69, 70, 71, 72, 73, 74] (by decide +kernel) (by decide +kernel)
set_option maxRecDepth 20000 in
theorem gX2_grow_X2_addressOf : GoodIn wsX2_grow (wsV RX2 88 RX2 yX2_addressOf wsX2_addressOf) := goodIn_app (goodIn_of _ (by decide +kernel)) ggX2_grow_X2_addressOf
set_option maxRecDepth 20000 in
theorem ggX2_grow_X2_append : GoodIn wsX2_grow wsX2_append := goodIn_r _ [47, 12, 13, 14, 15, 48, 49, 50, 10, 51, 17, 36, 18, 19, 20, 52, 53, 54, 55, 21, 22, 23, 56, 57, 58, 59, 16, 37, 38, 60, 61, 62, 63, 64, 65, 66, 67, 68, 69, 70, 71, 72, 73, 74] (by decide +kernel) (by decide +kernel)
set_option maxRecDepth 20000 in
theorem gX2_grow_X2_append : GoodIn wsX2_grow (wsV RX2 97 RX2 yX2_append wsX2_append) := goodIn_app (goodIn_of _ (by decide +kernel)) ggX2_grow_X2_append
theorem dX2_grow_0 : decode cX2_grow 0 = .ok (.aload_n 0, 1) := by decide +kernel
theorem dX2_grow_1 : decode cX2_grow 1 = .ok (.getfield 33, 3) := by decide +kernel
theorem dX2_grow_4 : decode cX2_grow 4 = .ok (.iconst 0, 1) := by decide +kernel
theorem dX2_grow_5 : decode cX2_grow 5 = .ok (.putfield 114, 3) := by decide +kernel
theorem dX2_grow_8 : decode cX2_grow 8 = .ok (.aload_n 0, 1) := by decide +kernel
theorem dX2_grow_9 : decode cX2_grow 9 = .ok (.aload_n 0, 1) := by decide +kernel
theorem dX2_grow_10 : decode cX2_grow 10 = .ok (.getfield 54, 3) := by decide +kernel
theorem dX2_grow_13 : decode cX2_grow 13 = .ok (.invokevirtual 119, 3) := by decide +kernel
theorem dX2_grow_16 : decode cX2_grow 16 = .ok (.aload_n 0, 1) := by decide +kernel
theorem dX2_grow_17 : decode cX2_grow 17 = .ok (.dup, 1) := by decide +kernel
theorem dX2_grow_18 : decode cX2_grow 18 = .ok (.getfield 54, 3) := by decide +kernel
theorem dX2_grow_21 : decode cX2_grow 21 = .ok (.iconst 1, 1) := by decide +kernel
theorem dX2_grow_22 : decode cX2_grow 22 = .ok (.iadd, 1) := by decide +kernel
theorem dX2_grow_23 : decode cX2_grow 23 = .ok (.putfield 54, 3) := by decide +kernel
theorem dX2_grow_26 : decode cX2_grow 26 = .ok (.aload_n 0, 1) := by decide +kernel
theorem dX2_grow_27 : decode cX2_grow 27 = .ok (.getfield 54, 3) := by decide +kernel
theorem dX2_grow_30 : decode cX2_grow 30 = .ok (.iconst 4, 1) := by decide +kernel
theorem dX2_grow_31 : decode cX2_grow 31 = .ok (.aload_n 0, 1) := by decide +kernel
theorem dX2_grow_32 : decode cX2_grow 32 = .ok (.getfield 50, 3) := by decide +kernel
theorem dX2_grow_35 : decode cX2_grow 35 = .ok (.ishl, 1) := by decide +kernel
theorem dX2_grow_36 : decode cX2_grow 36 = .ok (.if_icmp .ne 18, 3) := by decide +kernel
theorem dX2_grow_39 : decode cX2_grow 39 = .ok (.aload_n 0, 1) := by decide +kernel
theorem dX2_grow_40 : decode cX2_grow 40 = .ok (.iconst 0, 1) := by decide +kernel
theorem dX2_grow_41 : decode cX2_grow 41 = .ok (.putfield 54, 3) := by decide +kernel
theorem dX2_grow_44 : decode cX2_grow 44 = .ok (.aload_n 0, 1) := by decide +kernel
theorem dX2_grow_45 : decode cX2_grow 45 = .ok (.dup, 1) := by decide +kernel
theorem dX2_grow_46 : decode cX2_grow 46 = .ok (.getfield 50, 3) := by decide +kernel
theorem dX2_grow_49 : decode cX2_grow 49 = .ok (.iconst 1, 1) := by decide +kernel
theorem dX2_grow_50 : decode cX2_grow 50 = .ok (.iadd, 1) := by decide +kernel
theorem dX2_grow_51 : decode cX2_grow 51 = .ok (.putfield 50, 3) := by decide +kernel
theorem dX2_grow_54 : decode cX2_grow 54 = .ok (.iconst 0, 1) := by decide +kernel
theorem dX2_grow_55 : decode cX2_grow 55 = .ok (.istore_n 1, 1) := by decide +kernel
theorem dX2_grow_56 : decode cX2_grow 56 = .ok (.iload_n 1, 1) := by decide +kernel
theorem dX2_grow_57 : decode cX2_grow 57 = .ok (.aload_n 0, 1) := by decide +kernel
theorem dX2_grow_58 : decode cX2_grow 58 = .ok (.getfield 33, 3) := by decide +kernel
theorem dX2_grow_61 : decode cX2_grow 61 = .ok (.getfield 114, 3) := by decide +kernel
theorem dX2_grow_64 : decode cX2_grow 64 = .ok (.if_icmp .ge 51, 3) := by decide +kernel
theorem dX2_grow_67 : decode cX2_grow 67 = .ok (.iload_n 1, 1) := by decide +kernel
theorem dX2_grow_68 : decode cX2_grow 68 = .ok (.sipush 264, 3) := by decide +kernel
theorem dX2_grow_71 : decode cX2_grow 71 = .ok (.if_icmp .ge 44, 3) := by decide +kernel
theorem dX2_grow_74 : decode cX2_grow 74 = .ok (.aload_n 0, 1) := by decide +kernel
theorem dX2_grow_75 : decode cX2_grow 75 = .ok (.aload_n 0, 1) := by decide +kernel
theorem dX2_grow_76 : decode cX2_grow 76 = .ok (.aload_n 0, 1) := by decide +kernel
theorem dX2_grow_77 : decode cX2_grow 77 = .ok (.getfield 33, 3) := by decide +kernel
theorem dX2_grow_80 : decode cX2_grow 80 = .ok (.getfield 123, 3) := by decide +kernel
theorem dX2_grow_83 : decode cX2_grow 83 = .ok (.iload_n 1, 1) := by decide +kernel
theorem dX2_grow_84 : decode cX2_grow 84 = .ok (.iaload, 1) := by decide +kernel
theorem dX2_grow_85 : decode cX2_grow 85 = .ok (.invokevirtual 88, 3) := by decide +kernel
theorem dX2_grow_88 : decode cX2_grow 88 = .ok (.aload_n 0, 1) := by decide +kernel
theorem dX2_grow_89 : decode cX2_grow 89 = .ok (.getfield 33, 3) := by decide +kernel
theorem dX2_grow_92 : decode cX2_grow 92 = .ok (.getfield 123, 3) := by decide +kernel
theorem dX2_grow_95 : decode cX2_grow 95 = .ok (.iload_n 1, 1) := by decide +kernel
theorem dX2_grow_96 : decode cX2_grow 96 = .ok (.iaload, 1) := by decide +kernel
theorem dX2_grow_97 : decode cX2_grow 97 = .ok (.aload_n 0, 1) := by decide +kernel
theorem dX2_grow_98 : decode cX2_grow 98 = .ok (.getfield 33, 3) := by decide +kernel
theorem dX2_grow_101 : decode cX2_grow 101 = .ok (.getfield 124, 3) := by decide +kernel
theorem dX2_grow_104 : decode cX2_grow 104 = .ok (.iload_n 1, 1) := by decide +kernel
theorem dX2_grow_105 : decode cX2_grow 105 = .ok (.iaload, 1) := by decide +kernel
theorem dX2_grow_106 : decode cX2_grow 106 = .ok (.invokevirtual 97, 3) := by decide +kernel
theorem dX2_grow_109 : decode cX2_grow 109 = .ok (.iinc 1 1, 3) := by decide +kernel
theorem dX2_grow_112 : decode cX2_grow 112 = .ok (.goto (-56), 3) := by decide +kernel
theorem dX2_grow_115 : decode cX2_grow 115 = .ok (.return_, 1) := by decide +kernel
set_option maxRecDepth 20000 in
theorem ggX2_shrink_X2_bucketCount : GoodIn wsX2_shrink wsX2_bucketCount := goodIn_r _ [11, 2, 1, 79, 80, 81, 82, 83, 84, 85, 86, 87, 88, 89] (by decide +kernel) (by decide +kernel)
set_option maxRecDepth 20000 in
theorem gX2_shrink_X2_bucketCount : GoodIn wsX2_shrink (wsV RX2 65 RX2 yX2_bucketCount wsX2_bucketCount) := goodIn_app (goodIn_of _ (by decide +kernel)) ggX2_shrink_X2_bucketCount
set_option maxRecDepth 20000 in
theorem ggX2_shrink_X2_canJoin : GoodIn wsX2_shrink wsX2_canJoin := goodIn_r _ [15, 16, 17, 18, 19, 20, 21, 22, 10, 23, 24, 25, 26, 27, 28, 29, 30, 31, 32, 33, 34, 35, 36, 37, 38, 39, 40, 41, 42, 43, 44, 45, 46, 79, 80, 81, 82, 83, 84, 85, 86, 87, 88, 89] (by decide +kernel) (by decide +kernel)
set_option maxRecDepth 20000 in
theorem gX2_shrink_X2_canJoin : GoodIn wsX2_shrink (wsV RX2 125 RX2 yX2_canJoin wsX2_canJoin) := goodIn_app (goodIn_of _ (by decide +kernel)) ggX2_shrink_X2_canJoin
set_option maxRecDepth 20000 in
theorem ggX2_shrink_X2_setAside : GoodIn wsX2_shrink wsX2_setAside := goodIn_r _ [50, 41, 3, 51, 52, 53, 24, 32, 34, 35, 10, 36, 25, 26, 27, 54, 55, 56, 57, 58, 59, 60, 61, 62, 63, 64, 65, 33, 66, 46, 79, 80, 81, 82, 83, 84, 85, 86, 87, 88, 89, 90, 91, 92] (by decide +kernel) (by decide +kernel)
set_option maxRecDepth 20000 in
theorem gX2_shrink_X2_setAside : GoodIn wsX2_shrink (wsV RX2 119 RX2 yX2_setAside wsX2_setAside) := goodIn_app (goodIn_of _ (by decide +kernel)) ggX2_shrink_X2_setAside
set_option maxRecDepth 20000 in
theorem ggX2_shrink_X2_append : GoodIn wsX2_shrink wsX2_append := goodIn_r _ [70, 41, 51, 52, 53, 28, 29, 30, 10, 31, 32, 33, 34, 35, 36, 37, 38, 39, 40, 25, 26, 27, 71, 72, 73, 74, 24, 66, 46, 75, 76, 77, 78, 79, 80, 81, 82, 83, 84, 85, 86, 87, 88, 89] (by decide +kernel) (by decide +kernel)
set_option maxRecDepth 20000 in
theorem gX2_shrink_X2_append : GoodIn wsX2_shrink (wsV RX2 97 RX2 yX2_append wsX2_append) := goodIn_app (goodIn_of _ (by decide +kernel)) ggX2_shrink_X2_append
theorem dX2_shrink_0 : decode cX2_shrink 0 = .ok (.aload_n 0, 1) := by decide +kernel
theorem dX2_shrink_1 : decode cX2_shrink 1 = .ok (.invokevirtual 65, 3) := by decide +kernel
theorem dX2_shrink_4 : decode cX2_shrink 4 = .ok (.iconst 1, 1) := by decide +kernel
theorem dX2_shrink_5 : decode cX2_shrink 5 = .ok (.isub, 1) := by decide +kernel
theorem dX2_shrink_6 : decode cX2_shrink 6 = .ok (.istore_n 1, 1) := by decide +kernel
theorem dX2_shrink_7 : decode cX2_shrink 7 = .ok (.aload_n 0, 1) := by decide +kernel
theorem dX2_shrink_8 : decode cX2_shrink 8 = .ok (.getfield 54, 3) := by decide +kernel
theorem dX2_shrink_11 : decode cX2_shrink 11 = .ok (.ifCond .ne 12, 3) := by decide +kernel
theorem dX2_shrink_14 : decode cX2_shrink 14 = .ok (.aload_n 0, 1) := by decide +kernel
theorem dX2_shrink_15 : decode cX2_shrink 15 = .ok (.getfield 50, 3) := by decide +kernel
theorem dX2_shrink_18 : decode cX2_shrink 18 = .ok (.iconst 1, 1) := by decide +kernel
theorem dX2_shrink_19 : decode cX2_shrink 19 = .ok (.isub, 1) := by decide +kernel
theorem dX2_shrink_20 : decode cX2_shrink 20 = .ok (.goto 7, 3) := by decide +kernel
theorem dX2_shrink_23 : decode cX2_shrink 23 = .ok (.aload_n 0, 1) := by decide +kernel
theorem dX2_shrink_24 : decode cX2_shrink 24 = .ok (.getfield 50, 3) := by decide +kernel
theorem dX2_shrink_27 : decode cX2_shrink 27 = .ok (.istore_n 2, 1) := by decide +kernel
theorem dX2_shrink_28 : decode cX2_shrink 28 = .ok (.iload_n 1, 1) := by decide +kernel
theorem dX2_shrink_29 : decode cX2_shrink 29 = .ok (.iconst 4, 1) := by decide +kernel
theorem dX2_shrink_30 : decode cX2_shrink 30 = .ok (.iload_n 2, 1) := by decide +kernel
theorem dX2_shrink_31 : decode cX2_shrink 31 = .ok (.ishl, 1) := by decide +kernel
theorem dX2_shrink_32 : decode cX2_shrink 32 = .ok (.isub, 1) := by decide +kernel
theorem dX2_shrink_33 : decode cX2_shrink 33 = .ok (.istore_n 3, 1) := by decide +kernel
theorem dX2_shrink_34 : decode cX2_shrink 34 = .ok (.aload_n 0, 1) := by decide +kernel
theorem dX2_shrink_35 : decode cX2_shrink 35 = .ok (.iload_n 3, 1) := by decide +kernel
theorem dX2_shrink_36 : decode cX2_shrink 36 = .ok (.iload_n 1, 1) := by decide +kernel
theorem dX2_shrink_37 : decode cX2_shrink 37 = .ok (.invokevirtual 125, 3) := by decide +kernel
theorem dX2_shrink_40 : decode cX2_shrink 40 = .ok (.ifCond .ne 4, 3) := by decide +kernel
theorem dX2_shrink_43 : decode cX2_shrink 43 = .ok (.return_, 1) := by decide +kernel
theorem dX2_shrink_44 : decode cX2_shrink 44 = .ok (.aload_n 0, 1) := by decide +kernel
theorem dX2_shrink_45 : decode cX2_shrink 45 = .ok (.iload_n 2, 1) := by decide +kernel
theorem dX2_shrink_46 : decode cX2_shrink 46 = .ok (.putfield 50, 3) := by decide +kernel
theorem dX2_shrink_49 : decode cX2_shrink 49 = .ok (.aload_n 0, 1) := by decide +kernel
theorem dX2_shrink_50 : decode cX2_shrink 50 = .ok (.iload_n 3, 1) := by decide +kernel
theorem dX2_shrink_51 : decode cX2_shrink 51 = .ok (.putfield 54, 3) := by decide +kernel
theorem dX2_shrink_54 : decode cX2_shrink 54 = .ok (.aload_n 0, 1) := by decide +kernel
theorem dX2_shrink_55 : decode cX2_shrink 55 = .ok (.getfield 33, 3) := by decide +kernel
theorem dX2_shrink_58 : decode cX2_shrink 58 = .ok (.iconst 0, 1) := by decide +kernel
theorem dX2_shrink_59 : decode cX2_shrink 59 = .ok (.putfield 114, 3) := by decide +kernel
theorem dX2_shrink_62 : decode cX2_shrink 62 = .ok (.aload_n 0, 1) := by decide +kernel
theorem dX2_shrink_63 : decode cX2_shrink 63 = .ok (.iload_n 3, 1) := by decide +kernel
theorem dX2_shrink_64 : decode cX2_shrink 64 = .ok (.invokevirtual 119, 3) := by decide +kernel
theorem dX2_shrink_67 : decode cX2_shrink 67 = .ok (.aload_n 0, 1) := by decide +kernel
theorem dX2_shrink_68 : decode cX2_shrink 68 = .ok (.iload_n 1, 1) := by decide +kernel
theorem dX2_shrink_69 : decode cX2_shrink 69 = .ok (.invokevirtual 119, 3) := by decide +kernel
theorem dX2_shrink_72 : decode cX2_shrink 72 = .ok (.iconst 0, 1) := by decide +kernel
theorem dX2_shrink_73 : decode cX2_shrink 73 = .ok (.istore 4, 2) := by decide +kernel
theorem dX2_shrink_75 : decode cX2_shrink 75 = .ok (.iload 4, 2) := by decide +kernel
theorem dX2_shrink_77 : decode cX2_shrink 77 = .ok (.aload_n 0, 1) := by decide +kernel
theorem dX2_shrink_78 : decode cX2_shrink 78 = .ok (.getfield 33, 3) := by decide +kernel
theorem dX2_shrink_81 : decode cX2_shrink 81 = .ok (.getfield 114, 3) := by decide +kernel
theorem dX2_shrink_84 : decode cX2_shrink 84 = .ok (.if_icmp .ge 42, 3) := by decide +kernel
theorem dX2_shrink_87 : decode cX2_shrink 87 = .ok (.iload 4, 2) := by decide +kernel
theorem dX2_shrink_89 : decode cX2_shrink 89 = .ok (.sipush 264, 3) := by decide +kernel
theorem dX2_shrink_92 : decode cX2_shrink 92 = .ok (.if_icmp .ge 34, 3) := by decide +kernel
theorem dX2_shrink_95 : decode cX2_shrink 95 = .ok (.aload_n 0, 1) := by decide +kernel
theorem dX2_shrink_96 : decode cX2_shrink 96 = .ok (.iload_n 3, 1) := by decide +kernel
theorem dX2_shrink_97 : decode cX2_shrink 97 = .ok (.aload_n 0, 1) := by decide +kernel
theorem dX2_shrink_98 : decode cX2_shrink 98 = .ok (.getfield 33, 3) := by decide +kernel
theorem dX2_shrink_101 : decode cX2_shrink 101 = .ok (.getfield 123, 3) := by decide +kernel
theorem dX2_shrink_104 : decode cX2_shrink 104 = .ok (.iload 4, 2) := by decide +kernel
theorem dX2_shrink_106 : decode cX2_shrink 106 = .ok (.iaload, 1) := by decide +kernel
theorem dX2_shrink_107 : decode cX2_shrink 107 = .ok (.aload_n 0, 1) := by decide +kernel
theorem dX2_shrink_108 : decode cX2_shrink 108 = .ok (.getfield 33, 3) := by decide +kernel
theorem dX2_shrink_111 : decode cX2_shrink 111 = .ok (.getfield 124, 3) := by decide +kernel
theorem dX2_shrink_114 : decode cX2_shrink 114 = .ok (.iload 4, 2) := by decide +kernel
theorem dX2_shrink_116 : decode cX2_shrink 116 = .ok (.iaload, 1) := by decide +kernel
theorem dX2_shrink_117 : decode cX2_shrink 117 = .ok (.invokevirtual 97, 3) := by decide +kernel
theorem dX2_shrink_120 : decode cX2_shrink 120 = .ok (.iinc 4 1, 3) := by decide +kernel
theorem dX2_shrink_123 : decode cX2_shrink 123 = .ok (.goto (-48), 3) := by decide +kernel
theorem dX2_shrink_126 : decode cX2_shrink 126 = .ok (.return_, 1) := by decide +kernel
set_option maxRecDepth 20000 in
theorem ggX2_canJoin_X2_pagesInChain : GoodIn wsX2_canJoin wsX2_pagesInChain := goodIn_r _ [9, 10, 11, 12, 13, 33, 34, 35, 36, 37, 38, 39, 40, 41, 42, 43] (by decide +kernel) (by decide +kernel)
set_option maxRecDepth 20000 in
theorem gX2_canJoin_X2_pagesInChain : GoodIn wsX2_canJoin (wsV RX2 72 RX2 yX2_pagesInChain wsX2_pagesInChain) := goodIn_app (goodIn_of _ (by decide +kernel)) ggX2_canJoin_X2_pagesInChain
set_option maxRecDepth 20000 in
theorem ggX2_canJoin_X2_lastPage : GoodIn wsX2_canJoin wsX2_lastPage := goodIn_r _ [17, 18, 19, 20, 21, 8, 22, 33, 34, 35, 36, 37, 38, 39, 40, 41, 42, 43] (by decide +kernel) (by decide +kernel)
set_option maxRecDepth 20000 in
theorem gX2_canJoin_X2_lastPage : GoodIn wsX2_canJoin (wsV RX2 76 RX2 yX2_lastPage wsX2_lastPage) := goodIn_app (goodIn_of _ (by decide +kernel)) ggX2_canJoin_X2_lastPage
set_option maxRecDepth 20000 in
theorem ggX2_canJoin_X2_entriesOnPage : GoodIn wsX2_canJoin wsX2_entriesOnPage := goodIn_r _ [26, 27, 11, 12, 13, 33, 34, 35, 36, 37, 38, 39, 40, 41, 42, 43] (by decide +kernel) (by decide +kernel)
set_option maxRecDepth 20000 in
theorem gX2_canJoin_X2_entriesOnPage : GoodIn wsX2_canJoin (wsV RX2 79 RX2 yX2_entriesOnPage wsX2_entriesOnPage) := goodIn_app (goodIn_of _ (by decide +kernel)) ggX2_canJoin_X2_entriesOnPage
set_option maxRecDepth 20000 in
theorem ggX2_canJoin_X2_freePages : GoodIn wsX2_canJoin wsX2_freePages := goodIn_r _ [31, 32, 19, 33, 34, 35, 36, 37, 38, 39, 40, 41, 42, 43] (by decide +kernel) (by decide +kernel)
set_option maxRecDepth 20000 in
theorem gX2_canJoin_X2_freePages : GoodIn wsX2_canJoin (wsV RX2 129 RX2 yX2_freePages wsX2_freePages) := goodIn_app (goodIn_of _ (by decide +kernel)) ggX2_canJoin_X2_freePages
theorem dX2_canJoin_0 : decode cX2_canJoin 0 = .ok (.aload_n 0, 1) := by decide +kernel
theorem dX2_canJoin_1 : decode cX2_canJoin 1 = .ok (.iload_n 1, 1) := by decide +kernel
theorem dX2_canJoin_2 : decode cX2_canJoin 2 = .ok (.invokevirtual 72, 3) := by decide +kernel
theorem dX2_canJoin_5 : decode cX2_canJoin 5 = .ok (.aload_n 0, 1) := by decide +kernel
theorem dX2_canJoin_6 : decode cX2_canJoin 6 = .ok (.iload_n 2, 1) := by decide +kernel
theorem dX2_canJoin_7 : decode cX2_canJoin 7 = .ok (.invokevirtual 72, 3) := by decide +kernel
theorem dX2_canJoin_10 : decode cX2_canJoin 10 = .ok (.iadd, 1) := by decide +kernel
theorem dX2_canJoin_11 : decode cX2_canJoin 11 = .ok (.iconst 2, 1) := by decide +kernel
theorem dX2_canJoin_12 : decode cX2_canJoin 12 = .ok (.isub, 1) := by decide +kernel
theorem dX2_canJoin_13 : decode cX2_canJoin 13 = .ok (.istore_n 3, 1) := by decide +kernel
theorem dX2_canJoin_14 : decode cX2_canJoin 14 = .ok (.iload_n 3, 1) := by decide +kernel
theorem dX2_canJoin_15 : decode cX2_canJoin 15 = .ok (.iconst 4, 1) := by decide +kernel
theorem dX2_canJoin_16 : decode cX2_canJoin 16 = .ok (.imul, 1) := by decide +kernel
theorem dX2_canJoin_17 : decode cX2_canJoin 17 = .ok (.aload_n 0, 1) := by decide +kernel
theorem dX2_canJoin_18 : decode cX2_canJoin 18 = .ok (.aload_n 0, 1) := by decide +kernel
theorem dX2_canJoin_19 : decode cX2_canJoin 19 = .ok (.iload_n 1, 1) := by decide +kernel
theorem dX2_canJoin_20 : decode cX2_canJoin 20 = .ok (.invokevirtual 76, 3) := by decide +kernel
theorem dX2_canJoin_23 : decode cX2_canJoin 23 = .ok (.invokevirtual 79, 3) := by decide +kernel
theorem dX2_canJoin_26 : decode cX2_canJoin 26 = .ok (.iadd, 1) := by decide +kernel
theorem dX2_canJoin_27 : decode cX2_canJoin 27 = .ok (.aload_n 0, 1) := by decide +kernel
theorem dX2_canJoin_28 : decode cX2_canJoin 28 = .ok (.aload_n 0, 1) := by decide +kernel
theorem dX2_canJoin_29 : decode cX2_canJoin 29 = .ok (.iload_n 2, 1) := by decide +kernel
theorem dX2_canJoin_30 : decode cX2_canJoin 30 = .ok (.invokevirtual 76, 3) := by decide +kernel
theorem dX2_canJoin_33 : decode cX2_canJoin 33 = .ok (.invokevirtual 79, 3) := by decide +kernel
theorem dX2_canJoin_36 : decode cX2_canJoin 36 = .ok (.iadd, 1) := by decide +kernel
theorem dX2_canJoin_37 : decode cX2_canJoin 37 = .ok (.istore 4, 2) := by decide +kernel
theorem dX2_canJoin_39 : decode cX2_canJoin 39 = .ok (.iconst 0, 1) := by decide +kernel
theorem dX2_canJoin_40 : decode cX2_canJoin 40 = .ok (.iload 4, 2) := by decide +kernel
theorem dX2_canJoin_42 : decode cX2_canJoin 42 = .ok (.iconst 4, 1) := by decide +kernel
theorem dX2_canJoin_43 : decode cX2_canJoin 43 = .ok (.iadd, 1) := by decide +kernel
theorem dX2_canJoin_44 : decode cX2_canJoin 44 = .ok (.iconst 1, 1) := by decide +kernel
theorem dX2_canJoin_45 : decode cX2_canJoin 45 = .ok (.isub, 1) := by decide +kernel
theorem dX2_canJoin_46 : decode cX2_canJoin 46 = .ok (.iconst 4, 1) := by decide +kernel
theorem dX2_canJoin_47 : decode cX2_canJoin 47 = .ok (.idiv, 1) := by decide +kernel
theorem dX2_canJoin_48 : decode cX2_canJoin 48 = .ok (.iconst 1, 1) := by decide +kernel
theorem dX2_canJoin_49 : decode cX2_canJoin 49 = .ok (.isub, 1) := by decide +kernel
theorem dX2_canJoin_50 : decode cX2_canJoin 50 = .ok (.invokestatic 82, 3) := by decide +kernel
theorem dX2_canJoin_53 : decode cX2_canJoin 53 = .ok (.istore 5, 2) := by decide +kernel
theorem dX2_canJoin_55 : decode cX2_canJoin 55 = .ok (.iload 5, 2) := by decide +kernel
theorem dX2_canJoin_57 : decode cX2_canJoin 57 = .ok (.aload_n 0, 1) := by decide +kernel
theorem dX2_canJoin_58 : decode cX2_canJoin 58 = .ok (.invokevirtual 129, 3) := by decide +kernel
theorem dX2_canJoin_61 : decode cX2_canJoin 61 = .ok (.iload_n 3, 1) := by decide +kernel
theorem dX2_canJoin_62 : decode cX2_canJoin 62 = .ok (.iadd, 1) := by decide +kernel
theorem dX2_canJoin_63 : decode cX2_canJoin 63 = .ok (.if_icmp .gt 7, 3) := by decide +kernel
theorem dX2_canJoin_66 : decode cX2_canJoin 66 = .ok (.iconst 1, 1) := by decide +kernel
theorem dX2_canJoin_67 : decode cX2_canJoin 67 = .ok (.goto 4, 3) := by decide +kernel
theorem dX2_canJoin_70 : decode cX2_canJoin 70 = .ok (.iconst 0, 1) := by decide +kernel
theorem dX2_canJoin_71 : decode cX2_canJoin 71 = .ok (.ireturn, 1) := by decide +kernel
set_option maxRecDepth 20000 in
theorem ggX2_setAside_X2_isBucketPlace : GoodIn wsX2_setAside wsX2_isBucketPlace := goodIn_r _ [11] (by decide +kernel) (by decide +kernel)
set_option maxRecDepth 20000 in
theorem gX2_setAside_X2_isBucketPlace : GoodIn wsX2_setAside (va_wsS RX2 69 yX2_isBucketPlace wsX2_isBucketPlace) := goodIn_app (goodIn_of _ (by decide +kernel)) ggX2_setAside_X2_isBucketPlace
set_option maxRecDepth 20000 in
theorem ggX2_setAside_X3_isPage : GoodIn wsX2_setAside wsX3_isPage := goodIn_r _ [14] (by decide +kernel) (by decide +kernel)
set_option maxRecDepth 20000 in
theorem gX2_setAside_X3_isPage_n61 : GoodIn wsX2_setAside (wsX3_isPage) := ggX2_setAside_X3_isPage
set_option maxRecDepth 20000 in
theorem ggX2_setAside_X0_push : GoodIn wsX2_setAside wsX0_push := goodIn_r _ [19, 20, 21, 22, 41, 42, 43] (by decide +kernel) (by decide +kernel)
set_option maxRecDepth 20000 in
theorem gX2_setAside_X0_push : GoodIn wsX2_setAside (wsV RX2 132 RX0 yX0_push wsX0_push) := goodIn_app (goodIn_of _ (by decide +kernel)) ggX2_setAside_X0_push
set_option maxRecDepth 20000 in
theorem ggX2_setAside_X2_clearPage : GoodIn wsX2_setAside wsX2_clearPage := goodIn_r _ [26, 1, 6, 27, 28, 29, 12, 13, 14, 30, 31, 32, 33, 34, 35, 36, 37, 38, 39, 40] (by decide +kernel) (by decide +kernel)
set_option maxRecDepth 20000 in
theorem gX2_setAside_X2_clearPage : GoodIn wsX2_setAside (wsV RX2 135 RX2 yX2_clearPage wsX2_clearPage) := goodIn_app (goodIn_of _ (by decide +kernel)) ggX2_setAside_X2_clearPage
theorem dX2_setAside_0 : decode cX2_setAside 0 = .ok (.iload_n 1, 1) := by decide +kernel
theorem dX2_setAside_1 : decode cX2_setAside 1 = .ok (.invokestatic 69, 3) := by decide +kernel
theorem dX2_setAside_4 : decode cX2_setAside 4 = .ok (.ifCond .ne 4, 3) := by decide +kernel
theorem dX2_setAside_7 : decode cX2_setAside 7 = .ok (.return_, 1) := by decide +kernel
theorem dX2_setAside_8 : decode cX2_setAside 8 = .ok (.iload_n 1, 1) := by decide +kernel
theorem dX2_setAside_9 : decode cX2_setAside 9 = .ok (.istore_n 2, 1) := by decide +kernel
theorem dX2_setAside_10 : decode cX2_setAside 10 = .ok (.iconst 0, 1) := by decide +kernel
theorem dX2_setAside_11 : decode cX2_setAside 11 = .ok (.istore_n 3, 1) := by decide +kernel
theorem dX2_setAside_12 : decode cX2_setAside 12 = .ok (.iload_n 3, 1) := by decide +kernel
theorem dX2_setAside_13 : decode cX2_setAside 13 = .ok (.sipush 128, 3) := by decide +kernel
theorem dX2_setAside_16 : decode cX2_setAside 16 = .ok (.if_icmp .ge 102, 3) := by decide +kernel
theorem dX2_setAside_19 : decode cX2_setAside 19 = .ok (.iload_n 2, 1) := by decide +kernel
theorem dX2_setAside_20 : decode cX2_setAside 20 = .ok (.invokestatic 61, 3) := by decide +kernel
theorem dX2_setAside_23 : decode cX2_setAside 23 = .ok (.ifCond .eq 95, 3) := by decide +kernel
theorem dX2_setAside_26 : decode cX2_setAside 26 = .ok (.iconst 0, 1) := by decide +kernel
theorem dX2_setAside_27 : decode cX2_setAside 27 = .ok (.istore 4, 2) := by decide +kernel
theorem dX2_setAside_29 : decode cX2_setAside 29 = .ok (.iload 4, 2) := by decide +kernel
theorem dX2_setAside_31 : decode cX2_setAside 31 = .ok (.iconst 4, 1) := by decide +kernel
theorem dX2_setAside_32 : decode cX2_setAside 32 = .ok (.if_icmp .ge 49, 3) := by decide +kernel
theorem dX2_setAside_35 : decode cX2_setAside 35 = .ok (.iload 4, 2) := by decide +kernel
theorem dX2_setAside_37 : decode cX2_setAside 37 = .ok (.aload_n 0, 1) := by decide +kernel
theorem dX2_setAside_38 : decode cX2_setAside 38 = .ok (.getfield 18, 3) := by decide +kernel
theorem dX2_setAside_41 : decode cX2_setAside 41 = .ok (.iload_n 2, 1) := by decide +kernel
theorem dX2_setAside_42 : decode cX2_setAside 42 = .ok (.iaload, 1) := by decide +kernel
theorem dX2_setAside_43 : decode cX2_setAside 43 = .ok (.if_icmp .ge 38, 3) := by decide +kernel
theorem dX2_setAside_46 : decode cX2_setAside 46 = .ok (.aload_n 0, 1) := by decide +kernel
theorem dX2_setAside_47 : decode cX2_setAside 47 = .ok (.getfield 33, 3) := by decide +kernel
theorem dX2_setAside_50 : decode cX2_setAside 50 = .ok (.aload_n 0, 1) := by decide +kernel
theorem dX2_setAside_51 : decode cX2_setAside 51 = .ok (.getfield 9, 3) := by decide +kernel
theorem dX2_setAside_54 : decode cX2_setAside 54 = .ok (.iload_n 2, 1) := by decide +kernel
theorem dX2_setAside_55 : decode cX2_setAside 55 = .ok (.iconst 4, 1) := by decide +kernel
theorem dX2_setAside_56 : decode cX2_setAside 56 = .ok (.imul, 1) := by decide +kernel
theorem dX2_setAside_57 : decode cX2_setAside 57 = .ok (.iload 4, 2) := by decide +kernel
theorem dX2_setAside_59 : decode cX2_setAside 59 = .ok (.iadd, 1) := by decide +kernel
theorem dX2_setAside_60 : decode cX2_setAside 60 = .ok (.iaload, 1) := by decide +kernel
theorem dX2_setAside_61 : decode cX2_setAside 61 = .ok (.aload_n 0, 1) := by decide +kernel
theorem dX2_setAside_62 : decode cX2_setAside 62 = .ok (.getfield 15, 3) := by decide +kernel
theorem dX2_setAside_65 : decode cX2_setAside 65 = .ok (.iload_n 2, 1) := by decide +kernel
theorem dX2_setAside_66 : decode cX2_setAside 66 = .ok (.iconst 4, 1) := by decide +kernel
theorem dX2_setAside_67 : decode cX2_setAside 67 = .ok (.imul, 1) := by decide +kernel
theorem dX2_setAside_68 : decode cX2_setAside 68 = .ok (.iload 4, 2) := by decide +kernel
theorem dX2_setAside_70 : decode cX2_setAside 70 = .ok (.iadd, 1) := by decide +kernel
theorem dX2_setAside_71 : decode cX2_setAside 71 = .ok (.iaload, 1) := by decide +kernel
theorem dX2_setAside_72 : decode cX2_setAside 72 = .ok (.invokevirtual 132, 3) := by decide +kernel
theorem dX2_setAside_75 : decode cX2_setAside 75 = .ok (.iinc 4 1, 3) := by decide +kernel
theorem dX2_setAside_78 : decode cX2_setAside 78 = .ok (.goto (-49), 3) := by decide +kernel
theorem dX2_setAside_81 : decode cX2_setAside 81 = .ok (.aload_n 0, 1) := by decide +kernel
theorem dX2_setAside_82 : decode cX2_setAside 82 = .ok (.dup, 1) := by decide +kernel
theorem dX2_setAside_83 : decode cX2_setAside 83 = .ok (.getfield 57, 3) := by decide +kernel
theorem dX2_setAside_86 : decode cX2_setAside 86 = .ok (.aload_n 0, 1) := by decide +kernel
theorem dX2_setAside_87 : decode cX2_setAside 87 = .ok (.getfield 18, 3) := by decide +kernel
theorem dX2_setAside_90 : decode cX2_setAside 90 = .ok (.iload_n 2, 1) := by decide +kernel
theorem dX2_setAside_91 : decode cX2_setAside 91 = .ok (.iaload, 1) := by decide +kernel
theorem dX2_setAside_92 : decode cX2_setAside 92 = .ok (.isub, 1) := by decide +kernel
theorem dX2_setAside_93 : decode cX2_setAside 93 = .ok (.putfield 57, 3) := by decide +kernel
theorem dX2_setAside_96 : decode cX2_setAside 96 = .ok (.aload_n 0, 1) := by decide +kernel
theorem dX2_setAside_97 : decode cX2_setAside 97 = .ok (.getfield 21, 3) := by decide +kernel
theorem dX2_setAside_100 : decode cX2_setAside 100 = .ok (.iload_n 2, 1) := by decide +kernel
theorem dX2_setAside_101 : decode cX2_setAside 101 = .ok (.iaload, 1) := by decide +kernel
theorem dX2_setAside_102 : decode cX2_setAside 102 = .ok (.istore 4, 2) := by decide +kernel
theorem dX2_setAside_104 : decode cX2_setAside 104 = .ok (.aload_n 0, 1) := by decide +kernel
theorem dX2_setAside_105 : decode cX2_setAside 105 = .ok (.iload_n 2, 1) := by decide +kernel
theorem dX2_setAside_106 : decode cX2_setAside 106 = .ok (.invokevirtual 135, 3) := by decide +kernel
theorem dX2_setAside_109 : decode cX2_setAside 109 = .ok (.iload 4, 2) := by decide +kernel
theorem dX2_setAside_111 : decode cX2_setAside 111 = .ok (.istore_n 2, 1) := by decide +kernel
theorem dX2_setAside_112 : decode cX2_setAside 112 = .ok (.iinc 3 1, 3) := by decide +kernel
theorem dX2_setAside_115 : decode cX2_setAside 115 = .ok (.goto (-103), 3) := by decide +kernel
theorem dX2_setAside_118 : decode cX2_setAside 118 = .ok (.aload_n 0, 1) := by decide +kernel
theorem dX2_setAside_119 : decode cX2_setAside 119 = .ok (.getfield 30, 3) := by decide +kernel
theorem dX2_setAside_122 : decode cX2_setAside 122 = .ok (.iload_n 1, 1) := by decide +kernel
theorem dX2_setAside_123 : decode cX2_setAside 123 = .ok (.iload_n 1, 1) := by decide +kernel
theorem dX2_setAside_124 : decode cX2_setAside 124 = .ok (.iastore, 1) := by decide +kernel
theorem dX2_setAside_125 : decode cX2_setAside 125 = .ok (.return_, 1) := by decide +kernel
set_option maxRecDepth 20000 in
theorem ggX2_clearPage_X3_isPage : GoodIn wsX2_clearPage wsX3_isPage := goodIn_r _ [8] (by decide +kernel) (by decide +kernel)
set_option maxRecDepth 20000 in
theorem gX2_clearPage_X3_isPage_n61 : GoodIn wsX2_clearPage (wsX3_isPage) := ggX2_clearPage_X3_isPage
theorem dX2_clearPage_0 : decode cX2_clearPage 0 = .ok (.iload_n 1, 1) := by decide +kernel
theorem dX2_clearPage_1 : decode cX2_clearPage 1 = .ok (.invokestatic 61, 3) := by decide +kernel
theorem dX2_clearPage_4 : decode cX2_clearPage 4 = .ok (.ifCond .eq 34, 3) := by decide +kernel
theorem dX2_clearPage_7 : decode cX2_clearPage 7 = .ok (.aload_n 0, 1) := by decide +kernel
theorem dX2_clearPage_8 : decode cX2_clearPage 8 = .ok (.getfield 18, 3) := by decide +kernel
theorem dX2_clearPage_11 : decode cX2_clearPage 11 = .ok (.iload_n 1, 1) := by decide +kernel
theorem dX2_clearPage_12 : decode cX2_clearPage 12 = .ok (.iconst 0, 1) := by decide +kernel
theorem dX2_clearPage_13 : decode cX2_clearPage 13 = .ok (.iastore, 1) := by decide +kernel
theorem dX2_clearPage_14 : decode cX2_clearPage 14 = .ok (.aload_n 0, 1) := by decide +kernel
theorem dX2_clearPage_15 : decode cX2_clearPage 15 = .ok (.getfield 21, 3) := by decide +kernel
theorem dX2_clearPage_18 : decode cX2_clearPage 18 = .ok (.iload_n 1, 1) := by decide +kernel
theorem dX2_clearPage_19 : decode cX2_clearPage 19 = .ok (.ldc 37, 2) := by decide +kernel
theorem dX2_clearPage_21 : decode cX2_clearPage 21 = .ok (.iastore, 1) := by decide +kernel
theorem dX2_clearPage_22 : decode cX2_clearPage 22 = .ok (.aload_n 0, 1) := by decide +kernel
theorem dX2_clearPage_23 : decode cX2_clearPage 23 = .ok (.getfield 24, 3) := by decide +kernel
theorem dX2_clearPage_26 : decode cX2_clearPage 26 = .ok (.iload_n 1, 1) := by decide +kernel
theorem dX2_clearPage_27 : decode cX2_clearPage 27 = .ok (.ldc 37, 2) := by decide +kernel
theorem dX2_clearPage_29 : decode cX2_clearPage 29 = .ok (.iastore, 1) := by decide +kernel
theorem dX2_clearPage_30 : decode cX2_clearPage 30 = .ok (.aload_n 0, 1) := by decide +kernel
theorem dX2_clearPage_31 : decode cX2_clearPage 31 = .ok (.getfield 27, 3) := by decide +kernel
theorem dX2_clearPage_34 : decode cX2_clearPage 34 = .ok (.iload_n 1, 1) := by decide +kernel
theorem dX2_clearPage_35 : decode cX2_clearPage 35 = .ok (.ldc 37, 2) := by decide +kernel
theorem dX2_clearPage_37 : decode cX2_clearPage 37 = .ok (.iastore, 1) := by decide +kernel
theorem dX2_clearPage_38 : decode cX2_clearPage 38 = .ok (.return_, 1) := by decide +kernel
set_option maxRecDepth 20000 in
theorem ggX2_append_X2_lastPage : GoodIn wsX2_append wsX2_lastPage := goodIn_r _ [9, 10, 11, 12, 13, 8, 14, 33, 34, 35, 36, 37, 38, 39, 40, 41, 42, 43] (by decide +kernel) (by decide +kernel)
set_option maxRecDepth 20000 in
theorem gX2_append_X2_lastPage : GoodIn wsX2_append (wsV RX2 76 RX2 yX2_lastPage wsX2_lastPage) := goodIn_app (goodIn_of _ (by decide +kernel)) ggX2_append_X2_lastPage
set_option maxRecDepth 20000 in
theorem ggX2_append_X2_entriesOnPage : GoodIn wsX2_append wsX2_entriesOnPage := goodIn_r _ [18, 1, 19, 20, 21, 33, 34, 35, 36, 37, 38, 39, 40, 41, 42, 43] (by decide +kernel) (by decide +kernel)
set_option maxRecDepth 20000 in
theorem gX2_append_X2_entriesOnPage : GoodIn wsX2_append (wsV RX2 79 RX2 yX2_entriesOnPage wsX2_entriesOnPage) := goodIn_app (goodIn_of _ (by decide +kernel)) ggX2_append_X2_entriesOnPage
set_option maxRecDepth 20000 in
theorem ggX2_append_X2_linkNewPage : GoodIn wsX2_append wsX2_linkNewPage := goodIn_r _ [25, 26, 27, 28, 10, 29, 30, 31, 8, 32, 11, 19, 20, 21, 12, 13, 14, 33, 34, 35, 36, 37, 38, 39, 40, 41, 42, 43] (by decide +kernel) (by decide +kernel)
set_option maxRecDepth 20000 in
theorem gX2_append_X2_linkNewPage : GoodIn wsX2_append (wsV RX2 138 RX2 yX2_linkNewPage wsX2_linkNewPage) := goodIn_app (goodIn_of _ (by decide +kernel)) ggX2_append_X2_linkNewPage
set_option maxRecDepth 20000 in
theorem ggX2_append_X3_isPage : GoodIn wsX2_append wsX3_isPage := goodIn_r _ [21] (by decide +kernel) (by decide +kernel)
set_option maxRecDepth 20000 in
theorem gX2_append_X3_isPage_n61 : GoodIn wsX2_append (wsX3_isPage) := ggX2_append_X3_isPage
theorem dX2_append_0 : decode cX2_append 0 = .ok (.aload_n 0, 1) := by decide +kernel
theorem dX2_append_1 : decode cX2_append 1 = .ok (.iload_n 1, 1) := by decide +kernel
theorem dX2_append_2 : decode cX2_append 2 = .ok (.invokevirtual 76, 3) := by decide +kernel
theorem dX2_append_5 : decode cX2_append 5 = .ok (.istore 4, 2) := by decide +kernel
theorem dX2_append_7 : decode cX2_append 7 = .ok (.aload_n 0, 1) := by decide +kernel
theorem dX2_append_8 : decode cX2_append 8 = .ok (.iload 4, 2) := by decide +kernel
theorem dX2_append_10 : decode cX2_append 10 = .ok (.invokevirtual 79, 3) := by decide +kernel
theorem dX2_append_13 : decode cX2_append 13 = .ok (.iconst 4, 1) := by decide +kernel
theorem dX2_append_14 : decode cX2_append 14 = .ok (.if_icmp .lt 12, 3) := by decide +kernel
theorem dX2_append_17 : decode cX2_append 17 = .ok (.aload_n 0, 1) := by decide +kernel
theorem dX2_append_18 : decode cX2_append 18 = .ok (.iload_n 1, 1) := by decide +kernel
theorem dX2_append_19 : decode cX2_append 19 = .ok (.iload 4, 2) := by decide +kernel
theorem dX2_append_21 : decode cX2_append 21 = .ok (.invokevirtual 138, 3) := by decide +kernel
theorem dX2_append_24 : decode cX2_append 24 = .ok (.istore 4, 2) := by decide +kernel
theorem dX2_append_26 : decode cX2_append 26 = .ok (.iload 4, 2) := by decide +kernel
theorem dX2_append_28 : decode cX2_append 28 = .ok (.invokestatic 61, 3) := by decide +kernel
theorem dX2_append_31 : decode cX2_append 31 = .ok (.ifCond .ne 4, 3) := by decide +kernel
theorem dX2_append_34 : decode cX2_append 34 = .ok (.return_, 1) := by decide +kernel
theorem dX2_append_35 : decode cX2_append 35 = .ok (.iload 4, 2) := by decide +kernel
theorem dX2_append_37 : decode cX2_append 37 = .ok (.iconst 4, 1) := by decide +kernel
theorem dX2_append_38 : decode cX2_append 38 = .ok (.imul, 1) := by decide +kernel
theorem dX2_append_39 : decode cX2_append 39 = .ok (.aload_n 0, 1) := by decide +kernel
theorem dX2_append_40 : decode cX2_append 40 = .ok (.getfield 18, 3) := by decide +kernel
theorem dX2_append_43 : decode cX2_append 43 = .ok (.iload 4, 2) := by decide +kernel
theorem dX2_append_45 : decode cX2_append 45 = .ok (.iaload, 1) := by decide +kernel
theorem dX2_append_46 : decode cX2_append 46 = .ok (.iadd, 1) := by decide +kernel
theorem dX2_append_47 : decode cX2_append 47 = .ok (.istore 5, 2) := by decide +kernel
theorem dX2_append_49 : decode cX2_append 49 = .ok (.iload 5, 2) := by decide +kernel
theorem dX2_append_51 : decode cX2_append 51 = .ok (.ifCond .lt 50, 3) := by decide +kernel
theorem dX2_append_54 : decode cX2_append 54 = .ok (.iload 5, 2) := by decide +kernel
theorem dX2_append_56 : decode cX2_append 56 = .ok (.aload_n 0, 1) := by decide +kernel
theorem dX2_append_57 : decode cX2_append 57 = .ok (.getfield 9, 3) := by decide +kernel
theorem dX2_append_60 : decode cX2_append 60 = .ok (.arraylength, 1) := by decide +kernel
theorem dX2_append_61 : decode cX2_append 61 = .ok (.if_icmp .ge 40, 3) := by decide +kernel
theorem dX2_append_64 : decode cX2_append 64 = .ok (.aload_n 0, 1) := by decide +kernel
theorem dX2_append_65 : decode cX2_append 65 = .ok (.getfield 9, 3) := by decide +kernel
theorem dX2_append_68 : decode cX2_append 68 = .ok (.iload 5, 2) := by decide +kernel
theorem dX2_append_70 : decode cX2_append 70 = .ok (.iload_n 2, 1) := by decide +kernel
theorem dX2_append_71 : decode cX2_append 71 = .ok (.iastore, 1) := by decide +kernel
theorem dX2_append_72 : decode cX2_append 72 = .ok (.aload_n 0, 1) := by decide +kernel
theorem dX2_append_73 : decode cX2_append 73 = .ok (.getfield 15, 3) := by decide +kernel
theorem dX2_append_76 : decode cX2_append 76 = .ok (.iload 5, 2) := by decide +kernel
theorem dX2_append_78 : decode cX2_append 78 = .ok (.iload_n 3, 1) := by decide +kernel
theorem dX2_append_79 : decode cX2_append 79 = .ok (.iastore, 1) := by decide +kernel
theorem dX2_append_80 : decode cX2_append 80 = .ok (.aload_n 0, 1) := by decide +kernel
theorem dX2_append_81 : decode cX2_append 81 = .ok (.getfield 18, 3) := by decide +kernel
theorem dX2_append_84 : decode cX2_append 84 = .ok (.iload 4, 2) := by decide +kernel
theorem dX2_append_86 : decode cX2_append 86 = .ok (.dup2, 1) := by decide +kernel
theorem dX2_append_87 : decode cX2_append 87 = .ok (.iaload, 1) := by decide +kernel
theorem dX2_append_88 : decode cX2_append 88 = .ok (.iconst 1, 1) := by decide +kernel
theorem dX2_append_89 : decode cX2_append 89 = .ok (.iadd, 1) := by decide +kernel
theorem dX2_append_90 : decode cX2_append 90 = .ok (.iastore, 1) := by decide +kernel
theorem dX2_append_91 : decode cX2_append 91 = .ok (.aload_n 0, 1) := by decide +kernel
theorem dX2_append_92 : decode cX2_append 92 = .ok (.dup, 1) := by decide +kernel
theorem dX2_append_93 : decode cX2_append 93 = .ok (.getfield 57, 3) := by decide +kernel
theorem dX2_append_96 : decode cX2_append 96 = .ok (.iconst 1, 1) := by decide +kernel
theorem dX2_append_97 : decode cX2_append 97 = .ok (.iadd, 1) := by decide +kernel
theorem dX2_append_98 : decode cX2_append 98 = .ok (.putfield 57, 3) := by decide +kernel
theorem dX2_append_101 : decode cX2_append 101 = .ok (.return_, 1) := by decide +kernel
set_option maxRecDepth 20000 in
theorem ggX2_linkNewPage_X2_leastFreePage : GoodIn wsX2_linkNewPage wsX2_leastFreePage := goodIn_r _ [9, 3, 10, 17, 18, 19, 20, 21, 22, 23, 24, 25, 26, 27] (by decide +kernel) (by decide +kernel)
set_option maxRecDepth 20000 in
theorem gX2_linkNewPage_X2_leastFreePage : GoodIn wsX2_linkNewPage (wsV RX2 91 RX2 yX2_leastFreePage wsX2_leastFreePage) := goodIn_app (goodIn_of _ (by decide +kernel)) ggX2_linkNewPage_X2_leastFreePage
set_option maxRecDepth 20000 in
theorem ggX2_linkNewPage_X3_isPage : GoodIn wsX2_linkNewPage wsX3_isPage := goodIn_r _ [13] (by decide +kernel) (by decide +kernel)
set_option maxRecDepth 20000 in
theorem gX2_linkNewPage_X3_isPage_n61 : GoodIn wsX2_linkNewPage (wsX3_isPage) := ggX2_linkNewPage_X3_isPage
set_option maxRecDepth 20000 in
theorem ggX2_linkNewPage_X2_isBucketPlace : GoodIn wsX2_linkNewPage wsX2_isBucketPlace := goodIn_r _ [16] (by decide +kernel) (by decide +kernel)
set_option maxRecDepth 20000 in
theorem gX2_linkNewPage_X2_isBucketPlace : GoodIn wsX2_linkNewPage (va_wsS RX2 69 yX2_isBucketPlace wsX2_isBucketPlace) := goodIn_app (goodIn_of _ (by decide +kernel)) ggX2_linkNewPage_X2_isBucketPlace
theorem dX2_linkNewPage_0 : decode cX2_linkNewPage 0 = .ok (.aload_n 0, 1) := by decide +kernel
theorem dX2_linkNewPage_1 : decode cX2_linkNewPage 1 = .ok (.invokevirtual 91, 3) := by decide +kernel
theorem dX2_linkNewPage_4 : decode cX2_linkNewPage 4 = .ok (.istore_n 3, 1) := by decide +kernel
theorem dX2_linkNewPage_5 : decode cX2_linkNewPage 5 = .ok (.iload_n 3, 1) := by decide +kernel
theorem dX2_linkNewPage_6 : decode cX2_linkNewPage 6 = .ok (.invokestatic 61, 3) := by decide +kernel
theorem dX2_linkNewPage_9 : decode cX2_linkNewPage 9 = .ok (.ifCond .eq 45, 3) := by decide +kernel
theorem dX2_linkNewPage_12 : decode cX2_linkNewPage 12 = .ok (.iload_n 2, 1) := by decide +kernel
theorem dX2_linkNewPage_13 : decode cX2_linkNewPage 13 = .ok (.invokestatic 61, 3) := by decide +kernel
theorem dX2_linkNewPage_16 : decode cX2_linkNewPage 16 = .ok (.ifCond .eq 38, 3) := by decide +kernel
theorem dX2_linkNewPage_19 : decode cX2_linkNewPage 19 = .ok (.iload_n 1, 1) := by decide +kernel
theorem dX2_linkNewPage_20 : decode cX2_linkNewPage 20 = .ok (.invokestatic 69, 3) := by decide +kernel
theorem dX2_linkNewPage_23 : decode cX2_linkNewPage 23 = .ok (.ifCond .eq 31, 3) := by decide +kernel
theorem dX2_linkNewPage_26 : decode cX2_linkNewPage 26 = .ok (.aload_n 0, 1) := by decide +kernel
theorem dX2_linkNewPage_27 : decode cX2_linkNewPage 27 = .ok (.getfield 21, 3) := by decide +kernel
theorem dX2_linkNewPage_30 : decode cX2_linkNewPage 30 = .ok (.iload_n 2, 1) := by decide +kernel
theorem dX2_linkNewPage_31 : decode cX2_linkNewPage 31 = .ok (.iload_n 3, 1) := by decide +kernel
theorem dX2_linkNewPage_32 : decode cX2_linkNewPage 32 = .ok (.iastore, 1) := by decide +kernel
theorem dX2_linkNewPage_33 : decode cX2_linkNewPage 33 = .ok (.aload_n 0, 1) := by decide +kernel
theorem dX2_linkNewPage_34 : decode cX2_linkNewPage 34 = .ok (.getfield 24, 3) := by decide +kernel
theorem dX2_linkNewPage_37 : decode cX2_linkNewPage 37 = .ok (.iload_n 3, 1) := by decide +kernel
theorem dX2_linkNewPage_38 : decode cX2_linkNewPage 38 = .ok (.iload_n 2, 1) := by decide +kernel
theorem dX2_linkNewPage_39 : decode cX2_linkNewPage 39 = .ok (.iastore, 1) := by decide +kernel
theorem dX2_linkNewPage_40 : decode cX2_linkNewPage 40 = .ok (.aload_n 0, 1) := by decide +kernel
theorem dX2_linkNewPage_41 : decode cX2_linkNewPage 41 = .ok (.getfield 27, 3) := by decide +kernel
theorem dX2_linkNewPage_44 : decode cX2_linkNewPage 44 = .ok (.iload_n 3, 1) := by decide +kernel
theorem dX2_linkNewPage_45 : decode cX2_linkNewPage 45 = .ok (.iload_n 1, 1) := by decide +kernel
theorem dX2_linkNewPage_46 : decode cX2_linkNewPage 46 = .ok (.iastore, 1) := by decide +kernel
theorem dX2_linkNewPage_47 : decode cX2_linkNewPage 47 = .ok (.aload_n 0, 1) := by decide +kernel
theorem dX2_linkNewPage_48 : decode cX2_linkNewPage 48 = .ok (.getfield 30, 3) := by decide +kernel
theorem dX2_linkNewPage_51 : decode cX2_linkNewPage 51 = .ok (.iload_n 1, 1) := by decide +kernel
theorem dX2_linkNewPage_52 : decode cX2_linkNewPage 52 = .ok (.iload_n 3, 1) := by decide +kernel
theorem dX2_linkNewPage_53 : decode cX2_linkNewPage 53 = .ok (.iastore, 1) := by decide +kernel
theorem dX2_linkNewPage_54 : decode cX2_linkNewPage 54 = .ok (.iload_n 3, 1) := by decide +kernel
theorem dX2_linkNewPage_55 : decode cX2_linkNewPage 55 = .ok (.ireturn, 1) := by decide +kernel
set_option maxRecDepth 20000 in
theorem ggX2_takeOut_X2_lastPage : GoodIn wsX2_takeOut wsX2_lastPage := goodIn_r _ [9, 10, 11, 12, 13, 8, 14, 29, 30, 31, 32, 33, 34, 35, 36, 37, 38, 39] (by decide +kernel) (by decide +kernel)
set_option maxRecDepth 20000 in
theorem gX2_takeOut_X2_lastPage : GoodIn wsX2_takeOut (wsV RX2 76 RX2 yX2_lastPage wsX2_lastPage) := goodIn_app (goodIn_of _ (by decide +kernel)) ggX2_takeOut_X2_lastPage
set_option maxRecDepth 20000 in
theorem ggX2_takeOut_X3_isPage : GoodIn wsX2_takeOut wsX3_isPage := goodIn_r _ [17] (by decide +kernel) (by decide +kernel)
set_option maxRecDepth 20000 in
theorem gX2_takeOut_X3_isPage_n61 : GoodIn wsX2_takeOut (wsX3_isPage) := ggX2_takeOut_X3_isPage
set_option maxRecDepth 20000 in
theorem ggX2_takeOut_X2_unlinkLast : GoodIn wsX2_takeOut wsX2_unlinkLast := goodIn_r _ [21, 22, 11, 23, 10, 15, 16, 17, 12, 13, 8, 14, 24, 25, 26, 27, 2, 28, 29, 30, 31, 32, 33, 34, 35, 36, 37, 38, 39] (by decide +kernel) (by decide +kernel)
set_option maxRecDepth 20000 in
theorem gX2_takeOut_X2_unlinkLast : GoodIn wsX2_takeOut (wsV RX2 141 RX2 yX2_unlinkLast wsX2_unlinkLast) := goodIn_app (goodIn_of _ (by decide +kernel)) ggX2_takeOut_X2_unlinkLast
theorem dX2_takeOut_0 : decode cX2_takeOut 0 = .ok (.aload_n 0, 1) := by decide +kernel
theorem dX2_takeOut_1 : decode cX2_takeOut 1 = .ok (.iload_n 1, 1) := by decide +kernel
theorem dX2_takeOut_2 : decode cX2_takeOut 2 = .ok (.invokevirtual 76, 3) := by decide +kernel
theorem dX2_takeOut_5 : decode cX2_takeOut 5 = .ok (.istore_n 3, 1) := by decide +kernel
theorem dX2_takeOut_6 : decode cX2_takeOut 6 = .ok (.iload_n 3, 1) := by decide +kernel
theorem dX2_takeOut_7 : decode cX2_takeOut 7 = .ok (.invokestatic 61, 3) := by decide +kernel
theorem dX2_takeOut_10 : decode cX2_takeOut 10 = .ok (.ifCond .eq 16, 3) := by decide +kernel
theorem dX2_takeOut_13 : decode cX2_takeOut 13 = .ok (.iload_n 2, 1) := by decide +kernel
theorem dX2_takeOut_14 : decode cX2_takeOut 14 = .ok (.ifCond .lt 12, 3) := by decide +kernel
theorem dX2_takeOut_17 : decode cX2_takeOut 17 = .ok (.iload_n 2, 1) := by decide +kernel
theorem dX2_takeOut_18 : decode cX2_takeOut 18 = .ok (.aload_n 0, 1) := by decide +kernel
theorem dX2_takeOut_19 : decode cX2_takeOut 19 = .ok (.getfield 9, 3) := by decide +kernel
theorem dX2_takeOut_22 : decode cX2_takeOut 22 = .ok (.arraylength, 1) := by decide +kernel
theorem dX2_takeOut_23 : decode cX2_takeOut 23 = .ok (.if_icmp .lt 4, 3) := by decide +kernel
theorem dX2_takeOut_26 : decode cX2_takeOut 26 = .ok (.return_, 1) := by decide +kernel
theorem dX2_takeOut_27 : decode cX2_takeOut 27 = .ok (.iload_n 3, 1) := by decide +kernel
theorem dX2_takeOut_28 : decode cX2_takeOut 28 = .ok (.iconst 4, 1) := by decide +kernel
theorem dX2_takeOut_29 : decode cX2_takeOut 29 = .ok (.imul, 1) := by decide +kernel
theorem dX2_takeOut_30 : decode cX2_takeOut 30 = .ok (.aload_n 0, 1) := by decide +kernel
theorem dX2_takeOut_31 : decode cX2_takeOut 31 = .ok (.getfield 18, 3) := by decide +kernel
theorem dX2_takeOut_34 : decode cX2_takeOut 34 = .ok (.iload_n 3, 1) := by decide +kernel
theorem dX2_takeOut_35 : decode cX2_takeOut 35 = .ok (.iaload, 1) := by decide +kernel
theorem dX2_takeOut_36 : decode cX2_takeOut 36 = .ok (.iadd, 1) := by decide +kernel
theorem dX2_takeOut_37 : decode cX2_takeOut 37 = .ok (.iconst 1, 1) := by decide +kernel
theorem dX2_takeOut_38 : decode cX2_takeOut 38 = .ok (.isub, 1) := by decide +kernel
theorem dX2_takeOut_39 : decode cX2_takeOut 39 = .ok (.istore 4, 2) := by decide +kernel
theorem dX2_takeOut_41 : decode cX2_takeOut 41 = .ok (.iload 4, 2) := by decide +kernel
theorem dX2_takeOut_43 : decode cX2_takeOut 43 = .ok (.ifCond .lt 13, 3) := by decide +kernel
theorem dX2_takeOut_46 : decode cX2_takeOut 46 = .ok (.iload 4, 2) := by decide +kernel
theorem dX2_takeOut_48 : decode cX2_takeOut 48 = .ok (.aload_n 0, 1) := by decide +kernel
theorem dX2_takeOut_49 : decode cX2_takeOut 49 = .ok (.getfield 9, 3) := by decide +kernel
theorem dX2_takeOut_52 : decode cX2_takeOut 52 = .ok (.arraylength, 1) := by decide +kernel
theorem dX2_takeOut_53 : decode cX2_takeOut 53 = .ok (.if_icmp .lt 4, 3) := by decide +kernel
theorem dX2_takeOut_56 : decode cX2_takeOut 56 = .ok (.return_, 1) := by decide +kernel
theorem dX2_takeOut_57 : decode cX2_takeOut 57 = .ok (.aload_n 0, 1) := by decide +kernel
theorem dX2_takeOut_58 : decode cX2_takeOut 58 = .ok (.getfield 9, 3) := by decide +kernel
theorem dX2_takeOut_61 : decode cX2_takeOut 61 = .ok (.iload_n 2, 1) := by decide +kernel
theorem dX2_takeOut_62 : decode cX2_takeOut 62 = .ok (.aload_n 0, 1) := by decide +kernel
theorem dX2_takeOut_63 : decode cX2_takeOut 63 = .ok (.getfield 9, 3) := by decide +kernel
theorem dX2_takeOut_66 : decode cX2_takeOut 66 = .ok (.iload 4, 2) := by decide +kernel
theorem dX2_takeOut_68 : decode cX2_takeOut 68 = .ok (.iaload, 1) := by decide +kernel
theorem dX2_takeOut_69 : decode cX2_takeOut 69 = .ok (.iastore, 1) := by decide +kernel
theorem dX2_takeOut_70 : decode cX2_takeOut 70 = .ok (.aload_n 0, 1) := by decide +kernel
theorem dX2_takeOut_71 : decode cX2_takeOut 71 = .ok (.getfield 15, 3) := by decide +kernel
theorem dX2_takeOut_74 : decode cX2_takeOut 74 = .ok (.iload_n 2, 1) := by decide +kernel
theorem dX2_takeOut_75 : decode cX2_takeOut 75 = .ok (.aload_n 0, 1) := by decide +kernel
theorem dX2_takeOut_76 : decode cX2_takeOut 76 = .ok (.getfield 15, 3) := by decide +kernel
theorem dX2_takeOut_79 : decode cX2_takeOut 79 = .ok (.iload 4, 2) := by decide +kernel
theorem dX2_takeOut_81 : decode cX2_takeOut 81 = .ok (.iaload, 1) := by decide +kernel
theorem dX2_takeOut_82 : decode cX2_takeOut 82 = .ok (.iastore, 1) := by decide +kernel
theorem dX2_takeOut_83 : decode cX2_takeOut 83 = .ok (.aload_n 0, 1) := by decide +kernel
theorem dX2_takeOut_84 : decode cX2_takeOut 84 = .ok (.getfield 18, 3) := by decide +kernel
theorem dX2_takeOut_87 : decode cX2_takeOut 87 = .ok (.iload_n 3, 1) := by decide +kernel
theorem dX2_takeOut_88 : decode cX2_takeOut 88 = .ok (.dup2, 1) := by decide +kernel
theorem dX2_takeOut_89 : decode cX2_takeOut 89 = .ok (.iaload, 1) := by decide +kernel
theorem dX2_takeOut_90 : decode cX2_takeOut 90 = .ok (.iconst 1, 1) := by decide +kernel
theorem dX2_takeOut_91 : decode cX2_takeOut 91 = .ok (.isub, 1) := by decide +kernel
theorem dX2_takeOut_92 : decode cX2_takeOut 92 = .ok (.iastore, 1) := by decide +kernel
theorem dX2_takeOut_93 : decode cX2_takeOut 93 = .ok (.aload_n 0, 1) := by decide +kernel
theorem dX2_takeOut_94 : decode cX2_takeOut 94 = .ok (.dup, 1) := by decide +kernel
theorem dX2_takeOut_95 : decode cX2_takeOut 95 = .ok (.getfield 57, 3) := by decide +kernel
theorem dX2_takeOut_98 : decode cX2_takeOut 98 = .ok (.iconst 1, 1) := by decide +kernel
theorem dX2_takeOut_99 : decode cX2_takeOut 99 = .ok (.isub, 1) := by decide +kernel
theorem dX2_takeOut_100 : decode cX2_takeOut 100 = .ok (.putfield 57, 3) := by decide +kernel
theorem dX2_takeOut_103 : decode cX2_takeOut 103 = .ok (.aload_n 0, 1) := by decide +kernel
theorem dX2_takeOut_104 : decode cX2_takeOut 104 = .ok (.getfield 18, 3) := by decide +kernel
theorem dX2_takeOut_107 : decode cX2_takeOut 107 = .ok (.iload_n 3, 1) := by decide +kernel
theorem dX2_takeOut_108 : decode cX2_takeOut 108 = .ok (.iaload, 1) := by decide +kernel
theorem dX2_takeOut_109 : decode cX2_takeOut 109 = .ok (.ifCond .ne 15, 3) := by decide +kernel
theorem dX2_takeOut_112 : decode cX2_takeOut 112 = .ok (.iload_n 3, 1) := by decide +kernel
theorem dX2_takeOut_113 : decode cX2_takeOut 113 = .ok (.bipush 64, 2) := by decide +kernel
theorem dX2_takeOut_115 : decode cX2_takeOut 115 = .ok (.if_icmp .lt 9, 3) := by decide +kernel
theorem dX2_takeOut_118 : decode cX2_takeOut 118 = .ok (.aload_n 0, 1) := by decide +kernel
theorem dX2_takeOut_119 : decode cX2_takeOut 119 = .ok (.iload_n 1, 1) := by decide +kernel
theorem dX2_takeOut_120 : decode cX2_takeOut 120 = .ok (.iload_n 3, 1) := by decide +kernel
theorem dX2_takeOut_121 : decode cX2_takeOut 121 = .ok (.invokevirtual 141, 3) := by decide +kernel
theorem dX2_takeOut_124 : decode cX2_takeOut 124 = .ok (.return_, 1) := by decide +kernel
set_option maxRecDepth 20000 in
theorem ggX2_unlinkLast_X3_isPage : GoodIn wsX2_unlinkLast wsX3_isPage := goodIn_r _ [7] (by decide +kernel) (by decide +kernel)
set_option maxRecDepth 20000 in
theorem gX2_unlinkLast_X3_isPage_n61 : GoodIn wsX2_unlinkLast (wsX3_isPage) := ggX2_unlinkLast_X3_isPage
set_option maxRecDepth 20000 in
theorem ggX2_unlinkLast_X2_isBucketPlace : GoodIn wsX2_unlinkLast wsX2_isBucketPlace := goodIn_r _ [11] (by decide +kernel) (by decide +kernel)
set_option maxRecDepth 20000 in
theorem gX2_unlinkLast_X2_isBucketPlace : GoodIn wsX2_unlinkLast (va_wsS RX2 69 yX2_isBucketPlace wsX2_isBucketPlace) := goodIn_app (goodIn_of _ (by decide +kernel)) ggX2_unlinkLast_X2_isBucketPlace
set_option maxRecDepth 20000 in
theorem ggX2_unlinkLast_X2_clearPage : GoodIn wsX2_unlinkLast wsX2_clearPage := goodIn_r _ [15, 16, 3, 2, 1, 17, 5, 6, 7, 18, 19, 20, 21, 22, 23, 24, 25, 26, 27, 28] (by decide +kernel) (by decide +kernel)
set_option maxRecDepth 20000 in
theorem gX2_unlinkLast_X2_clearPage : GoodIn wsX2_unlinkLast (wsV RX2 135 RX2 yX2_clearPage wsX2_clearPage) := goodIn_app (goodIn_of _ (by decide +kernel)) ggX2_unlinkLast_X2_clearPage
theorem dX2_unlinkLast_0 : decode cX2_unlinkLast 0 = .ok (.iload_n 2, 1) := by decide +kernel
theorem dX2_unlinkLast_1 : decode cX2_unlinkLast 1 = .ok (.invokestatic 61, 3) := by decide +kernel
theorem dX2_unlinkLast_4 : decode cX2_unlinkLast 4 = .ok (.ifCond .eq 12, 3) := by decide +kernel
theorem dX2_unlinkLast_7 : decode cX2_unlinkLast 7 = .ok (.aload_n 0, 1) := by decide +kernel
theorem dX2_unlinkLast_8 : decode cX2_unlinkLast 8 = .ok (.getfield 24, 3) := by decide +kernel
theorem dX2_unlinkLast_11 : decode cX2_unlinkLast 11 = .ok (.iload_n 2, 1) := by decide +kernel
theorem dX2_unlinkLast_12 : decode cX2_unlinkLast 12 = .ok (.iaload, 1) := by decide +kernel
theorem dX2_unlinkLast_13 : decode cX2_unlinkLast 13 = .ok (.goto 5, 3) := by decide +kernel
theorem dX2_unlinkLast_16 : decode cX2_unlinkLast 16 = .ok (.ldc 37, 2) := by decide +kernel
theorem dX2_unlinkLast_18 : decode cX2_unlinkLast 18 = .ok (.istore_n 3, 1) := by decide +kernel
theorem dX2_unlinkLast_19 : decode cX2_unlinkLast 19 = .ok (.iload_n 3, 1) := by decide +kernel
theorem dX2_unlinkLast_20 : decode cX2_unlinkLast 20 = .ok (.invokestatic 61, 3) := by decide +kernel
theorem dX2_unlinkLast_23 : decode cX2_unlinkLast 23 = .ok (.ifCond .eq 30, 3) := by decide +kernel
theorem dX2_unlinkLast_26 : decode cX2_unlinkLast 26 = .ok (.iload_n 1, 1) := by decide +kernel
theorem dX2_unlinkLast_27 : decode cX2_unlinkLast 27 = .ok (.invokestatic 69, 3) := by decide +kernel
theorem dX2_unlinkLast_30 : decode cX2_unlinkLast 30 = .ok (.ifCond .eq 23, 3) := by decide +kernel
theorem dX2_unlinkLast_33 : decode cX2_unlinkLast 33 = .ok (.aload_n 0, 1) := by decide +kernel
theorem dX2_unlinkLast_34 : decode cX2_unlinkLast 34 = .ok (.getfield 21, 3) := by decide +kernel
theorem dX2_unlinkLast_37 : decode cX2_unlinkLast 37 = .ok (.iload_n 3, 1) := by decide +kernel
theorem dX2_unlinkLast_38 : decode cX2_unlinkLast 38 = .ok (.ldc 37, 2) := by decide +kernel
theorem dX2_unlinkLast_40 : decode cX2_unlinkLast 40 = .ok (.iastore, 1) := by decide +kernel
theorem dX2_unlinkLast_41 : decode cX2_unlinkLast 41 = .ok (.aload_n 0, 1) := by decide +kernel
theorem dX2_unlinkLast_42 : decode cX2_unlinkLast 42 = .ok (.getfield 30, 3) := by decide +kernel
theorem dX2_unlinkLast_45 : decode cX2_unlinkLast 45 = .ok (.iload_n 1, 1) := by decide +kernel
theorem dX2_unlinkLast_46 : decode cX2_unlinkLast 46 = .ok (.iload_n 3, 1) := by decide +kernel
theorem dX2_unlinkLast_47 : decode cX2_unlinkLast 47 = .ok (.iastore, 1) := by decide +kernel
theorem dX2_unlinkLast_48 : decode cX2_unlinkLast 48 = .ok (.aload_n 0, 1) := by decide +kernel
theorem dX2_unlinkLast_49 : decode cX2_unlinkLast 49 = .ok (.iload_n 2, 1) := by decide +kernel
theorem dX2_unlinkLast_50 : decode cX2_unlinkLast 50 = .ok (.invokevirtual 135, 3) := by decide +kernel
theorem dX2_unlinkLast_53 : decode cX2_unlinkLast 53 = .ok (.return_, 1) := by decide +kernel
theorem dX2_leastFreePage_0 : decode cX2_leastFreePage 0 = .ok (.bipush 64, 2) := by decide +kernel
theorem dX2_leastFreePage_2 : decode cX2_leastFreePage 2 = .ok (.istore_n 1, 1) := by decide +kernel
theorem dX2_leastFreePage_3 : decode cX2_leastFreePage 3 = .ok (.iload_n 1, 1) := by decide +kernel
theorem dX2_leastFreePage_4 : decode cX2_leastFreePage 4 = .ok (.sipush 128, 3) := by decide +kernel
theorem dX2_leastFreePage_7 : decode cX2_leastFreePage 7 = .ok (.if_icmp .ge 22, 3) := by decide +kernel
theorem dX2_leastFreePage_10 : decode cX2_leastFreePage 10 = .ok (.aload_n 0, 1) := by decide +kernel
theorem dX2_leastFreePage_11 : decode cX2_leastFreePage 11 = .ok (.getfield 27, 3) := by decide +kernel
theorem dX2_leastFreePage_14 : decode cX2_leastFreePage 14 = .ok (.iload_n 1, 1) := by decide +kernel
theorem dX2_leastFreePage_15 : decode cX2_leastFreePage 15 = .ok (.iaload, 1) := by decide +kernel
theorem dX2_leastFreePage_16 : decode cX2_leastFreePage 16 = .ok (.ldc 37, 2) := by decide +kernel
theorem dX2_leastFreePage_18 : decode cX2_leastFreePage 18 = .ok (.if_icmp .ne 5, 3) := by decide +kernel
theorem dX2_leastFreePage_21 : decode cX2_leastFreePage 21 = .ok (.iload_n 1, 1) := by decide +kernel
theorem dX2_leastFreePage_22 : decode cX2_leastFreePage 22 = .ok (.ireturn, 1) := by decide +kernel
theorem dX2_leastFreePage_23 : decode cX2_leastFreePage 23 = .ok (.iinc 1 1, 3) := by decide +kernel
theorem dX2_leastFreePage_26 : decode cX2_leastFreePage 26 = .ok (.goto (-23), 3) := by decide +kernel
theorem dX2_leastFreePage_29 : decode cX2_leastFreePage 29 = .ok (.ldc 37, 2) := by decide +kernel
theorem dX2_leastFreePage_31 : decode cX2_leastFreePage 31 = .ok (.ireturn, 1) := by decide +kernel
theorem dX2_isBucketPlace_0 : decode cX2_isBucketPlace 0 = .ok (.iload_n 0, 1) := by decide +kernel
theorem dX2_isBucketPlace_1 : decode cX2_isBucketPlace 1 = .ok (.ifCond .lt 13, 3) := by decide +kernel
theorem dX2_isBucketPlace_4 : decode cX2_isBucketPlace 4 = .ok (.iload_n 0, 1) := by decide +kernel
theorem dX2_isBucketPlace_5 : decode cX2_isBucketPlace 5 = .ok (.bipush 64, 2) := by decide +kernel
theorem dX2_isBucketPlace_7 : decode cX2_isBucketPlace 7 = .ok (.if_icmp .ge 7, 3) := by decide +kernel
theorem dX2_isBucketPlace_10 : decode cX2_isBucketPlace 10 = .ok (.iconst 1, 1) := by decide +kernel
theorem dX2_isBucketPlace_11 : decode cX2_isBucketPlace 11 = .ok (.goto 4, 3) := by decide +kernel
theorem dX2_isBucketPlace_14 : decode cX2_isBucketPlace 14 = .ok (.iconst 0, 1) := by decide +kernel
theorem dX2_isBucketPlace_15 : decode cX2_isBucketPlace 15 = .ok (.ireturn, 1) := by decide +kernel
set_option maxRecDepth 20000 in
theorem ggX3_init_X0_init : GoodIn wsX3_init wsX0_init := goodIn_r _ [17, 18, 2, 3, 19, 20, 21, 46, 47, 48] (by decide +kernel) (by decide +kernel)
set_option maxRecDepth 20000 in
theorem gX3_init_X0_init_n11 : GoodIn wsX3_init (wsX0_init) := ggX3_init_X0_init
set_option maxRecDepth 20000 in
theorem ggX3_init_X2_init : GoodIn wsX3_init wsX2_init := goodIn_r _ [24, 25, 2, 3, 19, 26, 27, 28, 29, 30, 31, 32, 33, 34, 35, 36, 37, 38, 49, 50, 51, 52, 53, 54, 55, 56, 57, 58, 59] (by decide +kernel) (by decide +kernel)
set_option maxRecDepth 20000 in
theorem gX3_init_X2_init : GoodIn wsX3_init (wsX2_init) := ggX3_init_X2_init
set_option maxRecDepth 20000 in
theorem ggX3_init_X1_init : GoodIn wsX3_init wsX1_init := goodIn_r _ [40, 41, 2, 3, 19, 42, 43, 44, 45, 65, 66, 67, 68, 69, 70, 71, 72] (by decide +kernel) (by decide +kernel)
set_option maxRecDepth 20000 in
theorem gX3_init_X1_init_n26 : GoodIn wsX3_init (wsX1_init) := ggX3_init_X1_init
theorem dX3_init_0 : decode cX3_init 0 = .ok (.aload_n 0, 1) := by decide +kernel
theorem dX3_init_1 : decode cX3_init 1 = .ok (.invokespecial 3, 3) := by decide +kernel
theorem dX3_init_4 : decode cX3_init 4 = .ok (.new 9, 3) := by decide +kernel
theorem dX3_init_7 : decode cX3_init 7 = .ok (.dup, 1) := by decide +kernel
theorem dX3_init_8 : decode cX3_init 8 = .ok (.invokespecial 11, 3) := by decide +kernel
theorem dX3_init_11 : decode cX3_init 11 = .ok (.astore_n 1, 1) := by decide +kernel
theorem dX3_init_12 : decode cX3_init 12 = .ok (.aload_n 0, 1) := by decide +kernel
theorem dX3_init_13 : decode cX3_init 13 = .ok (.new 12, 3) := by decide +kernel
theorem dX3_init_16 : decode cX3_init 16 = .ok (.dup, 1) := by decide +kernel
theorem dX3_init_17 : decode cX3_init 17 = .ok (.aload_n 1, 1) := by decide +kernel
theorem dX3_init_18 : decode cX3_init 18 = .ok (.invokespecial 14, 3) := by decide +kernel
theorem dX3_init_21 : decode cX3_init 21 = .ok (.putfield 17, 3) := by decide +kernel
theorem dX3_init_24 : decode cX3_init 24 = .ok (.aload_n 0, 1) := by decide +kernel
theorem dX3_init_25 : decode cX3_init 25 = .ok (.new 12, 3) := by decide +kernel
theorem dX3_init_28 : decode cX3_init 28 = .ok (.dup, 1) := by decide +kernel
theorem dX3_init_29 : decode cX3_init 29 = .ok (.aload_n 1, 1) := by decide +kernel
theorem dX3_init_30 : decode cX3_init 30 = .ok (.invokespecial 14, 3) := by decide +kernel
theorem dX3_init_33 : decode cX3_init 33 = .ok (.putfield 21, 3) := by decide +kernel
theorem dX3_init_36 : decode cX3_init 36 = .ok (.aload_n 0, 1) := by decide +kernel
theorem dX3_init_37 : decode cX3_init 37 = .ok (.new 24, 3) := by decide +kernel
theorem dX3_init_40 : decode cX3_init 40 = .ok (.dup, 1) := by decide +kernel
theorem dX3_init_41 : decode cX3_init 41 = .ok (.invokespecial 26, 3) := by decide +kernel
theorem dX3_init_44 : decode cX3_init 44 = .ok (.putfield 27, 3) := by decide +kernel
theorem dX3_init_47 : decode cX3_init 47 = .ok (.return_, 1) := by decide +kernel
set_option maxRecDepth 20000 in
theorem ggX3_put_X2_find : GoodIn wsX3_put wsX2_find := goodIn_r _ [12, 13, 14, 15, 16, 17, 18, 19, 11, 20, 21, 22, 23, 24, 25, 26, 154, 155, 156, 157, 158, 159, 160, 161, 162, 163, 164] (by decide +kernel) (by decide +kernel)
set_option maxRecDepth 20000 in
theorem gX3_put_X2_find : GoodIn wsX3_put (wsV RX3 33 RX2 yX2_find wsX2_find) := goodIn_app (goodIn_of _ (by decide +kernel)) ggX3_put_X2_find
set_option maxRecDepth 20000 in
theorem ggX3_put_X2_hasRoomFor : GoodIn wsX3_put wsX2_hasRoomFor := goodIn_r _ [30, 16, 17, 18, 19, 11, 20, 21, 22, 23, 31, 32, 33, 34, 35, 36, 37, 38, 39, 40, 41, 42, 13, 24, 25, 26, 43, 44, 45, 46, 47, 154, 155, 156, 157, 158, 159, 160, 161, 162, 163, 164] (by decide +kernel) (by decide +kernel)
set_option maxRecDepth 20000 in
theorem gX3_put_X2_hasRoomFor : GoodIn wsX3_put (wsV RX3 38 RX2 yX2_hasRoomFor wsX2_hasRoomFor) := goodIn_app (goodIn_of _ (by decide +kernel)) ggX3_put_X2_hasRoomFor
set_option maxRecDepth 20000 in
theorem ggX3_put_X1_isFull : GoodIn wsX3_put wsX1_isFull := goodIn_r _ [52, 53, 165, 166, 167, 168, 169, 170, 171, 172] (by decide +kernel) (by decide +kernel)
set_option maxRecDepth 20000 in
theorem gX3_put_X1_isFull : GoodIn wsX3_put (wsV RX3 43 RX1 yX1_isFull wsX1_isFull) := goodIn_app (goodIn_of _ (by decide +kernel)) ggX3_put_X1_isFull
set_option maxRecDepth 20000 in
theorem ggX3_put_X3_write : GoodIn wsX3_put wsX3_write := goodIn_r _ [57, 3, 6, 58, 59, 60, 61, 11, 62, 16, 63, 64, 9, 10, 12, 13, 14, 15, 17, 18, 19, 20, 21, 22, 23, 24, 25, 26, 65, 66, 67, 68, 69, 31, 32, 33, 34, 35, 36, 37, 38, 39, 40, 41, 42, 70, 71, 72, 73, 74, 47, 43, 44, 45, 46, 75, 76, 77, 78, 79, 80, 81, 82, 83, 84, 85, 86, 87, 88, 89, 90, 91, 92, 93, 94, 95, 96, 97, 98, 99, 100, 101, 102, 103, 104, 105, 106, 107, 108, 109, 110, 111, 112, 113, 114, 115, 116, 117, 118, 119, 120, 121, 122, 123, 124, 125, 126, 127, 128, 129, 130, 131, 132, 133, 134, 135, 136, 137, 51, 138, 53, 139, 140, 141, 142, 143, 144, 145, 146, 147, 148, 149, 150, 151, 152, 153, 154, 155, 156, 157, 158, 159, 160, 161, 162, 163, 164, 173, 174, 175, 165, 166, 167, 168, 169, 170, 171, 172] (by decide +kernel) (by decide +kernel)
set_option maxRecDepth 20000 in
theorem gX3_put_X3_write : GoodIn wsX3_put (wsV RX3 48 RX3 yX3_write wsX3_write) := goodIn_app (goodIn_of _ (by decide +kernel)) ggX3_put_X3_write
theorem dX3_put_0 : decode cX3_put 0 = .ok (.iload_n 2, 1) := by decide +kernel
theorem dX3_put_1 : decode cX3_put 1 = .ok (.ifCond .lt 9, 3) := by decide +kernel
theorem dX3_put_4 : decode cX3_put 4 = .ok (.iload_n 2, 1) := by decide +kernel
theorem dX3_put_5 : decode cX3_put 5 = .ok (.ldc 31, 2) := by decide +kernel
theorem dX3_put_7 : decode cX3_put 7 = .ok (.if_icmp .le 6, 3) := by decide +kernel
theorem dX3_put_10 : decode cX3_put 10 = .ok (.ldc 32, 2) := by decide +kernel
theorem dX3_put_12 : decode cX3_put 12 = .ok (.ireturn, 1) := by decide +kernel
theorem dX3_put_13 : decode cX3_put 13 = .ok (.aload_n 0, 1) := by decide +kernel
theorem dX3_put_14 : decode cX3_put 14 = .ok (.getfield 17, 3) := by decide +kernel
theorem dX3_put_17 : decode cX3_put 17 = .ok (.iload_n 1, 1) := by decide +kernel
theorem dX3_put_18 : decode cX3_put 18 = .ok (.invokevirtual 33, 3) := by decide +kernel
theorem dX3_put_21 : decode cX3_put 21 = .ok (.ldc 37, 2) := by decide +kernel
theorem dX3_put_23 : decode cX3_put 23 = .ok (.if_icmp .eq 7, 3) := by decide +kernel
theorem dX3_put_26 : decode cX3_put 26 = .ok (.iconst 1, 1) := by decide +kernel
theorem dX3_put_27 : decode cX3_put 27 = .ok (.goto 4, 3) := by decide +kernel
theorem dX3_put_30 : decode cX3_put 30 = .ok (.iconst 0, 1) := by decide +kernel
theorem dX3_put_31 : decode cX3_put 31 = .ok (.istore_n 3, 1) := by decide +kernel
theorem dX3_put_32 : decode cX3_put 32 = .ok (.iload_n 3, 1) := by decide +kernel
theorem dX3_put_33 : decode cX3_put 33 = .ok (.ifCond .ne 17, 3) := by decide +kernel
theorem dX3_put_36 : decode cX3_put 36 = .ok (.aload_n 0, 1) := by decide +kernel
theorem dX3_put_37 : decode cX3_put 37 = .ok (.getfield 17, 3) := by decide +kernel
theorem dX3_put_40 : decode cX3_put 40 = .ok (.iload_n 1, 1) := by decide +kernel
theorem dX3_put_41 : decode cX3_put 41 = .ok (.invokevirtual 38, 3) := by decide +kernel
theorem dX3_put_44 : decode cX3_put 44 = .ok (.ifCond .ne 6, 3) := by decide +kernel
theorem dX3_put_47 : decode cX3_put 47 = .ok (.ldc 42, 2) := by decide +kernel
theorem dX3_put_49 : decode cX3_put 49 = .ok (.ireturn, 1) := by decide +kernel
theorem dX3_put_50 : decode cX3_put 50 = .ok (.aload_n 0, 1) := by decide +kernel
theorem dX3_put_51 : decode cX3_put 51 = .ok (.getfield 27, 3) := by decide +kernel
theorem dX3_put_54 : decode cX3_put 54 = .ok (.invokevirtual 43, 3) := by decide +kernel
theorem dX3_put_57 : decode cX3_put 57 = .ok (.ifCond .eq 6, 3) := by decide +kernel
theorem dX3_put_60 : decode cX3_put 60 = .ok (.ldc 47, 2) := by decide +kernel
theorem dX3_put_62 : decode cX3_put 62 = .ok (.ireturn, 1) := by decide +kernel
theorem dX3_put_63 : decode cX3_put 63 = .ok (.aload_n 0, 1) := by decide +kernel
theorem dX3_put_64 : decode cX3_put 64 = .ok (.iconst 0, 1) := by decide +kernel
theorem dX3_put_65 : decode cX3_put 65 = .ok (.iload_n 1, 1) := by decide +kernel
theorem dX3_put_66 : decode cX3_put 66 = .ok (.iload_n 2, 1) := by decide +kernel
theorem dX3_put_67 : decode cX3_put 67 = .ok (.invokevirtual 48, 3) := by decide +kernel
theorem dX3_put_70 : decode cX3_put 70 = .ok (.iload_n 3, 1) := by decide +kernel
theorem dX3_put_71 : decode cX3_put 71 = .ok (.ifCond .eq 7, 3) := by decide +kernel
theorem dX3_put_74 : decode cX3_put 74 = .ok (.iconst 1, 1) := by decide +kernel
theorem dX3_put_75 : decode cX3_put 75 = .ok (.goto 4, 3) := by decide +kernel
theorem dX3_put_78 : decode cX3_put 78 = .ok (.iconst 0, 1) := by decide +kernel
theorem dX3_put_79 : decode cX3_put 79 = .ok (.ireturn, 1) := by decide +kernel
set_option maxRecDepth 20000 in
theorem ggX3_remove_X2_find : GoodIn wsX3_remove wsX2_find := goodIn_r _ [9, 10, 11, 12, 13, 14, 15, 16, 8, 17, 18, 19, 20, 21, 22, 23, 151, 152, 153, 154, 155, 156, 157, 158, 159, 160, 161] (by decide +kernel) (by decide +kernel)
set_option maxRecDepth 20000 in
theorem gX3_remove_X2_find : GoodIn wsX3_remove (wsV RX3 33 RX2 yX2_find wsX2_find) := goodIn_app (goodIn_of _ (by decide +kernel)) ggX3_remove_X2_find
set_option maxRecDepth 20000 in
theorem ggX3_remove_X1_isFull : GoodIn wsX3_remove wsX1_isFull := goodIn_r _ [28, 29, 162, 163, 164, 165, 166, 167, 168, 169] (by decide +kernel) (by decide +kernel)
set_option maxRecDepth 20000 in
theorem gX3_remove_X1_isFull : GoodIn wsX3_remove (wsV RX3 43 RX1 yX1_isFull wsX1_isFull) := goodIn_app (goodIn_of _ (by decide +kernel)) ggX3_remove_X1_isFull
set_option maxRecDepth 20000 in
theorem ggX3_remove_X2_valueIn : GoodIn wsX3_remove wsX2_valueIn := goodIn_r _ [33, 34, 13, 151, 152, 153, 154, 155, 156, 157, 158, 159, 160, 161] (by decide +kernel) (by decide +kernel)
set_option maxRecDepth 20000 in
theorem gX3_remove_X2_valueIn : GoodIn wsX3_remove (wsV RX3 52 RX2 yX2_valueIn wsX2_valueIn) := goodIn_app (goodIn_of _ (by decide +kernel)) ggX3_remove_X2_valueIn
set_option maxRecDepth 20000 in
theorem ggX3_remove_X3_write : GoodIn wsX3_remove wsX3_write := goodIn_r _ [38, 1, 3, 39, 40, 41, 42, 8, 43, 13, 44, 45, 6, 7, 9, 10, 11, 12, 14, 15, 16, 17, 18, 19, 20, 21, 22, 23, 46, 47, 48, 49, 34, 50, 51, 52, 53, 54, 55, 56, 57, 58, 59, 60, 61, 62, 63, 64, 65, 66, 67, 68, 69, 70, 71, 72, 73, 74, 75, 76, 77, 78, 79, 80, 81, 82, 83, 84, 85, 86, 87, 88, 89, 90, 91, 92, 93, 94, 95, 96, 97, 98, 99, 100, 101, 102, 103, 104, 105, 106, 107, 108, 109, 110, 111, 112, 113, 114, 115, 116, 117, 118, 119, 120, 121, 122, 123, 124, 125, 126, 127, 128, 129, 130, 131, 132, 133, 134, 27, 135, 29, 136, 137, 138, 139, 140, 141, 142, 143, 144, 145, 146, 147, 148, 149, 150, 151, 152, 153, 154, 155, 156, 157, 158, 159, 160, 161, 170, 171, 172, 162, 163, 164, 165, 166, 167, 168, 169] (by decide +kernel) (by decide +kernel)
set_option maxRecDepth 20000 in
theorem gX3_remove_X3_write : GoodIn wsX3_remove (wsV RX3 48 RX3 yX3_write wsX3_write) := goodIn_app (goodIn_of _ (by decide +kernel)) ggX3_remove_X3_write
theorem dX3_remove_0 : decode cX3_remove 0 = .ok (.aload_n 0, 1) := by decide +kernel
theorem dX3_remove_1 : decode cX3_remove 1 = .ok (.getfield 17, 3) := by decide +kernel
theorem dX3_remove_4 : decode cX3_remove 4 = .ok (.iload_n 1, 1) := by decide +kernel
theorem dX3_remove_5 : decode cX3_remove 5 = .ok (.invokevirtual 33, 3) := by decide +kernel
theorem dX3_remove_8 : decode cX3_remove 8 = .ok (.istore_n 2, 1) := by decide +kernel
theorem dX3_remove_9 : decode cX3_remove 9 = .ok (.iload_n 2, 1) := by decide +kernel
theorem dX3_remove_10 : decode cX3_remove 10 = .ok (.ldc 37, 2) := by decide +kernel
theorem dX3_remove_12 : decode cX3_remove 12 = .ok (.if_icmp .ne 6, 3) := by decide +kernel
theorem dX3_remove_15 : decode cX3_remove 15 = .ok (.ldc 37, 2) := by decide +kernel
theorem dX3_remove_17 : decode cX3_remove 17 = .ok (.ireturn, 1) := by decide +kernel
theorem dX3_remove_18 : decode cX3_remove 18 = .ok (.aload_n 0, 1) := by decide +kernel
theorem dX3_remove_19 : decode cX3_remove 19 = .ok (.getfield 27, 3) := by decide +kernel
theorem dX3_remove_22 : decode cX3_remove 22 = .ok (.invokevirtual 43, 3) := by decide +kernel
theorem dX3_remove_25 : decode cX3_remove 25 = .ok (.ifCond .eq 6, 3) := by decide +kernel
theorem dX3_remove_28 : decode cX3_remove 28 = .ok (.ldc 47, 2) := by decide +kernel
theorem dX3_remove_30 : decode cX3_remove 30 = .ok (.ireturn, 1) := by decide +kernel
theorem dX3_remove_31 : decode cX3_remove 31 = .ok (.aload_n 0, 1) := by decide +kernel
theorem dX3_remove_32 : decode cX3_remove 32 = .ok (.getfield 17, 3) := by decide +kernel
theorem dX3_remove_35 : decode cX3_remove 35 = .ok (.iload_n 2, 1) := by decide +kernel
theorem dX3_remove_36 : decode cX3_remove 36 = .ok (.invokevirtual 52, 3) := by decide +kernel
theorem dX3_remove_39 : decode cX3_remove 39 = .ok (.istore_n 3, 1) := by decide +kernel
theorem dX3_remove_40 : decode cX3_remove 40 = .ok (.aload_n 0, 1) := by decide +kernel
theorem dX3_remove_41 : decode cX3_remove 41 = .ok (.iconst 1, 1) := by decide +kernel
theorem dX3_remove_42 : decode cX3_remove 42 = .ok (.iload_n 1, 1) := by decide +kernel
theorem dX3_remove_43 : decode cX3_remove 43 = .ok (.iload_n 3, 1) := by decide +kernel
theorem dX3_remove_44 : decode cX3_remove 44 = .ok (.invokevirtual 48, 3) := by decide +kernel
theorem dX3_remove_47 : decode cX3_remove 47 = .ok (.iload_n 3, 1) := by decide +kernel
theorem dX3_remove_48 : decode cX3_remove 48 = .ok (.ireturn, 1) := by decide +kernel
set_option maxRecDepth 20000 in
theorem ggX3_get_X2_find : GoodIn wsX3_get wsX2_find := goodIn_r _ [8, 9, 10, 11, 12, 13, 14, 15, 7, 16, 17, 18, 19, 20, 21, 22, 37, 38, 39, 40, 41, 42, 43, 44, 45, 46, 47] (by decide +kernel) (by decide +kernel)
set_option maxRecDepth 20000 in
theorem gX3_get_X2_find : GoodIn wsX3_get (wsV RX3 33 RX2 yX2_find wsX2_find) := goodIn_app (goodIn_of _ (by decide +kernel)) ggX3_get_X2_find
set_option maxRecDepth 20000 in
theorem ggX3_get_X2_pagesLookedAt : GoodIn wsX3_get wsX2_pagesLookedAt := goodIn_r _ [26, 12, 11, 13, 14, 15, 7, 16, 17, 18, 19, 20, 21, 22, 37, 38, 39, 40, 41, 42, 43, 44, 45, 46, 47] (by decide +kernel) (by decide +kernel)
set_option maxRecDepth 20000 in
theorem gX3_get_X2_pagesLookedAt : GoodIn wsX3_get (wsV RX3 59 RX2 yX2_pagesLookedAt wsX2_pagesLookedAt) := goodIn_app (goodIn_of _ (by decide +kernel)) ggX3_get_X2_pagesLookedAt
set_option maxRecDepth 20000 in
theorem ggX3_get_X2_valueIn : GoodIn wsX3_get wsX2_valueIn := goodIn_r _ [30, 31, 12, 37, 38, 39, 40, 41, 42, 43, 44, 45, 46, 47] (by decide +kernel) (by decide +kernel)
set_option maxRecDepth 20000 in
theorem gX3_get_X2_valueIn : GoodIn wsX3_get (wsV RX3 52 RX2 yX2_valueIn wsX2_valueIn) := goodIn_app (goodIn_of _ (by decide +kernel)) ggX3_get_X2_valueIn
theorem dX3_get_0 : decode cX3_get 0 = .ok (.aload_n 0, 1) := by decide +kernel
theorem dX3_get_1 : decode cX3_get 1 = .ok (.getfield 17, 3) := by decide +kernel
theorem dX3_get_4 : decode cX3_get 4 = .ok (.iload_n 1, 1) := by decide +kernel
theorem dX3_get_5 : decode cX3_get 5 = .ok (.invokevirtual 33, 3) := by decide +kernel
theorem dX3_get_8 : decode cX3_get 8 = .ok (.istore_n 2, 1) := by decide +kernel
theorem dX3_get_9 : decode cX3_get 9 = .ok (.aload_n 0, 1) := by decide +kernel
theorem dX3_get_10 : decode cX3_get 10 = .ok (.dup, 1) := by decide +kernel
theorem dX3_get_11 : decode cX3_get 11 = .ok (.getfield 55, 3) := by decide +kernel
theorem dX3_get_14 : decode cX3_get 14 = .ok (.aload_n 0, 1) := by decide +kernel
theorem dX3_get_15 : decode cX3_get 15 = .ok (.getfield 17, 3) := by decide +kernel
theorem dX3_get_18 : decode cX3_get 18 = .ok (.iload_n 1, 1) := by decide +kernel
theorem dX3_get_19 : decode cX3_get 19 = .ok (.iload_n 2, 1) := by decide +kernel
theorem dX3_get_20 : decode cX3_get 20 = .ok (.invokevirtual 59, 3) := by decide +kernel
theorem dX3_get_23 : decode cX3_get 23 = .ok (.iadd, 1) := by decide +kernel
theorem dX3_get_24 : decode cX3_get 24 = .ok (.putfield 55, 3) := by decide +kernel
theorem dX3_get_27 : decode cX3_get 27 = .ok (.iload_n 2, 1) := by decide +kernel
theorem dX3_get_28 : decode cX3_get 28 = .ok (.ldc 37, 2) := by decide +kernel
theorem dX3_get_30 : decode cX3_get 30 = .ok (.if_icmp .ne 8, 3) := by decide +kernel
theorem dX3_get_33 : decode cX3_get 33 = .ok (.ldc 37, 2) := by decide +kernel
theorem dX3_get_35 : decode cX3_get 35 = .ok (.goto 11, 3) := by decide +kernel
theorem dX3_get_38 : decode cX3_get 38 = .ok (.aload_n 0, 1) := by decide +kernel
theorem dX3_get_39 : decode cX3_get 39 = .ok (.getfield 17, 3) := by decide +kernel
theorem dX3_get_42 : decode cX3_get 42 = .ok (.iload_n 2, 1) := by decide +kernel
theorem dX3_get_43 : decode cX3_get 43 = .ok (.invokevirtual 52, 3) := by decide +kernel
theorem dX3_get_46 : decode cX3_get 46 = .ok (.ireturn, 1) := by decide +kernel
set_option maxRecDepth 20000 in
theorem ggX3_begin_X1_isOpen : GoodIn wsX3_begin wsX1_isOpen := goodIn_r _ [7, 8, 20, 21, 22, 23, 24, 25, 26, 27] (by decide +kernel) (by decide +kernel)
set_option maxRecDepth 20000 in
theorem gX3_begin_X1_isOpen : GoodIn wsX3_begin (wsV RX3 63 RX1 yX1_isOpen wsX1_isOpen) := goodIn_app (goodIn_of _ (by decide +kernel)) ggX3_begin_X1_isOpen
set_option maxRecDepth 20000 in
theorem ggX3_begin_X1_openGroup : GoodIn wsX3_begin wsX1_openGroup := goodIn_r _ [12, 8, 13, 14, 20, 21, 22, 23, 24, 25, 26, 27] (by decide +kernel) (by decide +kernel)
set_option maxRecDepth 20000 in
theorem gX3_begin_X1_openGroup : GoodIn wsX3_begin (wsV RX3 67 RX1 yX1_openGroup wsX1_openGroup) := goodIn_app (goodIn_of _ (by decide +kernel)) ggX3_begin_X1_openGroup
theorem dX3_begin_0 : decode cX3_begin 0 = .ok (.aload_n 0, 1) := by decide +kernel
theorem dX3_begin_1 : decode cX3_begin 1 = .ok (.getfield 27, 3) := by decide +kernel
theorem dX3_begin_4 : decode cX3_begin 4 = .ok (.invokevirtual 63, 3) := by decide +kernel
theorem dX3_begin_7 : decode cX3_begin 7 = .ok (.ifCond .eq 6, 3) := by decide +kernel
theorem dX3_begin_10 : decode cX3_begin 10 = .ok (.ldc 66, 2) := by decide +kernel
theorem dX3_begin_12 : decode cX3_begin 12 = .ok (.ireturn, 1) := by decide +kernel
theorem dX3_begin_13 : decode cX3_begin 13 = .ok (.aload_n 0, 1) := by decide +kernel
theorem dX3_begin_14 : decode cX3_begin 14 = .ok (.getfield 27, 3) := by decide +kernel
theorem dX3_begin_17 : decode cX3_begin 17 = .ok (.invokevirtual 67, 3) := by decide +kernel
theorem dX3_begin_20 : decode cX3_begin 20 = .ok (.iconst 0, 1) := by decide +kernel
theorem dX3_begin_21 : decode cX3_begin 21 = .ok (.ireturn, 1) := by decide +kernel
set_option maxRecDepth 20000 in
theorem ggX3_end_X1_isOpen : GoodIn wsX3_end wsX1_isOpen := goodIn_r _ [7, 8, 31, 32, 33, 34, 35, 36, 37, 38] (by decide +kernel) (by decide +kernel)
set_option maxRecDepth 20000 in
theorem gX3_end_X1_isOpen : GoodIn wsX3_end (wsV RX3 63 RX1 yX1_isOpen wsX1_isOpen) := goodIn_app (goodIn_of _ (by decide +kernel)) ggX3_end_X1_isOpen
set_option maxRecDepth 20000 in
theorem ggX3_end_X1_openWrites : GoodIn wsX3_end wsX1_openWrites := goodIn_r _ [12, 8, 13, 14, 31, 32, 33, 34, 35, 36, 37, 38] (by decide +kernel) (by decide +kernel)
set_option maxRecDepth 20000 in
theorem gX3_end_X1_openWrites : GoodIn wsX3_end (wsV RX3 70 RX1 yX1_openWrites wsX1_openWrites) := goodIn_app (goodIn_of _ (by decide +kernel)) ggX3_end_X1_openWrites
set_option maxRecDepth 20000 in
theorem ggX3_end_X1_closeGroup : GoodIn wsX3_end wsX1_closeGroup := goodIn_r _ [18, 8, 19, 10, 11, 6, 12, 13, 14, 20, 21, 22, 23, 24, 25, 31, 32, 33, 34, 35, 36, 37, 38] (by decide +kernel) (by decide +kernel)
set_option maxRecDepth 20000 in
theorem gX3_end_X1_closeGroup : GoodIn wsX3_end (wsV RX3 74 RX1 yX1_closeGroup wsX1_closeGroup) := goodIn_app (goodIn_of _ (by decide +kernel)) ggX3_end_X1_closeGroup
theorem dX3_end_0 : decode cX3_end 0 = .ok (.aload_n 0, 1) := by decide +kernel
theorem dX3_end_1 : decode cX3_end 1 = .ok (.getfield 27, 3) := by decide +kernel
theorem dX3_end_4 : decode cX3_end 4 = .ok (.invokevirtual 63, 3) := by decide +kernel
theorem dX3_end_7 : decode cX3_end 7 = .ok (.ifCond .ne 6, 3) := by decide +kernel
theorem dX3_end_10 : decode cX3_end 10 = .ok (.ldc 66, 2) := by decide +kernel
theorem dX3_end_12 : decode cX3_end 12 = .ok (.ireturn, 1) := by decide +kernel
theorem dX3_end_13 : decode cX3_end 13 = .ok (.aload_n 0, 1) := by decide +kernel
theorem dX3_end_14 : decode cX3_end 14 = .ok (.getfield 27, 3) := by decide +kernel
theorem dX3_end_17 : decode cX3_end 17 = .ok (.invokevirtual 70, 3) := by decide +kernel
theorem dX3_end_20 : decode cX3_end 20 = .ok (.istore_n 1, 1) := by decide +kernel
theorem dX3_end_21 : decode cX3_end 21 = .ok (.aload_n 0, 1) := by decide +kernel
theorem dX3_end_22 : decode cX3_end 22 = .ok (.getfield 27, 3) := by decide +kernel
theorem dX3_end_25 : decode cX3_end 25 = .ok (.invokevirtual 74, 3) := by decide +kernel
theorem dX3_end_28 : decode cX3_end 28 = .ok (.iload_n 1, 1) := by decide +kernel
theorem dX3_end_29 : decode cX3_end 29 = .ok (.ireturn, 1) := by decide +kernel
set_option maxRecDepth 20000 in
theorem ggX3_undo_X1_isOpen : GoodIn wsX3_undo wsX1_isOpen := goodIn_r _ [7, 8, 174, 175, 176, 177, 178, 179, 180, 181] (by decide +kernel) (by decide +kernel)
set_option maxRecDepth 20000 in
theorem gX3_undo_X1_isOpen : GoodIn wsX3_undo (wsV RX3 63 RX1 yX1_isOpen wsX1_isOpen) := goodIn_app (goodIn_of _ (by decide +kernel)) ggX3_undo_X1_isOpen
set_option maxRecDepth 20000 in
theorem ggX3_undo_X1_openWrites : GoodIn wsX3_undo wsX1_openWrites := goodIn_r _ [12, 8, 13, 14, 174, 175, 176, 177, 178, 179, 180, 181] (by decide +kernel) (by decide +kernel)
set_option maxRecDepth 20000 in
theorem gX3_undo_X1_openWrites : GoodIn wsX3_undo (wsV RX3 70 RX1 yX1_openWrites wsX1_openWrites) := goodIn_app (goodIn_of _ (by decide +kernel)) ggX3_undo_X1_openWrites
set_option maxRecDepth 20000 in
theorem ggX3_undo_X1_dropOpenGroup : GoodIn wsX3_undo wsX1_dropOpenGroup := goodIn_r _ [18, 8, 14, 13, 174, 175, 176, 177, 178, 179, 180, 181] (by decide +kernel) (by decide +kernel)
set_option maxRecDepth 20000 in
theorem gX3_undo_X1_dropOpenGroup : GoodIn wsX3_undo (wsV RX3 77 RX1 yX1_dropOpenGroup wsX1_dropOpenGroup) := goodIn_app (goodIn_of _ (by decide +kernel)) ggX3_undo_X1_dropOpenGroup
set_option maxRecDepth 20000 in
theorem ggX3_undo_X1_writeCount : GoodIn wsX3_undo wsX1_writeCount := goodIn_r _ [22, 13, 174, 175, 176, 177, 178, 179, 180, 181] (by decide +kernel) (by decide +kernel)
set_option maxRecDepth 20000 in
theorem gX3_undo_X1_writeCount : GoodIn wsX3_undo (wsV RX3 80 RX1 yX1_writeCount wsX1_writeCount) := goodIn_app (goodIn_of _ (by decide +kernel)) ggX3_undo_X1_writeCount
set_option maxRecDepth 20000 in
theorem ggX3_undo_X3_takeBack : GoodIn wsX3_undo wsX3_takeBack := goodIn_r _ [27, 28, 29, 30, 1, 31, 32, 33, 34, 35, 36, 37, 38, 39, 40, 41, 42, 43, 44, 45, 46, 47, 48, 49, 50, 51, 52, 6, 53, 54, 55, 56, 57, 58, 59, 13, 60, 61, 62, 63, 64, 65, 66, 67, 68, 69, 70, 71, 72, 73, 74, 75, 76, 77, 78, 79, 80, 81, 82, 83, 84, 26, 85, 86, 87, 88, 89, 90, 91, 92, 93, 94, 95, 96, 97, 98, 99, 100, 101, 102, 103, 104, 105, 106, 107, 108, 109, 110, 111, 112, 113, 114, 115, 116, 117, 118, 119, 120, 121, 122, 123, 124, 125, 126, 127, 128, 129, 130, 131, 132, 133, 134, 135, 136, 137, 138, 139, 140, 141, 142, 143, 144, 145, 146, 147, 148, 149, 150, 151, 152, 153, 154, 155, 156, 157, 158, 159, 160, 161, 162, 163, 164, 165, 166, 167, 168, 169, 170, 171, 172, 173, 182, 183, 184, 185, 186, 187, 188, 189, 190, 191, 192, 174, 175, 176, 177, 178, 179, 180, 181, 193, 194, 195] (by decide +kernel) (by decide +kernel)
set_option maxRecDepth 20000 in
theorem gX3_undo_X3_takeBack : GoodIn wsX3_undo (wsV RX3 83 RX3 yX3_takeBack wsX3_takeBack) := goodIn_app (goodIn_of _ (by decide +kernel)) ggX3_undo_X3_takeBack
theorem dX3_undo_0 : decode cX3_undo 0 = .ok (.aload_n 0, 1) := by decide +kernel
theorem dX3_undo_1 : decode cX3_undo 1 = .ok (.getfield 27, 3) := by decide +kernel
theorem dX3_undo_4 : decode cX3_undo 4 = .ok (.invokevirtual 63, 3) := by decide +kernel
theorem dX3_undo_7 : decode cX3_undo 7 = .ok (.ifCond .ne 6, 3) := by decide +kernel
theorem dX3_undo_10 : decode cX3_undo 10 = .ok (.ldc 66, 2) := by decide +kernel
theorem dX3_undo_12 : decode cX3_undo 12 = .ok (.ireturn, 1) := by decide +kernel
theorem dX3_undo_13 : decode cX3_undo 13 = .ok (.aload_n 0, 1) := by decide +kernel
theorem dX3_undo_14 : decode cX3_undo 14 = .ok (.getfield 27, 3) := by decide +kernel
theorem dX3_undo_17 : decode cX3_undo 17 = .ok (.invokevirtual 70, 3) := by decide +kernel
theorem dX3_undo_20 : decode cX3_undo 20 = .ok (.istore_n 1, 1) := by decide +kernel
theorem dX3_undo_21 : decode cX3_undo 21 = .ok (.aload_n 0, 1) := by decide +kernel
theorem dX3_undo_22 : decode cX3_undo 22 = .ok (.getfield 27, 3) := by decide +kernel
theorem dX3_undo_25 : decode cX3_undo 25 = .ok (.invokevirtual 77, 3) := by decide +kernel
theorem dX3_undo_28 : decode cX3_undo 28 = .ok (.aload_n 0, 1) := by decide +kernel
theorem dX3_undo_29 : decode cX3_undo 29 = .ok (.iload_n 1, 1) := by decide +kernel
theorem dX3_undo_30 : decode cX3_undo 30 = .ok (.aload_n 0, 1) := by decide +kernel
theorem dX3_undo_31 : decode cX3_undo 31 = .ok (.getfield 27, 3) := by decide +kernel
theorem dX3_undo_34 : decode cX3_undo 34 = .ok (.invokevirtual 80, 3) := by decide +kernel
theorem dX3_undo_37 : decode cX3_undo 37 = .ok (.invokevirtual 83, 3) := by decide +kernel
theorem dX3_undo_40 : decode cX3_undo 40 = .ok (.iload_n 1, 1) := by decide +kernel
theorem dX3_undo_41 : decode cX3_undo 41 = .ok (.ireturn, 1) := by decide +kernel
set_option maxRecDepth 20000 in
theorem ggX3_keep_X1_isOpen : GoodIn wsX3_keep wsX1_isOpen := goodIn_r _ [7, 8, 50, 51, 52, 53, 54, 55, 56, 57] (by decide +kernel) (by decide +kernel)
set_option maxRecDepth 20000 in
theorem gX3_keep_X1_isOpen : GoodIn wsX3_keep (wsV RX3 63 RX1 yX1_isOpen wsX1_isOpen) := goodIn_app (goodIn_of _ (by decide +kernel)) ggX3_keep_X1_isOpen
set_option maxRecDepth 20000 in
theorem ggX3_keep_X1_writeCount : GoodIn wsX3_keep wsX1_writeCount := goodIn_r _ [12, 13, 50, 51, 52, 53, 54, 55, 56, 57] (by decide +kernel) (by decide +kernel)
set_option maxRecDepth 20000 in
theorem gX3_keep_X1_writeCount : GoodIn wsX3_keep (wsV RX3 80 RX1 yX1_writeCount wsX1_writeCount) := goodIn_app (goodIn_of _ (by decide +kernel)) ggX3_keep_X1_writeCount
set_option maxRecDepth 20000 in
theorem ggX3_keep_X3_keepCurrent : GoodIn wsX3_keep wsX3_keepCurrent := goodIn_r _ [18, 19, 20, 1, 21, 22, 23, 24, 25, 26, 27, 28, 29, 30, 31, 32, 33, 34, 35, 36, 37, 38, 39, 40, 41, 42, 6, 43, 13, 44, 8, 45, 46, 47, 48, 49, 58, 59, 60, 61, 62, 63, 64, 65, 66, 67, 68, 50, 51, 52, 53, 54, 55, 56, 57] (by decide +kernel) (by decide +kernel)
set_option maxRecDepth 20000 in
theorem gX3_keep_X3_keepCurrent : GoodIn wsX3_keep (wsV RX3 87 RX3 yX3_keepCurrent wsX3_keepCurrent) := goodIn_app (goodIn_of _ (by decide +kernel)) ggX3_keep_X3_keepCurrent
theorem dX3_keep_0 : decode cX3_keep 0 = .ok (.aload_n 0, 1) := by decide +kernel
theorem dX3_keep_1 : decode cX3_keep 1 = .ok (.getfield 27, 3) := by decide +kernel
theorem dX3_keep_4 : decode cX3_keep 4 = .ok (.invokevirtual 63, 3) := by decide +kernel
theorem dX3_keep_7 : decode cX3_keep 7 = .ok (.ifCond .eq 6, 3) := by decide +kernel
theorem dX3_keep_10 : decode cX3_keep 10 = .ok (.ldc 66, 2) := by decide +kernel
theorem dX3_keep_12 : decode cX3_keep 12 = .ok (.ireturn, 1) := by decide +kernel
theorem dX3_keep_13 : decode cX3_keep 13 = .ok (.aload_n 0, 1) := by decide +kernel
theorem dX3_keep_14 : decode cX3_keep 14 = .ok (.getfield 27, 3) := by decide +kernel
theorem dX3_keep_17 : decode cX3_keep 17 = .ok (.invokevirtual 80, 3) := by decide +kernel
theorem dX3_keep_20 : decode cX3_keep 20 = .ok (.istore_n 1, 1) := by decide +kernel
theorem dX3_keep_21 : decode cX3_keep 21 = .ok (.aload_n 0, 1) := by decide +kernel
theorem dX3_keep_22 : decode cX3_keep 22 = .ok (.invokevirtual 87, 3) := by decide +kernel
theorem dX3_keep_25 : decode cX3_keep 25 = .ok (.iload_n 1, 1) := by decide +kernel
theorem dX3_keep_26 : decode cX3_keep 26 = .ok (.ireturn, 1) := by decide +kernel
set_option maxRecDepth 20000 in
theorem ggX3_stop_X1_writesInFirstGroups : GoodIn wsX3_stop wsX1_writesInFirstGroups := goodIn_r _ [7, 8, 9, 10, 11, 12, 13, 178, 179, 180, 181, 182, 183, 184, 185] (by decide +kernel) (by decide +kernel)
set_option maxRecDepth 20000 in
theorem gX3_stop_X1_writesInFirstGroups : GoodIn wsX3_stop (wsV RX3 90 RX1 yX1_writesInFirstGroups wsX1_writesInFirstGroups) := goodIn_app (goodIn_of _ (by decide +kernel)) ggX3_stop_X1_writesInFirstGroups
set_option maxRecDepth 20000 in
theorem ggX3_stop_X1_writeCount : GoodIn wsX3_stop wsX1_writeCount := goodIn_r _ [17, 18, 178, 179, 180, 181, 182, 183, 184, 185] (by decide +kernel) (by decide +kernel)
set_option maxRecDepth 20000 in
theorem gX3_stop_X1_writeCount : GoodIn wsX3_stop (wsV RX3 80 RX1 yX1_writeCount wsX1_writeCount) := goodIn_app (goodIn_of _ (by decide +kernel)) ggX3_stop_X1_writeCount
set_option maxRecDepth 20000 in
theorem ggX3_stop_X3_takeBack : GoodIn wsX3_stop wsX3_takeBack := goodIn_r _ [23, 24, 25, 26, 2, 27, 28, 29, 30, 31, 32, 33, 34, 35, 36, 37, 38, 39, 40, 41, 42, 43, 44, 45, 46, 47, 48, 6, 49, 50, 51, 52, 53, 54, 55, 18, 56, 57, 58, 59, 60, 61, 62, 63, 64, 65, 66, 67, 68, 69, 70, 71, 72, 73, 74, 75, 76, 77, 78, 79, 80, 22, 81, 82, 83, 84, 85, 86, 87, 88, 89, 90, 91, 92, 93, 94, 95, 96, 97, 98, 99, 100, 101, 102, 103, 104, 105, 106, 107, 108, 109, 110, 111, 112, 113, 114, 115, 116, 117, 118, 119, 120, 121, 122, 123, 124, 125, 126, 127, 128, 129, 130, 131, 132, 133, 134, 135, 136, 137, 138, 139, 140, 141, 142, 143, 144, 145, 146, 147, 148, 149, 150, 151, 152, 153, 154, 11, 155, 156, 157, 158, 159, 160, 161, 162, 163, 173, 174, 175, 176, 177, 186, 187, 188, 189, 190, 191, 192, 193, 194, 195, 196, 178, 179, 180, 181, 182, 183, 184, 185, 197, 198, 199] (by decide +kernel) (by decide +kernel)
set_option maxRecDepth 20000 in
theorem gX3_stop_X3_takeBack : GoodIn wsX3_stop (wsV RX3 83 RX3 yX3_takeBack wsX3_takeBack) := goodIn_app (goodIn_of _ (by decide +kernel)) ggX3_stop_X3_takeBack
set_option maxRecDepth 20000 in
theorem ggX3_stop_X3_keepCurrent : GoodIn wsX3_stop wsX3_keepCurrent := goodIn_r _ [167, 26, 25, 2, 27, 28, 29, 30, 31, 32, 33, 34, 35, 36, 37, 38, 39, 40, 41, 42, 43, 44, 45, 168, 169, 170, 6, 171, 18, 8, 172, 173, 174, 175, 176, 177, 186, 187, 188, 189, 190, 191, 192, 193, 194, 195, 196, 178, 179, 180, 181, 182, 183, 184, 185] (by decide +kernel) (by decide +kernel)
set_option maxRecDepth 20000 in
theorem gX3_stop_X3_keepCurrent : GoodIn wsX3_stop (wsV RX3 87 RX3 yX3_keepCurrent wsX3_keepCurrent) := goodIn_app (goodIn_of _ (by decide +kernel)) ggX3_stop_X3_keepCurrent
theorem dX3_stop_0 : decode cX3_stop 0 = .ok (.iload_n 1, 1) := by decide +kernel
theorem dX3_stop_1 : decode cX3_stop 1 = .ok (.ifCond .ge 6, 3) := by decide +kernel
theorem dX3_stop_4 : decode cX3_stop 4 = .ok (.ldc 32, 2) := by decide +kernel
theorem dX3_stop_6 : decode cX3_stop 6 = .ok (.ireturn, 1) := by decide +kernel
theorem dX3_stop_7 : decode cX3_stop 7 = .ok (.aload_n 0, 1) := by decide +kernel
theorem dX3_stop_8 : decode cX3_stop 8 = .ok (.getfield 27, 3) := by decide +kernel
theorem dX3_stop_11 : decode cX3_stop 11 = .ok (.iload_n 1, 1) := by decide +kernel
theorem dX3_stop_12 : decode cX3_stop 12 = .ok (.invokevirtual 90, 3) := by decide +kernel
theorem dX3_stop_15 : decode cX3_stop 15 = .ok (.istore_n 2, 1) := by decide +kernel
theorem dX3_stop_16 : decode cX3_stop 16 = .ok (.aload_n 0, 1) := by decide +kernel
theorem dX3_stop_17 : decode cX3_stop 17 = .ok (.getfield 27, 3) := by decide +kernel
theorem dX3_stop_20 : decode cX3_stop 20 = .ok (.invokevirtual 80, 3) := by decide +kernel
theorem dX3_stop_23 : decode cX3_stop 23 = .ok (.iload_n 2, 1) := by decide +kernel
theorem dX3_stop_24 : decode cX3_stop 24 = .ok (.isub, 1) := by decide +kernel
theorem dX3_stop_25 : decode cX3_stop 25 = .ok (.istore_n 3, 1) := by decide +kernel
theorem dX3_stop_26 : decode cX3_stop 26 = .ok (.aload_n 0, 1) := by decide +kernel
theorem dX3_stop_27 : decode cX3_stop 27 = .ok (.iload_n 3, 1) := by decide +kernel
theorem dX3_stop_28 : decode cX3_stop 28 = .ok (.iload_n 2, 1) := by decide +kernel
theorem dX3_stop_29 : decode cX3_stop 29 = .ok (.invokevirtual 83, 3) := by decide +kernel
theorem dX3_stop_32 : decode cX3_stop 32 = .ok (.aload_n 0, 1) := by decide +kernel
theorem dX3_stop_33 : decode cX3_stop 33 = .ok (.invokevirtual 87, 3) := by decide +kernel
theorem dX3_stop_36 : decode cX3_stop 36 = .ok (.iload_n 3, 1) := by decide +kernel
theorem dX3_stop_37 : decode cX3_stop 37 = .ok (.ireturn, 1) := by decide +kernel
set_option maxRecDepth 20000 in
theorem ggX3_address_X2_addressOf : GoodIn wsX3_address wsX2_addressOf := goodIn_r _ [6, 7, 8, 9, 15, 16, 17, 18, 19, 20, 21, 22, 23, 24, 25] (by decide +kernel) (by decide +kernel)
set_option maxRecDepth 20000 in
theorem gX3_address_X2_addressOf : GoodIn wsX3_address (wsV RX3 93 RX2 yX2_addressOf wsX2_addressOf) := goodIn_app (goodIn_of _ (by decide +kernel)) ggX3_address_X2_addressOf
theorem dX3_address_0 : decode cX3_address 0 = .ok (.aload_n 0, 1) := by decide +kernel
theorem dX3_address_1 : decode cX3_address 1 = .ok (.getfield 17, 3) := by decide +kernel
theorem dX3_address_4 : decode cX3_address 4 = .ok (.iload_n 1, 1) := by decide +kernel
theorem dX3_address_5 : decode cX3_address 5 = .ok (.invokevirtual 93, 3) := by decide +kernel
theorem dX3_address_8 : decode cX3_address 8 = .ok (.ireturn, 1) := by decide +kernel
set_option maxRecDepth 20000 in
theorem ggX3_bucket_X2_bucketCount : GoodIn wsX3_bucket wsX2_bucketCount := goodIn_r _ [7, 8, 9, 43, 44, 45, 46, 47, 48, 49, 50, 51, 52, 53] (by decide +kernel) (by decide +kernel)
set_option maxRecDepth 20000 in
theorem gX3_bucket_X2_bucketCount : GoodIn wsX3_bucket (wsV RX3 96 RX2 yX2_bucketCount wsX2_bucketCount) := goodIn_app (goodIn_of _ (by decide +kernel)) ggX3_bucket_X2_bucketCount
set_option maxRecDepth 20000 in
theorem ggX3_bucket_X2_entriesInChain : GoodIn wsX3_bucket wsX2_entriesInChain := goodIn_r _ [13, 14, 15, 16, 6, 17, 18, 19, 20, 21, 22, 23, 24, 25, 26, 27, 28, 29, 30, 31, 32, 33, 34, 35, 43, 44, 45, 46, 47, 48, 49, 50, 51, 52, 53] (by decide +kernel) (by decide +kernel)
set_option maxRecDepth 20000 in
theorem gX3_bucket_X2_entriesInChain : GoodIn wsX3_bucket (wsV RX3 99 RX2 yX2_entriesInChain wsX2_entriesInChain) := goodIn_app (goodIn_of _ (by decide +kernel)) ggX3_bucket_X2_entriesInChain
set_option maxRecDepth 20000 in
theorem ggX3_bucket_X2_pagesInChain : GoodIn wsX3_bucket wsX2_pagesInChain := goodIn_r _ [17, 18, 19, 20, 21, 43, 44, 45, 46, 47, 48, 49, 50, 51, 52, 53] (by decide +kernel) (by decide +kernel)
set_option maxRecDepth 20000 in
theorem gX3_bucket_X2_pagesInChain : GoodIn wsX3_bucket (wsV RX3 102 RX2 yX2_pagesInChain wsX2_pagesInChain) := goodIn_app (goodIn_of _ (by decide +kernel)) ggX3_bucket_X2_pagesInChain
set_option maxRecDepth 20000 in
theorem ggX3_bucket_X2_lastPage : GoodIn wsX3_bucket wsX2_lastPage := goodIn_r _ [25, 26, 27, 28, 29, 6, 30, 43, 44, 45, 46, 47, 48, 49, 50, 51, 52, 53] (by decide +kernel) (by decide +kernel)
set_option maxRecDepth 20000 in
theorem gX3_bucket_X2_lastPage : GoodIn wsX3_bucket (wsV RX3 105 RX2 yX2_lastPage wsX2_lastPage) := goodIn_app (goodIn_of _ (by decide +kernel)) ggX3_bucket_X2_lastPage
theorem dX3_bucket_0 : decode cX3_bucket 0 = .ok (.iload_n 1, 1) := by decide +kernel
theorem dX3_bucket_1 : decode cX3_bucket 1 = .ok (.ifCond .lt 14, 3) := by decide +kernel
theorem dX3_bucket_4 : decode cX3_bucket 4 = .ok (.iload_n 1, 1) := by decide +kernel
theorem dX3_bucket_5 : decode cX3_bucket 5 = .ok (.aload_n 0, 1) := by decide +kernel
theorem dX3_bucket_6 : decode cX3_bucket 6 = .ok (.getfield 17, 3) := by decide +kernel
theorem dX3_bucket_9 : decode cX3_bucket 9 = .ok (.invokevirtual 96, 3) := by decide +kernel
theorem dX3_bucket_12 : decode cX3_bucket 12 = .ok (.if_icmp .lt 6, 3) := by decide +kernel
theorem dX3_bucket_15 : decode cX3_bucket 15 = .ok (.ldc 32, 2) := by decide +kernel
theorem dX3_bucket_17 : decode cX3_bucket 17 = .ok (.ireturn, 1) := by decide +kernel
theorem dX3_bucket_18 : decode cX3_bucket 18 = .ok (.iload_n 2, 1) := by decide +kernel
theorem dX3_bucket_19 : decode cX3_bucket 19 = .ok (.tableswitch 52 0 2 #[25, 34, 43], 25) := by decide +kernel
theorem dX3_bucket_44 : decode cX3_bucket 44 = .ok (.aload_n 0, 1) := by decide +kernel
theorem dX3_bucket_45 : decode cX3_bucket 45 = .ok (.getfield 17, 3) := by decide +kernel
theorem dX3_bucket_48 : decode cX3_bucket 48 = .ok (.iload_n 1, 1) := by decide +kernel
theorem dX3_bucket_49 : decode cX3_bucket 49 = .ok (.invokevirtual 99, 3) := by decide +kernel
theorem dX3_bucket_52 : decode cX3_bucket 52 = .ok (.ireturn, 1) := by decide +kernel
theorem dX3_bucket_53 : decode cX3_bucket 53 = .ok (.aload_n 0, 1) := by decide +kernel
theorem dX3_bucket_54 : decode cX3_bucket 54 = .ok (.getfield 17, 3) := by decide +kernel
theorem dX3_bucket_57 : decode cX3_bucket 57 = .ok (.iload_n 1, 1) := by decide +kernel
theorem dX3_bucket_58 : decode cX3_bucket 58 = .ok (.invokevirtual 102, 3) := by decide +kernel
theorem dX3_bucket_61 : decode cX3_bucket 61 = .ok (.ireturn, 1) := by decide +kernel
theorem dX3_bucket_62 : decode cX3_bucket 62 = .ok (.aload_n 0, 1) := by decide +kernel
theorem dX3_bucket_63 : decode cX3_bucket 63 = .ok (.getfield 17, 3) := by decide +kernel
theorem dX3_bucket_66 : decode cX3_bucket 66 = .ok (.iload_n 1, 1) := by decide +kernel
theorem dX3_bucket_67 : decode cX3_bucket 67 = .ok (.invokevirtual 105, 3) := by decide +kernel
theorem dX3_bucket_70 : decode cX3_bucket 70 = .ok (.ireturn, 1) := by decide +kernel
theorem dX3_bucket_71 : decode cX3_bucket 71 = .ok (.ldc 32, 2) := by decide +kernel
theorem dX3_bucket_73 : decode cX3_bucket 73 = .ok (.ireturn, 1) := by decide +kernel
set_option maxRecDepth 20000 in
theorem ggX3_page_X3_isPage : GoodIn wsX3_page wsX3_isPage := goodIn_r _ [6] (by decide +kernel) (by decide +kernel)
set_option maxRecDepth 20000 in
theorem gX3_page_X3_isPage : GoodIn wsX3_page (va_wsS RX3 108 yX3_isPage wsX3_isPage) := goodIn_app (goodIn_of _ (by decide +kernel)) ggX3_page_X3_isPage
end
section
set_option maxRecDepth 20000 in
theorem ggX3_page_X2_entriesOnPage : GoodIn wsX3_page wsX2_entriesOnPage := goodIn_r _ [11, 12, 4, 5, 6, 35, 36, 37, 38, 39, 40, 41, 42, 43, 44, 45] (by decide +kernel) (by decide +kernel)
set_option maxRecDepth 20000 in
theorem gX3_page_X2_entriesOnPage : GoodIn wsX3_page (wsV RX3 111 RX2 yX2_entriesOnPage wsX2_entriesOnPage) := goodIn_app (goodIn_of _ (by decide +kernel)) ggX3_page_X2_entriesOnPage
set_option maxRecDepth 20000 in
theorem ggX3_page_X2_pageBehind : GoodIn wsX3_page wsX2_pageBehind := goodIn_r _ [16, 17, 18, 4, 5, 6, 35, 36, 37, 38, 39, 40, 41, 42, 43, 44, 45] (by decide +kernel) (by decide +kernel)
set_option maxRecDepth 20000 in
theorem gX3_page_X2_pageBehind : GoodIn wsX3_page (wsV RX3 114 RX2 yX2_pageBehind wsX2_pageBehind) := goodIn_app (goodIn_of _ (by decide +kernel)) ggX3_page_X2_pageBehind
set_option maxRecDepth 20000 in
theorem ggX3_page_X2_bucketOfPage : GoodIn wsX3_page wsX2_bucketOfPage := goodIn_r _ [22, 18, 23, 4, 5, 6, 24, 25, 26, 10, 27, 28, 29, 35, 36, 37, 38, 39, 40, 41, 42, 43, 44, 45] (by decide +kernel) (by decide +kernel)
set_option maxRecDepth 20000 in
theorem gX3_page_X2_bucketOfPage : GoodIn wsX3_page (wsV RX3 117 RX2 yX2_bucketOfPage wsX2_bucketOfPage) := goodIn_app (goodIn_of _ (by decide +kernel)) ggX3_page_X2_bucketOfPage
theorem dX3_page_0 : decode cX3_page 0 = .ok (.iload_n 1, 1) := by decide +kernel
theorem dX3_page_1 : decode cX3_page 1 = .ok (.invokestatic 108, 3) := by decide +kernel
theorem dX3_page_4 : decode cX3_page 4 = .ok (.ifCond .ne 6, 3) := by decide +kernel
theorem dX3_page_7 : decode cX3_page 7 = .ok (.ldc 32, 2) := by decide +kernel
theorem dX3_page_9 : decode cX3_page 9 = .ok (.ireturn, 1) := by decide +kernel
theorem dX3_page_10 : decode cX3_page 10 = .ok (.iload_n 2, 1) := by decide +kernel
theorem dX3_page_11 : decode cX3_page 11 = .ok (.tableswitch 52 0 2 #[25, 34, 43], 25) := by decide +kernel
theorem dX3_page_36 : decode cX3_page 36 = .ok (.aload_n 0, 1) := by decide +kernel
theorem dX3_page_37 : decode cX3_page 37 = .ok (.getfield 17, 3) := by decide +kernel
theorem dX3_page_40 : decode cX3_page 40 = .ok (.iload_n 1, 1) := by decide +kernel
theorem dX3_page_41 : decode cX3_page 41 = .ok (.invokevirtual 111, 3) := by decide +kernel
theorem dX3_page_44 : decode cX3_page 44 = .ok (.ireturn, 1) := by decide +kernel
theorem dX3_page_45 : decode cX3_page 45 = .ok (.aload_n 0, 1) := by decide +kernel
theorem dX3_page_46 : decode cX3_page 46 = .ok (.getfield 17, 3) := by decide +kernel
theorem dX3_page_49 : decode cX3_page 49 = .ok (.iload_n 1, 1) := by decide +kernel
theorem dX3_page_50 : decode cX3_page 50 = .ok (.invokevirtual 114, 3) := by decide +kernel
theorem dX3_page_53 : decode cX3_page 53 = .ok (.ireturn, 1) := by decide +kernel
theorem dX3_page_54 : decode cX3_page 54 = .ok (.aload_n 0, 1) := by decide +kernel
theorem dX3_page_55 : decode cX3_page 55 = .ok (.getfield 17, 3) := by decide +kernel
theorem dX3_page_58 : decode cX3_page 58 = .ok (.iload_n 1, 1) := by decide +kernel
theorem dX3_page_59 : decode cX3_page 59 = .ok (.invokevirtual 117, 3) := by decide +kernel
theorem dX3_page_62 : decode cX3_page 62 = .ok (.ireturn, 1) := by decide +kernel
theorem dX3_page_63 : decode cX3_page 63 = .ok (.ldc 32, 2) := by decide +kernel
theorem dX3_page_65 : decode cX3_page 65 = .ok (.ireturn, 1) := by decide +kernel
set_option maxRecDepth 20000 in
theorem ggX3_cell_X3_isPage : GoodIn wsX3_cell wsX3_isPage := goodIn_r _ [7] (by decide +kernel) (by decide +kernel)
set_option maxRecDepth 20000 in
theorem gX3_cell_X3_isPage : GoodIn wsX3_cell (va_wsS RX3 108 yX3_isPage wsX3_isPage) := goodIn_app (goodIn_of _ (by decide +kernel)) ggX3_cell_X3_isPage
set_option maxRecDepth 20000 in
theorem ggX3_cell_X2_entriesOnPage : GoodIn wsX3_cell wsX2_entriesOnPage := goodIn_r _ [12, 13, 5, 6, 7, 30, 31, 32, 33, 34, 35, 36, 37, 38, 39, 40] (by decide +kernel) (by decide +kernel)
set_option maxRecDepth 20000 in
theorem gX3_cell_X2_entriesOnPage : GoodIn wsX3_cell (wsV RX3 111 RX2 yX2_entriesOnPage wsX2_entriesOnPage) := goodIn_app (goodIn_of _ (by decide +kernel)) ggX3_cell_X2_entriesOnPage
set_option maxRecDepth 20000 in
theorem ggX3_cell_X2_keyIn : GoodIn wsX3_cell wsX2_keyIn := goodIn_r _ [17, 18, 19, 30, 31, 32, 33, 34, 35, 36, 37, 38, 39, 40] (by decide +kernel) (by decide +kernel)
set_option maxRecDepth 20000 in
theorem gX3_cell_X2_keyIn : GoodIn wsX3_cell (wsV RX3 120 RX2 yX2_keyIn wsX2_keyIn) := goodIn_app (goodIn_of _ (by decide +kernel)) ggX3_cell_X2_keyIn
set_option maxRecDepth 20000 in
theorem ggX3_cell_X2_valueIn : GoodIn wsX3_cell wsX2_valueIn := goodIn_r _ [23, 24, 19, 30, 31, 32, 33, 34, 35, 36, 37, 38, 39, 40] (by decide +kernel) (by decide +kernel)
set_option maxRecDepth 20000 in
theorem gX3_cell_X2_valueIn : GoodIn wsX3_cell (wsV RX3 52 RX2 yX2_valueIn wsX2_valueIn) := goodIn_app (goodIn_of _ (by decide +kernel)) ggX3_cell_X2_valueIn
theorem dX3_cell_0 : decode cX3_cell 0 = .ok (.iload_n 1, 1) := by decide +kernel
theorem dX3_cell_1 : decode cX3_cell 1 = .ok (.invokestatic 108, 3) := by decide +kernel
theorem dX3_cell_4 : decode cX3_cell 4 = .ok (.ifCond .eq 21, 3) := by decide +kernel
theorem dX3_cell_7 : decode cX3_cell 7 = .ok (.iload_n 2, 1) := by decide +kernel
theorem dX3_cell_8 : decode cX3_cell 8 = .ok (.ifCond .lt 17, 3) := by decide +kernel
theorem dX3_cell_11 : decode cX3_cell 11 = .ok (.iload_n 2, 1) := by decide +kernel
theorem dX3_cell_12 : decode cX3_cell 12 = .ok (.iconst 4, 1) := by decide +kernel
theorem dX3_cell_13 : decode cX3_cell 13 = .ok (.if_icmp .ge 12, 3) := by decide +kernel
theorem dX3_cell_16 : decode cX3_cell 16 = .ok (.iload_n 3, 1) := by decide +kernel
theorem dX3_cell_17 : decode cX3_cell 17 = .ok (.ifCond .lt 8, 3) := by decide +kernel
theorem dX3_cell_20 : decode cX3_cell 20 = .ok (.iload_n 3, 1) := by decide +kernel
theorem dX3_cell_21 : decode cX3_cell 21 = .ok (.iconst 1, 1) := by decide +kernel
theorem dX3_cell_22 : decode cX3_cell 22 = .ok (.if_icmp .le 6, 3) := by decide +kernel
theorem dX3_cell_25 : decode cX3_cell 25 = .ok (.ldc 32, 2) := by decide +kernel
theorem dX3_cell_27 : decode cX3_cell 27 = .ok (.ireturn, 1) := by decide +kernel
theorem dX3_cell_28 : decode cX3_cell 28 = .ok (.iload_n 2, 1) := by decide +kernel
theorem dX3_cell_29 : decode cX3_cell 29 = .ok (.aload_n 0, 1) := by decide +kernel
theorem dX3_cell_30 : decode cX3_cell 30 = .ok (.getfield 17, 3) := by decide +kernel
theorem dX3_cell_33 : decode cX3_cell 33 = .ok (.iload_n 1, 1) := by decide +kernel
theorem dX3_cell_34 : decode cX3_cell 34 = .ok (.invokevirtual 111, 3) := by decide +kernel
theorem dX3_cell_37 : decode cX3_cell 37 = .ok (.if_icmp .lt 6, 3) := by decide +kernel
theorem dX3_cell_40 : decode cX3_cell 40 = .ok (.ldc 66, 2) := by decide +kernel
theorem dX3_cell_42 : decode cX3_cell 42 = .ok (.ireturn, 1) := by decide +kernel
theorem dX3_cell_43 : decode cX3_cell 43 = .ok (.iload_n 1, 1) := by decide +kernel
theorem dX3_cell_44 : decode cX3_cell 44 = .ok (.iconst 4, 1) := by decide +kernel
theorem dX3_cell_45 : decode cX3_cell 45 = .ok (.imul, 1) := by decide +kernel
theorem dX3_cell_46 : decode cX3_cell 46 = .ok (.iload_n 2, 1) := by decide +kernel
theorem dX3_cell_47 : decode cX3_cell 47 = .ok (.iadd, 1) := by decide +kernel
theorem dX3_cell_48 : decode cX3_cell 48 = .ok (.istore 4, 2) := by decide +kernel
theorem dX3_cell_50 : decode cX3_cell 50 = .ok (.iload_n 3, 1) := by decide +kernel
theorem dX3_cell_51 : decode cX3_cell 51 = .ok (.ifCond .ne 15, 3) := by decide +kernel
theorem dX3_cell_54 : decode cX3_cell 54 = .ok (.aload_n 0, 1) := by decide +kernel
theorem dX3_cell_55 : decode cX3_cell 55 = .ok (.getfield 17, 3) := by decide +kernel
theorem dX3_cell_58 : decode cX3_cell 58 = .ok (.iload 4, 2) := by decide +kernel
theorem dX3_cell_60 : decode cX3_cell 60 = .ok (.invokevirtual 120, 3) := by decide +kernel
theorem dX3_cell_63 : decode cX3_cell 63 = .ok (.goto 12, 3) := by decide +kernel
theorem dX3_cell_66 : decode cX3_cell 66 = .ok (.aload_n 0, 1) := by decide +kernel
theorem dX3_cell_67 : decode cX3_cell 67 = .ok (.getfield 17, 3) := by decide +kernel
theorem dX3_cell_70 : decode cX3_cell 70 = .ok (.iload 4, 2) := by decide +kernel
theorem dX3_cell_72 : decode cX3_cell 72 = .ok (.invokevirtual 52, 3) := by decide +kernel
theorem dX3_cell_75 : decode cX3_cell 75 = .ok (.ireturn, 1) := by decide +kernel
set_option maxRecDepth 20000 in
theorem ggX3_entry_X2_cellOfEntry : GoodIn wsX3_entry wsX2_cellOfEntry := goodIn_r _ [8, 9, 10, 11, 12, 13, 14, 7, 15, 16, 17, 18, 19, 20, 31, 32, 33, 34, 35, 36, 37, 38, 39, 40, 41] (by decide +kernel) (by decide +kernel)
set_option maxRecDepth 20000 in
theorem gX3_entry_X2_cellOfEntry : GoodIn wsX3_entry (wsV RX3 123 RX2 yX2_cellOfEntry wsX2_cellOfEntry) := goodIn_app (goodIn_of _ (by decide +kernel)) ggX3_entry_X2_cellOfEntry
set_option maxRecDepth 20000 in
theorem ggX3_entry_X2_valueIn : GoodIn wsX3_entry wsX2_valueIn := goodIn_r _ [24, 25, 11, 31, 32, 33, 34, 35, 36, 37, 38, 39, 40, 41] (by decide +kernel) (by decide +kernel)
set_option maxRecDepth 20000 in
theorem gX3_entry_X2_valueIn : GoodIn wsX3_entry (wsV RX3 52 RX2 yX2_valueIn wsX2_valueIn) := goodIn_app (goodIn_of _ (by decide +kernel)) ggX3_entry_X2_valueIn
theorem dX3_entry_0 : decode cX3_entry 0 = .ok (.iload_n 1, 1) := by decide +kernel
theorem dX3_entry_1 : decode cX3_entry 1 = .ok (.ifCond .ge 6, 3) := by decide +kernel
theorem dX3_entry_4 : decode cX3_entry 4 = .ok (.ldc 32, 2) := by decide +kernel
theorem dX3_entry_6 : decode cX3_entry 6 = .ok (.ireturn, 1) := by decide +kernel
theorem dX3_entry_7 : decode cX3_entry 7 = .ok (.aload_n 0, 1) := by decide +kernel
theorem dX3_entry_8 : decode cX3_entry 8 = .ok (.getfield 17, 3) := by decide +kernel
theorem dX3_entry_11 : decode cX3_entry 11 = .ok (.iload_n 1, 1) := by decide +kernel
theorem dX3_entry_12 : decode cX3_entry 12 = .ok (.invokevirtual 123, 3) := by decide +kernel
theorem dX3_entry_15 : decode cX3_entry 15 = .ok (.istore_n 2, 1) := by decide +kernel
theorem dX3_entry_16 : decode cX3_entry 16 = .ok (.iload_n 2, 1) := by decide +kernel
theorem dX3_entry_17 : decode cX3_entry 17 = .ok (.ldc 37, 2) := by decide +kernel
theorem dX3_entry_19 : decode cX3_entry 19 = .ok (.if_icmp .ne 8, 3) := by decide +kernel
theorem dX3_entry_22 : decode cX3_entry 22 = .ok (.ldc 37, 2) := by decide +kernel
theorem dX3_entry_24 : decode cX3_entry 24 = .ok (.goto 11, 3) := by decide +kernel
theorem dX3_entry_27 : decode cX3_entry 27 = .ok (.aload_n 0, 1) := by decide +kernel
theorem dX3_entry_28 : decode cX3_entry 28 = .ok (.getfield 17, 3) := by decide +kernel
theorem dX3_entry_31 : decode cX3_entry 31 = .ok (.iload_n 2, 1) := by decide +kernel
theorem dX3_entry_32 : decode cX3_entry 32 = .ok (.invokevirtual 52, 3) := by decide +kernel
theorem dX3_entry_35 : decode cX3_entry 35 = .ok (.ireturn, 1) := by decide +kernel
set_option maxRecDepth 20000 in
theorem ggX3_effort_X2_effortForAll : GoodIn wsX3_effort wsX2_effortForAll := goodIn_r _ [6, 7, 8, 9, 10, 11, 5, 12, 13, 14, 15, 16, 17, 23, 24, 25, 26, 27, 28, 29, 30, 31, 32, 33] (by decide +kernel) (by decide +kernel)
set_option maxRecDepth 20000 in
theorem gX3_effort_X2_effortForAll : GoodIn wsX3_effort (wsV RX3 126 RX2 yX2_effortForAll wsX2_effortForAll) := goodIn_app (goodIn_of _ (by decide +kernel)) ggX3_effort_X2_effortForAll
theorem dX3_effort_0 : decode cX3_effort 0 = .ok (.aload_n 0, 1) := by decide +kernel
theorem dX3_effort_1 : decode cX3_effort 1 = .ok (.getfield 17, 3) := by decide +kernel
theorem dX3_effort_4 : decode cX3_effort 4 = .ok (.invokevirtual 126, 3) := by decide +kernel
theorem dX3_effort_7 : decode cX3_effort 7 = .ok (.ireturn, 1) := by decide +kernel
set_option maxRecDepth 20000 in
theorem ggX3_count_X2_entryCount : GoodIn wsX3_count wsX2_entryCount := goodIn_r _ [10, 11, 70, 71, 72, 73, 74, 75, 76, 77, 78, 79, 80] (by decide +kernel) (by decide +kernel)
set_option maxRecDepth 20000 in
theorem gX3_count_X2_entryCount : GoodIn wsX3_count (wsV RX3 129 RX2 yX2_entryCount wsX2_entryCount) := goodIn_app (goodIn_of _ (by decide +kernel)) ggX3_count_X2_entryCount
set_option maxRecDepth 20000 in
theorem ggX3_count_X2_bucketCount : GoodIn wsX3_count wsX2_bucketCount := goodIn_r _ [15, 16, 17, 70, 71, 72, 73, 74, 75, 76, 77, 78, 79, 80] (by decide +kernel) (by decide +kernel)
set_option maxRecDepth 20000 in
theorem gX3_count_X2_bucketCount : GoodIn wsX3_count (wsV RX3 96 RX2 yX2_bucketCount wsX2_bucketCount) := goodIn_app (goodIn_of _ (by decide +kernel)) ggX3_count_X2_bucketCount
set_option maxRecDepth 20000 in
theorem ggX3_count_X2_levelNumber : GoodIn wsX3_count wsX2_levelNumber := goodIn_r _ [21, 16, 70, 71, 72, 73, 74, 75, 76, 77, 78, 79, 80] (by decide +kernel) (by decide +kernel)
set_option maxRecDepth 20000 in
theorem gX3_count_X2_levelNumber : GoodIn wsX3_count (wsV RX3 132 RX2 yX2_levelNumber wsX2_levelNumber) := goodIn_app (goodIn_of _ (by decide +kernel)) ggX3_count_X2_levelNumber
set_option maxRecDepth 20000 in
theorem ggX3_count_X2_splitNumber : GoodIn wsX3_count wsX2_splitNumber := goodIn_r _ [25, 17, 70, 71, 72, 73, 74, 75, 76, 77, 78, 79, 80] (by decide +kernel) (by decide +kernel)
set_option maxRecDepth 20000 in
theorem gX3_count_X2_splitNumber : GoodIn wsX3_count (wsV RX3 135 RX2 yX2_splitNumber wsX2_splitNumber) := goodIn_app (goodIn_of _ (by decide +kernel)) ggX3_count_X2_splitNumber
set_option maxRecDepth 20000 in
theorem ggX3_count_X2_freePages : GoodIn wsX3_count wsX2_freePages := goodIn_r _ [29, 30, 31, 70, 71, 72, 73, 74, 75, 76, 77, 78, 79, 80] (by decide +kernel) (by decide +kernel)
set_option maxRecDepth 20000 in
theorem gX3_count_X2_freePages : GoodIn wsX3_count (wsV RX3 138 RX2 yX2_freePages wsX2_freePages) := goodIn_app (goodIn_of _ (by decide +kernel)) ggX3_count_X2_freePages
set_option maxRecDepth 20000 in
theorem ggX3_count_X1_writeCount : GoodIn wsX3_count wsX1_writeCount := goodIn_r _ [36, 37, 81, 82, 83, 84, 85, 86, 87, 88] (by decide +kernel) (by decide +kernel)
set_option maxRecDepth 20000 in
theorem gX3_count_X1_writeCount : GoodIn wsX3_count (wsV RX3 80 RX1 yX1_writeCount wsX1_writeCount) := goodIn_app (goodIn_of _ (by decide +kernel)) ggX3_count_X1_writeCount
set_option maxRecDepth 20000 in
theorem ggX3_count_X1_groupCount : GoodIn wsX3_count wsX1_groupCount := goodIn_r _ [41, 42, 81, 82, 83, 84, 85, 86, 87, 88] (by decide +kernel) (by decide +kernel)
set_option maxRecDepth 20000 in
theorem gX3_count_X1_groupCount : GoodIn wsX3_count (wsV RX3 141 RX1 yX1_groupCount wsX1_groupCount) := goodIn_app (goodIn_of _ (by decide +kernel)) ggX3_count_X1_groupCount
set_option maxRecDepth 20000 in
theorem ggX3_count_X1_isOpen : GoodIn wsX3_count wsX1_isOpen := goodIn_r _ [46, 47, 81, 82, 83, 84, 85, 86, 87, 88] (by decide +kernel) (by decide +kernel)
set_option maxRecDepth 20000 in
theorem gX3_count_X1_isOpen : GoodIn wsX3_count (wsV RX3 63 RX1 yX1_isOpen wsX1_isOpen) := goodIn_app (goodIn_of _ (by decide +kernel)) ggX3_count_X1_isOpen
set_option maxRecDepth 20000 in
theorem ggX3_count_X2_longestChain : GoodIn wsX3_count wsX2_longestChain := goodIn_r _ [51, 52, 53, 54, 55, 56, 13, 14, 9, 15, 16, 17, 57, 58, 59, 60, 61, 62, 63, 64, 70, 71, 72, 73, 74, 75, 76, 77, 78, 79, 80] (by decide +kernel) (by decide +kernel)
set_option maxRecDepth 20000 in
theorem gX3_count_X2_longestChain : GoodIn wsX3_count (wsV RX3 147 RX2 yX2_longestChain wsX2_longestChain) := goodIn_app (goodIn_of _ (by decide +kernel)) ggX3_count_X2_longestChain
theorem dX3_count_0 : decode cX3_count 0 = .ok (.iload_n 1, 1) := by decide +kernel
theorem dX3_count_1 : decode cX3_count 1 = .ok (.tableswitch 149 0 10 #[59, 67, 75, 83, 91, 99, 107, 115, 131, 136, 141], 59) := by decide +kernel
theorem dX3_count_60 : decode cX3_count 60 = .ok (.aload_n 0, 1) := by decide +kernel
theorem dX3_count_61 : decode cX3_count 61 = .ok (.getfield 17, 3) := by decide +kernel
theorem dX3_count_64 : decode cX3_count 64 = .ok (.invokevirtual 129, 3) := by decide +kernel
theorem dX3_count_67 : decode cX3_count 67 = .ok (.ireturn, 1) := by decide +kernel
theorem dX3_count_68 : decode cX3_count 68 = .ok (.aload_n 0, 1) := by decide +kernel
theorem dX3_count_69 : decode cX3_count 69 = .ok (.getfield 17, 3) := by decide +kernel
theorem dX3_count_72 : decode cX3_count 72 = .ok (.invokevirtual 96, 3) := by decide +kernel
theorem dX3_count_75 : decode cX3_count 75 = .ok (.ireturn, 1) := by decide +kernel
theorem dX3_count_76 : decode cX3_count 76 = .ok (.aload_n 0, 1) := by decide +kernel
theorem dX3_count_77 : decode cX3_count 77 = .ok (.getfield 17, 3) := by decide +kernel
theorem dX3_count_80 : decode cX3_count 80 = .ok (.invokevirtual 132, 3) := by decide +kernel
theorem dX3_count_83 : decode cX3_count 83 = .ok (.ireturn, 1) := by decide +kernel
theorem dX3_count_84 : decode cX3_count 84 = .ok (.aload_n 0, 1) := by decide +kernel
theorem dX3_count_85 : decode cX3_count 85 = .ok (.getfield 17, 3) := by decide +kernel
theorem dX3_count_88 : decode cX3_count 88 = .ok (.invokevirtual 135, 3) := by decide +kernel
theorem dX3_count_91 : decode cX3_count 91 = .ok (.ireturn, 1) := by decide +kernel
theorem dX3_count_92 : decode cX3_count 92 = .ok (.aload_n 0, 1) := by decide +kernel
theorem dX3_count_93 : decode cX3_count 93 = .ok (.getfield 17, 3) := by decide +kernel
theorem dX3_count_96 : decode cX3_count 96 = .ok (.invokevirtual 138, 3) := by decide +kernel
theorem dX3_count_99 : decode cX3_count 99 = .ok (.ireturn, 1) := by decide +kernel
theorem dX3_count_100 : decode cX3_count 100 = .ok (.aload_n 0, 1) := by decide +kernel
theorem dX3_count_101 : decode cX3_count 101 = .ok (.getfield 27, 3) := by decide +kernel
theorem dX3_count_104 : decode cX3_count 104 = .ok (.invokevirtual 80, 3) := by decide +kernel
theorem dX3_count_107 : decode cX3_count 107 = .ok (.ireturn, 1) := by decide +kernel
theorem dX3_count_108 : decode cX3_count 108 = .ok (.aload_n 0, 1) := by decide +kernel
theorem dX3_count_109 : decode cX3_count 109 = .ok (.getfield 27, 3) := by decide +kernel
theorem dX3_count_112 : decode cX3_count 112 = .ok (.invokevirtual 141, 3) := by decide +kernel
theorem dX3_count_115 : decode cX3_count 115 = .ok (.ireturn, 1) := by decide +kernel
theorem dX3_count_116 : decode cX3_count 116 = .ok (.aload_n 0, 1) := by decide +kernel
theorem dX3_count_117 : decode cX3_count 117 = .ok (.getfield 27, 3) := by decide +kernel
theorem dX3_count_120 : decode cX3_count 120 = .ok (.invokevirtual 63, 3) := by decide +kernel
theorem dX3_count_123 : decode cX3_count 123 = .ok (.ifCond .eq 7, 3) := by decide +kernel
theorem dX3_count_126 : decode cX3_count 126 = .ok (.iconst 1, 1) := by decide +kernel
theorem dX3_count_127 : decode cX3_count 127 = .ok (.goto 4, 3) := by decide +kernel
theorem dX3_count_130 : decode cX3_count 130 = .ok (.iconst 0, 1) := by decide +kernel
theorem dX3_count_131 : decode cX3_count 131 = .ok (.ireturn, 1) := by decide +kernel
theorem dX3_count_132 : decode cX3_count 132 = .ok (.aload_n 0, 1) := by decide +kernel
theorem dX3_count_133 : decode cX3_count 133 = .ok (.getfield 55, 3) := by decide +kernel
theorem dX3_count_136 : decode cX3_count 136 = .ok (.ireturn, 1) := by decide +kernel
theorem dX3_count_137 : decode cX3_count 137 = .ok (.aload_n 0, 1) := by decide +kernel
theorem dX3_count_138 : decode cX3_count 138 = .ok (.getfield 144, 3) := by decide +kernel
theorem dX3_count_141 : decode cX3_count 141 = .ok (.ireturn, 1) := by decide +kernel
theorem dX3_count_142 : decode cX3_count 142 = .ok (.aload_n 0, 1) := by decide +kernel
theorem dX3_count_143 : decode cX3_count 143 = .ok (.getfield 17, 3) := by decide +kernel
theorem dX3_count_146 : decode cX3_count 146 = .ok (.invokevirtual 147, 3) := by decide +kernel
theorem dX3_count_149 : decode cX3_count 149 = .ok (.ireturn, 1) := by decide +kernel
theorem dX3_count_150 : decode cX3_count 150 = .ok (.ldc 32, 2) := by decide +kernel
theorem dX3_count_152 : decode cX3_count 152 = .ok (.ireturn, 1) := by decide +kernel
theorem dX3_isPage_0 : decode cX3_isPage 0 = .ok (.iload_n 0, 1) := by decide +kernel
theorem dX3_isPage_1 : decode cX3_isPage 1 = .ok (.ifCond .lt 14, 3) := by decide +kernel
theorem dX3_isPage_4 : decode cX3_isPage 4 = .ok (.iload_n 0, 1) := by decide +kernel
theorem dX3_isPage_5 : decode cX3_isPage 5 = .ok (.sipush 128, 3) := by decide +kernel
theorem dX3_isPage_8 : decode cX3_isPage 8 = .ok (.if_icmp .ge 7, 3) := by decide +kernel
theorem dX3_isPage_11 : decode cX3_isPage 11 = .ok (.iconst 1, 1) := by decide +kernel
theorem dX3_isPage_12 : decode cX3_isPage 12 = .ok (.goto 4, 3) := by decide +kernel
theorem dX3_isPage_15 : decode cX3_isPage 15 = .ok (.iconst 0, 1) := by decide +kernel
theorem dX3_isPage_16 : decode cX3_isPage 16 = .ok (.ireturn, 1) := by decide +kernel
set_option maxRecDepth 20000 in
theorem ggX3_write_X2_carryOut : GoodIn wsX3_write wsX2_carryOut := goodIn_r _ [8, 9, 10, 11, 12, 13, 7, 14, 15, 16, 17, 18, 19, 20, 21, 22, 23, 24, 25, 26, 27, 28, 29, 30, 31, 32, 33, 34, 35, 36, 37, 38, 39, 40, 41, 42, 43, 44, 45, 46, 47, 48, 49, 50, 51, 52, 53, 54, 55, 56, 57, 58, 59, 60, 61, 62, 63, 64, 65, 66, 67, 68, 69, 70, 71, 72, 73, 74, 75, 76, 77, 78, 79, 80, 81, 82, 83, 84, 85, 86, 87, 88, 89, 90, 91, 92, 93, 94, 95, 96, 97, 98, 99, 100, 101, 102, 103, 104, 105, 106, 107, 108, 109, 110, 111, 112, 113, 114, 136, 137, 138, 139, 140, 141, 142, 143, 144, 145, 146, 147, 148, 149] (by decide +kernel) (by decide +kernel)
set_option maxRecDepth 20000 in
theorem gX3_write_X2_carryOut : GoodIn wsX3_write (wsV RX3 150 RX2 yX2_carryOut wsX2_carryOut) := goodIn_app (goodIn_of _ (by decide +kernel)) ggX3_write_X2_carryOut
set_option maxRecDepth 20000 in
theorem ggX3_write_X1_note : GoodIn wsX3_write wsX1_note := goodIn_r _ [119, 120, 121, 122, 123, 124, 125, 126, 127, 118, 128, 129, 130, 150, 151, 152, 153, 154, 155, 156, 157] (by decide +kernel) (by decide +kernel)
set_option maxRecDepth 20000 in
theorem gX3_write_X1_note : GoodIn wsX3_write (wsV RX3 153 RX1 yX1_note wsX1_note) := goodIn_app (goodIn_of _ (by decide +kernel)) ggX3_write_X1_note
theorem dX3_write_0 : decode cX3_write 0 = .ok (.aload_n 0, 1) := by decide +kernel
theorem dX3_write_1 : decode cX3_write 1 = .ok (.getfield 17, 3) := by decide +kernel
theorem dX3_write_4 : decode cX3_write 4 = .ok (.iload_n 1, 1) := by decide +kernel
theorem dX3_write_5 : decode cX3_write 5 = .ok (.iload_n 2, 1) := by decide +kernel
theorem dX3_write_6 : decode cX3_write 6 = .ok (.iload_n 3, 1) := by decide +kernel
theorem dX3_write_7 : decode cX3_write 7 = .ok (.invokevirtual 150, 3) := by decide +kernel
theorem dX3_write_10 : decode cX3_write 10 = .ok (.aload_n 0, 1) := by decide +kernel
theorem dX3_write_11 : decode cX3_write 11 = .ok (.getfield 27, 3) := by decide +kernel
theorem dX3_write_14 : decode cX3_write 14 = .ok (.iload_n 1, 1) := by decide +kernel
theorem dX3_write_15 : decode cX3_write 15 = .ok (.iload_n 2, 1) := by decide +kernel
theorem dX3_write_16 : decode cX3_write 16 = .ok (.iload_n 3, 1) := by decide +kernel
theorem dX3_write_17 : decode cX3_write 17 = .ok (.invokevirtual 153, 3) := by decide +kernel
theorem dX3_write_20 : decode cX3_write 20 = .ok (.aload_n 0, 1) := by decide +kernel
theorem dX3_write_21 : decode cX3_write 21 = .ok (.dup, 1) := by decide +kernel
theorem dX3_write_22 : decode cX3_write 22 = .ok (.getfield 144, 3) := by decide +kernel
theorem dX3_write_25 : decode cX3_write 25 = .ok (.iconst 1, 1) := by decide +kernel
theorem dX3_write_26 : decode cX3_write 26 = .ok (.iadd, 1) := by decide +kernel
theorem dX3_write_27 : decode cX3_write 27 = .ok (.putfield 144, 3) := by decide +kernel
theorem dX3_write_30 : decode cX3_write 30 = .ok (.return_, 1) := by decide +kernel
set_option maxRecDepth 20000 in
theorem ggX3_takeBack_X2_copyFrom : GoodIn wsX3_takeBack wsX2_copyFrom := goodIn_r _ [9, 10, 11, 12, 13, 14, 15, 16, 17, 18, 19, 20, 21, 22, 23, 151, 152, 153, 154, 155, 156, 157, 158, 159, 160, 161] (by decide +kernel) (by decide +kernel)
set_option maxRecDepth 20000 in
theorem gX3_takeBack_X2_copyFrom : GoodIn wsX3_takeBack (wsV RX3 156 RX2 yX2_copyFrom wsX2_copyFrom) := goodIn_app (goodIn_of _ (by decide +kernel)) ggX3_takeBack_X2_copyFrom
set_option maxRecDepth 20000 in
theorem ggX3_takeBack_X1_kindOf : GoodIn wsX3_takeBack wsX1_kindOf := goodIn_r _ [28, 29, 30, 31, 32, 33, 27, 34, 35, 162, 163, 164, 165, 166, 167, 168, 169] (by decide +kernel) (by decide +kernel)
set_option maxRecDepth 20000 in
theorem gX3_takeBack_X1_kindOf : GoodIn wsX3_takeBack (wsV RX3 160 RX1 yX1_kindOf wsX1_kindOf) := goodIn_app (goodIn_of _ (by decide +kernel)) ggX3_takeBack_X1_kindOf
set_option maxRecDepth 20000 in
theorem ggX3_takeBack_X1_keyOf : GoodIn wsX3_takeBack wsX1_keyOf := goodIn_r _ [39, 40, 30, 31, 32, 33, 27, 34, 35, 162, 163, 164, 165, 166, 167, 168, 169] (by decide +kernel) (by decide +kernel)
set_option maxRecDepth 20000 in
theorem gX3_takeBack_X1_keyOf : GoodIn wsX3_takeBack (wsV RX3 163 RX1 yX1_keyOf wsX1_keyOf) := goodIn_app (goodIn_of _ (by decide +kernel)) ggX3_takeBack_X1_keyOf
set_option maxRecDepth 20000 in
theorem ggX3_takeBack_X1_valueOf : GoodIn wsX3_takeBack wsX1_valueOf := goodIn_r _ [44, 45, 30, 31, 32, 33, 27, 34, 35, 162, 163, 164, 165, 166, 167, 168, 169] (by decide +kernel) (by decide +kernel)
set_option maxRecDepth 20000 in
theorem gX3_takeBack_X1_valueOf : GoodIn wsX3_takeBack (wsV RX3 166 RX1 yX1_valueOf wsX1_valueOf) := goodIn_app (goodIn_of _ (by decide +kernel)) ggX3_takeBack_X1_valueOf
set_option maxRecDepth 20000 in
theorem ggX3_takeBack_X2_carryOut : GoodIn wsX3_takeBack wsX2_carryOut := goodIn_r _ [49, 50, 23, 51, 52, 53, 8, 54, 16, 10, 17, 55, 56, 57, 58, 59, 21, 22, 60, 61, 62, 63, 64, 65, 66, 15, 67, 68, 69, 70, 20, 71, 72, 73, 74, 75, 76, 77, 78, 79, 80, 81, 18, 19, 82, 83, 84, 85, 86, 87, 88, 89, 90, 91, 92, 93, 94, 95, 96, 97, 98, 99, 100, 101, 102, 103, 104, 105, 106, 107, 108, 109, 110, 111, 112, 113, 114, 115, 116, 117, 118, 119, 120, 121, 122, 123, 124, 125, 126, 127, 128, 129, 130, 131, 132, 133, 134, 135, 136, 137, 138, 139, 140, 141, 142, 143, 144, 145, 151, 152, 153, 154, 155, 156, 157, 158, 159, 160, 161, 170, 171, 172] (by decide +kernel) (by decide +kernel)
set_option maxRecDepth 20000 in
theorem gX3_takeBack_X2_carryOut : GoodIn wsX3_takeBack (wsV RX3 150 RX2 yX2_carryOut wsX2_carryOut) := goodIn_app (goodIn_of _ (by decide +kernel)) ggX3_takeBack_X2_carryOut
theorem dX3_takeBack_0 : decode cX3_takeBack 0 = .ok (.iload_n 1, 1) := by decide +kernel
theorem dX3_takeBack_1 : decode cX3_takeBack 1 = .ok (.ifCond .ne 4, 3) := by decide +kernel
theorem dX3_takeBack_4 : decode cX3_takeBack 4 = .ok (.return_, 1) := by decide +kernel
theorem dX3_takeBack_5 : decode cX3_takeBack 5 = .ok (.aload_n 0, 1) := by decide +kernel
theorem dX3_takeBack_6 : decode cX3_takeBack 6 = .ok (.dup, 1) := by decide +kernel
theorem dX3_takeBack_7 : decode cX3_takeBack 7 = .ok (.getfield 144, 3) := by decide +kernel
theorem dX3_takeBack_10 : decode cX3_takeBack 10 = .ok (.iload_n 1, 1) := by decide +kernel
theorem dX3_takeBack_11 : decode cX3_takeBack 11 = .ok (.isub, 1) := by decide +kernel
theorem dX3_takeBack_12 : decode cX3_takeBack 12 = .ok (.putfield 144, 3) := by decide +kernel
theorem dX3_takeBack_15 : decode cX3_takeBack 15 = .ok (.aload_n 0, 1) := by decide +kernel
theorem dX3_takeBack_16 : decode cX3_takeBack 16 = .ok (.getfield 17, 3) := by decide +kernel
theorem dX3_takeBack_19 : decode cX3_takeBack 19 = .ok (.aload_n 0, 1) := by decide +kernel
theorem dX3_takeBack_20 : decode cX3_takeBack 20 = .ok (.getfield 21, 3) := by decide +kernel
theorem dX3_takeBack_23 : decode cX3_takeBack 23 = .ok (.invokevirtual 156, 3) := by decide +kernel
theorem dX3_takeBack_26 : decode cX3_takeBack 26 = .ok (.iconst 0, 1) := by decide +kernel
theorem dX3_takeBack_27 : decode cX3_takeBack 27 = .ok (.istore_n 3, 1) := by decide +kernel
theorem dX3_takeBack_28 : decode cX3_takeBack 28 = .ok (.iload_n 3, 1) := by decide +kernel
theorem dX3_takeBack_29 : decode cX3_takeBack 29 = .ok (.iload_n 2, 1) := by decide +kernel
theorem dX3_takeBack_30 : decode cX3_takeBack 30 = .ok (.if_icmp .ge 46, 3) := by decide +kernel
theorem dX3_takeBack_33 : decode cX3_takeBack 33 = .ok (.iload_n 3, 1) := by decide +kernel
theorem dX3_takeBack_34 : decode cX3_takeBack 34 = .ok (.bipush 64, 2) := by decide +kernel
theorem dX3_takeBack_36 : decode cX3_takeBack 36 = .ok (.if_icmp .ge 40, 3) := by decide +kernel
theorem dX3_takeBack_39 : decode cX3_takeBack 39 = .ok (.aload_n 0, 1) := by decide +kernel
theorem dX3_takeBack_40 : decode cX3_takeBack 40 = .ok (.getfield 17, 3) := by decide +kernel
theorem dX3_takeBack_43 : decode cX3_takeBack 43 = .ok (.aload_n 0, 1) := by decide +kernel
theorem dX3_takeBack_44 : decode cX3_takeBack 44 = .ok (.getfield 27, 3) := by decide +kernel
theorem dX3_takeBack_47 : decode cX3_takeBack 47 = .ok (.iload_n 3, 1) := by decide +kernel
theorem dX3_takeBack_48 : decode cX3_takeBack 48 = .ok (.invokevirtual 160, 3) := by decide +kernel
theorem dX3_takeBack_51 : decode cX3_takeBack 51 = .ok (.aload_n 0, 1) := by decide +kernel
theorem dX3_takeBack_52 : decode cX3_takeBack 52 = .ok (.getfield 27, 3) := by decide +kernel
theorem dX3_takeBack_55 : decode cX3_takeBack 55 = .ok (.iload_n 3, 1) := by decide +kernel
theorem dX3_takeBack_56 : decode cX3_takeBack 56 = .ok (.invokevirtual 163, 3) := by decide +kernel
theorem dX3_takeBack_59 : decode cX3_takeBack 59 = .ok (.aload_n 0, 1) := by decide +kernel
theorem dX3_takeBack_60 : decode cX3_takeBack 60 = .ok (.getfield 27, 3) := by decide +kernel
theorem dX3_takeBack_63 : decode cX3_takeBack 63 = .ok (.iload_n 3, 1) := by decide +kernel
theorem dX3_takeBack_64 : decode cX3_takeBack 64 = .ok (.invokevirtual 166, 3) := by decide +kernel
theorem dX3_takeBack_67 : decode cX3_takeBack 67 = .ok (.invokevirtual 150, 3) := by decide +kernel
theorem dX3_takeBack_70 : decode cX3_takeBack 70 = .ok (.iinc 3 1, 3) := by decide +kernel
theorem dX3_takeBack_73 : decode cX3_takeBack 73 = .ok (.goto (-45), 3) := by decide +kernel
theorem dX3_takeBack_76 : decode cX3_takeBack 76 = .ok (.return_, 1) := by decide +kernel
set_option maxRecDepth 20000 in
theorem ggX3_keepCurrent_X2_copyFrom : GoodIn wsX3_keepCurrent wsX2_copyFrom := goodIn_r _ [8, 9, 10, 11, 12, 13, 14, 15, 16, 17, 18, 19, 20, 21, 22, 36, 37, 38, 39, 40, 41, 42, 43, 44, 45, 46] (by decide +kernel) (by decide +kernel)
set_option maxRecDepth 20000 in
theorem gX3_keepCurrent_X2_copyFrom : GoodIn wsX3_keepCurrent (wsV RX3 156 RX2 yX2_copyFrom wsX2_copyFrom) := goodIn_app (goodIn_of _ (by decide +kernel)) ggX3_keepCurrent_X2_copyFrom
set_option maxRecDepth 20000 in
theorem ggX3_keepCurrent_X1_clear : GoodIn wsX3_keepCurrent wsX1_clear := goodIn_r _ [27, 28, 29, 30, 47, 48, 49, 50, 51, 52, 53, 54] (by decide +kernel) (by decide +kernel)
set_option maxRecDepth 20000 in
theorem gX3_keepCurrent_X1_clear : GoodIn wsX3_keepCurrent (wsV RX3 169 RX1 yX1_clear wsX1_clear) := goodIn_app (goodIn_of _ (by decide +kernel)) ggX3_keepCurrent_X1_clear
theorem dX3_keepCurrent_0 : decode cX3_keepCurrent 0 = .ok (.aload_n 0, 1) := by decide +kernel
theorem dX3_keepCurrent_1 : decode cX3_keepCurrent 1 = .ok (.getfield 21, 3) := by decide +kernel
theorem dX3_keepCurrent_4 : decode cX3_keepCurrent 4 = .ok (.aload_n 0, 1) := by decide +kernel
theorem dX3_keepCurrent_5 : decode cX3_keepCurrent 5 = .ok (.getfield 17, 3) := by decide +kernel
theorem dX3_keepCurrent_8 : decode cX3_keepCurrent 8 = .ok (.invokevirtual 156, 3) := by decide +kernel
theorem dX3_keepCurrent_11 : decode cX3_keepCurrent 11 = .ok (.aload_n 0, 1) := by decide +kernel
theorem dX3_keepCurrent_12 : decode cX3_keepCurrent 12 = .ok (.getfield 27, 3) := by decide +kernel
theorem dX3_keepCurrent_15 : decode cX3_keepCurrent 15 = .ok (.invokevirtual 169, 3) := by decide +kernel
theorem dX3_keepCurrent_18 : decode cX3_keepCurrent 18 = .ok (.return_, 1) := by decide +kernel
set_option maxRecDepth 20000 in
theorem ggX4_init_X4_clear : GoodIn wsX4_init wsX4_clear := goodIn_r _ [20, 7, 8, 21, 10, 22, 23, 24, 25, 26, 27, 28, 29, 30, 31, 32, 33, 34, 35, 36, 37, 38, 39, 40, 41, 42, 43, 44] (by decide +kernel) (by decide +kernel)
set_option maxRecDepth 20000 in
theorem gX4_init_X4_clear : GoodIn wsX4_init (wsV RX4 41 RX4 yX4_clear wsX4_clear) := goodIn_app (goodIn_of _ (by decide +kernel)) ggX4_init_X4_clear
theorem dX4_init_0 : decode cX4_init 0 = .ok (.aload_n 0, 1) := by decide +kernel
theorem dX4_init_1 : decode cX4_init 1 = .ok (.invokespecial 1, 3) := by decide +kernel
theorem dX4_init_4 : decode cX4_init 4 = .ok (.aload_n 0, 1) := by decide +kernel
theorem dX4_init_5 : decode cX4_init 5 = .ok (.sipush 512, 3) := by decide +kernel
theorem dX4_init_8 : decode cX4_init 8 = .ok (.newarray .int, 2) := by decide +kernel
theorem dX4_init_10 : decode cX4_init 10 = .ok (.putfield 7, 3) := by decide +kernel
theorem dX4_init_13 : decode cX4_init 13 = .ok (.aload_n 0, 1) := by decide +kernel
theorem dX4_init_14 : decode cX4_init 14 = .ok (.sipush 512, 3) := by decide +kernel
theorem dX4_init_17 : decode cX4_init 17 = .ok (.newarray .int, 2) := by decide +kernel
theorem dX4_init_19 : decode cX4_init 19 = .ok (.putfield 13, 3) := by decide +kernel
theorem dX4_init_22 : decode cX4_init 22 = .ok (.aload_n 0, 1) := by decide +kernel
theorem dX4_init_23 : decode cX4_init 23 = .ok (.sipush 128, 3) := by decide +kernel
theorem dX4_init_26 : decode cX4_init 26 = .ok (.newarray .int, 2) := by decide +kernel
theorem dX4_init_28 : decode cX4_init 28 = .ok (.putfield 16, 3) := by decide +kernel
theorem dX4_init_31 : decode cX4_init 31 = .ok (.aload_n 0, 1) := by decide +kernel
theorem dX4_init_32 : decode cX4_init 32 = .ok (.sipush 128, 3) := by decide +kernel
theorem dX4_init_35 : decode cX4_init 35 = .ok (.newarray .int, 2) := by decide +kernel
theorem dX4_init_37 : decode cX4_init 37 = .ok (.putfield 19, 3) := by decide +kernel
theorem dX4_init_40 : decode cX4_init 40 = .ok (.aload_n 0, 1) := by decide +kernel
theorem dX4_init_41 : decode cX4_init 41 = .ok (.sipush 128, 3) := by decide +kernel
theorem dX4_init_44 : decode cX4_init 44 = .ok (.newarray .boolean, 2) := by decide +kernel
theorem dX4_init_46 : decode cX4_init 46 = .ok (.putfield 22, 3) := by decide +kernel
theorem dX4_init_49 : decode cX4_init 49 = .ok (.aload_n 0, 1) := by decide +kernel
theorem dX4_init_50 : decode cX4_init 50 = .ok (.sipush 4200, 3) := by decide +kernel
theorem dX4_init_53 : decode cX4_init 53 = .ok (.newarray .int, 2) := by decide +kernel
theorem dX4_init_55 : decode cX4_init 55 = .ok (.putfield 26, 3) := by decide +kernel
theorem dX4_init_58 : decode cX4_init 58 = .ok (.aload_n 0, 1) := by decide +kernel
theorem dX4_init_59 : decode cX4_init 59 = .ok (.sipush 4200, 3) := by decide +kernel
theorem dX4_init_62 : decode cX4_init 62 = .ok (.newarray .int, 2) := by decide +kernel
theorem dX4_init_64 : decode cX4_init 64 = .ok (.putfield 29, 3) := by decide +kernel
theorem dX4_init_67 : decode cX4_init 67 = .ok (.aload_n 0, 1) := by decide +kernel
theorem dX4_init_68 : decode cX4_init 68 = .ok (.bipush 64, 2) := by decide +kernel
theorem dX4_init_70 : decode cX4_init 70 = .ok (.newarray .int, 2) := by decide +kernel
theorem dX4_init_72 : decode cX4_init 72 = .ok (.putfield 32, 3) := by decide +kernel
theorem dX4_init_75 : decode cX4_init 75 = .ok (.aload_n 0, 1) := by decide +kernel
theorem dX4_init_76 : decode cX4_init 76 = .ok (.sipush 512, 3) := by decide +kernel
theorem dX4_init_79 : decode cX4_init 79 = .ok (.newarray .int, 2) := by decide +kernel
theorem dX4_init_81 : decode cX4_init 81 = .ok (.putfield 35, 3) := by decide +kernel
theorem dX4_init_84 : decode cX4_init 84 = .ok (.aload_n 0, 1) := by decide +kernel
theorem dX4_init_85 : decode cX4_init 85 = .ok (.sipush 512, 3) := by decide +kernel
theorem dX4_init_88 : decode cX4_init 88 = .ok (.newarray .int, 2) := by decide +kernel
theorem dX4_init_90 : decode cX4_init 90 = .ok (.putfield 38, 3) := by decide +kernel
theorem dX4_init_93 : decode cX4_init 93 = .ok (.aload_n 0, 1) := by decide +kernel
theorem dX4_init_94 : decode cX4_init 94 = .ok (.invokevirtual 41, 3) := by decide +kernel
theorem dX4_init_97 : decode cX4_init 97 = .ok (.return_, 1) := by decide +kernel
theorem dX4_clear_0 : decode cX4_clear 0 = .ok (.iconst 0, 1) := by decide +kernel
theorem dX4_clear_1 : decode cX4_clear 1 = .ok (.istore_n 1, 1) := by decide +kernel
theorem dX4_clear_2 : decode cX4_clear 2 = .ok (.iload_n 1, 1) := by decide +kernel
theorem dX4_clear_3 : decode cX4_clear 3 = .ok (.sipush 128, 3) := by decide +kernel
theorem dX4_clear_6 : decode cX4_clear 6 = .ok (.if_icmp .ge 41, 3) := by decide +kernel
theorem dX4_clear_9 : decode cX4_clear 9 = .ok (.aload_n 0, 1) := by decide +kernel
theorem dX4_clear_10 : decode cX4_clear 10 = .ok (.getfield 16, 3) := by decide +kernel
theorem dX4_clear_13 : decode cX4_clear 13 = .ok (.iload_n 1, 1) := by decide +kernel
theorem dX4_clear_14 : decode cX4_clear 14 = .ok (.iconst 0, 1) := by decide +kernel
theorem dX4_clear_15 : decode cX4_clear 15 = .ok (.iastore, 1) := by decide +kernel
theorem dX4_clear_16 : decode cX4_clear 16 = .ok (.aload_n 0, 1) := by decide +kernel
theorem dX4_clear_17 : decode cX4_clear 17 = .ok (.getfield 19, 3) := by decide +kernel
theorem dX4_clear_20 : decode cX4_clear 20 = .ok (.iload_n 1, 1) := by decide +kernel
theorem dX4_clear_21 : decode cX4_clear 21 = .ok (.ldc 44, 2) := by decide +kernel
theorem dX4_clear_23 : decode cX4_clear 23 = .ok (.iastore, 1) := by decide +kernel
theorem dX4_clear_24 : decode cX4_clear 24 = .ok (.aload_n 0, 1) := by decide +kernel
theorem dX4_clear_25 : decode cX4_clear 25 = .ok (.getfield 22, 3) := by decide +kernel
theorem dX4_clear_28 : decode cX4_clear 28 = .ok (.iload_n 1, 1) := by decide +kernel
theorem dX4_clear_29 : decode cX4_clear 29 = .ok (.iload_n 1, 1) := by decide +kernel
theorem dX4_clear_30 : decode cX4_clear 30 = .ok (.bipush 64, 2) := by decide +kernel
theorem dX4_clear_32 : decode cX4_clear 32 = .ok (.if_icmp .lt 7, 3) := by decide +kernel
theorem dX4_clear_35 : decode cX4_clear 35 = .ok (.iconst 1, 1) := by decide +kernel
theorem dX4_clear_36 : decode cX4_clear 36 = .ok (.goto 4, 3) := by decide +kernel
theorem dX4_clear_39 : decode cX4_clear 39 = .ok (.iconst 0, 1) := by decide +kernel
theorem dX4_clear_40 : decode cX4_clear 40 = .ok (.bastore, 1) := by decide +kernel
theorem dX4_clear_41 : decode cX4_clear 41 = .ok (.iinc 1 1, 3) := by decide +kernel
theorem dX4_clear_44 : decode cX4_clear 44 = .ok (.goto (-42), 3) := by decide +kernel
theorem dX4_clear_47 : decode cX4_clear 47 = .ok (.aload_n 0, 1) := by decide +kernel
theorem dX4_clear_48 : decode cX4_clear 48 = .ok (.iconst 0, 1) := by decide +kernel
theorem dX4_clear_49 : decode cX4_clear 49 = .ok (.putfield 45, 3) := by decide +kernel
theorem dX4_clear_52 : decode cX4_clear 52 = .ok (.aload_n 0, 1) := by decide +kernel
theorem dX4_clear_53 : decode cX4_clear 53 = .ok (.iconst 0, 1) := by decide +kernel
theorem dX4_clear_54 : decode cX4_clear 54 = .ok (.putfield 49, 3) := by decide +kernel
theorem dX4_clear_57 : decode cX4_clear 57 = .ok (.aload_n 0, 1) := by decide +kernel
theorem dX4_clear_58 : decode cX4_clear 58 = .ok (.iconst 0, 1) := by decide +kernel
theorem dX4_clear_59 : decode cX4_clear 59 = .ok (.putfield 52, 3) := by decide +kernel
theorem dX4_clear_62 : decode cX4_clear 62 = .ok (.return_, 1) := by decide +kernel
theorem dX4_base_0 : decode cX4_base 0 = .ok (.iconst 4, 1) := by decide +kernel
theorem dX4_base_1 : decode cX4_base 1 = .ok (.aload_n 0, 1) := by decide +kernel
theorem dX4_base_2 : decode cX4_base 2 = .ok (.getfield 45, 3) := by decide +kernel
theorem dX4_base_5 : decode cX4_base 5 = .ok (.ishl, 1) := by decide +kernel
theorem dX4_base_6 : decode cX4_base 6 = .ok (.ireturn, 1) := by decide +kernel
set_option maxRecDepth 20000 in
theorem ggX4_buckets_X4_base : GoodIn wsX4_buckets wsX4_base := goodIn_r _ [6, 7, 8, 9, 10, 11, 12, 13, 14, 15, 16, 17, 18, 19, 20, 21, 22, 23, 24, 25, 26, 27] (by decide +kernel) (by decide +kernel)
set_option maxRecDepth 20000 in
theorem gX4_buckets_X4_base : GoodIn wsX4_buckets (wsV RX4 55 RX4 yX4_base wsX4_base) := goodIn_app (goodIn_of _ (by decide +kernel)) ggX4_buckets_X4_base
theorem dX4_buckets_0 : decode cX4_buckets 0 = .ok (.aload_n 0, 1) := by decide +kernel
theorem dX4_buckets_1 : decode cX4_buckets 1 = .ok (.invokevirtual 55, 3) := by decide +kernel
theorem dX4_buckets_4 : decode cX4_buckets 4 = .ok (.aload_n 0, 1) := by decide +kernel
theorem dX4_buckets_5 : decode cX4_buckets 5 = .ok (.getfield 49, 3) := by decide +kernel
theorem dX4_buckets_8 : decode cX4_buckets 8 = .ok (.iadd, 1) := by decide +kernel
theorem dX4_buckets_9 : decode cX4_buckets 9 = .ok (.ireturn, 1) := by decide +kernel
set_option maxRecDepth 20000 in
theorem ggX4_addressOf_X4_base : GoodIn wsX4_addressOf wsX4_base := goodIn_r _ [7, 8, 9, 10, 11, 12, 13, 14, 15, 16, 17, 18, 19, 20, 21, 22, 23, 24, 25, 26, 27, 28] (by decide +kernel) (by decide +kernel)
set_option maxRecDepth 20000 in
theorem gX4_addressOf_X4_base : GoodIn wsX4_addressOf (wsV RX4 55 RX4 yX4_base wsX4_base) := goodIn_app (goodIn_of _ (by decide +kernel)) ggX4_addressOf_X4_base
theorem dX4_addressOf_0 : decode cX4_addressOf 0 = .ok (.iload_n 1, 1) := by decide +kernel
theorem dX4_addressOf_1 : decode cX4_addressOf 1 = .ok (.ldc 59, 2) := by decide +kernel
theorem dX4_addressOf_3 : decode cX4_addressOf 3 = .ok (.imul, 1) := by decide +kernel
theorem dX4_addressOf_4 : decode cX4_addressOf 4 = .ok (.istore_n 2, 1) := by decide +kernel
theorem dX4_addressOf_5 : decode cX4_addressOf 5 = .ok (.iload_n 2, 1) := by decide +kernel
theorem dX4_addressOf_6 : decode cX4_addressOf 6 = .ok (.iload_n 2, 1) := by decide +kernel
theorem dX4_addressOf_7 : decode cX4_addressOf 7 = .ok (.bipush 15, 2) := by decide +kernel
theorem dX4_addressOf_9 : decode cX4_addressOf 9 = .ok (.iushr, 1) := by decide +kernel
theorem dX4_addressOf_10 : decode cX4_addressOf 10 = .ok (.ixor, 1) := by decide +kernel
theorem dX4_addressOf_11 : decode cX4_addressOf 11 = .ok (.istore_n 2, 1) := by decide +kernel
theorem dX4_addressOf_12 : decode cX4_addressOf 12 = .ok (.iload_n 2, 1) := by decide +kernel
theorem dX4_addressOf_13 : decode cX4_addressOf 13 = .ok (.aload_n 0, 1) := by decide +kernel
theorem dX4_addressOf_14 : decode cX4_addressOf 14 = .ok (.invokevirtual 55, 3) := by decide +kernel
theorem dX4_addressOf_17 : decode cX4_addressOf 17 = .ok (.iconst 1, 1) := by decide +kernel
theorem dX4_addressOf_18 : decode cX4_addressOf 18 = .ok (.isub, 1) := by decide +kernel
theorem dX4_addressOf_19 : decode cX4_addressOf 19 = .ok (.iand, 1) := by decide +kernel
theorem dX4_addressOf_20 : decode cX4_addressOf 20 = .ok (.istore_n 3, 1) := by decide +kernel
theorem dX4_addressOf_21 : decode cX4_addressOf 21 = .ok (.iload_n 3, 1) := by decide +kernel
theorem dX4_addressOf_22 : decode cX4_addressOf 22 = .ok (.aload_n 0, 1) := by decide +kernel
theorem dX4_addressOf_23 : decode cX4_addressOf 23 = .ok (.getfield 49, 3) := by decide +kernel
theorem dX4_addressOf_26 : decode cX4_addressOf 26 = .ok (.if_icmp .ge 16, 3) := by decide +kernel
theorem dX4_addressOf_29 : decode cX4_addressOf 29 = .ok (.iload_n 2, 1) := by decide +kernel
theorem dX4_addressOf_30 : decode cX4_addressOf 30 = .ok (.iconst 2, 1) := by decide +kernel
theorem dX4_addressOf_31 : decode cX4_addressOf 31 = .ok (.aload_n 0, 1) := by decide +kernel
theorem dX4_addressOf_32 : decode cX4_addressOf 32 = .ok (.invokevirtual 55, 3) := by decide +kernel
theorem dX4_addressOf_35 : decode cX4_addressOf 35 = .ok (.imul, 1) := by decide +kernel
theorem dX4_addressOf_36 : decode cX4_addressOf 36 = .ok (.iconst 1, 1) := by decide +kernel
theorem dX4_addressOf_37 : decode cX4_addressOf 37 = .ok (.isub, 1) := by decide +kernel
theorem dX4_addressOf_38 : decode cX4_addressOf 38 = .ok (.iand, 1) := by decide +kernel
theorem dX4_addressOf_39 : decode cX4_addressOf 39 = .ok (.goto 4, 3) := by decide +kernel
theorem dX4_addressOf_42 : decode cX4_addressOf 42 = .ok (.iload_n 3, 1) := by decide +kernel
theorem dX4_addressOf_43 : decode cX4_addressOf 43 = .ok (.ireturn, 1) := by decide +kernel
theorem dX4_lastOf_0 : decode cX4_lastOf 0 = .ok (.iload_n 1, 1) := by decide +kernel
theorem dX4_lastOf_1 : decode cX4_lastOf 1 = .ok (.istore_n 2, 1) := by decide +kernel
theorem dX4_lastOf_2 : decode cX4_lastOf 2 = .ok (.aload_n 0, 1) := by decide +kernel
theorem dX4_lastOf_3 : decode cX4_lastOf 3 = .ok (.getfield 19, 3) := by decide +kernel
theorem dX4_lastOf_6 : decode cX4_lastOf 6 = .ok (.iload_n 2, 1) := by decide +kernel
theorem dX4_lastOf_7 : decode cX4_lastOf 7 = .ok (.iaload, 1) := by decide +kernel
theorem dX4_lastOf_8 : decode cX4_lastOf 8 = .ok (.ldc 44, 2) := by decide +kernel
theorem dX4_lastOf_10 : decode cX4_lastOf 10 = .ok (.if_icmp .eq 13, 3) := by decide +kernel
theorem dX4_lastOf_13 : decode cX4_lastOf 13 = .ok (.aload_n 0, 1) := by decide +kernel
theorem dX4_lastOf_14 : decode cX4_lastOf 14 = .ok (.getfield 19, 3) := by decide +kernel
theorem dX4_lastOf_17 : decode cX4_lastOf 17 = .ok (.iload_n 2, 1) := by decide +kernel
theorem dX4_lastOf_18 : decode cX4_lastOf 18 = .ok (.iaload, 1) := by decide +kernel
theorem dX4_lastOf_19 : decode cX4_lastOf 19 = .ok (.istore_n 2, 1) := by decide +kernel
theorem dX4_lastOf_20 : decode cX4_lastOf 20 = .ok (.goto (-18), 3) := by decide +kernel
theorem dX4_lastOf_23 : decode cX4_lastOf 23 = .ok (.iload_n 2, 1) := by decide +kernel
theorem dX4_lastOf_24 : decode cX4_lastOf 24 = .ok (.ireturn, 1) := by decide +kernel
theorem dX4_freeOnes_0 : decode cX4_freeOnes 0 = .ok (.iconst 0, 1) := by decide +kernel
theorem dX4_freeOnes_1 : decode cX4_freeOnes 1 = .ok (.istore_n 1, 1) := by decide +kernel
theorem dX4_freeOnes_2 : decode cX4_freeOnes 2 = .ok (.bipush 64, 2) := by decide +kernel
theorem dX4_freeOnes_4 : decode cX4_freeOnes 4 = .ok (.istore_n 2, 1) := by decide +kernel
theorem dX4_freeOnes_5 : decode cX4_freeOnes 5 = .ok (.iload_n 2, 1) := by decide +kernel
theorem dX4_freeOnes_6 : decode cX4_freeOnes 6 = .ok (.sipush 128, 3) := by decide +kernel
theorem dX4_freeOnes_9 : decode cX4_freeOnes 9 = .ok (.if_icmp .ge 26, 3) := by decide +kernel
theorem dX4_freeOnes_12 : decode cX4_freeOnes 12 = .ok (.iload_n 1, 1) := by decide +kernel
theorem dX4_freeOnes_13 : decode cX4_freeOnes 13 = .ok (.aload_n 0, 1) := by decide +kernel
theorem dX4_freeOnes_14 : decode cX4_freeOnes 14 = .ok (.getfield 22, 3) := by decide +kernel
theorem dX4_freeOnes_17 : decode cX4_freeOnes 17 = .ok (.iload_n 2, 1) := by decide +kernel
theorem dX4_freeOnes_18 : decode cX4_freeOnes 18 = .ok (.baload, 1) := by decide +kernel
theorem dX4_freeOnes_19 : decode cX4_freeOnes 19 = .ok (.ifCond .eq 7, 3) := by decide +kernel
theorem dX4_freeOnes_22 : decode cX4_freeOnes 22 = .ok (.iconst 1, 1) := by decide +kernel
theorem dX4_freeOnes_23 : decode cX4_freeOnes 23 = .ok (.goto 4, 3) := by decide +kernel
theorem dX4_freeOnes_26 : decode cX4_freeOnes 26 = .ok (.iconst 0, 1) := by decide +kernel
theorem dX4_freeOnes_27 : decode cX4_freeOnes 27 = .ok (.iadd, 1) := by decide +kernel
theorem dX4_freeOnes_28 : decode cX4_freeOnes 28 = .ok (.istore_n 1, 1) := by decide +kernel
theorem dX4_freeOnes_29 : decode cX4_freeOnes 29 = .ok (.iinc 2 1, 3) := by decide +kernel
theorem dX4_freeOnes_32 : decode cX4_freeOnes 32 = .ok (.goto (-27), 3) := by decide +kernel
theorem dX4_freeOnes_35 : decode cX4_freeOnes 35 = .ok (.iload_n 1, 1) := by decide +kernel
theorem dX4_freeOnes_36 : decode cX4_freeOnes 36 = .ok (.ireturn, 1) := by decide +kernel
set_option maxRecDepth 20000 in
theorem ggX4_add_X4_lastOf : GoodIn wsX4_add wsX4_lastOf := goodIn_r _ [10, 3, 11, 12, 13, 14, 15, 16, 17, 18, 19, 20, 21, 22, 23, 24, 25, 26, 27, 28, 29, 30, 31] (by decide +kernel) (by decide +kernel)
set_option maxRecDepth 20000 in
theorem gX4_add_X4_lastOf : GoodIn wsX4_add (wsV RX4 60 RX4 yX4_lastOf wsX4_lastOf) := goodIn_app (goodIn_of _ (by decide +kernel)) ggX4_add_X4_lastOf
theorem dX4_add_0 : decode cX4_add 0 = .ok (.aload_n 0, 1) := by decide +kernel
theorem dX4_add_1 : decode cX4_add 1 = .ok (.iload_n 1, 1) := by decide +kernel
theorem dX4_add_2 : decode cX4_add 2 = .ok (.invokevirtual 60, 3) := by decide +kernel
theorem dX4_add_5 : decode cX4_add 5 = .ok (.istore 4, 2) := by decide +kernel
theorem dX4_add_7 : decode cX4_add 7 = .ok (.aload_n 0, 1) := by decide +kernel
theorem dX4_add_8 : decode cX4_add 8 = .ok (.getfield 16, 3) := by decide +kernel
theorem dX4_add_11 : decode cX4_add 11 = .ok (.iload 4, 2) := by decide +kernel
theorem dX4_add_13 : decode cX4_add 13 = .ok (.iaload, 1) := by decide +kernel
theorem dX4_add_14 : decode cX4_add 14 = .ok (.iconst 4, 1) := by decide +kernel
theorem dX4_add_15 : decode cX4_add 15 = .ok (.if_icmp .ne 44, 3) := by decide +kernel
theorem dX4_add_18 : decode cX4_add 18 = .ok (.bipush 64, 2) := by decide +kernel
theorem dX4_add_20 : decode cX4_add 20 = .ok (.istore 5, 2) := by decide +kernel
theorem dX4_add_22 : decode cX4_add 22 = .ok (.aload_n 0, 1) := by decide +kernel
theorem dX4_add_23 : decode cX4_add 23 = .ok (.getfield 22, 3) := by decide +kernel
theorem dX4_add_26 : decode cX4_add 26 = .ok (.iload 5, 2) := by decide +kernel
theorem dX4_add_28 : decode cX4_add 28 = .ok (.baload, 1) := by decide +kernel
theorem dX4_add_29 : decode cX4_add 29 = .ok (.ifCond .ne 9, 3) := by decide +kernel
theorem dX4_add_32 : decode cX4_add 32 = .ok (.iinc 5 1, 3) := by decide +kernel
theorem dX4_add_35 : decode cX4_add 35 = .ok (.goto (-13), 3) := by decide +kernel
theorem dX4_add_38 : decode cX4_add 38 = .ok (.aload_n 0, 1) := by decide +kernel
theorem dX4_add_39 : decode cX4_add 39 = .ok (.getfield 22, 3) := by decide +kernel
theorem dX4_add_42 : decode cX4_add 42 = .ok (.iload 5, 2) := by decide +kernel
theorem dX4_add_44 : decode cX4_add 44 = .ok (.iconst 0, 1) := by decide +kernel
theorem dX4_add_45 : decode cX4_add 45 = .ok (.bastore, 1) := by decide +kernel
theorem dX4_add_46 : decode cX4_add 46 = .ok (.aload_n 0, 1) := by decide +kernel
theorem dX4_add_47 : decode cX4_add 47 = .ok (.getfield 19, 3) := by decide +kernel
theorem dX4_add_50 : decode cX4_add 50 = .ok (.iload 4, 2) := by decide +kernel
theorem dX4_add_52 : decode cX4_add 52 = .ok (.iload 5, 2) := by decide +kernel
theorem dX4_add_54 : decode cX4_add 54 = .ok (.iastore, 1) := by decide +kernel
theorem dX4_add_55 : decode cX4_add 55 = .ok (.iload 5, 2) := by decide +kernel
theorem dX4_add_57 : decode cX4_add 57 = .ok (.istore 4, 2) := by decide +kernel
theorem dX4_add_59 : decode cX4_add 59 = .ok (.aload_n 0, 1) := by decide +kernel
theorem dX4_add_60 : decode cX4_add 60 = .ok (.getfield 7, 3) := by decide +kernel
theorem dX4_add_63 : decode cX4_add 63 = .ok (.iconst 4, 1) := by decide +kernel
theorem dX4_add_64 : decode cX4_add 64 = .ok (.iload 4, 2) := by decide +kernel
theorem dX4_add_66 : decode cX4_add 66 = .ok (.imul, 1) := by decide +kernel
theorem dX4_add_67 : decode cX4_add 67 = .ok (.aload_n 0, 1) := by decide +kernel
theorem dX4_add_68 : decode cX4_add 68 = .ok (.getfield 16, 3) := by decide +kernel
theorem dX4_add_71 : decode cX4_add 71 = .ok (.iload 4, 2) := by decide +kernel
theorem dX4_add_73 : decode cX4_add 73 = .ok (.iaload, 1) := by decide +kernel
theorem dX4_add_74 : decode cX4_add 74 = .ok (.iadd, 1) := by decide +kernel
theorem dX4_add_75 : decode cX4_add 75 = .ok (.iload_n 2, 1) := by decide +kernel
theorem dX4_add_76 : decode cX4_add 76 = .ok (.iastore, 1) := by decide +kernel
theorem dX4_add_77 : decode cX4_add 77 = .ok (.aload_n 0, 1) := by decide +kernel
theorem dX4_add_78 : decode cX4_add 78 = .ok (.getfield 13, 3) := by decide +kernel
theorem dX4_add_81 : decode cX4_add 81 = .ok (.iconst 4, 1) := by decide +kernel
theorem dX4_add_82 : decode cX4_add 82 = .ok (.iload 4, 2) := by decide +kernel
theorem dX4_add_84 : decode cX4_add 84 = .ok (.imul, 1) := by decide +kernel
theorem dX4_add_85 : decode cX4_add 85 = .ok (.aload_n 0, 1) := by decide +kernel
theorem dX4_add_86 : decode cX4_add 86 = .ok (.getfield 16, 3) := by decide +kernel
theorem dX4_add_89 : decode cX4_add 89 = .ok (.iload 4, 2) := by decide +kernel
theorem dX4_add_91 : decode cX4_add 91 = .ok (.iaload, 1) := by decide +kernel
theorem dX4_add_92 : decode cX4_add 92 = .ok (.iadd, 1) := by decide +kernel
theorem dX4_add_93 : decode cX4_add 93 = .ok (.iload_n 3, 1) := by decide +kernel
theorem dX4_add_94 : decode cX4_add 94 = .ok (.iastore, 1) := by decide +kernel
theorem dX4_add_95 : decode cX4_add 95 = .ok (.aload_n 0, 1) := by decide +kernel
theorem dX4_add_96 : decode cX4_add 96 = .ok (.getfield 16, 3) := by decide +kernel
theorem dX4_add_99 : decode cX4_add 99 = .ok (.iload 4, 2) := by decide +kernel
theorem dX4_add_101 : decode cX4_add 101 = .ok (.dup2, 1) := by decide +kernel
theorem dX4_add_102 : decode cX4_add 102 = .ok (.iaload, 1) := by decide +kernel
theorem dX4_add_103 : decode cX4_add 103 = .ok (.iconst 1, 1) := by decide +kernel
theorem dX4_add_104 : decode cX4_add 104 = .ok (.iadd, 1) := by decide +kernel
theorem dX4_add_105 : decode cX4_add 105 = .ok (.iastore, 1) := by decide +kernel
theorem dX4_add_106 : decode cX4_add 106 = .ok (.return_, 1) := by decide +kernel
set_option maxRecDepth 20000 in
theorem ggX4_placeOf_X4_addressOf : GoodIn wsX4_placeOf wsX4_addressOf := goodIn_r _ [9, 10, 11, 12, 13, 14, 8, 15, 16, 17, 18, 19, 20, 21, 22, 23, 24, 25, 26, 27, 28, 29, 30, 31, 32, 33, 34, 35, 36] (by decide +kernel) (by decide +kernel)
set_option maxRecDepth 20000 in
theorem gX4_placeOf_X4_addressOf : GoodIn wsX4_placeOf (wsV RX4 64 RX4 yX4_addressOf wsX4_addressOf) := goodIn_app (goodIn_of _ (by decide +kernel)) ggX4_placeOf_X4_addressOf
theorem dX4_placeOf_0 : decode cX4_placeOf 0 = .ok (.aload_n 0, 1) := by decide +kernel
theorem dX4_placeOf_1 : decode cX4_placeOf 1 = .ok (.iload_n 1, 1) := by decide +kernel
theorem dX4_placeOf_2 : decode cX4_placeOf 2 = .ok (.invokevirtual 64, 3) := by decide +kernel
theorem dX4_placeOf_5 : decode cX4_placeOf 5 = .ok (.istore_n 2, 1) := by decide +kernel
theorem dX4_placeOf_6 : decode cX4_placeOf 6 = .ok (.iload_n 2, 1) := by decide +kernel
theorem dX4_placeOf_7 : decode cX4_placeOf 7 = .ok (.ldc 44, 2) := by decide +kernel
theorem dX4_placeOf_9 : decode cX4_placeOf 9 = .ok (.if_icmp .eq 51, 3) := by decide +kernel
theorem dX4_placeOf_12 : decode cX4_placeOf 12 = .ok (.iconst 0, 1) := by decide +kernel
theorem dX4_placeOf_13 : decode cX4_placeOf 13 = .ok (.istore_n 3, 1) := by decide +kernel
theorem dX4_placeOf_14 : decode cX4_placeOf 14 = .ok (.iload_n 3, 1) := by decide +kernel
theorem dX4_placeOf_15 : decode cX4_placeOf 15 = .ok (.aload_n 0, 1) := by decide +kernel
theorem dX4_placeOf_16 : decode cX4_placeOf 16 = .ok (.getfield 16, 3) := by decide +kernel
theorem dX4_placeOf_19 : decode cX4_placeOf 19 = .ok (.iload_n 2, 1) := by decide +kernel
theorem dX4_placeOf_20 : decode cX4_placeOf 20 = .ok (.iaload, 1) := by decide +kernel
theorem dX4_placeOf_21 : decode cX4_placeOf 21 = .ok (.if_icmp .ge 29, 3) := by decide +kernel
theorem dX4_placeOf_24 : decode cX4_placeOf 24 = .ok (.aload_n 0, 1) := by decide +kernel
theorem dX4_placeOf_25 : decode cX4_placeOf 25 = .ok (.getfield 7, 3) := by decide +kernel
theorem dX4_placeOf_28 : decode cX4_placeOf 28 = .ok (.iconst 4, 1) := by decide +kernel
theorem dX4_placeOf_29 : decode cX4_placeOf 29 = .ok (.iload_n 2, 1) := by decide +kernel
theorem dX4_placeOf_30 : decode cX4_placeOf 30 = .ok (.imul, 1) := by decide +kernel
theorem dX4_placeOf_31 : decode cX4_placeOf 31 = .ok (.iload_n 3, 1) := by decide +kernel
theorem dX4_placeOf_32 : decode cX4_placeOf 32 = .ok (.iadd, 1) := by decide +kernel
theorem dX4_placeOf_33 : decode cX4_placeOf 33 = .ok (.iaload, 1) := by decide +kernel
theorem dX4_placeOf_34 : decode cX4_placeOf 34 = .ok (.iload_n 1, 1) := by decide +kernel
theorem dX4_placeOf_35 : decode cX4_placeOf 35 = .ok (.if_icmp .ne 9, 3) := by decide +kernel
theorem dX4_placeOf_38 : decode cX4_placeOf 38 = .ok (.iconst 4, 1) := by decide +kernel
theorem dX4_placeOf_39 : decode cX4_placeOf 39 = .ok (.iload_n 2, 1) := by decide +kernel
theorem dX4_placeOf_40 : decode cX4_placeOf 40 = .ok (.imul, 1) := by decide +kernel
theorem dX4_placeOf_41 : decode cX4_placeOf 41 = .ok (.iload_n 3, 1) := by decide +kernel
theorem dX4_placeOf_42 : decode cX4_placeOf 42 = .ok (.iadd, 1) := by decide +kernel
theorem dX4_placeOf_43 : decode cX4_placeOf 43 = .ok (.ireturn, 1) := by decide +kernel
theorem dX4_placeOf_44 : decode cX4_placeOf 44 = .ok (.iinc 3 1, 3) := by decide +kernel
theorem dX4_placeOf_47 : decode cX4_placeOf 47 = .ok (.goto (-33), 3) := by decide +kernel
theorem dX4_placeOf_50 : decode cX4_placeOf 50 = .ok (.aload_n 0, 1) := by decide +kernel
theorem dX4_placeOf_51 : decode cX4_placeOf 51 = .ok (.getfield 19, 3) := by decide +kernel
theorem dX4_placeOf_54 : decode cX4_placeOf 54 = .ok (.iload_n 2, 1) := by decide +kernel
theorem dX4_placeOf_55 : decode cX4_placeOf 55 = .ok (.iaload, 1) := by decide +kernel
theorem dX4_placeOf_56 : decode cX4_placeOf 56 = .ok (.istore_n 2, 1) := by decide +kernel
theorem dX4_placeOf_57 : decode cX4_placeOf 57 = .ok (.goto (-51), 3) := by decide +kernel
theorem dX4_placeOf_60 : decode cX4_placeOf 60 = .ok (.ldc 44, 2) := by decide +kernel
theorem dX4_placeOf_62 : decode cX4_placeOf 62 = .ok (.ireturn, 1) := by decide +kernel
theorem dX4_hold_0 : decode cX4_hold 0 = .ok (.iload_n 1, 1) := by decide +kernel
theorem dX4_hold_1 : decode cX4_hold 1 = .ok (.istore_n 2, 1) := by decide +kernel
theorem dX4_hold_2 : decode cX4_hold 2 = .ok (.iload_n 2, 1) := by decide +kernel
theorem dX4_hold_3 : decode cX4_hold 3 = .ok (.ldc 44, 2) := by decide +kernel
theorem dX4_hold_5 : decode cX4_hold 5 = .ok (.if_icmp .eq 113, 3) := by decide +kernel
theorem dX4_hold_8 : decode cX4_hold 8 = .ok (.iconst 0, 1) := by decide +kernel
theorem dX4_hold_9 : decode cX4_hold 9 = .ok (.istore_n 3, 1) := by decide +kernel
theorem dX4_hold_10 : decode cX4_hold 10 = .ok (.iload_n 3, 1) := by decide +kernel
theorem dX4_hold_11 : decode cX4_hold 11 = .ok (.aload_n 0, 1) := by decide +kernel
theorem dX4_hold_12 : decode cX4_hold 12 = .ok (.getfield 16, 3) := by decide +kernel
theorem dX4_hold_15 : decode cX4_hold 15 = .ok (.iload_n 2, 1) := by decide +kernel
theorem dX4_hold_16 : decode cX4_hold 16 = .ok (.iaload, 1) := by decide +kernel
theorem dX4_hold_17 : decode cX4_hold 17 = .ok (.if_icmp .ge 57, 3) := by decide +kernel
theorem dX4_hold_20 : decode cX4_hold 20 = .ok (.aload_n 0, 1) := by decide +kernel
theorem dX4_hold_21 : decode cX4_hold 21 = .ok (.getfield 35, 3) := by decide +kernel
theorem dX4_hold_24 : decode cX4_hold 24 = .ok (.aload_n 0, 1) := by decide +kernel
theorem dX4_hold_25 : decode cX4_hold 25 = .ok (.getfield 67, 3) := by decide +kernel
theorem dX4_hold_28 : decode cX4_hold 28 = .ok (.aload_n 0, 1) := by decide +kernel
theorem dX4_hold_29 : decode cX4_hold 29 = .ok (.getfield 7, 3) := by decide +kernel
theorem dX4_hold_32 : decode cX4_hold 32 = .ok (.iconst 4, 1) := by decide +kernel
theorem dX4_hold_33 : decode cX4_hold 33 = .ok (.iload_n 2, 1) := by decide +kernel
theorem dX4_hold_34 : decode cX4_hold 34 = .ok (.imul, 1) := by decide +kernel
theorem dX4_hold_35 : decode cX4_hold 35 = .ok (.iload_n 3, 1) := by decide +kernel
theorem dX4_hold_36 : decode cX4_hold 36 = .ok (.iadd, 1) := by decide +kernel
theorem dX4_hold_37 : decode cX4_hold 37 = .ok (.iaload, 1) := by decide +kernel
theorem dX4_hold_38 : decode cX4_hold 38 = .ok (.iastore, 1) := by decide +kernel
theorem dX4_hold_39 : decode cX4_hold 39 = .ok (.aload_n 0, 1) := by decide +kernel
theorem dX4_hold_40 : decode cX4_hold 40 = .ok (.getfield 38, 3) := by decide +kernel
theorem dX4_hold_43 : decode cX4_hold 43 = .ok (.aload_n 0, 1) := by decide +kernel
theorem dX4_hold_44 : decode cX4_hold 44 = .ok (.getfield 67, 3) := by decide +kernel
theorem dX4_hold_47 : decode cX4_hold 47 = .ok (.aload_n 0, 1) := by decide +kernel
theorem dX4_hold_48 : decode cX4_hold 48 = .ok (.getfield 13, 3) := by decide +kernel
theorem dX4_hold_51 : decode cX4_hold 51 = .ok (.iconst 4, 1) := by decide +kernel
theorem dX4_hold_52 : decode cX4_hold 52 = .ok (.iload_n 2, 1) := by decide +kernel
theorem dX4_hold_53 : decode cX4_hold 53 = .ok (.imul, 1) := by decide +kernel
theorem dX4_hold_54 : decode cX4_hold 54 = .ok (.iload_n 3, 1) := by decide +kernel
theorem dX4_hold_55 : decode cX4_hold 55 = .ok (.iadd, 1) := by decide +kernel
theorem dX4_hold_56 : decode cX4_hold 56 = .ok (.iaload, 1) := by decide +kernel
theorem dX4_hold_57 : decode cX4_hold 57 = .ok (.iastore, 1) := by decide +kernel
theorem dX4_hold_58 : decode cX4_hold 58 = .ok (.aload_n 0, 1) := by decide +kernel
theorem dX4_hold_59 : decode cX4_hold 59 = .ok (.dup, 1) := by decide +kernel
theorem dX4_hold_60 : decode cX4_hold 60 = .ok (.getfield 67, 3) := by decide +kernel
theorem dX4_hold_63 : decode cX4_hold 63 = .ok (.iconst 1, 1) := by decide +kernel
theorem dX4_hold_64 : decode cX4_hold 64 = .ok (.iadd, 1) := by decide +kernel
theorem dX4_hold_65 : decode cX4_hold 65 = .ok (.putfield 67, 3) := by decide +kernel
theorem dX4_hold_68 : decode cX4_hold 68 = .ok (.iinc 3 1, 3) := by decide +kernel
theorem dX4_hold_71 : decode cX4_hold 71 = .ok (.goto (-61), 3) := by decide +kernel
theorem dX4_hold_74 : decode cX4_hold 74 = .ok (.aload_n 0, 1) := by decide +kernel
theorem dX4_hold_75 : decode cX4_hold 75 = .ok (.getfield 19, 3) := by decide +kernel
theorem dX4_hold_78 : decode cX4_hold 78 = .ok (.iload_n 2, 1) := by decide +kernel
theorem dX4_hold_79 : decode cX4_hold 79 = .ok (.iaload, 1) := by decide +kernel
theorem dX4_hold_80 : decode cX4_hold 80 = .ok (.istore_n 3, 1) := by decide +kernel
theorem dX4_hold_81 : decode cX4_hold 81 = .ok (.aload_n 0, 1) := by decide +kernel
theorem dX4_hold_82 : decode cX4_hold 82 = .ok (.getfield 16, 3) := by decide +kernel
theorem dX4_hold_85 : decode cX4_hold 85 = .ok (.iload_n 2, 1) := by decide +kernel
theorem dX4_hold_86 : decode cX4_hold 86 = .ok (.iconst 0, 1) := by decide +kernel
theorem dX4_hold_87 : decode cX4_hold 87 = .ok (.iastore, 1) := by decide +kernel
theorem dX4_hold_88 : decode cX4_hold 88 = .ok (.aload_n 0, 1) := by decide +kernel
theorem dX4_hold_89 : decode cX4_hold 89 = .ok (.getfield 19, 3) := by decide +kernel
theorem dX4_hold_92 : decode cX4_hold 92 = .ok (.iload_n 2, 1) := by decide +kernel
theorem dX4_hold_93 : decode cX4_hold 93 = .ok (.ldc 44, 2) := by decide +kernel
theorem dX4_hold_95 : decode cX4_hold 95 = .ok (.iastore, 1) := by decide +kernel
theorem dX4_hold_96 : decode cX4_hold 96 = .ok (.aload_n 0, 1) := by decide +kernel
theorem dX4_hold_97 : decode cX4_hold 97 = .ok (.getfield 22, 3) := by decide +kernel
theorem dX4_hold_100 : decode cX4_hold 100 = .ok (.iload_n 2, 1) := by decide +kernel
theorem dX4_hold_101 : decode cX4_hold 101 = .ok (.iload_n 2, 1) := by decide +kernel
theorem dX4_hold_102 : decode cX4_hold 102 = .ok (.bipush 64, 2) := by decide +kernel
theorem dX4_hold_104 : decode cX4_hold 104 = .ok (.if_icmp .lt 7, 3) := by decide +kernel
theorem dX4_hold_107 : decode cX4_hold 107 = .ok (.iconst 1, 1) := by decide +kernel
theorem dX4_hold_108 : decode cX4_hold 108 = .ok (.goto 4, 3) := by decide +kernel
theorem dX4_hold_111 : decode cX4_hold 111 = .ok (.iconst 0, 1) := by decide +kernel
theorem dX4_hold_112 : decode cX4_hold 112 = .ok (.bastore, 1) := by decide +kernel
theorem dX4_hold_113 : decode cX4_hold 113 = .ok (.iload_n 3, 1) := by decide +kernel
theorem dX4_hold_114 : decode cX4_hold 114 = .ok (.istore_n 2, 1) := by decide +kernel
theorem dX4_hold_115 : decode cX4_hold 115 = .ok (.goto (-113), 3) := by decide +kernel
theorem dX4_hold_118 : decode cX4_hold 118 = .ok (.return_, 1) := by decide +kernel
set_option maxRecDepth 20000 in
theorem ggX4_layHeld_X4_addressOf : GoodIn wsX4_layHeld wsX4_addressOf := goodIn_r _ [8, 9, 10, 11, 12, 13, 7, 14, 15, 30, 31, 32, 33, 34, 35, 36, 37, 38, 39, 40, 41, 42, 43, 44, 45, 46, 47, 48, 49] (by decide +kernel) (by decide +kernel)
set_option maxRecDepth 20000 in
theorem gX4_layHeld_X4_addressOf : GoodIn wsX4_layHeld (wsV RX4 64 RX4 yX4_addressOf wsX4_addressOf) := goodIn_app (goodIn_of _ (by decide +kernel)) ggX4_layHeld_X4_addressOf
set_option maxRecDepth 20000 in
theorem ggX4_layHeld_X4_add : GoodIn wsX4_layHeld wsX4_add := goodIn_r _ [19, 20, 21, 22, 23, 24, 25, 26, 27, 7, 28, 29, 30, 31, 32, 33, 34, 35, 36, 37, 38, 39, 40, 41, 42, 43, 44, 45, 46, 47, 48, 49] (by decide +kernel) (by decide +kernel)
set_option maxRecDepth 20000 in
theorem gX4_layHeld_X4_add : GoodIn wsX4_layHeld (wsV RX4 70 RX4 yX4_add wsX4_add) := goodIn_app (goodIn_of _ (by decide +kernel)) ggX4_layHeld_X4_add
theorem dX4_layHeld_0 : decode cX4_layHeld 0 = .ok (.iconst 0, 1) := by decide +kernel
theorem dX4_layHeld_1 : decode cX4_layHeld 1 = .ok (.istore_n 1, 1) := by decide +kernel
theorem dX4_layHeld_2 : decode cX4_layHeld 2 = .ok (.iload_n 1, 1) := by decide +kernel
theorem dX4_layHeld_3 : decode cX4_layHeld 3 = .ok (.aload_n 0, 1) := by decide +kernel
theorem dX4_layHeld_4 : decode cX4_layHeld 4 = .ok (.getfield 67, 3) := by decide +kernel
theorem dX4_layHeld_7 : decode cX4_layHeld 7 = .ok (.if_icmp .ge 35, 3) := by decide +kernel
theorem dX4_layHeld_10 : decode cX4_layHeld 10 = .ok (.aload_n 0, 1) := by decide +kernel
theorem dX4_layHeld_11 : decode cX4_layHeld 11 = .ok (.aload_n 0, 1) := by decide +kernel
theorem dX4_layHeld_12 : decode cX4_layHeld 12 = .ok (.aload_n 0, 1) := by decide +kernel
theorem dX4_layHeld_13 : decode cX4_layHeld 13 = .ok (.getfield 35, 3) := by decide +kernel
theorem dX4_layHeld_16 : decode cX4_layHeld 16 = .ok (.iload_n 1, 1) := by decide +kernel
theorem dX4_layHeld_17 : decode cX4_layHeld 17 = .ok (.iaload, 1) := by decide +kernel
theorem dX4_layHeld_18 : decode cX4_layHeld 18 = .ok (.invokevirtual 64, 3) := by decide +kernel
theorem dX4_layHeld_21 : decode cX4_layHeld 21 = .ok (.aload_n 0, 1) := by decide +kernel
theorem dX4_layHeld_22 : decode cX4_layHeld 22 = .ok (.getfield 35, 3) := by decide +kernel
theorem dX4_layHeld_25 : decode cX4_layHeld 25 = .ok (.iload_n 1, 1) := by decide +kernel
theorem dX4_layHeld_26 : decode cX4_layHeld 26 = .ok (.iaload, 1) := by decide +kernel
theorem dX4_layHeld_27 : decode cX4_layHeld 27 = .ok (.aload_n 0, 1) := by decide +kernel
theorem dX4_layHeld_28 : decode cX4_layHeld 28 = .ok (.getfield 38, 3) := by decide +kernel
theorem dX4_layHeld_31 : decode cX4_layHeld 31 = .ok (.iload_n 1, 1) := by decide +kernel
theorem dX4_layHeld_32 : decode cX4_layHeld 32 = .ok (.iaload, 1) := by decide +kernel
theorem dX4_layHeld_33 : decode cX4_layHeld 33 = .ok (.invokevirtual 70, 3) := by decide +kernel
theorem dX4_layHeld_36 : decode cX4_layHeld 36 = .ok (.iinc 1 1, 3) := by decide +kernel
theorem dX4_layHeld_39 : decode cX4_layHeld 39 = .ok (.goto (-37), 3) := by decide +kernel
theorem dX4_layHeld_42 : decode cX4_layHeld 42 = .ok (.return_, 1) := by decide +kernel
set_option maxRecDepth 20000 in
theorem ggX4_grow_X4_hold : GoodIn wsX4_grow wsX4_hold := goodIn_r _ [8, 9, 10, 11, 1, 12, 13, 14, 15, 16, 38, 39, 40, 41, 42, 43, 44, 45, 46, 47, 48, 49, 50, 51, 52, 53, 54, 55, 56, 57] (by decide +kernel) (by decide +kernel)
set_option maxRecDepth 20000 in
theorem gX4_grow_X4_hold : GoodIn wsX4_grow (wsV RX4 74 RX4 yX4_hold wsX4_hold) := goodIn_app (goodIn_of _ (by decide +kernel)) ggX4_grow_X4_hold
set_option maxRecDepth 20000 in
theorem ggX4_grow_X4_base : GoodIn wsX4_grow wsX4_base := goodIn_r _ [20, 3, 38, 39, 40, 41, 42, 43, 44, 45, 46, 47, 48, 49, 50, 51, 52, 53, 54, 55, 56, 57] (by decide +kernel) (by decide +kernel)
set_option maxRecDepth 20000 in
theorem gX4_grow_X4_base : GoodIn wsX4_grow (wsV RX4 55 RX4 yX4_base wsX4_base) := goodIn_app (goodIn_of _ (by decide +kernel)) ggX4_grow_X4_base
set_option maxRecDepth 20000 in
theorem ggX4_grow_X4_layHeld : GoodIn wsX4_grow wsX4_layHeld := goodIn_r _ [24, 1, 11, 13, 25, 26, 27, 7, 28, 29, 2, 17, 18, 19, 20, 3, 30, 31, 32, 33, 10, 16, 15, 12, 14, 34, 35, 36, 37, 9, 38, 39, 40, 41, 42, 43, 44, 45, 46, 47, 48, 49, 50, 51, 52, 53, 54, 55, 56, 57] (by decide +kernel) (by decide +kernel)
set_option maxRecDepth 20000 in
theorem gX4_grow_X4_layHeld : GoodIn wsX4_grow (wsV RX4 78 RX4 yX4_layHeld wsX4_layHeld) := goodIn_app (goodIn_of _ (by decide +kernel)) ggX4_grow_X4_layHeld
theorem dX4_grow_0 : decode cX4_grow 0 = .ok (.aload_n 0, 1) := by decide +kernel
theorem dX4_grow_1 : decode cX4_grow 1 = .ok (.iconst 0, 1) := by decide +kernel
theorem dX4_grow_2 : decode cX4_grow 2 = .ok (.putfield 67, 3) := by decide +kernel
theorem dX4_grow_5 : decode cX4_grow 5 = .ok (.aload_n 0, 1) := by decide +kernel
theorem dX4_grow_6 : decode cX4_grow 6 = .ok (.aload_n 0, 1) := by decide +kernel
theorem dX4_grow_7 : decode cX4_grow 7 = .ok (.getfield 49, 3) := by decide +kernel
theorem dX4_grow_10 : decode cX4_grow 10 = .ok (.invokevirtual 74, 3) := by decide +kernel
theorem dX4_grow_13 : decode cX4_grow 13 = .ok (.aload_n 0, 1) := by decide +kernel
theorem dX4_grow_14 : decode cX4_grow 14 = .ok (.dup, 1) := by decide +kernel
theorem dX4_grow_15 : decode cX4_grow 15 = .ok (.getfield 49, 3) := by decide +kernel
theorem dX4_grow_18 : decode cX4_grow 18 = .ok (.iconst 1, 1) := by decide +kernel
theorem dX4_grow_19 : decode cX4_grow 19 = .ok (.iadd, 1) := by decide +kernel
theorem dX4_grow_20 : decode cX4_grow 20 = .ok (.putfield 49, 3) := by decide +kernel
theorem dX4_grow_23 : decode cX4_grow 23 = .ok (.aload_n 0, 1) := by decide +kernel
theorem dX4_grow_24 : decode cX4_grow 24 = .ok (.getfield 49, 3) := by decide +kernel
theorem dX4_grow_27 : decode cX4_grow 27 = .ok (.aload_n 0, 1) := by decide +kernel
theorem dX4_grow_28 : decode cX4_grow 28 = .ok (.invokevirtual 55, 3) := by decide +kernel
theorem dX4_grow_31 : decode cX4_grow 31 = .ok (.if_icmp .ne 18, 3) := by decide +kernel
theorem dX4_grow_34 : decode cX4_grow 34 = .ok (.aload_n 0, 1) := by decide +kernel
theorem dX4_grow_35 : decode cX4_grow 35 = .ok (.iconst 0, 1) := by decide +kernel
theorem dX4_grow_36 : decode cX4_grow 36 = .ok (.putfield 49, 3) := by decide +kernel
theorem dX4_grow_39 : decode cX4_grow 39 = .ok (.aload_n 0, 1) := by decide +kernel
theorem dX4_grow_40 : decode cX4_grow 40 = .ok (.dup, 1) := by decide +kernel
theorem dX4_grow_41 : decode cX4_grow 41 = .ok (.getfield 45, 3) := by decide +kernel
theorem dX4_grow_44 : decode cX4_grow 44 = .ok (.iconst 1, 1) := by decide +kernel
theorem dX4_grow_45 : decode cX4_grow 45 = .ok (.iadd, 1) := by decide +kernel
theorem dX4_grow_46 : decode cX4_grow 46 = .ok (.putfield 45, 3) := by decide +kernel
theorem dX4_grow_49 : decode cX4_grow 49 = .ok (.aload_n 0, 1) := by decide +kernel
theorem dX4_grow_50 : decode cX4_grow 50 = .ok (.invokevirtual 78, 3) := by decide +kernel
theorem dX4_grow_53 : decode cX4_grow 53 = .ok (.return_, 1) := by decide +kernel
theorem dX4_manyIn_0 : decode cX4_manyIn 0 = .ok (.iconst 0, 1) := by decide +kernel
theorem dX4_manyIn_1 : decode cX4_manyIn 1 = .ok (.istore_n 2, 1) := by decide +kernel
theorem dX4_manyIn_2 : decode cX4_manyIn 2 = .ok (.iload_n 1, 1) := by decide +kernel
theorem dX4_manyIn_3 : decode cX4_manyIn 3 = .ok (.istore_n 3, 1) := by decide +kernel
theorem dX4_manyIn_4 : decode cX4_manyIn 4 = .ok (.iload_n 3, 1) := by decide +kernel
theorem dX4_manyIn_5 : decode cX4_manyIn 5 = .ok (.ldc 44, 2) := by decide +kernel
theorem dX4_manyIn_7 : decode cX4_manyIn 7 = .ok (.if_icmp .eq 22, 3) := by decide +kernel
theorem dX4_manyIn_10 : decode cX4_manyIn 10 = .ok (.iload_n 2, 1) := by decide +kernel
theorem dX4_manyIn_11 : decode cX4_manyIn 11 = .ok (.aload_n 0, 1) := by decide +kernel
theorem dX4_manyIn_12 : decode cX4_manyIn 12 = .ok (.getfield 16, 3) := by decide +kernel
theorem dX4_manyIn_15 : decode cX4_manyIn 15 = .ok (.iload_n 3, 1) := by decide +kernel
theorem dX4_manyIn_16 : decode cX4_manyIn 16 = .ok (.iaload, 1) := by decide +kernel
theorem dX4_manyIn_17 : decode cX4_manyIn 17 = .ok (.iadd, 1) := by decide +kernel
theorem dX4_manyIn_18 : decode cX4_manyIn 18 = .ok (.istore_n 2, 1) := by decide +kernel
theorem dX4_manyIn_19 : decode cX4_manyIn 19 = .ok (.aload_n 0, 1) := by decide +kernel
theorem dX4_manyIn_20 : decode cX4_manyIn 20 = .ok (.getfield 19, 3) := by decide +kernel
theorem dX4_manyIn_23 : decode cX4_manyIn 23 = .ok (.iload_n 3, 1) := by decide +kernel
theorem dX4_manyIn_24 : decode cX4_manyIn 24 = .ok (.iaload, 1) := by decide +kernel
theorem dX4_manyIn_25 : decode cX4_manyIn 25 = .ok (.istore_n 3, 1) := by decide +kernel
theorem dX4_manyIn_26 : decode cX4_manyIn 26 = .ok (.goto (-22), 3) := by decide +kernel
theorem dX4_manyIn_29 : decode cX4_manyIn 29 = .ok (.iload_n 2, 1) := by decide +kernel
theorem dX4_manyIn_30 : decode cX4_manyIn 30 = .ok (.ireturn, 1) := by decide +kernel
theorem dX4_pagesIn_0 : decode cX4_pagesIn 0 = .ok (.iconst 0, 1) := by decide +kernel
theorem dX4_pagesIn_1 : decode cX4_pagesIn 1 = .ok (.istore_n 2, 1) := by decide +kernel
theorem dX4_pagesIn_2 : decode cX4_pagesIn 2 = .ok (.iload_n 1, 1) := by decide +kernel
theorem dX4_pagesIn_3 : decode cX4_pagesIn 3 = .ok (.istore_n 3, 1) := by decide +kernel
theorem dX4_pagesIn_4 : decode cX4_pagesIn 4 = .ok (.iload_n 3, 1) := by decide +kernel
theorem dX4_pagesIn_5 : decode cX4_pagesIn 5 = .ok (.ldc 44, 2) := by decide +kernel
theorem dX4_pagesIn_7 : decode cX4_pagesIn 7 = .ok (.if_icmp .eq 16, 3) := by decide +kernel
theorem dX4_pagesIn_10 : decode cX4_pagesIn 10 = .ok (.iinc 2 1, 3) := by decide +kernel
theorem dX4_pagesIn_13 : decode cX4_pagesIn 13 = .ok (.aload_n 0, 1) := by decide +kernel
theorem dX4_pagesIn_14 : decode cX4_pagesIn 14 = .ok (.getfield 19, 3) := by decide +kernel
theorem dX4_pagesIn_17 : decode cX4_pagesIn 17 = .ok (.iload_n 3, 1) := by decide +kernel
theorem dX4_pagesIn_18 : decode cX4_pagesIn 18 = .ok (.iaload, 1) := by decide +kernel
theorem dX4_pagesIn_19 : decode cX4_pagesIn 19 = .ok (.istore_n 3, 1) := by decide +kernel
theorem dX4_pagesIn_20 : decode cX4_pagesIn 20 = .ok (.goto (-16), 3) := by decide +kernel
theorem dX4_pagesIn_23 : decode cX4_pagesIn 23 = .ok (.iload_n 2, 1) := by decide +kernel
theorem dX4_pagesIn_24 : decode cX4_pagesIn 24 = .ok (.ireturn, 1) := by decide +kernel
set_option maxRecDepth 20000 in
theorem ggX4_shrink_X4_buckets : GoodIn wsX4_shrink wsX4_buckets := goodIn_r _ [8, 1, 9, 10, 11, 7, 12, 2, 54, 55, 56, 57, 58, 59, 60, 61, 62, 63, 64, 65, 66, 67, 68, 69, 70, 71, 72, 73] (by decide +kernel) (by decide +kernel)
set_option maxRecDepth 20000 in
theorem gX4_shrink_X4_buckets : GoodIn wsX4_shrink (wsV RX4 81 RX4 yX4_buckets wsX4_buckets) := goodIn_app (goodIn_of _ (by decide +kernel)) ggX4_shrink_X4_buckets
set_option maxRecDepth 20000 in
theorem ggX4_shrink_X4_manyIn : GoodIn wsX4_shrink wsX4_manyIn := goodIn_r _ [16, 17, 18, 19, 54, 55, 56, 57, 58, 59, 60, 61, 62, 63, 64, 65, 66, 67, 68, 69, 70, 71, 72, 73] (by decide +kernel) (by decide +kernel)
set_option maxRecDepth 20000 in
theorem gX4_shrink_X4_manyIn : GoodIn wsX4_shrink (wsV RX4 84 RX4 yX4_manyIn wsX4_manyIn) := goodIn_app (goodIn_of _ (by decide +kernel)) ggX4_shrink_X4_manyIn
set_option maxRecDepth 20000 in
theorem ggX4_shrink_X4_freeOnes : GoodIn wsX4_shrink wsX4_freeOnes := goodIn_r _ [23, 24, 54, 55, 56, 57, 58, 59, 60, 61, 62, 63, 64, 65, 66, 67, 68, 69, 70, 71, 72, 73] (by decide +kernel) (by decide +kernel)
set_option maxRecDepth 20000 in
theorem gX4_shrink_X4_freeOnes : GoodIn wsX4_shrink (wsV RX4 87 RX4 yX4_freeOnes wsX4_freeOnes) := goodIn_app (goodIn_of _ (by decide +kernel)) ggX4_shrink_X4_freeOnes
set_option maxRecDepth 20000 in
theorem ggX4_shrink_X4_pagesIn : GoodIn wsX4_shrink wsX4_pagesIn := goodIn_r _ [28, 17, 19, 54, 55, 56, 57, 58, 59, 60, 61, 62, 63, 64, 65, 66, 67, 68, 69, 70, 71, 72, 73] (by decide +kernel) (by decide +kernel)
set_option maxRecDepth 20000 in
theorem gX4_shrink_X4_pagesIn : GoodIn wsX4_shrink (wsV RX4 90 RX4 yX4_pagesIn wsX4_pagesIn) := goodIn_app (goodIn_of _ (by decide +kernel)) ggX4_shrink_X4_pagesIn
set_option maxRecDepth 20000 in
theorem ggX4_shrink_X4_hold : GoodIn wsX4_shrink wsX4_hold := goodIn_r _ [32, 17, 18, 33, 3, 34, 35, 36, 19, 24, 54, 55, 56, 57, 58, 59, 60, 61, 62, 63, 64, 65, 66, 67, 68, 69, 70, 71, 72, 73] (by decide +kernel) (by decide +kernel)
set_option maxRecDepth 20000 in
theorem gX4_shrink_X4_hold : GoodIn wsX4_shrink (wsV RX4 74 RX4 yX4_hold wsX4_hold) := goodIn_app (goodIn_of _ (by decide +kernel)) ggX4_shrink_X4_hold
set_option maxRecDepth 20000 in
theorem ggX4_shrink_X4_layHeld : GoodIn wsX4_shrink wsX4_layHeld := goodIn_r _ [40, 3, 33, 35, 41, 42, 43, 7, 44, 45, 1, 9, 10, 11, 12, 2, 46, 47, 48, 49, 18, 24, 19, 34, 36, 50, 51, 52, 53, 17, 54, 55, 56, 57, 58, 59, 60, 61, 62, 63, 64, 65, 66, 67, 68, 69, 70, 71, 72, 73] (by decide +kernel) (by decide +kernel)
set_option maxRecDepth 20000 in
theorem gX4_shrink_X4_layHeld : GoodIn wsX4_shrink (wsV RX4 78 RX4 yX4_layHeld wsX4_layHeld) := goodIn_app (goodIn_of _ (by decide +kernel)) ggX4_shrink_X4_layHeld
theorem dX4_shrink_0 : decode cX4_shrink 0 = .ok (.aload_n 0, 1) := by decide +kernel
theorem dX4_shrink_1 : decode cX4_shrink 1 = .ok (.invokevirtual 81, 3) := by decide +kernel
theorem dX4_shrink_4 : decode cX4_shrink 4 = .ok (.iconst 1, 1) := by decide +kernel
theorem dX4_shrink_5 : decode cX4_shrink 5 = .ok (.isub, 1) := by decide +kernel
theorem dX4_shrink_6 : decode cX4_shrink 6 = .ok (.istore_n 1, 1) := by decide +kernel
theorem dX4_shrink_7 : decode cX4_shrink 7 = .ok (.aload_n 0, 1) := by decide +kernel
theorem dX4_shrink_8 : decode cX4_shrink 8 = .ok (.getfield 49, 3) := by decide +kernel
theorem dX4_shrink_11 : decode cX4_shrink 11 = .ok (.ifCond .ne 12, 3) := by decide +kernel
theorem dX4_shrink_14 : decode cX4_shrink 14 = .ok (.aload_n 0, 1) := by decide +kernel
theorem dX4_shrink_15 : decode cX4_shrink 15 = .ok (.getfield 45, 3) := by decide +kernel
theorem dX4_shrink_18 : decode cX4_shrink 18 = .ok (.iconst 1, 1) := by decide +kernel
theorem dX4_shrink_19 : decode cX4_shrink 19 = .ok (.isub, 1) := by decide +kernel
theorem dX4_shrink_20 : decode cX4_shrink 20 = .ok (.goto 7, 3) := by decide +kernel
theorem dX4_shrink_23 : decode cX4_shrink 23 = .ok (.aload_n 0, 1) := by decide +kernel
theorem dX4_shrink_24 : decode cX4_shrink 24 = .ok (.getfield 45, 3) := by decide +kernel
theorem dX4_shrink_27 : decode cX4_shrink 27 = .ok (.istore_n 2, 1) := by decide +kernel
theorem dX4_shrink_28 : decode cX4_shrink 28 = .ok (.aload_n 0, 1) := by decide +kernel
theorem dX4_shrink_29 : decode cX4_shrink 29 = .ok (.getfield 49, 3) := by decide +kernel
theorem dX4_shrink_32 : decode cX4_shrink 32 = .ok (.ifCond .ne 11, 3) := by decide +kernel
theorem dX4_shrink_35 : decode cX4_shrink 35 = .ok (.iconst 4, 1) := by decide +kernel
theorem dX4_shrink_36 : decode cX4_shrink 36 = .ok (.iload_n 2, 1) := by decide +kernel
theorem dX4_shrink_37 : decode cX4_shrink 37 = .ok (.ishl, 1) := by decide +kernel
theorem dX4_shrink_38 : decode cX4_shrink 38 = .ok (.iconst 1, 1) := by decide +kernel
theorem dX4_shrink_39 : decode cX4_shrink 39 = .ok (.isub, 1) := by decide +kernel
theorem dX4_shrink_40 : decode cX4_shrink 40 = .ok (.goto 9, 3) := by decide +kernel
theorem dX4_shrink_43 : decode cX4_shrink 43 = .ok (.aload_n 0, 1) := by decide +kernel
theorem dX4_shrink_44 : decode cX4_shrink 44 = .ok (.getfield 49, 3) := by decide +kernel
theorem dX4_shrink_47 : decode cX4_shrink 47 = .ok (.iconst 1, 1) := by decide +kernel
theorem dX4_shrink_48 : decode cX4_shrink 48 = .ok (.isub, 1) := by decide +kernel
theorem dX4_shrink_49 : decode cX4_shrink 49 = .ok (.istore_n 3, 1) := by decide +kernel
theorem dX4_shrink_50 : decode cX4_shrink 50 = .ok (.aload_n 0, 1) := by decide +kernel
theorem dX4_shrink_51 : decode cX4_shrink 51 = .ok (.iload_n 1, 1) := by decide +kernel
theorem dX4_shrink_52 : decode cX4_shrink 52 = .ok (.invokevirtual 84, 3) := by decide +kernel
theorem dX4_shrink_55 : decode cX4_shrink 55 = .ok (.aload_n 0, 1) := by decide +kernel
theorem dX4_shrink_56 : decode cX4_shrink 56 = .ok (.iload_n 3, 1) := by decide +kernel
theorem dX4_shrink_57 : decode cX4_shrink 57 = .ok (.invokevirtual 84, 3) := by decide +kernel
theorem dX4_shrink_60 : decode cX4_shrink 60 = .ok (.iadd, 1) := by decide +kernel
theorem dX4_shrink_61 : decode cX4_shrink 61 = .ok (.istore 4, 2) := by decide +kernel
theorem dX4_shrink_63 : decode cX4_shrink 63 = .ok (.iload 4, 2) := by decide +kernel
theorem dX4_shrink_65 : decode cX4_shrink 65 = .ok (.iconst 4, 1) := by decide +kernel
theorem dX4_shrink_66 : decode cX4_shrink 66 = .ok (.if_icmp .gt 7, 3) := by decide +kernel
theorem dX4_shrink_69 : decode cX4_shrink 69 = .ok (.iconst 0, 1) := by decide +kernel
theorem dX4_shrink_70 : decode cX4_shrink 70 = .ok (.goto 13, 3) := by decide +kernel
theorem dX4_shrink_73 : decode cX4_shrink 73 = .ok (.iload 4, 2) := by decide +kernel
theorem dX4_shrink_75 : decode cX4_shrink 75 = .ok (.iconst 4, 1) := by decide +kernel
theorem dX4_shrink_76 : decode cX4_shrink 76 = .ok (.iadd, 1) := by decide +kernel
theorem dX4_shrink_77 : decode cX4_shrink 77 = .ok (.iconst 1, 1) := by decide +kernel
theorem dX4_shrink_78 : decode cX4_shrink 78 = .ok (.isub, 1) := by decide +kernel
theorem dX4_shrink_79 : decode cX4_shrink 79 = .ok (.iconst 4, 1) := by decide +kernel
theorem dX4_shrink_80 : decode cX4_shrink 80 = .ok (.idiv, 1) := by decide +kernel
theorem dX4_shrink_81 : decode cX4_shrink 81 = .ok (.iconst 1, 1) := by decide +kernel
theorem dX4_shrink_82 : decode cX4_shrink 82 = .ok (.isub, 1) := by decide +kernel
theorem dX4_shrink_83 : decode cX4_shrink 83 = .ok (.istore 5, 2) := by decide +kernel
theorem dX4_shrink_85 : decode cX4_shrink 85 = .ok (.aload_n 0, 1) := by decide +kernel
theorem dX4_shrink_86 : decode cX4_shrink 86 = .ok (.invokevirtual 87, 3) := by decide +kernel
theorem dX4_shrink_89 : decode cX4_shrink 89 = .ok (.aload_n 0, 1) := by decide +kernel
theorem dX4_shrink_90 : decode cX4_shrink 90 = .ok (.iload_n 1, 1) := by decide +kernel
theorem dX4_shrink_91 : decode cX4_shrink 91 = .ok (.invokevirtual 90, 3) := by decide +kernel
theorem dX4_shrink_94 : decode cX4_shrink 94 = .ok (.iadd, 1) := by decide +kernel
theorem dX4_shrink_95 : decode cX4_shrink 95 = .ok (.aload_n 0, 1) := by decide +kernel
theorem dX4_shrink_96 : decode cX4_shrink 96 = .ok (.iload_n 3, 1) := by decide +kernel
theorem dX4_shrink_97 : decode cX4_shrink 97 = .ok (.invokevirtual 90, 3) := by decide +kernel
theorem dX4_shrink_100 : decode cX4_shrink 100 = .ok (.iadd, 1) := by decide +kernel
theorem dX4_shrink_101 : decode cX4_shrink 101 = .ok (.iconst 2, 1) := by decide +kernel
theorem dX4_shrink_102 : decode cX4_shrink 102 = .ok (.isub, 1) := by decide +kernel
theorem dX4_shrink_103 : decode cX4_shrink 103 = .ok (.istore 6, 2) := by decide +kernel
theorem dX4_shrink_105 : decode cX4_shrink 105 = .ok (.iload 6, 2) := by decide +kernel
theorem dX4_shrink_107 : decode cX4_shrink 107 = .ok (.iload 5, 2) := by decide +kernel
theorem dX4_shrink_109 : decode cX4_shrink 109 = .ok (.if_icmp .ge 4, 3) := by decide +kernel
theorem dX4_shrink_112 : decode cX4_shrink 112 = .ok (.return_, 1) := by decide +kernel
theorem dX4_shrink_113 : decode cX4_shrink 113 = .ok (.aload_n 0, 1) := by decide +kernel
theorem dX4_shrink_114 : decode cX4_shrink 114 = .ok (.iconst 0, 1) := by decide +kernel
theorem dX4_shrink_115 : decode cX4_shrink 115 = .ok (.putfield 67, 3) := by decide +kernel
theorem dX4_shrink_118 : decode cX4_shrink 118 = .ok (.aload_n 0, 1) := by decide +kernel
theorem dX4_shrink_119 : decode cX4_shrink 119 = .ok (.iload_n 3, 1) := by decide +kernel
theorem dX4_shrink_120 : decode cX4_shrink 120 = .ok (.invokevirtual 74, 3) := by decide +kernel
theorem dX4_shrink_123 : decode cX4_shrink 123 = .ok (.aload_n 0, 1) := by decide +kernel
theorem dX4_shrink_124 : decode cX4_shrink 124 = .ok (.iload_n 1, 1) := by decide +kernel
theorem dX4_shrink_125 : decode cX4_shrink 125 = .ok (.invokevirtual 74, 3) := by decide +kernel
theorem dX4_shrink_128 : decode cX4_shrink 128 = .ok (.aload_n 0, 1) := by decide +kernel
theorem dX4_shrink_129 : decode cX4_shrink 129 = .ok (.iload_n 2, 1) := by decide +kernel
theorem dX4_shrink_130 : decode cX4_shrink 130 = .ok (.putfield 45, 3) := by decide +kernel
theorem dX4_shrink_133 : decode cX4_shrink 133 = .ok (.aload_n 0, 1) := by decide +kernel
theorem dX4_shrink_134 : decode cX4_shrink 134 = .ok (.iload_n 3, 1) := by decide +kernel
theorem dX4_shrink_135 : decode cX4_shrink 135 = .ok (.putfield 49, 3) := by decide +kernel
theorem dX4_shrink_138 : decode cX4_shrink 138 = .ok (.aload_n 0, 1) := by decide +kernel
theorem dX4_shrink_139 : decode cX4_shrink 139 = .ok (.invokevirtual 78, 3) := by decide +kernel
theorem dX4_shrink_142 : decode cX4_shrink 142 = .ok (.return_, 1) := by decide +kernel
set_option maxRecDepth 20000 in
theorem ggX4_takeOut_X4_addressOf : GoodIn wsX4_takeOut wsX4_addressOf := goodIn_r _ [11, 12, 13, 14, 15, 16, 10, 17, 18, 23, 24, 25, 26, 27, 28, 29, 30, 31, 32, 33, 34, 35, 36, 37, 38, 39, 40, 41, 42] (by decide +kernel) (by decide +kernel)
set_option maxRecDepth 20000 in
theorem gX4_takeOut_X4_addressOf : GoodIn wsX4_takeOut (wsV RX4 64 RX4 yX4_addressOf wsX4_addressOf) := goodIn_app (goodIn_of _ (by decide +kernel)) ggX4_takeOut_X4_addressOf
set_option maxRecDepth 20000 in
theorem ggX4_takeOut_X4_lastOf : GoodIn wsX4_takeOut wsX4_lastOf := goodIn_r _ [22, 6, 5, 23, 24, 25, 26, 27, 28, 29, 30, 31, 32, 33, 34, 35, 36, 37, 38, 39, 40, 41, 42] (by decide +kernel) (by decide +kernel)
set_option maxRecDepth 20000 in
theorem gX4_takeOut_X4_lastOf : GoodIn wsX4_takeOut (wsV RX4 60 RX4 yX4_lastOf wsX4_lastOf) := goodIn_app (goodIn_of _ (by decide +kernel)) ggX4_takeOut_X4_lastOf
theorem dX4_takeOut_0 : decode cX4_takeOut 0 = .ok (.aload_n 0, 1) := by decide +kernel
theorem dX4_takeOut_1 : decode cX4_takeOut 1 = .ok (.aload_n 0, 1) := by decide +kernel
theorem dX4_takeOut_2 : decode cX4_takeOut 2 = .ok (.getfield 7, 3) := by decide +kernel
theorem dX4_takeOut_5 : decode cX4_takeOut 5 = .ok (.iload_n 1, 1) := by decide +kernel
theorem dX4_takeOut_6 : decode cX4_takeOut 6 = .ok (.iaload, 1) := by decide +kernel
theorem dX4_takeOut_7 : decode cX4_takeOut 7 = .ok (.invokevirtual 64, 3) := by decide +kernel
theorem dX4_takeOut_10 : decode cX4_takeOut 10 = .ok (.istore_n 2, 1) := by decide +kernel
theorem dX4_takeOut_11 : decode cX4_takeOut 11 = .ok (.aload_n 0, 1) := by decide +kernel
theorem dX4_takeOut_12 : decode cX4_takeOut 12 = .ok (.iload_n 2, 1) := by decide +kernel
theorem dX4_takeOut_13 : decode cX4_takeOut 13 = .ok (.invokevirtual 60, 3) := by decide +kernel
theorem dX4_takeOut_16 : decode cX4_takeOut 16 = .ok (.istore_n 3, 1) := by decide +kernel
theorem dX4_takeOut_17 : decode cX4_takeOut 17 = .ok (.iconst 4, 1) := by decide +kernel
theorem dX4_takeOut_18 : decode cX4_takeOut 18 = .ok (.iload_n 3, 1) := by decide +kernel
theorem dX4_takeOut_19 : decode cX4_takeOut 19 = .ok (.imul, 1) := by decide +kernel
theorem dX4_takeOut_20 : decode cX4_takeOut 20 = .ok (.aload_n 0, 1) := by decide +kernel
theorem dX4_takeOut_21 : decode cX4_takeOut 21 = .ok (.getfield 16, 3) := by decide +kernel
theorem dX4_takeOut_24 : decode cX4_takeOut 24 = .ok (.iload_n 3, 1) := by decide +kernel
theorem dX4_takeOut_25 : decode cX4_takeOut 25 = .ok (.iaload, 1) := by decide +kernel
theorem dX4_takeOut_26 : decode cX4_takeOut 26 = .ok (.iadd, 1) := by decide +kernel
theorem dX4_takeOut_27 : decode cX4_takeOut 27 = .ok (.iconst 1, 1) := by decide +kernel
theorem dX4_takeOut_28 : decode cX4_takeOut 28 = .ok (.isub, 1) := by decide +kernel
theorem dX4_takeOut_29 : decode cX4_takeOut 29 = .ok (.istore 4, 2) := by decide +kernel
theorem dX4_takeOut_31 : decode cX4_takeOut 31 = .ok (.aload_n 0, 1) := by decide +kernel
theorem dX4_takeOut_32 : decode cX4_takeOut 32 = .ok (.getfield 7, 3) := by decide +kernel
theorem dX4_takeOut_35 : decode cX4_takeOut 35 = .ok (.iload_n 1, 1) := by decide +kernel
theorem dX4_takeOut_36 : decode cX4_takeOut 36 = .ok (.aload_n 0, 1) := by decide +kernel
theorem dX4_takeOut_37 : decode cX4_takeOut 37 = .ok (.getfield 7, 3) := by decide +kernel
theorem dX4_takeOut_40 : decode cX4_takeOut 40 = .ok (.iload 4, 2) := by decide +kernel
theorem dX4_takeOut_42 : decode cX4_takeOut 42 = .ok (.iaload, 1) := by decide +kernel
theorem dX4_takeOut_43 : decode cX4_takeOut 43 = .ok (.iastore, 1) := by decide +kernel
theorem dX4_takeOut_44 : decode cX4_takeOut 44 = .ok (.aload_n 0, 1) := by decide +kernel
theorem dX4_takeOut_45 : decode cX4_takeOut 45 = .ok (.getfield 13, 3) := by decide +kernel
theorem dX4_takeOut_48 : decode cX4_takeOut 48 = .ok (.iload_n 1, 1) := by decide +kernel
theorem dX4_takeOut_49 : decode cX4_takeOut 49 = .ok (.aload_n 0, 1) := by decide +kernel
theorem dX4_takeOut_50 : decode cX4_takeOut 50 = .ok (.getfield 13, 3) := by decide +kernel
theorem dX4_takeOut_53 : decode cX4_takeOut 53 = .ok (.iload 4, 2) := by decide +kernel
theorem dX4_takeOut_55 : decode cX4_takeOut 55 = .ok (.iaload, 1) := by decide +kernel
theorem dX4_takeOut_56 : decode cX4_takeOut 56 = .ok (.iastore, 1) := by decide +kernel
theorem dX4_takeOut_57 : decode cX4_takeOut 57 = .ok (.aload_n 0, 1) := by decide +kernel
theorem dX4_takeOut_58 : decode cX4_takeOut 58 = .ok (.getfield 16, 3) := by decide +kernel
theorem dX4_takeOut_61 : decode cX4_takeOut 61 = .ok (.iload_n 3, 1) := by decide +kernel
theorem dX4_takeOut_62 : decode cX4_takeOut 62 = .ok (.dup2, 1) := by decide +kernel
theorem dX4_takeOut_63 : decode cX4_takeOut 63 = .ok (.iaload, 1) := by decide +kernel
theorem dX4_takeOut_64 : decode cX4_takeOut 64 = .ok (.iconst 1, 1) := by decide +kernel
theorem dX4_takeOut_65 : decode cX4_takeOut 65 = .ok (.isub, 1) := by decide +kernel
theorem dX4_takeOut_66 : decode cX4_takeOut 66 = .ok (.iastore, 1) := by decide +kernel
theorem dX4_takeOut_67 : decode cX4_takeOut 67 = .ok (.aload_n 0, 1) := by decide +kernel
theorem dX4_takeOut_68 : decode cX4_takeOut 68 = .ok (.getfield 16, 3) := by decide +kernel
theorem dX4_takeOut_71 : decode cX4_takeOut 71 = .ok (.iload_n 3, 1) := by decide +kernel
theorem dX4_takeOut_72 : decode cX4_takeOut 72 = .ok (.iaload, 1) := by decide +kernel
theorem dX4_takeOut_73 : decode cX4_takeOut 73 = .ok (.ifCond .ne 68, 3) := by decide +kernel
theorem dX4_takeOut_76 : decode cX4_takeOut 76 = .ok (.iload_n 3, 1) := by decide +kernel
theorem dX4_takeOut_77 : decode cX4_takeOut 77 = .ok (.bipush 64, 2) := by decide +kernel
theorem dX4_takeOut_79 : decode cX4_takeOut 79 = .ok (.if_icmp .lt 62, 3) := by decide +kernel
theorem dX4_takeOut_82 : decode cX4_takeOut 82 = .ok (.aload_n 0, 1) := by decide +kernel
theorem dX4_takeOut_83 : decode cX4_takeOut 83 = .ok (.getfield 22, 3) := by decide +kernel
theorem dX4_takeOut_86 : decode cX4_takeOut 86 = .ok (.iload_n 3, 1) := by decide +kernel
theorem dX4_takeOut_87 : decode cX4_takeOut 87 = .ok (.iconst 1, 1) := by decide +kernel
theorem dX4_takeOut_88 : decode cX4_takeOut 88 = .ok (.bastore, 1) := by decide +kernel
theorem dX4_takeOut_89 : decode cX4_takeOut 89 = .ok (.iload_n 2, 1) := by decide +kernel
theorem dX4_takeOut_90 : decode cX4_takeOut 90 = .ok (.istore 5, 2) := by decide +kernel
theorem dX4_takeOut_92 : decode cX4_takeOut 92 = .ok (.iload 5, 2) := by decide +kernel
theorem dX4_takeOut_94 : decode cX4_takeOut 94 = .ok (.ldc 44, 2) := by decide +kernel
theorem dX4_takeOut_96 : decode cX4_takeOut 96 = .ok (.if_icmp .eq 45, 3) := by decide +kernel
theorem dX4_takeOut_99 : decode cX4_takeOut 99 = .ok (.aload_n 0, 1) := by decide +kernel
theorem dX4_takeOut_100 : decode cX4_takeOut 100 = .ok (.getfield 19, 3) := by decide +kernel
theorem dX4_takeOut_103 : decode cX4_takeOut 103 = .ok (.iload 5, 2) := by decide +kernel
theorem dX4_takeOut_105 : decode cX4_takeOut 105 = .ok (.aload_n 0, 1) := by decide +kernel
theorem dX4_takeOut_106 : decode cX4_takeOut 106 = .ok (.getfield 19, 3) := by decide +kernel
theorem dX4_takeOut_109 : decode cX4_takeOut 109 = .ok (.iload 5, 2) := by decide +kernel
theorem dX4_takeOut_111 : decode cX4_takeOut 111 = .ok (.iaload, 1) := by decide +kernel
theorem dX4_takeOut_112 : decode cX4_takeOut 112 = .ok (.iload_n 3, 1) := by decide +kernel
theorem dX4_takeOut_113 : decode cX4_takeOut 113 = .ok (.if_icmp .ne 8, 3) := by decide +kernel
theorem dX4_takeOut_116 : decode cX4_takeOut 116 = .ok (.ldc 44, 2) := by decide +kernel
theorem dX4_takeOut_118 : decode cX4_takeOut 118 = .ok (.goto 10, 3) := by decide +kernel
theorem dX4_takeOut_121 : decode cX4_takeOut 121 = .ok (.aload_n 0, 1) := by decide +kernel
end
section
theorem dX4_takeOut_122 : decode cX4_takeOut 122 = .ok (.getfield 19, 3) := by decide +kernel
theorem dX4_takeOut_125 : decode cX4_takeOut 125 = .ok (.iload 5, 2) := by decide +kernel
theorem dX4_takeOut_127 : decode cX4_takeOut 127 = .ok (.iaload, 1) := by decide +kernel
theorem dX4_takeOut_128 : decode cX4_takeOut 128 = .ok (.iastore, 1) := by decide +kernel
theorem dX4_takeOut_129 : decode cX4_takeOut 129 = .ok (.aload_n 0, 1) := by decide +kernel
theorem dX4_takeOut_130 : decode cX4_takeOut 130 = .ok (.getfield 19, 3) := by decide +kernel
theorem dX4_takeOut_133 : decode cX4_takeOut 133 = .ok (.iload 5, 2) := by decide +kernel
theorem dX4_takeOut_135 : decode cX4_takeOut 135 = .ok (.iaload, 1) := by decide +kernel
theorem dX4_takeOut_136 : decode cX4_takeOut 136 = .ok (.istore 5, 2) := by decide +kernel
theorem dX4_takeOut_138 : decode cX4_takeOut 138 = .ok (.goto (-46), 3) := by decide +kernel
theorem dX4_takeOut_141 : decode cX4_takeOut 141 = .ok (.return_, 1) := by decide +kernel
set_option maxRecDepth 20000 in
theorem ggX4_write_X4_placeOf : GoodIn wsX4_write wsX4_placeOf := goodIn_r _ [8, 2, 9, 10, 11, 12, 13, 14, 7, 15, 16, 17, 18, 19, 20, 21, 22, 71, 72, 73, 74, 75, 76, 77, 78, 79, 80, 81, 82, 83, 84, 85, 86, 87, 88, 89, 90] (by decide +kernel) (by decide +kernel)
set_option maxRecDepth 20000 in
theorem gX4_write_X4_placeOf : GoodIn wsX4_write (wsV RX4 93 RX4 yX4_placeOf wsX4_placeOf) := goodIn_app (goodIn_of _ (by decide +kernel)) ggX4_write_X4_placeOf
set_option maxRecDepth 20000 in
theorem ggX4_write_X4_takeOut : GoodIn wsX4_write wsX4_takeOut := goodIn_r _ [26, 10, 9, 3, 27, 2, 11, 12, 13, 14, 7, 15, 16, 17, 18, 19, 20, 21, 22, 28, 29, 30, 31, 71, 72, 73, 74, 75, 76, 77, 78, 79, 80, 81, 82, 83, 84, 85, 86, 87, 88, 89, 90] (by decide +kernel) (by decide +kernel)
set_option maxRecDepth 20000 in
theorem gX4_write_X4_takeOut : GoodIn wsX4_write (wsV RX4 96 RX4 yX4_takeOut wsX4_takeOut) := goodIn_app (goodIn_of _ (by decide +kernel)) ggX4_write_X4_takeOut
set_option maxRecDepth 20000 in
theorem ggX4_write_X4_buckets : GoodIn wsX4_write wsX4_buckets := goodIn_r _ [35, 17, 18, 19, 20, 7, 21, 22, 71, 72, 73, 74, 75, 76, 77, 78, 79, 80, 81, 82, 83, 84, 85, 86, 87, 88, 89, 90] (by decide +kernel) (by decide +kernel)
set_option maxRecDepth 20000 in
theorem gX4_write_X4_buckets : GoodIn wsX4_write (wsV RX4 81 RX4 yX4_buckets wsX4_buckets) := goodIn_app (goodIn_of _ (by decide +kernel)) ggX4_write_X4_buckets
set_option maxRecDepth 20000 in
theorem ggX4_write_X4_shrink : GoodIn wsX4_write wsX4_shrink := goodIn_r _ [39, 17, 22, 40, 32, 33, 34, 7, 35, 18, 19, 20, 21, 41, 42, 43, 44, 2, 9, 11, 45, 46, 47, 48, 27, 49, 50, 51, 52, 53, 54, 55, 56, 57, 10, 58, 3, 59, 60, 61, 62, 12, 13, 14, 15, 16, 63, 64, 65, 66, 28, 29, 30, 31, 71, 72, 73, 74, 75, 76, 77, 78, 79, 80, 81, 82, 83, 84, 85, 86, 87, 88, 89, 90] (by decide +kernel) (by decide +kernel)
set_option maxRecDepth 20000 in
theorem gX4_write_X4_shrink : GoodIn wsX4_write (wsV RX4 99 RX4 yX4_shrink wsX4_shrink) := goodIn_app (goodIn_of _ (by decide +kernel)) ggX4_write_X4_shrink
set_option maxRecDepth 20000 in
theorem ggX4_write_X4_addressOf : GoodIn wsX4_write wsX4_addressOf := goodIn_r _ [15, 16, 17, 18, 19, 20, 7, 21, 22, 71, 72, 73, 74, 75, 76, 77, 78, 79, 80, 81, 82, 83, 84, 85, 86, 87, 88, 89, 90] (by decide +kernel) (by decide +kernel)
set_option maxRecDepth 20000 in
theorem gX4_write_X4_addressOf : GoodIn wsX4_write (wsV RX4 64 RX4 yX4_addressOf wsX4_addressOf) := goodIn_app (goodIn_of _ (by decide +kernel)) ggX4_write_X4_addressOf
set_option maxRecDepth 20000 in
theorem ggX4_write_X4_add : GoodIn wsX4_write wsX4_add := goodIn_r _ [66, 9, 27, 11, 10, 3, 28, 29, 30, 7, 31, 2, 71, 72, 73, 74, 75, 76, 77, 78, 79, 80, 81, 82, 83, 84, 85, 86, 87, 88, 89, 90] (by decide +kernel) (by decide +kernel)
set_option maxRecDepth 20000 in
theorem gX4_write_X4_add : GoodIn wsX4_write (wsV RX4 70 RX4 yX4_add wsX4_add) := goodIn_app (goodIn_of _ (by decide +kernel)) ggX4_write_X4_add
set_option maxRecDepth 20000 in
theorem ggX4_write_X4_grow : GoodIn wsX4_write wsX4_grow := goodIn_r _ [70, 40, 17, 22, 53, 54, 55, 7, 56, 2, 9, 57, 10, 58, 3, 11, 27, 18, 19, 20, 21, 59, 60, 61, 62, 12, 13, 14, 15, 16, 63, 64, 65, 66, 28, 29, 30, 31, 71, 72, 73, 74, 75, 76, 77, 78, 79, 80, 81, 82, 83, 84, 85, 86, 87, 88, 89, 90] (by decide +kernel) (by decide +kernel)
set_option maxRecDepth 20000 in
theorem gX4_write_X4_grow : GoodIn wsX4_write (wsV RX4 102 RX4 yX4_grow wsX4_grow) := goodIn_app (goodIn_of _ (by decide +kernel)) ggX4_write_X4_grow
theorem dX4_write_0 : decode cX4_write 0 = .ok (.aload_n 0, 1) := by decide +kernel
theorem dX4_write_1 : decode cX4_write 1 = .ok (.iload_n 1, 1) := by decide +kernel
theorem dX4_write_2 : decode cX4_write 2 = .ok (.invokevirtual 93, 3) := by decide +kernel
theorem dX4_write_5 : decode cX4_write 5 = .ok (.istore_n 3, 1) := by decide +kernel
theorem dX4_write_6 : decode cX4_write 6 = .ok (.iload_n 2, 1) := by decide +kernel
theorem dX4_write_7 : decode cX4_write 7 = .ok (.ifCond .ge 48, 3) := by decide +kernel
theorem dX4_write_10 : decode cX4_write 10 = .ok (.aload_n 0, 1) := by decide +kernel
theorem dX4_write_11 : decode cX4_write 11 = .ok (.iload_n 3, 1) := by decide +kernel
theorem dX4_write_12 : decode cX4_write 12 = .ok (.invokevirtual 96, 3) := by decide +kernel
theorem dX4_write_15 : decode cX4_write 15 = .ok (.aload_n 0, 1) := by decide +kernel
theorem dX4_write_16 : decode cX4_write 16 = .ok (.dup, 1) := by decide +kernel
theorem dX4_write_17 : decode cX4_write 17 = .ok (.getfield 52, 3) := by decide +kernel
theorem dX4_write_20 : decode cX4_write 20 = .ok (.iconst 1, 1) := by decide +kernel
theorem dX4_write_21 : decode cX4_write 21 = .ok (.isub, 1) := by decide +kernel
theorem dX4_write_22 : decode cX4_write 22 = .ok (.putfield 52, 3) := by decide +kernel
theorem dX4_write_25 : decode cX4_write 25 = .ok (.aload_n 0, 1) := by decide +kernel
theorem dX4_write_26 : decode cX4_write 26 = .ok (.invokevirtual 81, 3) := by decide +kernel
theorem dX4_write_29 : decode cX4_write 29 = .ok (.iconst 4, 1) := by decide +kernel
theorem dX4_write_30 : decode cX4_write 30 = .ok (.if_icmp .le 88, 3) := by decide +kernel
theorem dX4_write_33 : decode cX4_write 33 = .ok (.iconst 2, 1) := by decide +kernel
theorem dX4_write_34 : decode cX4_write 34 = .ok (.aload_n 0, 1) := by decide +kernel
theorem dX4_write_35 : decode cX4_write 35 = .ok (.getfield 52, 3) := by decide +kernel
theorem dX4_write_38 : decode cX4_write 38 = .ok (.imul, 1) := by decide +kernel
theorem dX4_write_39 : decode cX4_write 39 = .ok (.iconst 3, 1) := by decide +kernel
theorem dX4_write_40 : decode cX4_write 40 = .ok (.aload_n 0, 1) := by decide +kernel
theorem dX4_write_41 : decode cX4_write 41 = .ok (.invokevirtual 81, 3) := by decide +kernel
theorem dX4_write_44 : decode cX4_write 44 = .ok (.imul, 1) := by decide +kernel
theorem dX4_write_45 : decode cX4_write 45 = .ok (.if_icmp .ge 73, 3) := by decide +kernel
theorem dX4_write_48 : decode cX4_write 48 = .ok (.aload_n 0, 1) := by decide +kernel
theorem dX4_write_49 : decode cX4_write 49 = .ok (.invokevirtual 99, 3) := by decide +kernel
theorem dX4_write_52 : decode cX4_write 52 = .ok (.goto 66, 3) := by decide +kernel
theorem dX4_write_55 : decode cX4_write 55 = .ok (.iload_n 3, 1) := by decide +kernel
theorem dX4_write_56 : decode cX4_write 56 = .ok (.ldc 44, 2) := by decide +kernel
theorem dX4_write_58 : decode cX4_write 58 = .ok (.if_icmp .eq 13, 3) := by decide +kernel
theorem dX4_write_61 : decode cX4_write 61 = .ok (.aload_n 0, 1) := by decide +kernel
theorem dX4_write_62 : decode cX4_write 62 = .ok (.getfield 13, 3) := by decide +kernel
theorem dX4_write_65 : decode cX4_write 65 = .ok (.iload_n 3, 1) := by decide +kernel
theorem dX4_write_66 : decode cX4_write 66 = .ok (.iload_n 2, 1) := by decide +kernel
theorem dX4_write_67 : decode cX4_write 67 = .ok (.iastore, 1) := by decide +kernel
theorem dX4_write_68 : decode cX4_write 68 = .ok (.goto 50, 3) := by decide +kernel
theorem dX4_write_71 : decode cX4_write 71 = .ok (.aload_n 0, 1) := by decide +kernel
theorem dX4_write_72 : decode cX4_write 72 = .ok (.aload_n 0, 1) := by decide +kernel
theorem dX4_write_73 : decode cX4_write 73 = .ok (.iload_n 1, 1) := by decide +kernel
theorem dX4_write_74 : decode cX4_write 74 = .ok (.invokevirtual 64, 3) := by decide +kernel
theorem dX4_write_77 : decode cX4_write 77 = .ok (.iload_n 1, 1) := by decide +kernel
theorem dX4_write_78 : decode cX4_write 78 = .ok (.iload_n 2, 1) := by decide +kernel
theorem dX4_write_79 : decode cX4_write 79 = .ok (.invokevirtual 70, 3) := by decide +kernel
theorem dX4_write_82 : decode cX4_write 82 = .ok (.aload_n 0, 1) := by decide +kernel
theorem dX4_write_83 : decode cX4_write 83 = .ok (.dup, 1) := by decide +kernel
theorem dX4_write_84 : decode cX4_write 84 = .ok (.getfield 52, 3) := by decide +kernel
theorem dX4_write_87 : decode cX4_write 87 = .ok (.iconst 1, 1) := by decide +kernel
theorem dX4_write_88 : decode cX4_write 88 = .ok (.iadd, 1) := by decide +kernel
theorem dX4_write_89 : decode cX4_write 89 = .ok (.putfield 52, 3) := by decide +kernel
theorem dX4_write_92 : decode cX4_write 92 = .ok (.aload_n 0, 1) := by decide +kernel
theorem dX4_write_93 : decode cX4_write 93 = .ok (.getfield 52, 3) := by decide +kernel
theorem dX4_write_96 : decode cX4_write 96 = .ok (.iconst 3, 1) := by decide +kernel
theorem dX4_write_97 : decode cX4_write 97 = .ok (.aload_n 0, 1) := by decide +kernel
theorem dX4_write_98 : decode cX4_write 98 = .ok (.invokevirtual 81, 3) := by decide +kernel
theorem dX4_write_101 : decode cX4_write 101 = .ok (.imul, 1) := by decide +kernel
theorem dX4_write_102 : decode cX4_write 102 = .ok (.if_icmp .le 16, 3) := by decide +kernel
theorem dX4_write_105 : decode cX4_write 105 = .ok (.aload_n 0, 1) := by decide +kernel
theorem dX4_write_106 : decode cX4_write 106 = .ok (.invokevirtual 81, 3) := by decide +kernel
theorem dX4_write_109 : decode cX4_write 109 = .ok (.bipush 64, 2) := by decide +kernel
theorem dX4_write_111 : decode cX4_write 111 = .ok (.if_icmp .ge 7, 3) := by decide +kernel
theorem dX4_write_114 : decode cX4_write 114 = .ok (.aload_n 0, 1) := by decide +kernel
theorem dX4_write_115 : decode cX4_write 115 = .ok (.invokevirtual 102, 3) := by decide +kernel
theorem dX4_write_118 : decode cX4_write 118 = .ok (.return_, 1) := by decide +kernel
set_option maxRecDepth 20000 in
theorem ggX4_note_X4_write : GoodIn wsX4_note wsX4_write := goodIn_r _ [12, 13, 14, 15, 16, 17, 18, 11, 19, 20, 21, 22, 23, 24, 25, 26, 27, 28, 29, 30, 31, 32, 33, 34, 35, 36, 37, 38, 39, 40, 41, 42, 43, 44, 45, 46, 47, 48, 49, 50, 51, 52, 53, 54, 55, 56, 57, 58, 59, 60, 61, 62, 63, 64, 65, 66, 67, 68, 69, 70, 71, 72, 73, 74, 75, 76, 77, 78, 79, 80, 81, 82, 83, 84, 85, 86, 87, 88, 89, 90, 91, 92, 93, 94, 95, 96, 97, 98, 99, 100, 101] (by decide +kernel) (by decide +kernel)
set_option maxRecDepth 20000 in
theorem gX4_note_X4_write : GoodIn wsX4_note (wsV RX4 118 RX4 yX4_write wsX4_write) := goodIn_app (goodIn_of _ (by decide +kernel)) ggX4_note_X4_write
theorem dX4_note_0 : decode cX4_note 0 = .ok (.aload_n 0, 1) := by decide +kernel
theorem dX4_note_1 : decode cX4_note 1 = .ok (.getfield 26, 3) := by decide +kernel
theorem dX4_note_4 : decode cX4_note 4 = .ok (.aload_n 0, 1) := by decide +kernel
theorem dX4_note_5 : decode cX4_note 5 = .ok (.getfield 105, 3) := by decide +kernel
theorem dX4_note_8 : decode cX4_note 8 = .ok (.iload_n 1, 1) := by decide +kernel
theorem dX4_note_9 : decode cX4_note 9 = .ok (.iastore, 1) := by decide +kernel
theorem dX4_note_10 : decode cX4_note 10 = .ok (.aload_n 0, 1) := by decide +kernel
theorem dX4_note_11 : decode cX4_note 11 = .ok (.getfield 29, 3) := by decide +kernel
theorem dX4_note_14 : decode cX4_note 14 = .ok (.aload_n 0, 1) := by decide +kernel
theorem dX4_note_15 : decode cX4_note 15 = .ok (.getfield 105, 3) := by decide +kernel
theorem dX4_note_18 : decode cX4_note 18 = .ok (.iload_n 2, 1) := by decide +kernel
theorem dX4_note_19 : decode cX4_note 19 = .ok (.iastore, 1) := by decide +kernel
theorem dX4_note_20 : decode cX4_note 20 = .ok (.aload_n 0, 1) := by decide +kernel
theorem dX4_note_21 : decode cX4_note 21 = .ok (.dup, 1) := by decide +kernel
theorem dX4_note_22 : decode cX4_note 22 = .ok (.getfield 105, 3) := by decide +kernel
theorem dX4_note_25 : decode cX4_note 25 = .ok (.iconst 1, 1) := by decide +kernel
theorem dX4_note_26 : decode cX4_note 26 = .ok (.iadd, 1) := by decide +kernel
theorem dX4_note_27 : decode cX4_note 27 = .ok (.putfield 105, 3) := by decide +kernel
theorem dX4_note_30 : decode cX4_note 30 = .ok (.aload_n 0, 1) := by decide +kernel
theorem dX4_note_31 : decode cX4_note 31 = .ok (.getfield 108, 3) := by decide +kernel
theorem dX4_note_34 : decode cX4_note 34 = .ok (.ifCond .eq 16, 3) := by decide +kernel
theorem dX4_note_37 : decode cX4_note 37 = .ok (.aload_n 0, 1) := by decide +kernel
theorem dX4_note_38 : decode cX4_note 38 = .ok (.dup, 1) := by decide +kernel
theorem dX4_note_39 : decode cX4_note 39 = .ok (.getfield 112, 3) := by decide +kernel
theorem dX4_note_42 : decode cX4_note 42 = .ok (.iconst 1, 1) := by decide +kernel
theorem dX4_note_43 : decode cX4_note 43 = .ok (.iadd, 1) := by decide +kernel
theorem dX4_note_44 : decode cX4_note 44 = .ok (.putfield 112, 3) := by decide +kernel
theorem dX4_note_47 : decode cX4_note 47 = .ok (.goto 23, 3) := by decide +kernel
theorem dX4_note_50 : decode cX4_note 50 = .ok (.aload_n 0, 1) := by decide +kernel
theorem dX4_note_51 : decode cX4_note 51 = .ok (.getfield 32, 3) := by decide +kernel
theorem dX4_note_54 : decode cX4_note 54 = .ok (.aload_n 0, 1) := by decide +kernel
theorem dX4_note_55 : decode cX4_note 55 = .ok (.getfield 115, 3) := by decide +kernel
theorem dX4_note_58 : decode cX4_note 58 = .ok (.iconst 1, 1) := by decide +kernel
theorem dX4_note_59 : decode cX4_note 59 = .ok (.iastore, 1) := by decide +kernel
theorem dX4_note_60 : decode cX4_note 60 = .ok (.aload_n 0, 1) := by decide +kernel
theorem dX4_note_61 : decode cX4_note 61 = .ok (.dup, 1) := by decide +kernel
theorem dX4_note_62 : decode cX4_note 62 = .ok (.getfield 115, 3) := by decide +kernel
theorem dX4_note_65 : decode cX4_note 65 = .ok (.iconst 1, 1) := by decide +kernel
theorem dX4_note_66 : decode cX4_note 66 = .ok (.iadd, 1) := by decide +kernel
theorem dX4_note_67 : decode cX4_note 67 = .ok (.putfield 115, 3) := by decide +kernel
theorem dX4_note_70 : decode cX4_note 70 = .ok (.aload_n 0, 1) := by decide +kernel
theorem dX4_note_71 : decode cX4_note 71 = .ok (.iload_n 1, 1) := by decide +kernel
theorem dX4_note_72 : decode cX4_note 72 = .ok (.iload_n 2, 1) := by decide +kernel
theorem dX4_note_73 : decode cX4_note 73 = .ok (.invokevirtual 118, 3) := by decide +kernel
theorem dX4_note_76 : decode cX4_note 76 = .ok (.return_, 1) := by decide +kernel
set_option maxRecDepth 20000 in
theorem ggX4_again_X4_clear : GoodIn wsX4_again wsX4_clear := goodIn_r _ [8, 9, 10, 11, 12, 13, 14, 15, 82, 83, 84, 85, 86, 87, 88, 89, 90, 91, 92, 93, 94, 95, 96, 97, 98, 99, 100, 101] (by decide +kernel) (by decide +kernel)
set_option maxRecDepth 20000 in
theorem gX4_again_X4_clear : GoodIn wsX4_again (wsV RX4 41 RX4 yX4_clear wsX4_clear) := goodIn_app (goodIn_of _ (by decide +kernel)) ggX4_again_X4_clear
set_option maxRecDepth 20000 in
theorem ggX4_again_X4_write : GoodIn wsX4_again wsX4_write := goodIn_r _ [19, 15, 11, 20, 21, 22, 23, 7, 24, 9, 25, 10, 26, 27, 28, 29, 30, 14, 31, 32, 33, 34, 13, 35, 36, 37, 38, 12, 39, 40, 41, 42, 43, 44, 45, 46, 47, 48, 49, 50, 51, 52, 53, 54, 55, 56, 57, 58, 59, 60, 61, 62, 63, 64, 65, 66, 67, 68, 69, 70, 71, 72, 73, 74, 75, 76, 77, 78, 79, 80, 81, 82, 83, 84, 85, 86, 87, 88, 89, 90, 91, 92, 93, 94, 95, 96, 97, 98, 99, 100, 101] (by decide +kernel) (by decide +kernel)
set_option maxRecDepth 20000 in
theorem gX4_again_X4_write : GoodIn wsX4_again (wsV RX4 118 RX4 yX4_write wsX4_write) := goodIn_app (goodIn_of _ (by decide +kernel)) ggX4_again_X4_write
theorem dX4_again_0 : decode cX4_again 0 = .ok (.aload_n 0, 1) := by decide +kernel
theorem dX4_again_1 : decode cX4_again 1 = .ok (.invokevirtual 41, 3) := by decide +kernel
theorem dX4_again_4 : decode cX4_again 4 = .ok (.aload_n 0, 1) := by decide +kernel
theorem dX4_again_5 : decode cX4_again 5 = .ok (.iload_n 1, 1) := by decide +kernel
theorem dX4_again_6 : decode cX4_again 6 = .ok (.putfield 105, 3) := by decide +kernel
theorem dX4_again_9 : decode cX4_again 9 = .ok (.iconst 0, 1) := by decide +kernel
theorem dX4_again_10 : decode cX4_again 10 = .ok (.istore_n 2, 1) := by decide +kernel
theorem dX4_again_11 : decode cX4_again 11 = .ok (.iload_n 2, 1) := by decide +kernel
theorem dX4_again_12 : decode cX4_again 12 = .ok (.aload_n 0, 1) := by decide +kernel
theorem dX4_again_13 : decode cX4_again 13 = .ok (.getfield 105, 3) := by decide +kernel
theorem dX4_again_16 : decode cX4_again 16 = .ok (.if_icmp .ge 25, 3) := by decide +kernel
theorem dX4_again_19 : decode cX4_again 19 = .ok (.aload_n 0, 1) := by decide +kernel
theorem dX4_again_20 : decode cX4_again 20 = .ok (.aload_n 0, 1) := by decide +kernel
theorem dX4_again_21 : decode cX4_again 21 = .ok (.getfield 26, 3) := by decide +kernel
theorem dX4_again_24 : decode cX4_again 24 = .ok (.iload_n 2, 1) := by decide +kernel
theorem dX4_again_25 : decode cX4_again 25 = .ok (.iaload, 1) := by decide +kernel
theorem dX4_again_26 : decode cX4_again 26 = .ok (.aload_n 0, 1) := by decide +kernel
theorem dX4_again_27 : decode cX4_again 27 = .ok (.getfield 29, 3) := by decide +kernel
theorem dX4_again_30 : decode cX4_again 30 = .ok (.iload_n 2, 1) := by decide +kernel
theorem dX4_again_31 : decode cX4_again 31 = .ok (.iaload, 1) := by decide +kernel
theorem dX4_again_32 : decode cX4_again 32 = .ok (.invokevirtual 118, 3) := by decide +kernel
theorem dX4_again_35 : decode cX4_again 35 = .ok (.iinc 2 1, 3) := by decide +kernel
theorem dX4_again_38 : decode cX4_again 38 = .ok (.goto (-27), 3) := by decide +kernel
theorem dX4_again_41 : decode cX4_again 41 = .ok (.return_, 1) := by decide +kernel
theorem dX4_isLogFull_0 : decode cX4_isLogFull 0 = .ok (.aload_n 0, 1) := by decide +kernel
theorem dX4_isLogFull_1 : decode cX4_isLogFull 1 = .ok (.getfield 105, 3) := by decide +kernel
theorem dX4_isLogFull_4 : decode cX4_isLogFull 4 = .ok (.aload_n 0, 1) := by decide +kernel
theorem dX4_isLogFull_5 : decode cX4_isLogFull 5 = .ok (.getfield 122, 3) := by decide +kernel
theorem dX4_isLogFull_8 : decode cX4_isLogFull 8 = .ok (.isub, 1) := by decide +kernel
theorem dX4_isLogFull_9 : decode cX4_isLogFull 9 = .ok (.bipush 64, 2) := by decide +kernel
theorem dX4_isLogFull_11 : decode cX4_isLogFull 11 = .ok (.if_icmp .ne 7, 3) := by decide +kernel
theorem dX4_isLogFull_14 : decode cX4_isLogFull 14 = .ok (.iconst 1, 1) := by decide +kernel
theorem dX4_isLogFull_15 : decode cX4_isLogFull 15 = .ok (.goto 4, 3) := by decide +kernel
theorem dX4_isLogFull_18 : decode cX4_isLogFull 18 = .ok (.iconst 0, 1) := by decide +kernel
theorem dX4_isLogFull_19 : decode cX4_isLogFull 19 = .ok (.ireturn, 1) := by decide +kernel
set_option maxRecDepth 20000 in
theorem ggX4_put_X4_placeOf : GoodIn wsX4_put wsX4_placeOf := goodIn_r _ [11, 3, 4, 12, 13, 14, 15, 16, 10, 17, 18, 19, 20, 21, 22, 23, 24, 95, 96, 97, 98, 99, 100, 101, 102, 103, 104, 105, 106, 107, 108, 109, 110, 111, 112, 113, 114] (by decide +kernel) (by decide +kernel)
set_option maxRecDepth 20000 in
theorem gX4_put_X4_placeOf : GoodIn wsX4_put (wsV RX4 93 RX4 yX4_placeOf wsX4_placeOf) := goodIn_app (goodIn_of _ (by decide +kernel)) ggX4_put_X4_placeOf
set_option maxRecDepth 20000 in
theorem ggX4_put_X4_addressOf : GoodIn wsX4_put wsX4_addressOf := goodIn_r _ [17, 18, 19, 20, 21, 22, 10, 23, 24, 95, 96, 97, 98, 99, 100, 101, 102, 103, 104, 105, 106, 107, 108, 109, 110, 111, 112, 113, 114] (by decide +kernel) (by decide +kernel)
set_option maxRecDepth 20000 in
theorem gX4_put_X4_addressOf : GoodIn wsX4_put (wsV RX4 64 RX4 yX4_addressOf wsX4_addressOf) := goodIn_app (goodIn_of _ (by decide +kernel)) ggX4_put_X4_addressOf
set_option maxRecDepth 20000 in
theorem ggX4_put_X4_lastOf : GoodIn wsX4_put wsX4_lastOf := goodIn_r _ [28, 13, 3, 95, 96, 97, 98, 99, 100, 101, 102, 103, 104, 105, 106, 107, 108, 109, 110, 111, 112, 113, 114] (by decide +kernel) (by decide +kernel)
set_option maxRecDepth 20000 in
theorem gX4_put_X4_lastOf : GoodIn wsX4_put (wsV RX4 60 RX4 yX4_lastOf wsX4_lastOf) := goodIn_app (goodIn_of _ (by decide +kernel)) ggX4_put_X4_lastOf
set_option maxRecDepth 20000 in
theorem ggX4_put_X4_freeOnes : GoodIn wsX4_put wsX4_freeOnes := goodIn_r _ [32, 33, 95, 96, 97, 98, 99, 100, 101, 102, 103, 104, 105, 106, 107, 108, 109, 110, 111, 112, 113, 114] (by decide +kernel) (by decide +kernel)
set_option maxRecDepth 20000 in
theorem gX4_put_X4_freeOnes : GoodIn wsX4_put (wsV RX4 87 RX4 yX4_freeOnes wsX4_freeOnes) := goodIn_app (goodIn_of _ (by decide +kernel)) ggX4_put_X4_freeOnes
set_option maxRecDepth 20000 in
theorem ggX4_put_X4_isLogFull : GoodIn wsX4_put wsX4_isLogFull := goodIn_r _ [37, 38, 39, 95, 96, 97, 98, 99, 100, 101, 102, 103, 104, 105, 106, 107, 108, 109, 110, 111, 112, 113, 114] (by decide +kernel) (by decide +kernel)
set_option maxRecDepth 20000 in
theorem gX4_put_X4_isLogFull : GoodIn wsX4_put (wsV RX4 128 RX4 yX4_isLogFull wsX4_isLogFull) := goodIn_app (goodIn_of _ (by decide +kernel)) ggX4_put_X4_isLogFull
set_option maxRecDepth 20000 in
theorem ggX4_put_X4_note : GoodIn wsX4_put wsX4_note := goodIn_r _ [43, 44, 38, 45, 46, 47, 48, 49, 50, 51, 52, 10, 53, 54, 3, 55, 7, 8, 9, 11, 4, 12, 13, 14, 15, 16, 17, 18, 19, 20, 21, 22, 23, 24, 56, 57, 58, 59, 33, 25, 26, 27, 28, 60, 61, 62, 63, 64, 65, 66, 67, 68, 69, 70, 71, 72, 29, 30, 31, 32, 73, 74, 75, 76, 77, 78, 79, 80, 81, 82, 83, 84, 85, 86, 87, 88, 89, 90, 91, 92, 93, 94, 95, 96, 97, 98, 99, 100, 101, 102, 103, 104, 105, 106, 107, 108, 109, 110, 111, 112, 113, 114] (by decide +kernel) (by decide +kernel)
set_option maxRecDepth 20000 in
theorem gX4_put_X4_note : GoodIn wsX4_put (wsV RX4 133 RX4 yX4_note wsX4_note) := goodIn_app (goodIn_of _ (by decide +kernel)) ggX4_put_X4_note
theorem dX4_put_0 : decode cX4_put 0 = .ok (.iload_n 2, 1) := by decide +kernel
theorem dX4_put_1 : decode cX4_put 1 = .ok (.ifCond .lt 9, 3) := by decide +kernel
theorem dX4_put_4 : decode cX4_put 4 = .ok (.iload_n 2, 1) := by decide +kernel
theorem dX4_put_5 : decode cX4_put 5 = .ok (.ldc 125, 2) := by decide +kernel
theorem dX4_put_7 : decode cX4_put 7 = .ok (.if_icmp .le 6, 3) := by decide +kernel
theorem dX4_put_10 : decode cX4_put 10 = .ok (.ldc 126, 2) := by decide +kernel
theorem dX4_put_12 : decode cX4_put 12 = .ok (.ireturn, 1) := by decide +kernel
theorem dX4_put_13 : decode cX4_put 13 = .ok (.aload_n 0, 1) := by decide +kernel
theorem dX4_put_14 : decode cX4_put 14 = .ok (.iload_n 1, 1) := by decide +kernel
theorem dX4_put_15 : decode cX4_put 15 = .ok (.invokevirtual 93, 3) := by decide +kernel
theorem dX4_put_18 : decode cX4_put 18 = .ok (.ldc 44, 2) := by decide +kernel
theorem dX4_put_20 : decode cX4_put 20 = .ok (.if_icmp .eq 7, 3) := by decide +kernel
theorem dX4_put_23 : decode cX4_put 23 = .ok (.iconst 1, 1) := by decide +kernel
theorem dX4_put_24 : decode cX4_put 24 = .ok (.goto 4, 3) := by decide +kernel
theorem dX4_put_27 : decode cX4_put 27 = .ok (.iconst 0, 1) := by decide +kernel
theorem dX4_put_28 : decode cX4_put 28 = .ok (.istore_n 3, 1) := by decide +kernel
theorem dX4_put_29 : decode cX4_put 29 = .ok (.iload_n 3, 1) := by decide +kernel
theorem dX4_put_30 : decode cX4_put 30 = .ok (.ifCond .ne 31, 3) := by decide +kernel
theorem dX4_put_33 : decode cX4_put 33 = .ok (.aload_n 0, 1) := by decide +kernel
theorem dX4_put_34 : decode cX4_put 34 = .ok (.getfield 16, 3) := by decide +kernel
theorem dX4_put_37 : decode cX4_put 37 = .ok (.aload_n 0, 1) := by decide +kernel
theorem dX4_put_38 : decode cX4_put 38 = .ok (.aload_n 0, 1) := by decide +kernel
theorem dX4_put_39 : decode cX4_put 39 = .ok (.iload_n 1, 1) := by decide +kernel
theorem dX4_put_40 : decode cX4_put 40 = .ok (.invokevirtual 64, 3) := by decide +kernel
theorem dX4_put_43 : decode cX4_put 43 = .ok (.invokevirtual 60, 3) := by decide +kernel
theorem dX4_put_46 : decode cX4_put 46 = .ok (.iaload, 1) := by decide +kernel
theorem dX4_put_47 : decode cX4_put 47 = .ok (.iconst 4, 1) := by decide +kernel
theorem dX4_put_48 : decode cX4_put 48 = .ok (.if_icmp .ne 13, 3) := by decide +kernel
theorem dX4_put_51 : decode cX4_put 51 = .ok (.aload_n 0, 1) := by decide +kernel
theorem dX4_put_52 : decode cX4_put 52 = .ok (.invokevirtual 87, 3) := by decide +kernel
theorem dX4_put_55 : decode cX4_put 55 = .ok (.ifCond .ne 6, 3) := by decide +kernel
theorem dX4_put_58 : decode cX4_put 58 = .ok (.ldc 127, 2) := by decide +kernel
theorem dX4_put_60 : decode cX4_put 60 = .ok (.ireturn, 1) := by decide +kernel
theorem dX4_put_61 : decode cX4_put 61 = .ok (.aload_n 0, 1) := by decide +kernel
theorem dX4_put_62 : decode cX4_put 62 = .ok (.invokevirtual 128, 3) := by decide +kernel
theorem dX4_put_65 : decode cX4_put 65 = .ok (.ifCond .eq 6, 3) := by decide +kernel
theorem dX4_put_68 : decode cX4_put 68 = .ok (.ldc 132, 2) := by decide +kernel
theorem dX4_put_70 : decode cX4_put 70 = .ok (.ireturn, 1) := by decide +kernel
theorem dX4_put_71 : decode cX4_put 71 = .ok (.aload_n 0, 1) := by decide +kernel
theorem dX4_put_72 : decode cX4_put 72 = .ok (.iload_n 1, 1) := by decide +kernel
theorem dX4_put_73 : decode cX4_put 73 = .ok (.iload_n 2, 1) := by decide +kernel
theorem dX4_put_74 : decode cX4_put 74 = .ok (.invokevirtual 133, 3) := by decide +kernel
theorem dX4_put_77 : decode cX4_put 77 = .ok (.iload_n 3, 1) := by decide +kernel
theorem dX4_put_78 : decode cX4_put 78 = .ok (.ifCond .eq 7, 3) := by decide +kernel
theorem dX4_put_81 : decode cX4_put 81 = .ok (.iconst 1, 1) := by decide +kernel
theorem dX4_put_82 : decode cX4_put 82 = .ok (.goto 4, 3) := by decide +kernel
theorem dX4_put_85 : decode cX4_put 85 = .ok (.iconst 0, 1) := by decide +kernel
theorem dX4_put_86 : decode cX4_put 86 = .ok (.ireturn, 1) := by decide +kernel
set_option maxRecDepth 20000 in
theorem ggX4_remove_X4_placeOf : GoodIn wsX4_remove wsX4_placeOf := goodIn_r _ [8, 1, 9, 10, 11, 12, 13, 14, 7, 15, 16, 17, 18, 19, 20, 21, 22, 92, 93, 94, 95, 96, 97, 98, 99, 100, 101, 102, 103, 104, 105, 106, 107, 108, 109, 110, 111] (by decide +kernel) (by decide +kernel)
set_option maxRecDepth 20000 in
theorem gX4_remove_X4_placeOf : GoodIn wsX4_remove (wsV RX4 93 RX4 yX4_placeOf wsX4_placeOf) := goodIn_app (goodIn_of _ (by decide +kernel)) ggX4_remove_X4_placeOf
set_option maxRecDepth 20000 in
theorem ggX4_remove_X4_isLogFull : GoodIn wsX4_remove wsX4_isLogFull := goodIn_r _ [26, 27, 28, 92, 93, 94, 95, 96, 97, 98, 99, 100, 101, 102, 103, 104, 105, 106, 107, 108, 109, 110, 111] (by decide +kernel) (by decide +kernel)
set_option maxRecDepth 20000 in
theorem gX4_remove_X4_isLogFull : GoodIn wsX4_remove (wsV RX4 128 RX4 yX4_isLogFull wsX4_isLogFull) := goodIn_app (goodIn_of _ (by decide +kernel)) ggX4_remove_X4_isLogFull
set_option maxRecDepth 20000 in
theorem ggX4_remove_X4_note : GoodIn wsX4_remove wsX4_note := goodIn_r _ [32, 33, 27, 34, 35, 36, 37, 38, 39, 40, 41, 7, 42, 43, 1, 3, 4, 5, 6, 8, 9, 10, 11, 12, 13, 14, 15, 16, 17, 18, 19, 20, 21, 22, 44, 45, 46, 47, 48, 49, 50, 51, 52, 53, 54, 55, 56, 57, 58, 59, 60, 61, 62, 63, 64, 65, 66, 67, 68, 69, 70, 71, 72, 73, 74, 75, 76, 77, 78, 79, 80, 81, 82, 83, 84, 85, 86, 87, 88, 89, 90, 91, 92, 93, 94, 95, 96, 97, 98, 99, 100, 101, 102, 103, 104, 105, 106, 107, 108, 109, 110, 111] (by decide +kernel) (by decide +kernel)
set_option maxRecDepth 20000 in
theorem gX4_remove_X4_note : GoodIn wsX4_remove (wsV RX4 133 RX4 yX4_note wsX4_note) := goodIn_app (goodIn_of _ (by decide +kernel)) ggX4_remove_X4_note
theorem dX4_remove_0 : decode cX4_remove 0 = .ok (.aload_n 0, 1) := by decide +kernel
theorem dX4_remove_1 : decode cX4_remove 1 = .ok (.iload_n 1, 1) := by decide +kernel
theorem dX4_remove_2 : decode cX4_remove 2 = .ok (.invokevirtual 93, 3) := by decide +kernel
theorem dX4_remove_5 : decode cX4_remove 5 = .ok (.istore_n 2, 1) := by decide +kernel
theorem dX4_remove_6 : decode cX4_remove 6 = .ok (.iload_n 2, 1) := by decide +kernel
theorem dX4_remove_7 : decode cX4_remove 7 = .ok (.ldc 44, 2) := by decide +kernel
theorem dX4_remove_9 : decode cX4_remove 9 = .ok (.if_icmp .ne 6, 3) := by decide +kernel
theorem dX4_remove_12 : decode cX4_remove 12 = .ok (.ldc 44, 2) := by decide +kernel
theorem dX4_remove_14 : decode cX4_remove 14 = .ok (.ireturn, 1) := by decide +kernel
theorem dX4_remove_15 : decode cX4_remove 15 = .ok (.aload_n 0, 1) := by decide +kernel
theorem dX4_remove_16 : decode cX4_remove 16 = .ok (.invokevirtual 128, 3) := by decide +kernel
theorem dX4_remove_19 : decode cX4_remove 19 = .ok (.ifCond .eq 6, 3) := by decide +kernel
theorem dX4_remove_22 : decode cX4_remove 22 = .ok (.ldc 132, 2) := by decide +kernel
theorem dX4_remove_24 : decode cX4_remove 24 = .ok (.ireturn, 1) := by decide +kernel
theorem dX4_remove_25 : decode cX4_remove 25 = .ok (.aload_n 0, 1) := by decide +kernel
theorem dX4_remove_26 : decode cX4_remove 26 = .ok (.getfield 13, 3) := by decide +kernel
theorem dX4_remove_29 : decode cX4_remove 29 = .ok (.iload_n 2, 1) := by decide +kernel
theorem dX4_remove_30 : decode cX4_remove 30 = .ok (.iaload, 1) := by decide +kernel
theorem dX4_remove_31 : decode cX4_remove 31 = .ok (.istore_n 3, 1) := by decide +kernel
theorem dX4_remove_32 : decode cX4_remove 32 = .ok (.aload_n 0, 1) := by decide +kernel
theorem dX4_remove_33 : decode cX4_remove 33 = .ok (.iload_n 1, 1) := by decide +kernel
theorem dX4_remove_34 : decode cX4_remove 34 = .ok (.iconst (-1), 1) := by decide +kernel
theorem dX4_remove_35 : decode cX4_remove 35 = .ok (.invokevirtual 133, 3) := by decide +kernel
theorem dX4_remove_38 : decode cX4_remove 38 = .ok (.iload_n 3, 1) := by decide +kernel
theorem dX4_remove_39 : decode cX4_remove 39 = .ok (.ireturn, 1) := by decide +kernel
set_option maxRecDepth 20000 in
theorem ggX4_get_X4_addressOf : GoodIn wsX4_get wsX4_addressOf := goodIn_r _ [11, 12, 13, 14, 15, 16, 10, 17, 18, 19, 20, 21, 22, 23, 24, 25, 26, 27, 28, 29, 30, 31, 32, 33, 34, 35, 36, 37, 38] (by decide +kernel) (by decide +kernel)
set_option maxRecDepth 20000 in
theorem gX4_get_X4_addressOf : GoodIn wsX4_get (wsV RX4 64 RX4 yX4_addressOf wsX4_addressOf) := goodIn_app (goodIn_of _ (by decide +kernel)) ggX4_get_X4_addressOf
theorem dX4_get_0 : decode cX4_get 0 = .ok (.aload_n 0, 1) := by decide +kernel
theorem dX4_get_1 : decode cX4_get 1 = .ok (.iload_n 1, 1) := by decide +kernel
theorem dX4_get_2 : decode cX4_get 2 = .ok (.invokevirtual 64, 3) := by decide +kernel
theorem dX4_get_5 : decode cX4_get 5 = .ok (.istore_n 2, 1) := by decide +kernel
theorem dX4_get_6 : decode cX4_get 6 = .ok (.iload_n 2, 1) := by decide +kernel
theorem dX4_get_7 : decode cX4_get 7 = .ok (.ldc 44, 2) := by decide +kernel
theorem dX4_get_9 : decode cX4_get 9 = .ok (.if_icmp .eq 66, 3) := by decide +kernel
theorem dX4_get_12 : decode cX4_get 12 = .ok (.aload_n 0, 1) := by decide +kernel
theorem dX4_get_13 : decode cX4_get 13 = .ok (.dup, 1) := by decide +kernel
theorem dX4_get_14 : decode cX4_get 14 = .ok (.getfield 136, 3) := by decide +kernel
theorem dX4_get_17 : decode cX4_get 17 = .ok (.iconst 1, 1) := by decide +kernel
theorem dX4_get_18 : decode cX4_get 18 = .ok (.iadd, 1) := by decide +kernel
theorem dX4_get_19 : decode cX4_get 19 = .ok (.putfield 136, 3) := by decide +kernel
theorem dX4_get_22 : decode cX4_get 22 = .ok (.iconst 0, 1) := by decide +kernel
theorem dX4_get_23 : decode cX4_get 23 = .ok (.istore_n 3, 1) := by decide +kernel
theorem dX4_get_24 : decode cX4_get 24 = .ok (.iload_n 3, 1) := by decide +kernel
theorem dX4_get_25 : decode cX4_get 25 = .ok (.aload_n 0, 1) := by decide +kernel
theorem dX4_get_26 : decode cX4_get 26 = .ok (.getfield 16, 3) := by decide +kernel
theorem dX4_get_29 : decode cX4_get 29 = .ok (.iload_n 2, 1) := by decide +kernel
theorem dX4_get_30 : decode cX4_get 30 = .ok (.iaload, 1) := by decide +kernel
theorem dX4_get_31 : decode cX4_get 31 = .ok (.if_icmp .ge 34, 3) := by decide +kernel
theorem dX4_get_34 : decode cX4_get 34 = .ok (.aload_n 0, 1) := by decide +kernel
theorem dX4_get_35 : decode cX4_get 35 = .ok (.getfield 7, 3) := by decide +kernel
theorem dX4_get_38 : decode cX4_get 38 = .ok (.iconst 4, 1) := by decide +kernel
theorem dX4_get_39 : decode cX4_get 39 = .ok (.iload_n 2, 1) := by decide +kernel
theorem dX4_get_40 : decode cX4_get 40 = .ok (.imul, 1) := by decide +kernel
theorem dX4_get_41 : decode cX4_get 41 = .ok (.iload_n 3, 1) := by decide +kernel
theorem dX4_get_42 : decode cX4_get 42 = .ok (.iadd, 1) := by decide +kernel
theorem dX4_get_43 : decode cX4_get 43 = .ok (.iaload, 1) := by decide +kernel
theorem dX4_get_44 : decode cX4_get 44 = .ok (.iload_n 1, 1) := by decide +kernel
theorem dX4_get_45 : decode cX4_get 45 = .ok (.if_icmp .ne 14, 3) := by decide +kernel
theorem dX4_get_48 : decode cX4_get 48 = .ok (.aload_n 0, 1) := by decide +kernel
theorem dX4_get_49 : decode cX4_get 49 = .ok (.getfield 13, 3) := by decide +kernel
theorem dX4_get_52 : decode cX4_get 52 = .ok (.iconst 4, 1) := by decide +kernel
theorem dX4_get_53 : decode cX4_get 53 = .ok (.iload_n 2, 1) := by decide +kernel
theorem dX4_get_54 : decode cX4_get 54 = .ok (.imul, 1) := by decide +kernel
theorem dX4_get_55 : decode cX4_get 55 = .ok (.iload_n 3, 1) := by decide +kernel
theorem dX4_get_56 : decode cX4_get 56 = .ok (.iadd, 1) := by decide +kernel
theorem dX4_get_57 : decode cX4_get 57 = .ok (.iaload, 1) := by decide +kernel
theorem dX4_get_58 : decode cX4_get 58 = .ok (.ireturn, 1) := by decide +kernel
theorem dX4_get_59 : decode cX4_get 59 = .ok (.iinc 3 1, 3) := by decide +kernel
theorem dX4_get_62 : decode cX4_get 62 = .ok (.goto (-38), 3) := by decide +kernel
theorem dX4_get_65 : decode cX4_get 65 = .ok (.aload_n 0, 1) := by decide +kernel
theorem dX4_get_66 : decode cX4_get 66 = .ok (.getfield 19, 3) := by decide +kernel
theorem dX4_get_69 : decode cX4_get 69 = .ok (.iload_n 2, 1) := by decide +kernel
theorem dX4_get_70 : decode cX4_get 70 = .ok (.iaload, 1) := by decide +kernel
theorem dX4_get_71 : decode cX4_get 71 = .ok (.istore_n 2, 1) := by decide +kernel
theorem dX4_get_72 : decode cX4_get 72 = .ok (.goto (-66), 3) := by decide +kernel
theorem dX4_get_75 : decode cX4_get 75 = .ok (.ldc 44, 2) := by decide +kernel
theorem dX4_get_77 : decode cX4_get 77 = .ok (.ireturn, 1) := by decide +kernel
theorem dX4_begin_0 : decode cX4_begin 0 = .ok (.aload_n 0, 1) := by decide +kernel
theorem dX4_begin_1 : decode cX4_begin 1 = .ok (.getfield 108, 3) := by decide +kernel
theorem dX4_begin_4 : decode cX4_begin 4 = .ok (.ifCond .eq 6, 3) := by decide +kernel
theorem dX4_begin_7 : decode cX4_begin 7 = .ok (.ldc 139, 2) := by decide +kernel
theorem dX4_begin_9 : decode cX4_begin 9 = .ok (.ireturn, 1) := by decide +kernel
theorem dX4_begin_10 : decode cX4_begin 10 = .ok (.aload_n 0, 1) := by decide +kernel
theorem dX4_begin_11 : decode cX4_begin 11 = .ok (.iconst 1, 1) := by decide +kernel
theorem dX4_begin_12 : decode cX4_begin 12 = .ok (.putfield 108, 3) := by decide +kernel
theorem dX4_begin_15 : decode cX4_begin 15 = .ok (.aload_n 0, 1) := by decide +kernel
theorem dX4_begin_16 : decode cX4_begin 16 = .ok (.iconst 0, 1) := by decide +kernel
theorem dX4_begin_17 : decode cX4_begin 17 = .ok (.putfield 112, 3) := by decide +kernel
theorem dX4_begin_20 : decode cX4_begin 20 = .ok (.iconst 0, 1) := by decide +kernel
theorem dX4_begin_21 : decode cX4_begin 21 = .ok (.ireturn, 1) := by decide +kernel
theorem dX4_end_0 : decode cX4_end 0 = .ok (.aload_n 0, 1) := by decide +kernel
theorem dX4_end_1 : decode cX4_end 1 = .ok (.getfield 108, 3) := by decide +kernel
theorem dX4_end_4 : decode cX4_end 4 = .ok (.ifCond .ne 6, 3) := by decide +kernel
theorem dX4_end_7 : decode cX4_end 7 = .ok (.ldc 139, 2) := by decide +kernel
theorem dX4_end_9 : decode cX4_end 9 = .ok (.ireturn, 1) := by decide +kernel
theorem dX4_end_10 : decode cX4_end 10 = .ok (.aload_n 0, 1) := by decide +kernel
theorem dX4_end_11 : decode cX4_end 11 = .ok (.iconst 0, 1) := by decide +kernel
theorem dX4_end_12 : decode cX4_end 12 = .ok (.putfield 108, 3) := by decide +kernel
theorem dX4_end_15 : decode cX4_end 15 = .ok (.aload_n 0, 1) := by decide +kernel
theorem dX4_end_16 : decode cX4_end 16 = .ok (.getfield 112, 3) := by decide +kernel
theorem dX4_end_19 : decode cX4_end 19 = .ok (.ifCond .le 26, 3) := by decide +kernel
theorem dX4_end_22 : decode cX4_end 22 = .ok (.aload_n 0, 1) := by decide +kernel
theorem dX4_end_23 : decode cX4_end 23 = .ok (.getfield 32, 3) := by decide +kernel
theorem dX4_end_26 : decode cX4_end 26 = .ok (.aload_n 0, 1) := by decide +kernel
theorem dX4_end_27 : decode cX4_end 27 = .ok (.getfield 115, 3) := by decide +kernel
theorem dX4_end_30 : decode cX4_end 30 = .ok (.aload_n 0, 1) := by decide +kernel
theorem dX4_end_31 : decode cX4_end 31 = .ok (.getfield 112, 3) := by decide +kernel
theorem dX4_end_34 : decode cX4_end 34 = .ok (.iastore, 1) := by decide +kernel
theorem dX4_end_35 : decode cX4_end 35 = .ok (.aload_n 0, 1) := by decide +kernel
theorem dX4_end_36 : decode cX4_end 36 = .ok (.dup, 1) := by decide +kernel
theorem dX4_end_37 : decode cX4_end 37 = .ok (.getfield 115, 3) := by decide +kernel
theorem dX4_end_40 : decode cX4_end 40 = .ok (.iconst 1, 1) := by decide +kernel
theorem dX4_end_41 : decode cX4_end 41 = .ok (.iadd, 1) := by decide +kernel
theorem dX4_end_42 : decode cX4_end 42 = .ok (.putfield 115, 3) := by decide +kernel
theorem dX4_end_45 : decode cX4_end 45 = .ok (.aload_n 0, 1) := by decide +kernel
theorem dX4_end_46 : decode cX4_end 46 = .ok (.getfield 112, 3) := by decide +kernel
theorem dX4_end_49 : decode cX4_end 49 = .ok (.ireturn, 1) := by decide +kernel
set_option maxRecDepth 20000 in
theorem ggX4_undo_X4_again : GoodIn wsX4_undo wsX4_again := goodIn_r _ [9, 4, 10, 11, 12, 13, 14, 8, 15, 16, 17, 18, 19, 20, 21, 22, 23, 24, 25, 26, 27, 28, 29, 30, 31, 32, 33, 34, 35, 36, 37, 38, 39, 40, 41, 42, 43, 44, 45, 46, 47, 48, 49, 50, 51, 52, 53, 54, 55, 56, 57, 58, 59, 60, 61, 62, 63, 64, 65, 66, 67, 68, 69, 70, 71, 72, 73, 74, 75, 76, 77, 78, 79, 80, 81, 82, 83, 84, 85, 86, 87, 88, 89, 90, 91, 92, 93, 94, 95, 96, 97, 98, 99, 100, 101, 102, 103, 104, 105, 106, 107, 108] (by decide +kernel) (by decide +kernel)
set_option maxRecDepth 20000 in
theorem gX4_undo_X4_again : GoodIn wsX4_undo (wsV RX4 140 RX4 yX4_again wsX4_again) := goodIn_app (goodIn_of _ (by decide +kernel)) ggX4_undo_X4_again
theorem dX4_undo_0 : decode cX4_undo 0 = .ok (.aload_n 0, 1) := by decide +kernel
theorem dX4_undo_1 : decode cX4_undo 1 = .ok (.getfield 108, 3) := by decide +kernel
theorem dX4_undo_4 : decode cX4_undo 4 = .ok (.ifCond .ne 6, 3) := by decide +kernel
theorem dX4_undo_7 : decode cX4_undo 7 = .ok (.ldc 139, 2) := by decide +kernel
theorem dX4_undo_9 : decode cX4_undo 9 = .ok (.ireturn, 1) := by decide +kernel
theorem dX4_undo_10 : decode cX4_undo 10 = .ok (.aload_n 0, 1) := by decide +kernel
theorem dX4_undo_11 : decode cX4_undo 11 = .ok (.iconst 0, 1) := by decide +kernel
theorem dX4_undo_12 : decode cX4_undo 12 = .ok (.putfield 108, 3) := by decide +kernel
theorem dX4_undo_15 : decode cX4_undo 15 = .ok (.aload_n 0, 1) := by decide +kernel
theorem dX4_undo_16 : decode cX4_undo 16 = .ok (.getfield 112, 3) := by decide +kernel
theorem dX4_undo_19 : decode cX4_undo 19 = .ok (.istore_n 1, 1) := by decide +kernel
theorem dX4_undo_20 : decode cX4_undo 20 = .ok (.aload_n 0, 1) := by decide +kernel
theorem dX4_undo_21 : decode cX4_undo 21 = .ok (.aload_n 0, 1) := by decide +kernel
theorem dX4_undo_22 : decode cX4_undo 22 = .ok (.getfield 105, 3) := by decide +kernel
theorem dX4_undo_25 : decode cX4_undo 25 = .ok (.iload_n 1, 1) := by decide +kernel
theorem dX4_undo_26 : decode cX4_undo 26 = .ok (.isub, 1) := by decide +kernel
theorem dX4_undo_27 : decode cX4_undo 27 = .ok (.invokevirtual 140, 3) := by decide +kernel
theorem dX4_undo_30 : decode cX4_undo 30 = .ok (.iload_n 1, 1) := by decide +kernel
theorem dX4_undo_31 : decode cX4_undo 31 = .ok (.ireturn, 1) := by decide +kernel
theorem dX4_keep_0 : decode cX4_keep 0 = .ok (.aload_n 0, 1) := by decide +kernel
theorem dX4_keep_1 : decode cX4_keep 1 = .ok (.getfield 108, 3) := by decide +kernel
theorem dX4_keep_4 : decode cX4_keep 4 = .ok (.ifCond .eq 6, 3) := by decide +kernel
theorem dX4_keep_7 : decode cX4_keep 7 = .ok (.ldc 139, 2) := by decide +kernel
theorem dX4_keep_9 : decode cX4_keep 9 = .ok (.ireturn, 1) := by decide +kernel
theorem dX4_keep_10 : decode cX4_keep 10 = .ok (.aload_n 0, 1) := by decide +kernel
theorem dX4_keep_11 : decode cX4_keep 11 = .ok (.getfield 105, 3) := by decide +kernel
theorem dX4_keep_14 : decode cX4_keep 14 = .ok (.aload_n 0, 1) := by decide +kernel
theorem dX4_keep_15 : decode cX4_keep 15 = .ok (.getfield 122, 3) := by decide +kernel
theorem dX4_keep_18 : decode cX4_keep 18 = .ok (.isub, 1) := by decide +kernel
theorem dX4_keep_19 : decode cX4_keep 19 = .ok (.istore_n 1, 1) := by decide +kernel
theorem dX4_keep_20 : decode cX4_keep 20 = .ok (.aload_n 0, 1) := by decide +kernel
theorem dX4_keep_21 : decode cX4_keep 21 = .ok (.aload_n 0, 1) := by decide +kernel
theorem dX4_keep_22 : decode cX4_keep 22 = .ok (.getfield 105, 3) := by decide +kernel
theorem dX4_keep_25 : decode cX4_keep 25 = .ok (.putfield 122, 3) := by decide +kernel
theorem dX4_keep_28 : decode cX4_keep 28 = .ok (.aload_n 0, 1) := by decide +kernel
theorem dX4_keep_29 : decode cX4_keep 29 = .ok (.iconst 0, 1) := by decide +kernel
theorem dX4_keep_30 : decode cX4_keep 30 = .ok (.putfield 115, 3) := by decide +kernel
theorem dX4_keep_33 : decode cX4_keep 33 = .ok (.iload_n 1, 1) := by decide +kernel
theorem dX4_keep_34 : decode cX4_keep 34 = .ok (.ireturn, 1) := by decide +kernel
set_option maxRecDepth 20000 in
theorem ggX4_stop_X4_again : GoodIn wsX4_stop wsX4_again := goodIn_r _ [11, 5, 12, 13, 14, 15, 16, 10, 17, 18, 19, 20, 21, 22, 23, 24, 25, 26, 27, 28, 29, 30, 31, 32, 33, 34, 35, 36, 37, 38, 39, 40, 41, 42, 43, 44, 45, 46, 47, 48, 49, 50, 51, 52, 53, 54, 55, 56, 57, 58, 59, 60, 61, 62, 63, 64, 65, 66, 67, 68, 69, 70, 71, 72, 73, 74, 75, 76, 77, 78, 79, 80, 81, 82, 83, 84, 85, 86, 87, 88, 89, 90, 91, 92, 93, 94, 95, 96, 97, 98, 99, 100, 101, 102, 103, 104, 105, 106, 107, 108, 109, 110] (by decide +kernel) (by decide +kernel)
set_option maxRecDepth 20000 in
theorem gX4_stop_X4_again : GoodIn wsX4_stop (wsV RX4 140 RX4 yX4_again wsX4_again) := goodIn_app (goodIn_of _ (by decide +kernel)) ggX4_stop_X4_again
theorem dX4_stop_0 : decode cX4_stop 0 = .ok (.iload_n 1, 1) := by decide +kernel
theorem dX4_stop_1 : decode cX4_stop 1 = .ok (.ifCond .ge 6, 3) := by decide +kernel
theorem dX4_stop_4 : decode cX4_stop 4 = .ok (.ldc 126, 2) := by decide +kernel
theorem dX4_stop_6 : decode cX4_stop 6 = .ok (.ireturn, 1) := by decide +kernel
theorem dX4_stop_7 : decode cX4_stop 7 = .ok (.aload_n 0, 1) := by decide +kernel
theorem dX4_stop_8 : decode cX4_stop 8 = .ok (.getfield 122, 3) := by decide +kernel
theorem dX4_stop_11 : decode cX4_stop 11 = .ok (.istore_n 2, 1) := by decide +kernel
theorem dX4_stop_12 : decode cX4_stop 12 = .ok (.iconst 0, 1) := by decide +kernel
theorem dX4_stop_13 : decode cX4_stop 13 = .ok (.istore_n 3, 1) := by decide +kernel
theorem dX4_stop_14 : decode cX4_stop 14 = .ok (.iload_n 3, 1) := by decide +kernel
theorem dX4_stop_15 : decode cX4_stop 15 = .ok (.aload_n 0, 1) := by decide +kernel
theorem dX4_stop_16 : decode cX4_stop 16 = .ok (.getfield 115, 3) := by decide +kernel
theorem dX4_stop_19 : decode cX4_stop 19 = .ok (.if_icmp .ge 23, 3) := by decide +kernel
theorem dX4_stop_22 : decode cX4_stop 22 = .ok (.iload_n 3, 1) := by decide +kernel
theorem dX4_stop_23 : decode cX4_stop 23 = .ok (.iload_n 1, 1) := by decide +kernel
theorem dX4_stop_24 : decode cX4_stop 24 = .ok (.if_icmp .ge 18, 3) := by decide +kernel
theorem dX4_stop_27 : decode cX4_stop 27 = .ok (.iload_n 2, 1) := by decide +kernel
theorem dX4_stop_28 : decode cX4_stop 28 = .ok (.aload_n 0, 1) := by decide +kernel
theorem dX4_stop_29 : decode cX4_stop 29 = .ok (.getfield 32, 3) := by decide +kernel
theorem dX4_stop_32 : decode cX4_stop 32 = .ok (.iload_n 3, 1) := by decide +kernel
theorem dX4_stop_33 : decode cX4_stop 33 = .ok (.iaload, 1) := by decide +kernel
theorem dX4_stop_34 : decode cX4_stop 34 = .ok (.iadd, 1) := by decide +kernel
theorem dX4_stop_35 : decode cX4_stop 35 = .ok (.istore_n 2, 1) := by decide +kernel
theorem dX4_stop_36 : decode cX4_stop 36 = .ok (.iinc 3 1, 3) := by decide +kernel
theorem dX4_stop_39 : decode cX4_stop 39 = .ok (.goto (-25), 3) := by decide +kernel
theorem dX4_stop_42 : decode cX4_stop 42 = .ok (.aload_n 0, 1) := by decide +kernel
theorem dX4_stop_43 : decode cX4_stop 43 = .ok (.getfield 105, 3) := by decide +kernel
theorem dX4_stop_46 : decode cX4_stop 46 = .ok (.iload_n 2, 1) := by decide +kernel
theorem dX4_stop_47 : decode cX4_stop 47 = .ok (.isub, 1) := by decide +kernel
theorem dX4_stop_48 : decode cX4_stop 48 = .ok (.istore_n 3, 1) := by decide +kernel
theorem dX4_stop_49 : decode cX4_stop 49 = .ok (.aload_n 0, 1) := by decide +kernel
theorem dX4_stop_50 : decode cX4_stop 50 = .ok (.iload_n 2, 1) := by decide +kernel
theorem dX4_stop_51 : decode cX4_stop 51 = .ok (.invokevirtual 140, 3) := by decide +kernel
theorem dX4_stop_54 : decode cX4_stop 54 = .ok (.aload_n 0, 1) := by decide +kernel
theorem dX4_stop_55 : decode cX4_stop 55 = .ok (.aload_n 0, 1) := by decide +kernel
theorem dX4_stop_56 : decode cX4_stop 56 = .ok (.getfield 105, 3) := by decide +kernel
theorem dX4_stop_59 : decode cX4_stop 59 = .ok (.putfield 122, 3) := by decide +kernel
theorem dX4_stop_62 : decode cX4_stop 62 = .ok (.aload_n 0, 1) := by decide +kernel
theorem dX4_stop_63 : decode cX4_stop 63 = .ok (.iconst 0, 1) := by decide +kernel
theorem dX4_stop_64 : decode cX4_stop 64 = .ok (.putfield 115, 3) := by decide +kernel
theorem dX4_stop_67 : decode cX4_stop 67 = .ok (.aload_n 0, 1) := by decide +kernel
theorem dX4_stop_68 : decode cX4_stop 68 = .ok (.iconst 0, 1) := by decide +kernel
theorem dX4_stop_69 : decode cX4_stop 69 = .ok (.putfield 108, 3) := by decide +kernel
theorem dX4_stop_72 : decode cX4_stop 72 = .ok (.iload_n 3, 1) := by decide +kernel
theorem dX4_stop_73 : decode cX4_stop 73 = .ok (.ireturn, 1) := by decide +kernel
set_option maxRecDepth 20000 in
theorem ggX4_address_X4_addressOf : GoodIn wsX4_address wsX4_addressOf := goodIn_r _ [5, 6, 7, 8, 9, 10, 4, 11, 12, 13, 14, 15, 16, 17, 18, 19, 20, 21, 22, 23, 24, 25, 26, 27, 28, 29, 30, 31, 32] (by decide +kernel) (by decide +kernel)
set_option maxRecDepth 20000 in
theorem gX4_address_X4_addressOf : GoodIn wsX4_address (wsV RX4 64 RX4 yX4_addressOf wsX4_addressOf) := goodIn_app (goodIn_of _ (by decide +kernel)) ggX4_address_X4_addressOf
theorem dX4_address_0 : decode cX4_address 0 = .ok (.aload_n 0, 1) := by decide +kernel
theorem dX4_address_1 : decode cX4_address 1 = .ok (.iload_n 1, 1) := by decide +kernel
theorem dX4_address_2 : decode cX4_address 2 = .ok (.invokevirtual 64, 3) := by decide +kernel
theorem dX4_address_5 : decode cX4_address 5 = .ok (.ireturn, 1) := by decide +kernel
set_option maxRecDepth 20000 in
theorem ggX4_isBucket_X4_buckets : GoodIn wsX4_isBucket wsX4_buckets := goodIn_r _ [5, 6, 7, 8, 9, 4, 10, 11, 12, 13, 14, 15, 16, 17, 18, 19, 20, 21, 22, 23, 24, 25, 26, 27, 28, 29, 30, 31] (by decide +kernel) (by decide +kernel)
set_option maxRecDepth 20000 in
theorem gX4_isBucket_X4_buckets : GoodIn wsX4_isBucket (wsV RX4 81 RX4 yX4_buckets wsX4_buckets) := goodIn_app (goodIn_of _ (by decide +kernel)) ggX4_isBucket_X4_buckets
theorem dX4_isBucket_0 : decode cX4_isBucket 0 = .ok (.iload_n 1, 1) := by decide +kernel
theorem dX4_isBucket_1 : decode cX4_isBucket 1 = .ok (.ifCond .lt 15, 3) := by decide +kernel
theorem dX4_isBucket_4 : decode cX4_isBucket 4 = .ok (.iload_n 1, 1) := by decide +kernel
theorem dX4_isBucket_5 : decode cX4_isBucket 5 = .ok (.aload_n 0, 1) := by decide +kernel
theorem dX4_isBucket_6 : decode cX4_isBucket 6 = .ok (.invokevirtual 81, 3) := by decide +kernel
theorem dX4_isBucket_9 : decode cX4_isBucket 9 = .ok (.if_icmp .ge 7, 3) := by decide +kernel
theorem dX4_isBucket_12 : decode cX4_isBucket 12 = .ok (.iconst 1, 1) := by decide +kernel
theorem dX4_isBucket_13 : decode cX4_isBucket 13 = .ok (.goto 4, 3) := by decide +kernel
theorem dX4_isBucket_16 : decode cX4_isBucket 16 = .ok (.iconst 0, 1) := by decide +kernel
theorem dX4_isBucket_17 : decode cX4_isBucket 17 = .ok (.ireturn, 1) := by decide +kernel
set_option maxRecDepth 20000 in
theorem ggX4_bucket_X4_isBucket : GoodIn wsX4_bucket wsX4_isBucket := goodIn_r _ [6, 7, 8, 9, 5, 10, 11, 12, 13, 14, 15, 16, 32, 33, 34, 35, 36, 37, 38, 39, 40, 41, 42, 43, 44, 45, 46, 47, 48, 49, 50, 51] (by decide +kernel) (by decide +kernel)
set_option maxRecDepth 20000 in
theorem gX4_bucket_X4_isBucket : GoodIn wsX4_bucket (wsV RX4 143 RX4 yX4_isBucket wsX4_isBucket) := goodIn_app (goodIn_of _ (by decide +kernel)) ggX4_bucket_X4_isBucket
set_option maxRecDepth 20000 in
theorem ggX4_bucket_X4_manyIn : GoodIn wsX4_bucket wsX4_manyIn := goodIn_r _ [20, 21, 22, 23, 32, 33, 34, 35, 36, 37, 38, 39, 40, 41, 42, 43, 44, 45, 46, 47, 48, 49, 50, 51] (by decide +kernel) (by decide +kernel)
set_option maxRecDepth 20000 in
theorem gX4_bucket_X4_manyIn : GoodIn wsX4_bucket (wsV RX4 84 RX4 yX4_manyIn wsX4_manyIn) := goodIn_app (goodIn_of _ (by decide +kernel)) ggX4_bucket_X4_manyIn
set_option maxRecDepth 20000 in
theorem ggX4_bucket_X4_pagesIn : GoodIn wsX4_bucket wsX4_pagesIn := goodIn_r _ [27, 21, 23, 32, 33, 34, 35, 36, 37, 38, 39, 40, 41, 42, 43, 44, 45, 46, 47, 48, 49, 50, 51] (by decide +kernel) (by decide +kernel)
set_option maxRecDepth 20000 in
theorem gX4_bucket_X4_pagesIn : GoodIn wsX4_bucket (wsV RX4 90 RX4 yX4_pagesIn wsX4_pagesIn) := goodIn_app (goodIn_of _ (by decide +kernel)) ggX4_bucket_X4_pagesIn
set_option maxRecDepth 20000 in
theorem ggX4_bucket_X4_lastOf : GoodIn wsX4_bucket wsX4_lastOf := goodIn_r _ [31, 23, 21, 32, 33, 34, 35, 36, 37, 38, 39, 40, 41, 42, 43, 44, 45, 46, 47, 48, 49, 50, 51] (by decide +kernel) (by decide +kernel)
set_option maxRecDepth 20000 in
theorem gX4_bucket_X4_lastOf : GoodIn wsX4_bucket (wsV RX4 60 RX4 yX4_lastOf wsX4_lastOf) := goodIn_app (goodIn_of _ (by decide +kernel)) ggX4_bucket_X4_lastOf
theorem dX4_bucket_0 : decode cX4_bucket 0 = .ok (.aload_n 0, 1) := by decide +kernel
theorem dX4_bucket_1 : decode cX4_bucket 1 = .ok (.iload_n 1, 1) := by decide +kernel
theorem dX4_bucket_2 : decode cX4_bucket 2 = .ok (.invokevirtual 143, 3) := by decide +kernel
theorem dX4_bucket_5 : decode cX4_bucket 5 = .ok (.ifCond .eq 12, 3) := by decide +kernel
theorem dX4_bucket_8 : decode cX4_bucket 8 = .ok (.iload_n 2, 1) := by decide +kernel
theorem dX4_bucket_9 : decode cX4_bucket 9 = .ok (.ifCond .lt 8, 3) := by decide +kernel
theorem dX4_bucket_12 : decode cX4_bucket 12 = .ok (.iload_n 2, 1) := by decide +kernel
theorem dX4_bucket_13 : decode cX4_bucket 13 = .ok (.iconst 2, 1) := by decide +kernel
theorem dX4_bucket_14 : decode cX4_bucket 14 = .ok (.if_icmp .le 6, 3) := by decide +kernel
theorem dX4_bucket_17 : decode cX4_bucket 17 = .ok (.ldc 126, 2) := by decide +kernel
theorem dX4_bucket_19 : decode cX4_bucket 19 = .ok (.ireturn, 1) := by decide +kernel
theorem dX4_bucket_20 : decode cX4_bucket 20 = .ok (.iload_n 2, 1) := by decide +kernel
theorem dX4_bucket_21 : decode cX4_bucket 21 = .ok (.ifCond .ne 11, 3) := by decide +kernel
theorem dX4_bucket_24 : decode cX4_bucket 24 = .ok (.aload_n 0, 1) := by decide +kernel
theorem dX4_bucket_25 : decode cX4_bucket 25 = .ok (.iload_n 1, 1) := by decide +kernel
theorem dX4_bucket_26 : decode cX4_bucket 26 = .ok (.invokevirtual 84, 3) := by decide +kernel
theorem dX4_bucket_29 : decode cX4_bucket 29 = .ok (.goto 21, 3) := by decide +kernel
theorem dX4_bucket_32 : decode cX4_bucket 32 = .ok (.iload_n 2, 1) := by decide +kernel
theorem dX4_bucket_33 : decode cX4_bucket 33 = .ok (.iconst 1, 1) := by decide +kernel
theorem dX4_bucket_34 : decode cX4_bucket 34 = .ok (.if_icmp .ne 11, 3) := by decide +kernel
theorem dX4_bucket_37 : decode cX4_bucket 37 = .ok (.aload_n 0, 1) := by decide +kernel
theorem dX4_bucket_38 : decode cX4_bucket 38 = .ok (.iload_n 1, 1) := by decide +kernel
theorem dX4_bucket_39 : decode cX4_bucket 39 = .ok (.invokevirtual 90, 3) := by decide +kernel
theorem dX4_bucket_42 : decode cX4_bucket 42 = .ok (.goto 8, 3) := by decide +kernel
theorem dX4_bucket_45 : decode cX4_bucket 45 = .ok (.aload_n 0, 1) := by decide +kernel
theorem dX4_bucket_46 : decode cX4_bucket 46 = .ok (.iload_n 1, 1) := by decide +kernel
theorem dX4_bucket_47 : decode cX4_bucket 47 = .ok (.invokevirtual 60, 3) := by decide +kernel
theorem dX4_bucket_50 : decode cX4_bucket 50 = .ok (.ireturn, 1) := by decide +kernel
set_option maxRecDepth 20000 in
theorem ggX4_ownerOf_X4_buckets : GoodIn wsX4_ownerOf wsX4_buckets := goodIn_r _ [7, 8, 9, 10, 11, 6, 12, 13, 14, 15, 16, 17, 18, 19, 20, 21, 22, 23, 24, 25, 26, 27, 28, 29, 30, 31, 32, 33] (by decide +kernel) (by decide +kernel)
set_option maxRecDepth 20000 in
theorem gX4_ownerOf_X4_buckets : GoodIn wsX4_ownerOf (wsV RX4 81 RX4 yX4_buckets wsX4_buckets) := goodIn_app (goodIn_of _ (by decide +kernel)) ggX4_ownerOf_X4_buckets
theorem dX4_ownerOf_0 : decode cX4_ownerOf 0 = .ok (.iconst 0, 1) := by decide +kernel
theorem dX4_ownerOf_1 : decode cX4_ownerOf 1 = .ok (.istore_n 2, 1) := by decide +kernel
theorem dX4_ownerOf_2 : decode cX4_ownerOf 2 = .ok (.iload_n 2, 1) := by decide +kernel
theorem dX4_ownerOf_3 : decode cX4_ownerOf 3 = .ok (.aload_n 0, 1) := by decide +kernel
theorem dX4_ownerOf_4 : decode cX4_ownerOf 4 = .ok (.invokevirtual 81, 3) := by decide +kernel
theorem dX4_ownerOf_7 : decode cX4_ownerOf 7 = .ok (.if_icmp .ge 34, 3) := by decide +kernel
theorem dX4_ownerOf_10 : decode cX4_ownerOf 10 = .ok (.iload_n 2, 1) := by decide +kernel
theorem dX4_ownerOf_11 : decode cX4_ownerOf 11 = .ok (.istore_n 3, 1) := by decide +kernel
theorem dX4_ownerOf_12 : decode cX4_ownerOf 12 = .ok (.iload_n 3, 1) := by decide +kernel
theorem dX4_ownerOf_13 : decode cX4_ownerOf 13 = .ok (.ldc 44, 2) := by decide +kernel
theorem dX4_ownerOf_15 : decode cX4_ownerOf 15 = .ok (.if_icmp .eq 20, 3) := by decide +kernel
theorem dX4_ownerOf_18 : decode cX4_ownerOf 18 = .ok (.iload_n 3, 1) := by decide +kernel
theorem dX4_ownerOf_19 : decode cX4_ownerOf 19 = .ok (.iload_n 1, 1) := by decide +kernel
theorem dX4_ownerOf_20 : decode cX4_ownerOf 20 = .ok (.if_icmp .ne 5, 3) := by decide +kernel
theorem dX4_ownerOf_23 : decode cX4_ownerOf 23 = .ok (.iload_n 2, 1) := by decide +kernel
theorem dX4_ownerOf_24 : decode cX4_ownerOf 24 = .ok (.ireturn, 1) := by decide +kernel
theorem dX4_ownerOf_25 : decode cX4_ownerOf 25 = .ok (.aload_n 0, 1) := by decide +kernel
theorem dX4_ownerOf_26 : decode cX4_ownerOf 26 = .ok (.getfield 19, 3) := by decide +kernel
theorem dX4_ownerOf_29 : decode cX4_ownerOf 29 = .ok (.iload_n 3, 1) := by decide +kernel
theorem dX4_ownerOf_30 : decode cX4_ownerOf 30 = .ok (.iaload, 1) := by decide +kernel
theorem dX4_ownerOf_31 : decode cX4_ownerOf 31 = .ok (.istore_n 3, 1) := by decide +kernel
theorem dX4_ownerOf_32 : decode cX4_ownerOf 32 = .ok (.goto (-20), 3) := by decide +kernel
theorem dX4_ownerOf_35 : decode cX4_ownerOf 35 = .ok (.iinc 2 1, 3) := by decide +kernel
theorem dX4_ownerOf_38 : decode cX4_ownerOf 38 = .ok (.goto (-36), 3) := by decide +kernel
theorem dX4_ownerOf_41 : decode cX4_ownerOf 41 = .ok (.ldc 44, 2) := by decide +kernel
theorem dX4_ownerOf_43 : decode cX4_ownerOf 43 = .ok (.ireturn, 1) := by decide +kernel
theorem dX4_isPage_0 : decode cX4_isPage 0 = .ok (.iload_n 0, 1) := by decide +kernel
theorem dX4_isPage_1 : decode cX4_isPage 1 = .ok (.ifCond .lt 14, 3) := by decide +kernel
theorem dX4_isPage_4 : decode cX4_isPage 4 = .ok (.iload_n 0, 1) := by decide +kernel
theorem dX4_isPage_5 : decode cX4_isPage 5 = .ok (.sipush 128, 3) := by decide +kernel
theorem dX4_isPage_8 : decode cX4_isPage 8 = .ok (.if_icmp .ge 7, 3) := by decide +kernel
theorem dX4_isPage_11 : decode cX4_isPage 11 = .ok (.iconst 1, 1) := by decide +kernel
theorem dX4_isPage_12 : decode cX4_isPage 12 = .ok (.goto 4, 3) := by decide +kernel
theorem dX4_isPage_15 : decode cX4_isPage 15 = .ok (.iconst 0, 1) := by decide +kernel
theorem dX4_isPage_16 : decode cX4_isPage 16 = .ok (.ireturn, 1) := by decide +kernel
set_option maxRecDepth 20000 in
theorem ggX4_page_X4_isPage : GoodIn wsX4_page wsX4_isPage := goodIn_r _ [7] (by decide +kernel) (by decide +kernel)
set_option maxRecDepth 20000 in
theorem gX4_page_X4_isPage : GoodIn wsX4_page (va_wsS RX4 147 yX4_isPage wsX4_isPage) := goodIn_app (goodIn_of _ (by decide +kernel)) ggX4_page_X4_isPage
set_option maxRecDepth 20000 in
theorem ggX4_page_X4_ownerOf : GoodIn wsX4_page wsX4_ownerOf := goodIn_r _ [11, 12, 3, 13, 14, 15, 6, 16, 17, 18, 19, 20, 21, 22, 23, 24, 25, 26, 27, 28, 29, 30, 31, 32, 33, 34, 35, 36, 37, 38, 39, 40, 41, 42] (by decide +kernel) (by decide +kernel)
set_option maxRecDepth 20000 in
theorem gX4_page_X4_ownerOf : GoodIn wsX4_page (wsV RX4 150 RX4 yX4_ownerOf wsX4_ownerOf) := goodIn_app (goodIn_of _ (by decide +kernel)) ggX4_page_X4_ownerOf
theorem dX4_page_0 : decode cX4_page 0 = .ok (.iload_n 1, 1) := by decide +kernel
theorem dX4_page_1 : decode cX4_page 1 = .ok (.invokestatic 147, 3) := by decide +kernel
theorem dX4_page_4 : decode cX4_page 4 = .ok (.ifCond .eq 12, 3) := by decide +kernel
theorem dX4_page_7 : decode cX4_page 7 = .ok (.iload_n 2, 1) := by decide +kernel
theorem dX4_page_8 : decode cX4_page 8 = .ok (.ifCond .lt 8, 3) := by decide +kernel
theorem dX4_page_11 : decode cX4_page 11 = .ok (.iload_n 2, 1) := by decide +kernel
theorem dX4_page_12 : decode cX4_page 12 = .ok (.iconst 2, 1) := by decide +kernel
theorem dX4_page_13 : decode cX4_page 13 = .ok (.if_icmp .le 6, 3) := by decide +kernel
theorem dX4_page_16 : decode cX4_page 16 = .ok (.ldc 126, 2) := by decide +kernel
theorem dX4_page_18 : decode cX4_page 18 = .ok (.ireturn, 1) := by decide +kernel
theorem dX4_page_19 : decode cX4_page 19 = .ok (.iload_n 2, 1) := by decide +kernel
theorem dX4_page_20 : decode cX4_page 20 = .ok (.ifCond .ne 12, 3) := by decide +kernel
theorem dX4_page_23 : decode cX4_page 23 = .ok (.aload_n 0, 1) := by decide +kernel
theorem dX4_page_24 : decode cX4_page 24 = .ok (.getfield 16, 3) := by decide +kernel
theorem dX4_page_27 : decode cX4_page 27 = .ok (.iload_n 1, 1) := by decide +kernel
theorem dX4_page_28 : decode cX4_page 28 = .ok (.iaload, 1) := by decide +kernel
theorem dX4_page_29 : decode cX4_page 29 = .ok (.goto 22, 3) := by decide +kernel
theorem dX4_page_32 : decode cX4_page 32 = .ok (.iload_n 2, 1) := by decide +kernel
theorem dX4_page_33 : decode cX4_page 33 = .ok (.iconst 1, 1) := by decide +kernel
theorem dX4_page_34 : decode cX4_page 34 = .ok (.if_icmp .ne 12, 3) := by decide +kernel
theorem dX4_page_37 : decode cX4_page 37 = .ok (.aload_n 0, 1) := by decide +kernel
theorem dX4_page_38 : decode cX4_page 38 = .ok (.getfield 19, 3) := by decide +kernel
theorem dX4_page_41 : decode cX4_page 41 = .ok (.iload_n 1, 1) := by decide +kernel
theorem dX4_page_42 : decode cX4_page 42 = .ok (.iaload, 1) := by decide +kernel
theorem dX4_page_43 : decode cX4_page 43 = .ok (.goto 8, 3) := by decide +kernel
theorem dX4_page_46 : decode cX4_page 46 = .ok (.aload_n 0, 1) := by decide +kernel
theorem dX4_page_47 : decode cX4_page 47 = .ok (.iload_n 1, 1) := by decide +kernel
theorem dX4_page_48 : decode cX4_page 48 = .ok (.invokevirtual 150, 3) := by decide +kernel
theorem dX4_page_51 : decode cX4_page 51 = .ok (.ireturn, 1) := by decide +kernel
set_option maxRecDepth 20000 in
theorem ggX4_cell_X4_isPage : GoodIn wsX4_cell wsX4_isPage := goodIn_r _ [9] (by decide +kernel) (by decide +kernel)
set_option maxRecDepth 20000 in
theorem gX4_cell_X4_isPage : GoodIn wsX4_cell (va_wsS RX4 147 yX4_isPage wsX4_isPage) := goodIn_app (goodIn_of _ (by decide +kernel)) ggX4_cell_X4_isPage
theorem dX4_cell_0 : decode cX4_cell 0 = .ok (.iload_n 1, 1) := by decide +kernel
theorem dX4_cell_1 : decode cX4_cell 1 = .ok (.invokestatic 147, 3) := by decide +kernel
theorem dX4_cell_4 : decode cX4_cell 4 = .ok (.ifCond .eq 21, 3) := by decide +kernel
theorem dX4_cell_7 : decode cX4_cell 7 = .ok (.iload_n 2, 1) := by decide +kernel
theorem dX4_cell_8 : decode cX4_cell 8 = .ok (.ifCond .lt 17, 3) := by decide +kernel
theorem dX4_cell_11 : decode cX4_cell 11 = .ok (.iload_n 2, 1) := by decide +kernel
theorem dX4_cell_12 : decode cX4_cell 12 = .ok (.iconst 4, 1) := by decide +kernel
theorem dX4_cell_13 : decode cX4_cell 13 = .ok (.if_icmp .ge 12, 3) := by decide +kernel
theorem dX4_cell_16 : decode cX4_cell 16 = .ok (.iload_n 3, 1) := by decide +kernel
theorem dX4_cell_17 : decode cX4_cell 17 = .ok (.ifCond .lt 8, 3) := by decide +kernel
theorem dX4_cell_20 : decode cX4_cell 20 = .ok (.iload_n 3, 1) := by decide +kernel
theorem dX4_cell_21 : decode cX4_cell 21 = .ok (.iconst 1, 1) := by decide +kernel
theorem dX4_cell_22 : decode cX4_cell 22 = .ok (.if_icmp .le 6, 3) := by decide +kernel
theorem dX4_cell_25 : decode cX4_cell 25 = .ok (.ldc 126, 2) := by decide +kernel
theorem dX4_cell_27 : decode cX4_cell 27 = .ok (.ireturn, 1) := by decide +kernel
theorem dX4_cell_28 : decode cX4_cell 28 = .ok (.iload_n 2, 1) := by decide +kernel
theorem dX4_cell_29 : decode cX4_cell 29 = .ok (.aload_n 0, 1) := by decide +kernel
theorem dX4_cell_30 : decode cX4_cell 30 = .ok (.getfield 16, 3) := by decide +kernel
theorem dX4_cell_33 : decode cX4_cell 33 = .ok (.iload_n 1, 1) := by decide +kernel
theorem dX4_cell_34 : decode cX4_cell 34 = .ok (.iaload, 1) := by decide +kernel
theorem dX4_cell_35 : decode cX4_cell 35 = .ok (.if_icmp .lt 6, 3) := by decide +kernel
theorem dX4_cell_38 : decode cX4_cell 38 = .ok (.ldc 139, 2) := by decide +kernel
theorem dX4_cell_40 : decode cX4_cell 40 = .ok (.ireturn, 1) := by decide +kernel
theorem dX4_cell_41 : decode cX4_cell 41 = .ok (.iload_n 3, 1) := by decide +kernel
theorem dX4_cell_42 : decode cX4_cell 42 = .ok (.ifCond .ne 16, 3) := by decide +kernel
theorem dX4_cell_45 : decode cX4_cell 45 = .ok (.aload_n 0, 1) := by decide +kernel
theorem dX4_cell_46 : decode cX4_cell 46 = .ok (.getfield 7, 3) := by decide +kernel
theorem dX4_cell_49 : decode cX4_cell 49 = .ok (.iconst 4, 1) := by decide +kernel
theorem dX4_cell_50 : decode cX4_cell 50 = .ok (.iload_n 1, 1) := by decide +kernel
theorem dX4_cell_51 : decode cX4_cell 51 = .ok (.imul, 1) := by decide +kernel
theorem dX4_cell_52 : decode cX4_cell 52 = .ok (.iload_n 2, 1) := by decide +kernel
theorem dX4_cell_53 : decode cX4_cell 53 = .ok (.iadd, 1) := by decide +kernel
theorem dX4_cell_54 : decode cX4_cell 54 = .ok (.iaload, 1) := by decide +kernel
theorem dX4_cell_55 : decode cX4_cell 55 = .ok (.goto 13, 3) := by decide +kernel
theorem dX4_cell_58 : decode cX4_cell 58 = .ok (.aload_n 0, 1) := by decide +kernel
theorem dX4_cell_59 : decode cX4_cell 59 = .ok (.getfield 13, 3) := by decide +kernel
theorem dX4_cell_62 : decode cX4_cell 62 = .ok (.iconst 4, 1) := by decide +kernel
theorem dX4_cell_63 : decode cX4_cell 63 = .ok (.iload_n 1, 1) := by decide +kernel
theorem dX4_cell_64 : decode cX4_cell 64 = .ok (.imul, 1) := by decide +kernel
theorem dX4_cell_65 : decode cX4_cell 65 = .ok (.iload_n 2, 1) := by decide +kernel
theorem dX4_cell_66 : decode cX4_cell 66 = .ok (.iadd, 1) := by decide +kernel
theorem dX4_cell_67 : decode cX4_cell 67 = .ok (.iaload, 1) := by decide +kernel
theorem dX4_cell_68 : decode cX4_cell 68 = .ok (.ireturn, 1) := by decide +kernel
set_option maxRecDepth 20000 in
theorem ggX4_entry_X4_buckets : GoodIn wsX4_entry wsX4_buckets := goodIn_r _ [10, 11, 12, 13, 14, 9, 15, 16, 17, 18, 19, 20, 21, 22, 23, 24, 25, 26, 27, 28, 29, 30, 31, 32, 33, 34, 35, 36] (by decide +kernel) (by decide +kernel)
set_option maxRecDepth 20000 in
theorem gX4_entry_X4_buckets : GoodIn wsX4_entry (wsV RX4 81 RX4 yX4_buckets wsX4_buckets) := goodIn_app (goodIn_of _ (by decide +kernel)) ggX4_entry_X4_buckets
theorem dX4_entry_0 : decode cX4_entry 0 = .ok (.iload_n 1, 1) := by decide +kernel
theorem dX4_entry_1 : decode cX4_entry 1 = .ok (.ifCond .ge 6, 3) := by decide +kernel
theorem dX4_entry_4 : decode cX4_entry 4 = .ok (.ldc 126, 2) := by decide +kernel
theorem dX4_entry_6 : decode cX4_entry 6 = .ok (.ireturn, 1) := by decide +kernel
theorem dX4_entry_7 : decode cX4_entry 7 = .ok (.iload_n 1, 1) := by decide +kernel
theorem dX4_entry_8 : decode cX4_entry 8 = .ok (.istore_n 2, 1) := by decide +kernel
theorem dX4_entry_9 : decode cX4_entry 9 = .ok (.iconst 0, 1) := by decide +kernel
theorem dX4_entry_10 : decode cX4_entry 10 = .ok (.istore_n 3, 1) := by decide +kernel
theorem dX4_entry_11 : decode cX4_entry 11 = .ok (.iload_n 3, 1) := by decide +kernel
theorem dX4_entry_12 : decode cX4_entry 12 = .ok (.aload_n 0, 1) := by decide +kernel
theorem dX4_entry_13 : decode cX4_entry 13 = .ok (.invokevirtual 81, 3) := by decide +kernel
theorem dX4_entry_16 : decode cX4_entry 16 = .ok (.if_icmp .ge 64, 3) := by decide +kernel
theorem dX4_entry_19 : decode cX4_entry 19 = .ok (.iload_n 3, 1) := by decide +kernel
theorem dX4_entry_20 : decode cX4_entry 20 = .ok (.istore 4, 2) := by decide +kernel
theorem dX4_entry_22 : decode cX4_entry 22 = .ok (.iload 4, 2) := by decide +kernel
theorem dX4_entry_24 : decode cX4_entry 24 = .ok (.ldc 44, 2) := by decide +kernel
theorem dX4_entry_26 : decode cX4_entry 26 = .ok (.if_icmp .eq 48, 3) := by decide +kernel
theorem dX4_entry_29 : decode cX4_entry 29 = .ok (.iload_n 2, 1) := by decide +kernel
theorem dX4_entry_30 : decode cX4_entry 30 = .ok (.aload_n 0, 1) := by decide +kernel
theorem dX4_entry_31 : decode cX4_entry 31 = .ok (.getfield 16, 3) := by decide +kernel
theorem dX4_entry_34 : decode cX4_entry 34 = .ok (.iload 4, 2) := by decide +kernel
theorem dX4_entry_36 : decode cX4_entry 36 = .ok (.iaload, 1) := by decide +kernel
theorem dX4_entry_37 : decode cX4_entry 37 = .ok (.if_icmp .ge 15, 3) := by decide +kernel
theorem dX4_entry_40 : decode cX4_entry 40 = .ok (.aload_n 0, 1) := by decide +kernel
theorem dX4_entry_41 : decode cX4_entry 41 = .ok (.getfield 13, 3) := by decide +kernel
theorem dX4_entry_44 : decode cX4_entry 44 = .ok (.iconst 4, 1) := by decide +kernel
theorem dX4_entry_45 : decode cX4_entry 45 = .ok (.iload 4, 2) := by decide +kernel
theorem dX4_entry_47 : decode cX4_entry 47 = .ok (.imul, 1) := by decide +kernel
theorem dX4_entry_48 : decode cX4_entry 48 = .ok (.iload_n 2, 1) := by decide +kernel
theorem dX4_entry_49 : decode cX4_entry 49 = .ok (.iadd, 1) := by decide +kernel
theorem dX4_entry_50 : decode cX4_entry 50 = .ok (.iaload, 1) := by decide +kernel
theorem dX4_entry_51 : decode cX4_entry 51 = .ok (.ireturn, 1) := by decide +kernel
theorem dX4_entry_52 : decode cX4_entry 52 = .ok (.iload_n 2, 1) := by decide +kernel
theorem dX4_entry_53 : decode cX4_entry 53 = .ok (.aload_n 0, 1) := by decide +kernel
theorem dX4_entry_54 : decode cX4_entry 54 = .ok (.getfield 16, 3) := by decide +kernel
theorem dX4_entry_57 : decode cX4_entry 57 = .ok (.iload 4, 2) := by decide +kernel
theorem dX4_entry_59 : decode cX4_entry 59 = .ok (.iaload, 1) := by decide +kernel
theorem dX4_entry_60 : decode cX4_entry 60 = .ok (.isub, 1) := by decide +kernel
theorem dX4_entry_61 : decode cX4_entry 61 = .ok (.istore_n 2, 1) := by decide +kernel
theorem dX4_entry_62 : decode cX4_entry 62 = .ok (.aload_n 0, 1) := by decide +kernel
theorem dX4_entry_63 : decode cX4_entry 63 = .ok (.getfield 19, 3) := by decide +kernel
theorem dX4_entry_66 : decode cX4_entry 66 = .ok (.iload 4, 2) := by decide +kernel
theorem dX4_entry_68 : decode cX4_entry 68 = .ok (.iaload, 1) := by decide +kernel
theorem dX4_entry_69 : decode cX4_entry 69 = .ok (.istore 4, 2) := by decide +kernel
theorem dX4_entry_71 : decode cX4_entry 71 = .ok (.goto (-49), 3) := by decide +kernel
theorem dX4_entry_74 : decode cX4_entry 74 = .ok (.iinc 3 1, 3) := by decide +kernel
theorem dX4_entry_77 : decode cX4_entry 77 = .ok (.goto (-66), 3) := by decide +kernel
theorem dX4_entry_80 : decode cX4_entry 80 = .ok (.ldc 44, 2) := by decide +kernel
theorem dX4_entry_82 : decode cX4_entry 82 = .ok (.ireturn, 1) := by decide +kernel
set_option maxRecDepth 20000 in
theorem ggX4_effort_X4_buckets : GoodIn wsX4_effort wsX4_buckets := goodIn_r _ [8, 9, 10, 11, 12, 7, 13, 14, 15, 16, 17, 18, 19, 20, 21, 22, 23, 24, 25, 26, 27, 28, 29, 30, 31, 32, 33, 34] (by decide +kernel) (by decide +kernel)
set_option maxRecDepth 20000 in
theorem gX4_effort_X4_buckets : GoodIn wsX4_effort (wsV RX4 81 RX4 yX4_buckets wsX4_buckets) := goodIn_app (goodIn_of _ (by decide +kernel)) ggX4_effort_X4_buckets
theorem dX4_effort_0 : decode cX4_effort 0 = .ok (.iconst 0, 1) := by decide +kernel
theorem dX4_effort_1 : decode cX4_effort 1 = .ok (.istore_n 1, 1) := by decide +kernel
theorem dX4_effort_2 : decode cX4_effort 2 = .ok (.iconst 0, 1) := by decide +kernel
theorem dX4_effort_3 : decode cX4_effort 3 = .ok (.istore_n 2, 1) := by decide +kernel
theorem dX4_effort_4 : decode cX4_effort 4 = .ok (.iload_n 2, 1) := by decide +kernel
theorem dX4_effort_5 : decode cX4_effort 5 = .ok (.aload_n 0, 1) := by decide +kernel
theorem dX4_effort_6 : decode cX4_effort 6 = .ok (.invokevirtual 81, 3) := by decide +kernel
theorem dX4_effort_9 : decode cX4_effort 9 = .ok (.if_icmp .ge 48, 3) := by decide +kernel
theorem dX4_effort_12 : decode cX4_effort 12 = .ok (.iconst 0, 1) := by decide +kernel
theorem dX4_effort_13 : decode cX4_effort 13 = .ok (.istore_n 3, 1) := by decide +kernel
theorem dX4_effort_14 : decode cX4_effort 14 = .ok (.iload_n 2, 1) := by decide +kernel
theorem dX4_effort_15 : decode cX4_effort 15 = .ok (.istore 4, 2) := by decide +kernel
theorem dX4_effort_17 : decode cX4_effort 17 = .ok (.iload 4, 2) := by decide +kernel
theorem dX4_effort_19 : decode cX4_effort 19 = .ok (.ldc 44, 2) := by decide +kernel
theorem dX4_effort_21 : decode cX4_effort 21 = .ok (.if_icmp .eq 30, 3) := by decide +kernel
theorem dX4_effort_24 : decode cX4_effort 24 = .ok (.iinc 3 1, 3) := by decide +kernel
theorem dX4_effort_27 : decode cX4_effort 27 = .ok (.iload_n 1, 1) := by decide +kernel
theorem dX4_effort_28 : decode cX4_effort 28 = .ok (.iload_n 3, 1) := by decide +kernel
theorem dX4_effort_29 : decode cX4_effort 29 = .ok (.aload_n 0, 1) := by decide +kernel
theorem dX4_effort_30 : decode cX4_effort 30 = .ok (.getfield 16, 3) := by decide +kernel
theorem dX4_effort_33 : decode cX4_effort 33 = .ok (.iload 4, 2) := by decide +kernel
theorem dX4_effort_35 : decode cX4_effort 35 = .ok (.iaload, 1) := by decide +kernel
theorem dX4_effort_36 : decode cX4_effort 36 = .ok (.imul, 1) := by decide +kernel
theorem dX4_effort_37 : decode cX4_effort 37 = .ok (.iadd, 1) := by decide +kernel
theorem dX4_effort_38 : decode cX4_effort 38 = .ok (.istore_n 1, 1) := by decide +kernel
theorem dX4_effort_39 : decode cX4_effort 39 = .ok (.aload_n 0, 1) := by decide +kernel
theorem dX4_effort_40 : decode cX4_effort 40 = .ok (.getfield 19, 3) := by decide +kernel
theorem dX4_effort_43 : decode cX4_effort 43 = .ok (.iload 4, 2) := by decide +kernel
theorem dX4_effort_45 : decode cX4_effort 45 = .ok (.iaload, 1) := by decide +kernel
theorem dX4_effort_46 : decode cX4_effort 46 = .ok (.istore 4, 2) := by decide +kernel
theorem dX4_effort_48 : decode cX4_effort 48 = .ok (.goto (-31), 3) := by decide +kernel
theorem dX4_effort_51 : decode cX4_effort 51 = .ok (.iinc 2 1, 3) := by decide +kernel
theorem dX4_effort_54 : decode cX4_effort 54 = .ok (.goto (-50), 3) := by decide +kernel
theorem dX4_effort_57 : decode cX4_effort 57 = .ok (.iload_n 1, 1) := by decide +kernel
theorem dX4_effort_58 : decode cX4_effort 58 = .ok (.ireturn, 1) := by decide +kernel
set_option maxRecDepth 20000 in
theorem ggX4_longest_X4_buckets : GoodIn wsX4_longest wsX4_buckets := goodIn_r _ [5, 6, 7, 8, 9, 4, 10, 11, 18, 19, 20, 21, 22, 23, 24, 25, 26, 27, 28, 29, 30, 31, 32, 33, 34, 35, 36, 37] (by decide +kernel) (by decide +kernel)
set_option maxRecDepth 20000 in
theorem gX4_longest_X4_buckets : GoodIn wsX4_longest (wsV RX4 81 RX4 yX4_buckets wsX4_buckets) := goodIn_app (goodIn_of _ (by decide +kernel)) ggX4_longest_X4_buckets
set_option maxRecDepth 20000 in
theorem ggX4_longest_X4_pagesIn : GoodIn wsX4_longest wsX4_pagesIn := goodIn_r _ [15, 16, 17, 18, 19, 20, 21, 22, 23, 24, 25, 26, 27, 28, 29, 30, 31, 32, 33, 34, 35, 36, 37] (by decide +kernel) (by decide +kernel)
set_option maxRecDepth 20000 in
theorem gX4_longest_X4_pagesIn : GoodIn wsX4_longest (wsV RX4 90 RX4 yX4_pagesIn wsX4_pagesIn) := goodIn_app (goodIn_of _ (by decide +kernel)) ggX4_longest_X4_pagesIn
theorem dX4_longest_0 : decode cX4_longest 0 = .ok (.iconst 0, 1) := by decide +kernel
theorem dX4_longest_1 : decode cX4_longest 1 = .ok (.istore_n 1, 1) := by decide +kernel
theorem dX4_longest_2 : decode cX4_longest 2 = .ok (.iconst 0, 1) := by decide +kernel
theorem dX4_longest_3 : decode cX4_longest 3 = .ok (.istore_n 2, 1) := by decide +kernel
theorem dX4_longest_4 : decode cX4_longest 4 = .ok (.iload_n 2, 1) := by decide +kernel
theorem dX4_longest_5 : decode cX4_longest 5 = .ok (.aload_n 0, 1) := by decide +kernel
theorem dX4_longest_6 : decode cX4_longest 6 = .ok (.invokevirtual 81, 3) := by decide +kernel
theorem dX4_longest_9 : decode cX4_longest 9 = .ok (.if_icmp .ge 28, 3) := by decide +kernel
theorem dX4_longest_12 : decode cX4_longest 12 = .ok (.aload_n 0, 1) := by decide +kernel
theorem dX4_longest_13 : decode cX4_longest 13 = .ok (.iload_n 2, 1) := by decide +kernel
theorem dX4_longest_14 : decode cX4_longest 14 = .ok (.invokevirtual 90, 3) := by decide +kernel
theorem dX4_longest_17 : decode cX4_longest 17 = .ok (.iload_n 1, 1) := by decide +kernel
theorem dX4_longest_18 : decode cX4_longest 18 = .ok (.if_icmp .le 11, 3) := by decide +kernel
theorem dX4_longest_21 : decode cX4_longest 21 = .ok (.aload_n 0, 1) := by decide +kernel
theorem dX4_longest_22 : decode cX4_longest 22 = .ok (.iload_n 2, 1) := by decide +kernel
theorem dX4_longest_23 : decode cX4_longest 23 = .ok (.invokevirtual 90, 3) := by decide +kernel
theorem dX4_longest_26 : decode cX4_longest 26 = .ok (.goto 4, 3) := by decide +kernel
theorem dX4_longest_29 : decode cX4_longest 29 = .ok (.iload_n 1, 1) := by decide +kernel
theorem dX4_longest_30 : decode cX4_longest 30 = .ok (.istore_n 1, 1) := by decide +kernel
theorem dX4_longest_31 : decode cX4_longest 31 = .ok (.iinc 2 1, 3) := by decide +kernel
theorem dX4_longest_34 : decode cX4_longest 34 = .ok (.goto (-30), 3) := by decide +kernel
theorem dX4_longest_37 : decode cX4_longest 37 = .ok (.iload_n 1, 1) := by decide +kernel
theorem dX4_longest_38 : decode cX4_longest 38 = .ok (.ireturn, 1) := by decide +kernel
set_option maxRecDepth 20000 in
theorem ggX4_count_X4_buckets : GoodIn wsX4_count wsX4_buckets := goodIn_r _ [14, 3, 15, 16, 17, 13, 18, 2, 34, 35, 36, 37, 38, 39, 40, 41, 42, 43, 44, 45, 46, 47, 48, 49, 50, 51, 52, 53] (by decide +kernel) (by decide +kernel)
set_option maxRecDepth 20000 in
theorem gX4_count_X4_buckets : GoodIn wsX4_count (wsV RX4 81 RX4 yX4_buckets wsX4_buckets) := goodIn_app (goodIn_of _ (by decide +kernel)) ggX4_count_X4_buckets
set_option maxRecDepth 20000 in
theorem ggX4_count_X4_freeOnes : GoodIn wsX4_count wsX4_freeOnes := goodIn_r _ [22, 23, 34, 35, 36, 37, 38, 39, 40, 41, 42, 43, 44, 45, 46, 47, 48, 49, 50, 51, 52, 53] (by decide +kernel) (by decide +kernel)
set_option maxRecDepth 20000 in
theorem gX4_count_X4_freeOnes : GoodIn wsX4_count (wsV RX4 87 RX4 yX4_freeOnes wsX4_freeOnes) := goodIn_app (goodIn_of _ (by decide +kernel)) ggX4_count_X4_freeOnes
set_option maxRecDepth 20000 in
theorem ggX4_count_X4_longest : GoodIn wsX4_count wsX4_longest := goodIn_r _ [27, 10, 11, 12, 13, 14, 3, 15, 16, 17, 18, 2, 28, 29, 30, 31, 32, 33, 34, 35, 36, 37, 38, 39, 40, 41, 42, 43, 44, 45, 46, 47, 48, 49, 50, 51, 52, 53] (by decide +kernel) (by decide +kernel)
set_option maxRecDepth 20000 in
theorem gX4_count_X4_longest : GoodIn wsX4_count (wsV RX4 153 RX4 yX4_longest wsX4_longest) := goodIn_app (goodIn_of _ (by decide +kernel)) ggX4_count_X4_longest
theorem dX4_count_0 : decode cX4_count 0 = .ok (.iload_n 1, 1) := by decide +kernel
theorem dX4_count_1 : decode cX4_count 1 = .ok (.tableswitch 127 0 10 #[59, 64, 69, 74, 79, 84, 94, 99, 112, 117, 122], 59) := by decide +kernel
theorem dX4_count_60 : decode cX4_count 60 = .ok (.aload_n 0, 1) := by decide +kernel
theorem dX4_count_61 : decode cX4_count 61 = .ok (.getfield 52, 3) := by decide +kernel
theorem dX4_count_64 : decode cX4_count 64 = .ok (.ireturn, 1) := by decide +kernel
theorem dX4_count_65 : decode cX4_count 65 = .ok (.aload_n 0, 1) := by decide +kernel
theorem dX4_count_66 : decode cX4_count 66 = .ok (.invokevirtual 81, 3) := by decide +kernel
theorem dX4_count_69 : decode cX4_count 69 = .ok (.ireturn, 1) := by decide +kernel
theorem dX4_count_70 : decode cX4_count 70 = .ok (.aload_n 0, 1) := by decide +kernel
theorem dX4_count_71 : decode cX4_count 71 = .ok (.getfield 45, 3) := by decide +kernel
theorem dX4_count_74 : decode cX4_count 74 = .ok (.ireturn, 1) := by decide +kernel
theorem dX4_count_75 : decode cX4_count 75 = .ok (.aload_n 0, 1) := by decide +kernel
theorem dX4_count_76 : decode cX4_count 76 = .ok (.getfield 49, 3) := by decide +kernel
theorem dX4_count_79 : decode cX4_count 79 = .ok (.ireturn, 1) := by decide +kernel
theorem dX4_count_80 : decode cX4_count 80 = .ok (.aload_n 0, 1) := by decide +kernel
theorem dX4_count_81 : decode cX4_count 81 = .ok (.invokevirtual 87, 3) := by decide +kernel
theorem dX4_count_84 : decode cX4_count 84 = .ok (.ireturn, 1) := by decide +kernel
theorem dX4_count_85 : decode cX4_count 85 = .ok (.aload_n 0, 1) := by decide +kernel
theorem dX4_count_86 : decode cX4_count 86 = .ok (.getfield 105, 3) := by decide +kernel
theorem dX4_count_89 : decode cX4_count 89 = .ok (.aload_n 0, 1) := by decide +kernel
theorem dX4_count_90 : decode cX4_count 90 = .ok (.getfield 122, 3) := by decide +kernel
theorem dX4_count_93 : decode cX4_count 93 = .ok (.isub, 1) := by decide +kernel
theorem dX4_count_94 : decode cX4_count 94 = .ok (.ireturn, 1) := by decide +kernel
theorem dX4_count_95 : decode cX4_count 95 = .ok (.aload_n 0, 1) := by decide +kernel
theorem dX4_count_96 : decode cX4_count 96 = .ok (.getfield 115, 3) := by decide +kernel
theorem dX4_count_99 : decode cX4_count 99 = .ok (.ireturn, 1) := by decide +kernel
theorem dX4_count_100 : decode cX4_count 100 = .ok (.aload_n 0, 1) := by decide +kernel
theorem dX4_count_101 : decode cX4_count 101 = .ok (.getfield 108, 3) := by decide +kernel
theorem dX4_count_104 : decode cX4_count 104 = .ok (.ifCond .eq 7, 3) := by decide +kernel
theorem dX4_count_107 : decode cX4_count 107 = .ok (.iconst 1, 1) := by decide +kernel
theorem dX4_count_108 : decode cX4_count 108 = .ok (.goto 4, 3) := by decide +kernel
theorem dX4_count_111 : decode cX4_count 111 = .ok (.iconst 0, 1) := by decide +kernel
theorem dX4_count_112 : decode cX4_count 112 = .ok (.ireturn, 1) := by decide +kernel
theorem dX4_count_113 : decode cX4_count 113 = .ok (.aload_n 0, 1) := by decide +kernel
theorem dX4_count_114 : decode cX4_count 114 = .ok (.getfield 136, 3) := by decide +kernel
theorem dX4_count_117 : decode cX4_count 117 = .ok (.ireturn, 1) := by decide +kernel
theorem dX4_count_118 : decode cX4_count 118 = .ok (.aload_n 0, 1) := by decide +kernel
theorem dX4_count_119 : decode cX4_count 119 = .ok (.getfield 105, 3) := by decide +kernel
theorem dX4_count_122 : decode cX4_count 122 = .ok (.ireturn, 1) := by decide +kernel
theorem dX4_count_123 : decode cX4_count 123 = .ok (.aload_n 0, 1) := by decide +kernel
theorem dX4_count_124 : decode cX4_count 124 = .ok (.invokevirtual 153, 3) := by decide +kernel
theorem dX4_count_127 : decode cX4_count 127 = .ok (.ireturn, 1) := by decide +kernel
theorem dX4_count_128 : decode cX4_count 128 = .ok (.ldc 126, 2) := by decide +kernel
theorem dX4_count_130 : decode cX4_count 130 = .ok (.ireturn, 1) := by decide +kernel
theorem dJ9_max_7cf53_0 : decode cJ9_max_7cf53 0 = .ok (.iload_n 0, 1) := by decide +kernel
theorem dJ9_max_7cf53_1 : decode cJ9_max_7cf53 1 = .ok (.iload_n 1, 1) := by decide +kernel
theorem dJ9_max_7cf53_2 : decode cJ9_max_7cf53 2 = .ok (.if_icmp .lt 7, 3) := by decide +kernel
theorem dJ9_max_7cf53_5 : decode cJ9_max_7cf53 5 = .ok (.iload_n 0, 1) := by decide +kernel
theorem dJ9_max_7cf53_6 : decode cJ9_max_7cf53 6 = .ok (.goto 4, 3) := by decide +kernel
theorem dJ9_max_7cf53_9 : decode cJ9_max_7cf53 9 = .ok (.iload_n 1, 1) := by decide +kernel
theorem dJ9_max_7cf53_10 : decode cJ9_max_7cf53 10 = .ok (.ireturn, 1) := by decide +kernel
theorem dJ9_min_7cf53_0 : decode cJ9_min_7cf53 0 = .ok (.iload_n 0, 1) := by decide +kernel
theorem dJ9_min_7cf53_1 : decode cJ9_min_7cf53 1 = .ok (.iload_n 1, 1) := by decide +kernel
theorem dJ9_min_7cf53_2 : decode cJ9_min_7cf53 2 = .ok (.if_icmp .gt 7, 3) := by decide +kernel
theorem dJ9_min_7cf53_5 : decode cJ9_min_7cf53 5 = .ok (.iload_n 0, 1) := by decide +kernel
theorem dJ9_min_7cf53_6 : decode cJ9_min_7cf53 6 = .ok (.goto 4, 3) := by decide +kernel
theorem dJ9_min_7cf53_9 : decode cJ9_min_7cf53 9 = .ok (.iload_n 1, 1) := by decide +kernel
theorem dJ9_min_7cf53_10 : decode cJ9_min_7cf53 10 = .ok (.ireturn, 1) := by decide +kernel
theorem dJ7_fill_53178_0 : decode cJ7_fill_53178 0 = .ok (.iconst 0, 1) := by decide +kernel
theorem dJ7_fill_53178_1 : decode cJ7_fill_53178 1 = .ok (.istore_n 2, 1) := by decide +kernel
theorem dJ7_fill_53178_2 : decode cJ7_fill_53178 2 = .ok (.aload_n 0, 1) := by decide +kernel
theorem dJ7_fill_53178_3 : decode cJ7_fill_53178 3 = .ok (.arraylength, 1) := by decide +kernel
theorem dJ7_fill_53178_4 : decode cJ7_fill_53178 4 = .ok (.istore_n 3, 1) := by decide +kernel
theorem dJ7_fill_53178_5 : decode cJ7_fill_53178 5 = .ok (.iload_n 2, 1) := by decide +kernel
theorem dJ7_fill_53178_6 : decode cJ7_fill_53178 6 = .ok (.iload_n 3, 1) := by decide +kernel
theorem dJ7_fill_53178_7 : decode cJ7_fill_53178 7 = .ok (.if_icmp .ge 13, 3) := by decide +kernel
theorem dJ7_fill_53178_10 : decode cJ7_fill_53178 10 = .ok (.aload_n 0, 1) := by decide +kernel
theorem dJ7_fill_53178_11 : decode cJ7_fill_53178 11 = .ok (.iload_n 2, 1) := by decide +kernel
theorem dJ7_fill_53178_12 : decode cJ7_fill_53178 12 = .ok (.iload_n 1, 1) := by decide +kernel
theorem dJ7_fill_53178_13 : decode cJ7_fill_53178 13 = .ok (.iastore, 1) := by decide +kernel
theorem dJ7_fill_53178_14 : decode cJ7_fill_53178 14 = .ok (.iinc 2 1, 3) := by decide +kernel
theorem dJ7_fill_53178_17 : decode cJ7_fill_53178 17 = .ok (.goto (-12), 3) := by decide +kernel
theorem dJ7_fill_53178_20 : decode cJ7_fill_53178 20 = .ok (.return_, 1) := by decide +kernel
end
section
/-! THE G LAYER: one judgement over a world, a list of locals, a stack and a place; every kit row once more over it -/
abbrev GX : Type := Program × Env × State × MethodId × Array Value × List Frame × Method × Code × (Nat → Prop) × (State → Prop)
/-- the one nest word that methods need: Pages calls PageBuckets.isPage -/
def gNw : Cond := .methodLinkNest RX2 61 yX3_isPage RX3
def Cx (x : GX) (D : va_G) (tys : List (ClassId × FieldType)) (cc : ByteArray) (nL : Nat) (Ts : List Cond) (own : String) : Prop :=
  match x with
  | (p, _, s, m, args, _, meth, c, A, _) => p.tables.exec = Jvm.exec ∧ c.code = cc ∧ c.maxLocals = nL ∧ s.vm.findClass own = some m.cls ∧ (∀ w ∈ Ts, w.before args s = true) ∧ va_K D vwCl tys s ∧ (∀ q : Nat, s.heap.size ≤ q → A q) ∧ va_Nw gNw s
def G (x : GX) (l : Launch) (R : Room) (D : va_G) (nL k n : Nat) (ws : va_W) (lv : List (Nat × Value)) (st : List Value) (pc : Nat) : Prop :=
  match x with
  | (p, e, s, m, args, below, meth, c, A, Q) => ∀ (H : Heap) (locs : List Loc) (ls : Array Slot), va_P D vwCl ws H → va_D A ws → va_S A s.heap H locs → lv_has ls nL lv → W p l e R s m args below meth c H locs k n Q (F0 m pc ls st)
theorem g_arr {cA : ClassId} {N : Nat} {f g : Nat → Int32} (h : ∀ j, j < N → f j = g j) : arrV cA N (fun j => .int (f j)) = arrV cA N (fun j => .int (g j)) := by
  have e : (fun j : Fin N => Value.int (f j.val)) = (fun j : Fin N => Value.int (g j.val)) := by
    funext j
    rw [h j.val j.isLt]
  show ({ cls := cA, slots := Array.ofFn (n := N) fun j => Value.int (f j.val), vm := .none } : Cell) = { cls := cA, slots := Array.ofFn (n := N) fun j => Value.int (g j.val), vm := .none }
  rw [e]
section GL
variable {x : GX} {l : Launch} {R : Room} {D : va_G} {tys : List (ClassId × FieldType)} {cc : ByteArray} {nL k n : Nat} {Ts : List Cond} {own : String} {ws ws' : va_W} {lv lv' : List (Nat × Value)} {st rest : List Value} {pc : Nat}

theorem g_iconst (C : Cx x D tys cc nL Ts own) {i : Int} {v : Int32} (hdg : decode cc pc = .ok (.iconst i, 1)) (hv : Int32.ofInt i = v) (kk : G x l R D nL k n ws lv (.int v :: st) (pc + 1)) : G x l R D nL k n ws lv (st) pc := by
  obtain ⟨p, e, s, m, args, below, meth, c, A, Q⟩ := x
  obtain ⟨hx, hb, hml, hown, hts, hK, hA, hNw⟩ := C
  intro H locs ls hP hD hS hl
  exact lv_iconst hx hb hdg hv (kk H locs ls hP hD hS hl)
theorem g_bipush (C : Cx x D tys cc nL Ts own) {i : Int} {v : Int32} (hdg : decode cc pc = .ok (.bipush i, 2)) (hv : (Int8.ofInt i).toInt32 = v) (kk : G x l R D nL k n ws lv (.int v :: st) (pc + 2)) : G x l R D nL k n ws lv (st) pc := by
  obtain ⟨p, e, s, m, args, below, meth, c, A, Q⟩ := x
  obtain ⟨hx, hb, hml, hown, hts, hK, hA, hNw⟩ := C
  intro H locs ls hP hD hS hl
  exact lv_bipush hx hb hdg hv (kk H locs ls hP hD hS hl)
theorem g_sipush (C : Cx x D tys cc nL Ts own) {i : Int} {v : Int32} (hdg : decode cc pc = .ok (.sipush i, 3)) (hv : (Int16.ofInt i).toInt32 = v) (kk : G x l R D nL k n ws lv (.int v :: st) (pc + 3)) : G x l R D nL k n ws lv (st) pc := by
  obtain ⟨p, e, s, m, args, below, meth, c, A, Q⟩ := x
  obtain ⟨hx, hb, hml, hown, hts, hK, hA, hNw⟩ := C
  intro H locs ls hP hD hS hl
  exact lv_sipush hx hb hdg hv (kk H locs ls hP hD hS hl)
theorem g_ldc (C : Cx x D tys cc nL Ts own) {i : Nat} {v : Int32} (hc : Cond.constant own i v ∈ Ts) (hdg : decode cc pc = .ok (.ldc i, 2)) (kk : G x l R D nL k n ws lv (.int v :: st) (pc + 2)) : G x l R D nL k n ws lv (st) pc := by
  obtain ⟨p, e, s, m, args, below, meth, c, A, Q⟩ := x
  obtain ⟨hx, hb, hml, hown, hts, hK, hA, hNw⟩ := C
  intro H locs ls hP hD hS hl
  exact lv_ldc hx hb hown (hts _ hc) hdg (kk H locs ls hP hD hS hl)
theorem g_iload_n (C : Cx x D tys cc nL Ts own) {j : Fin 4} {i : Nat} {v : Int32} (hdg : decode cc pc = .ok (.iload_n j, 1)) (q : Nat) (hi : (j : Nat) = i) (hv : lv[q]? = some (i, .int v)) (kk : G x l R D nL k n ws lv (.int v :: st) (pc + 1)) : G x l R D nL k n ws lv (st) pc := by
  obtain ⟨p, e, s, m, args, below, meth, c, A, Q⟩ := x
  obtain ⟨hx, hb, hml, hown, hts, hK, hA, hNw⟩ := C
  intro H locs ls hP hD hS hl
  exact lv_iload_n hx hb hdg hi (lv_at hl q hv) (kk H locs ls hP hD hS hl)
theorem g_iload (C : Cx x D tys cc nL Ts own) {i : Nat} {v : Int32} (hdg : decode cc pc = .ok (.iload i, 2)) (q : Nat) (hv : lv[q]? = some (i, .int v)) (kk : G x l R D nL k n ws lv (.int v :: st) (pc + 2)) : G x l R D nL k n ws lv (st) pc := by
  obtain ⟨p, e, s, m, args, below, meth, c, A, Q⟩ := x
  obtain ⟨hx, hb, hml, hown, hts, hK, hA, hNw⟩ := C
  intro H locs ls hP hD hS hl
  exact lv_iload hx hb hdg (lv_at hl q hv) (kk H locs ls hP hD hS hl)
theorem g_aload_n (C : Cx x D tys cc nL Ts own) {j : Fin 4} {i : Nat} {v : Nat} (hdg : decode cc pc = .ok (.aload_n j, 1)) (q : Nat) (hi : (j : Nat) = i) (hv : lv[q]? = some (i, .ref v)) (kk : G x l R D nL k n ws lv (.ref v :: st) (pc + 1)) : G x l R D nL k n ws lv (st) pc := by
  obtain ⟨p, e, s, m, args, below, meth, c, A, Q⟩ := x
  obtain ⟨hx, hb, hml, hown, hts, hK, hA, hNw⟩ := C
  intro H locs ls hP hD hS hl
  exact lv_aload_n hx hb hdg hi (lv_at hl q hv) (kk H locs ls hP hD hS hl)
theorem g_aload (C : Cx x D tys cc nL Ts own) {i : Nat} {v : Nat} (hdg : decode cc pc = .ok (.aload i, 2)) (q : Nat) (hv : lv[q]? = some (i, .ref v)) (kk : G x l R D nL k n ws lv (.ref v :: st) (pc + 2)) : G x l R D nL k n ws lv (st) pc := by
  obtain ⟨p, e, s, m, args, below, meth, c, A, Q⟩ := x
  obtain ⟨hx, hb, hml, hown, hts, hK, hA, hNw⟩ := C
  intro H locs ls hP hD hS hl
  exact lv_aload hx hb hdg (lv_at hl q hv) (kk H locs ls hP hD hS hl)
theorem g_istore_n (C : Cx x D tys cc nL Ts own) {j : Fin 4} {i : Nat} {v : Int32} (hdg : decode cc pc = .ok (.istore_n j, 1)) (hi : (j : Nat) = i) (hn : i < nL) (hlv : (i, Value.int v) :: lv.filter (fun q => !(q.1 == i) && !(q.1 + 1 == i && q.2.category == 2)) = lv') (kk : G x l R D nL k n ws lv' (st) (pc + 1)) : G x l R D nL k n ws lv (.int v :: st) pc := by
  obtain ⟨p, e, s, m, args, below, meth, c, A, Q⟩ := x
  obtain ⟨hx, hb, hml, hown, hts, hK, hA, hNw⟩ := C
  intro H locs ls hP hD hS hl
  exact lv_istore_n hx hb hdg hi hl hn hlv (fun ls hl => (kk H locs ls hP hD hS hl))
theorem g_istore (C : Cx x D tys cc nL Ts own) {i : Nat} {v : Int32} (hdg : decode cc pc = .ok (.istore i, 2)) (hn : i < nL) (hlv : (i, Value.int v) :: lv.filter (fun q => !(q.1 == i) && !(q.1 + 1 == i && q.2.category == 2)) = lv') (kk : G x l R D nL k n ws lv' (st) (pc + 2)) : G x l R D nL k n ws lv (.int v :: st) pc := by
  obtain ⟨p, e, s, m, args, below, meth, c, A, Q⟩ := x
  obtain ⟨hx, hb, hml, hown, hts, hK, hA, hNw⟩ := C
  intro H locs ls hP hD hS hl
  exact lv_istore hx hb hdg hl hn hlv (fun ls hl => (kk H locs ls hP hD hS hl))
theorem g_astore_n (C : Cx x D tys cc nL Ts own) {j : Fin 4} {i : Nat} {v : Nat} (hdg : decode cc pc = .ok (.astore_n j, 1)) (hi : (j : Nat) = i) (hn : i < nL) (hlv : (i, Value.ref v) :: lv.filter (fun q => !(q.1 == i) && !(q.1 + 1 == i && q.2.category == 2)) = lv') (kk : G x l R D nL k n ws lv' (st) (pc + 1)) : G x l R D nL k n ws lv (.ref v :: st) pc := by
  obtain ⟨p, e, s, m, args, below, meth, c, A, Q⟩ := x
  obtain ⟨hx, hb, hml, hown, hts, hK, hA, hNw⟩ := C
  intro H locs ls hP hD hS hl
  exact lv_astore_n hx hb hdg hi hl hn hlv (fun ls hl => (kk H locs ls hP hD hS hl))
theorem g_astore (C : Cx x D tys cc nL Ts own) {i : Nat} {v : Nat} (hdg : decode cc pc = .ok (.astore i, 2)) (hn : i < nL) (hlv : (i, Value.ref v) :: lv.filter (fun q => !(q.1 == i) && !(q.1 + 1 == i && q.2.category == 2)) = lv') (kk : G x l R D nL k n ws lv' (st) (pc + 2)) : G x l R D nL k n ws lv (.ref v :: st) pc := by
  obtain ⟨p, e, s, m, args, below, meth, c, A, Q⟩ := x
  obtain ⟨hx, hb, hml, hown, hts, hK, hA, hNw⟩ := C
  intro H locs ls hP hD hS hl
  exact lv_astore hx hb hdg hl hn hlv (fun ls hl => (kk H locs ls hP hD hS hl))
theorem g_iinc (C : Cx x D tys cc nL Ts own) {i q : Nat} {j : Int} {v u : Int32} (hdg : decode cc pc = .ok (.iinc i j, 3)) (hk : lv[q]? = some (i, .int u)) (hv : u + Int32.ofInt j = v) (hn : i < nL) (hlv : (i, Value.int v) :: lv.filter (fun q => !(q.1 == i) && !(q.1 + 1 == i && q.2.category == 2)) = lv') (kk : G x l R D nL k n ws lv' (st) (pc + 3)) : G x l R D nL k n ws lv (st) pc := by
  obtain ⟨p, e, s, m, args, below, meth, c, A, Q⟩ := x
  obtain ⟨hx, hb, hml, hown, hts, hK, hA, hNw⟩ := C
  intro H locs ls hP hD hS hl
  exact lv_iinc hx hb hdg hl hk hv hn hlv (fun ls hl => (kk H locs ls hP hD hS hl))
theorem g_iadd (C : Cx x D tys cc nL Ts own) {a b : Int32} (hdg : decode cc pc = .ok (.iadd, 1)) (kk : G x l R D nL k n ws lv (.int (a + b) :: st) (pc + 1)) : G x l R D nL k n ws lv (.int b :: .int a :: st) pc := by
  obtain ⟨p, e, s, m, args, below, meth, c, A, Q⟩ := x
  obtain ⟨hx, hb, hml, hown, hts, hK, hA, hNw⟩ := C
  intro H locs ls hP hD hS hl
  exact lv_iadd hx hb hdg (kk H locs ls hP hD hS hl)
theorem g_isub (C : Cx x D tys cc nL Ts own) {a b : Int32} (hdg : decode cc pc = .ok (.isub, 1)) (kk : G x l R D nL k n ws lv (.int (a - b) :: st) (pc + 1)) : G x l R D nL k n ws lv (.int b :: .int a :: st) pc := by
  obtain ⟨p, e, s, m, args, below, meth, c, A, Q⟩ := x
  obtain ⟨hx, hb, hml, hown, hts, hK, hA, hNw⟩ := C
  intro H locs ls hP hD hS hl
  exact lv_isub hx hb hdg (kk H locs ls hP hD hS hl)
theorem g_imul (C : Cx x D tys cc nL Ts own) {a b : Int32} (hdg : decode cc pc = .ok (.imul, 1)) (kk : G x l R D nL k n ws lv (.int (a * b) :: st) (pc + 1)) : G x l R D nL k n ws lv (.int b :: .int a :: st) pc := by
  obtain ⟨p, e, s, m, args, below, meth, c, A, Q⟩ := x
  obtain ⟨hx, hb, hml, hown, hts, hK, hA, hNw⟩ := C
  intro H locs ls hP hD hS hl
  exact lv_imul hx hb hdg (kk H locs ls hP hD hS hl)
theorem g_iand (C : Cx x D tys cc nL Ts own) {a b : Int32} (hdg : decode cc pc = .ok (.iand, 1)) (kk : G x l R D nL k n ws lv (.int (a &&& b) :: st) (pc + 1)) : G x l R D nL k n ws lv (.int b :: .int a :: st) pc := by
  obtain ⟨p, e, s, m, args, below, meth, c, A, Q⟩ := x
  obtain ⟨hx, hb, hml, hown, hts, hK, hA, hNw⟩ := C
  intro H locs ls hP hD hS hl
  exact lv_iand hx hb hdg (kk H locs ls hP hD hS hl)
theorem g_ixor (C : Cx x D tys cc nL Ts own) {a b : Int32} (hdg : decode cc pc = .ok (.ixor, 1)) (kk : G x l R D nL k n ws lv (.int (a ^^^ b) :: st) (pc + 1)) : G x l R D nL k n ws lv (.int b :: .int a :: st) pc := by
  obtain ⟨p, e, s, m, args, below, meth, c, A, Q⟩ := x
  obtain ⟨hx, hb, hml, hown, hts, hK, hA, hNw⟩ := C
  intro H locs ls hP hD hS hl
  exact lv_ixor hx hb hdg (kk H locs ls hP hD hS hl)
theorem g_idiv (C : Cx x D tys cc nL Ts own) {a b : Int32} (hdg : decode cc pc = .ok (.idiv, 1)) (hne : ¬ b = 0) (kk : G x l R D nL k n ws lv (.int (a / b) :: st) (pc + 1)) : G x l R D nL k n ws lv (.int b :: .int a :: st) pc := by
  obtain ⟨p, e, s, m, args, below, meth, c, A, Q⟩ := x
  obtain ⟨hx, hb, hml, hown, hts, hK, hA, hNw⟩ := C
  intro H locs ls hP hD hS hl
  exact lv_idiv hx hb hdg hne (kk H locs ls hP hD hS hl)
theorem g_ishl (C : Cx x D tys cc nL Ts own) {a b : Int32} (hdg : decode cc pc = .ok (.ishl, 1)) (kk : G x l R D nL k n ws lv (.int (a <<< (b &&& 31)) :: st) (pc + 1)) : G x l R D nL k n ws lv (.int b :: .int a :: st) pc := by
  obtain ⟨p, e, s, m, args, below, meth, c, A, Q⟩ := x
  obtain ⟨hx, hb, hml, hown, hts, hK, hA, hNw⟩ := C
  intro H locs ls hP hD hS hl
  exact lv_ishl hx hb hdg (kk H locs ls hP hD hS hl)
theorem g_iushr (C : Cx x D tys cc nL Ts own) {a b : Int32} (hdg : decode cc pc = .ok (.iushr, 1)) (kk : G x l R D nL k n ws lv (.int ((a.toUInt32 >>> (b.toUInt32 &&& Int32.toUInt32 31)).toInt32) :: st) (pc + 1)) : G x l R D nL k n ws lv (.int b :: .int a :: st) pc := by
  obtain ⟨p, e, s, m, args, below, meth, c, A, Q⟩ := x
  obtain ⟨hx, hb, hml, hown, hts, hK, hA, hNw⟩ := C
  intro H locs ls hP hD hS hl
  exact lv_iushr hx hb hdg rfl (kk H locs ls hP hD hS hl)
theorem g_dup (C : Cx x D tys cc nL Ts own) {v : Value} (hdg : decode cc pc = .ok (.dup, 1)) (hv : v.category = 1) (kk : G x l R D nL k n ws lv (v :: v :: st) (pc + 1)) : G x l R D nL k n ws lv (v :: st) pc := by
  obtain ⟨p, e, s, m, args, below, meth, c, A, Q⟩ := x
  obtain ⟨hx, hb, hml, hown, hts, hK, hA, hNw⟩ := C
  intro H locs ls hP hD hS hl
  exact lv_dup hx hb hdg hv (kk H locs ls hP hD hS hl)
theorem g_dup2 (C : Cx x D tys cc nL Ts own) {v u : Value} (hdg : decode cc pc = .ok (.dup2, 1)) (hv : v.category = 1) (hu : u.category = 1) (kk : G x l R D nL k n ws lv (v :: u :: v :: u :: st) (pc + 1)) : G x l R D nL k n ws lv (v :: u :: st) pc := by
  obtain ⟨p, e, s, m, args, below, meth, c, A, Q⟩ := x
  obtain ⟨hx, hb, hml, hown, hts, hK, hA, hNw⟩ := C
  intro H locs ls hP hD hS hl
  exact lv_dup2_11 hx hb hdg hv hu (kk H locs ls hP hD hS hl)
theorem g_goto (C : Cx x D tys cc nL Ts own) {off : Int} {tgt : Nat} (hdg : decode cc pc = .ok (.goto off, 3)) (ht : (pc : Int) + off = (tgt : Int)) (kk : G x l R D nL k n ws lv st tgt) : G x l R D nL k n ws lv st pc := by
  obtain ⟨p, e, s, m, args, below, meth, c, A, Q⟩ := x
  obtain ⟨hx, hb, hml, hown, hts, hK, hA, hNw⟩ := C
  intro H locs ls hP hD hS hl
  exact lv_goto hx hb hdg ht (kk H locs ls hP hD hS hl)
theorem g_icmp_eq (C : Cx x D tys cc nL Ts own) {a b : Int32} {off : Int} {tgt : Nat} (hdg : decode cc pc = .ok (.if_icmp .eq off, 3)) (ht : (pc : Int) + off = (tgt : Int)) (kt : a = b → G x l R D nL k n ws lv st tgt) (kf : ¬ a = b → G x l R D nL k n ws lv st (pc + 3)) : G x l R D nL k n ws lv (.int b :: .int a :: st) pc := by
  obtain ⟨p, e, s, m, args, below, meth, c, A, Q⟩ := x
  obtain ⟨hx, hb, hml, hown, hts, hK, hA, hNw⟩ := C
  intro H locs ls hP hD hS hl
  exact lv_icmp_eq hx hb hdg ht (fun h => kt h H locs ls hP hD hS hl) (fun h => kf h H locs ls hP hD hS hl)
theorem g_if_eq (C : Cx x D tys cc nL Ts own) {a : Int32} {off : Int} {tgt : Nat} (hdg : decode cc pc = .ok (.ifCond .eq off, 3)) (ht : (pc : Int) + off = (tgt : Int)) (kt : a = 0 → G x l R D nL k n ws lv st tgt) (kf : ¬ a = 0 → G x l R D nL k n ws lv st (pc + 3)) : G x l R D nL k n ws lv (.int a :: st) pc := by
  obtain ⟨p, e, s, m, args, below, meth, c, A, Q⟩ := x
  obtain ⟨hx, hb, hml, hown, hts, hK, hA, hNw⟩ := C
  intro H locs ls hP hD hS hl
  exact lv_if_eq hx hb hdg ht (fun h => kt h H locs ls hP hD hS hl) (fun h => kf h H locs ls hP hD hS hl)
theorem g_icmp_ne (C : Cx x D tys cc nL Ts own) {a b : Int32} {off : Int} {tgt : Nat} (hdg : decode cc pc = .ok (.if_icmp .ne off, 3)) (ht : (pc : Int) + off = (tgt : Int)) (kt : ¬ a = b → G x l R D nL k n ws lv st tgt) (kf : a = b → G x l R D nL k n ws lv st (pc + 3)) : G x l R D nL k n ws lv (.int b :: .int a :: st) pc := by
  obtain ⟨p, e, s, m, args, below, meth, c, A, Q⟩ := x
  obtain ⟨hx, hb, hml, hown, hts, hK, hA, hNw⟩ := C
  intro H locs ls hP hD hS hl
  exact lv_icmp_ne hx hb hdg ht (fun h => kt h H locs ls hP hD hS hl) (fun h => kf h H locs ls hP hD hS hl)
theorem g_if_ne (C : Cx x D tys cc nL Ts own) {a : Int32} {off : Int} {tgt : Nat} (hdg : decode cc pc = .ok (.ifCond .ne off, 3)) (ht : (pc : Int) + off = (tgt : Int)) (kt : ¬ a = 0 → G x l R D nL k n ws lv st tgt) (kf : a = 0 → G x l R D nL k n ws lv st (pc + 3)) : G x l R D nL k n ws lv (.int a :: st) pc := by
  obtain ⟨p, e, s, m, args, below, meth, c, A, Q⟩ := x
  obtain ⟨hx, hb, hml, hown, hts, hK, hA, hNw⟩ := C
  intro H locs ls hP hD hS hl
  exact lv_if_ne hx hb hdg ht (fun h => kt h H locs ls hP hD hS hl) (fun h => kf h H locs ls hP hD hS hl)
theorem g_icmp_lt (C : Cx x D tys cc nL Ts own) {a b : Int32} {off : Int} {tgt : Nat} (hdg : decode cc pc = .ok (.if_icmp .lt off, 3)) (ht : (pc : Int) + off = (tgt : Int)) (kt : a < b → G x l R D nL k n ws lv st tgt) (kf : ¬ a < b → G x l R D nL k n ws lv st (pc + 3)) : G x l R D nL k n ws lv (.int b :: .int a :: st) pc := by
  obtain ⟨p, e, s, m, args, below, meth, c, A, Q⟩ := x
  obtain ⟨hx, hb, hml, hown, hts, hK, hA, hNw⟩ := C
  intro H locs ls hP hD hS hl
  exact lv_icmp_lt hx hb hdg ht (fun h => kt h H locs ls hP hD hS hl) (fun h => kf h H locs ls hP hD hS hl)
theorem g_if_lt (C : Cx x D tys cc nL Ts own) {a : Int32} {off : Int} {tgt : Nat} (hdg : decode cc pc = .ok (.ifCond .lt off, 3)) (ht : (pc : Int) + off = (tgt : Int)) (kt : a < 0 → G x l R D nL k n ws lv st tgt) (kf : ¬ a < 0 → G x l R D nL k n ws lv st (pc + 3)) : G x l R D nL k n ws lv (.int a :: st) pc := by
  obtain ⟨p, e, s, m, args, below, meth, c, A, Q⟩ := x
  obtain ⟨hx, hb, hml, hown, hts, hK, hA, hNw⟩ := C
  intro H locs ls hP hD hS hl
  exact lv_if_lt hx hb hdg ht (fun h => kt h H locs ls hP hD hS hl) (fun h => kf h H locs ls hP hD hS hl)
theorem g_icmp_ge (C : Cx x D tys cc nL Ts own) {a b : Int32} {off : Int} {tgt : Nat} (hdg : decode cc pc = .ok (.if_icmp .ge off, 3)) (ht : (pc : Int) + off = (tgt : Int)) (kt : b ≤ a → G x l R D nL k n ws lv st tgt) (kf : ¬ b ≤ a → G x l R D nL k n ws lv st (pc + 3)) : G x l R D nL k n ws lv (.int b :: .int a :: st) pc := by
  obtain ⟨p, e, s, m, args, below, meth, c, A, Q⟩ := x
  obtain ⟨hx, hb, hml, hown, hts, hK, hA, hNw⟩ := C
  intro H locs ls hP hD hS hl
  exact lv_icmp_ge hx hb hdg ht (fun h => kt h H locs ls hP hD hS hl) (fun h => kf h H locs ls hP hD hS hl)
theorem g_if_ge (C : Cx x D tys cc nL Ts own) {a : Int32} {off : Int} {tgt : Nat} (hdg : decode cc pc = .ok (.ifCond .ge off, 3)) (ht : (pc : Int) + off = (tgt : Int)) (kt : 0 ≤ a → G x l R D nL k n ws lv st tgt) (kf : ¬ 0 ≤ a → G x l R D nL k n ws lv st (pc + 3)) : G x l R D nL k n ws lv (.int a :: st) pc := by
  obtain ⟨p, e, s, m, args, below, meth, c, A, Q⟩ := x
  obtain ⟨hx, hb, hml, hown, hts, hK, hA, hNw⟩ := C
  intro H locs ls hP hD hS hl
  exact lv_if_ge hx hb hdg ht (fun h => kt h H locs ls hP hD hS hl) (fun h => kf h H locs ls hP hD hS hl)
theorem g_icmp_gt (C : Cx x D tys cc nL Ts own) {a b : Int32} {off : Int} {tgt : Nat} (hdg : decode cc pc = .ok (.if_icmp .gt off, 3)) (ht : (pc : Int) + off = (tgt : Int)) (kt : b < a → G x l R D nL k n ws lv st tgt) (kf : ¬ b < a → G x l R D nL k n ws lv st (pc + 3)) : G x l R D nL k n ws lv (.int b :: .int a :: st) pc := by
  obtain ⟨p, e, s, m, args, below, meth, c, A, Q⟩ := x
  obtain ⟨hx, hb, hml, hown, hts, hK, hA, hNw⟩ := C
  intro H locs ls hP hD hS hl
  exact lv_icmp_gt hx hb hdg ht (fun h => kt h H locs ls hP hD hS hl) (fun h => kf h H locs ls hP hD hS hl)
theorem g_if_gt (C : Cx x D tys cc nL Ts own) {a : Int32} {off : Int} {tgt : Nat} (hdg : decode cc pc = .ok (.ifCond .gt off, 3)) (ht : (pc : Int) + off = (tgt : Int)) (kt : 0 < a → G x l R D nL k n ws lv st tgt) (kf : ¬ 0 < a → G x l R D nL k n ws lv st (pc + 3)) : G x l R D nL k n ws lv (.int a :: st) pc := by
  obtain ⟨p, e, s, m, args, below, meth, c, A, Q⟩ := x
  obtain ⟨hx, hb, hml, hown, hts, hK, hA, hNw⟩ := C
  intro H locs ls hP hD hS hl
  exact lv_if_gt hx hb hdg ht (fun h => kt h H locs ls hP hD hS hl) (fun h => kf h H locs ls hP hD hS hl)
theorem g_icmp_le (C : Cx x D tys cc nL Ts own) {a b : Int32} {off : Int} {tgt : Nat} (hdg : decode cc pc = .ok (.if_icmp .le off, 3)) (ht : (pc : Int) + off = (tgt : Int)) (kt : a ≤ b → G x l R D nL k n ws lv st tgt) (kf : ¬ a ≤ b → G x l R D nL k n ws lv st (pc + 3)) : G x l R D nL k n ws lv (.int b :: .int a :: st) pc := by
  obtain ⟨p, e, s, m, args, below, meth, c, A, Q⟩ := x
  obtain ⟨hx, hb, hml, hown, hts, hK, hA, hNw⟩ := C
  intro H locs ls hP hD hS hl
  exact lv_icmp_le hx hb hdg ht (fun h => kt h H locs ls hP hD hS hl) (fun h => kf h H locs ls hP hD hS hl)
theorem g_if_le (C : Cx x D tys cc nL Ts own) {a : Int32} {off : Int} {tgt : Nat} (hdg : decode cc pc = .ok (.ifCond .le off, 3)) (ht : (pc : Int) + off = (tgt : Int)) (kt : a ≤ 0 → G x l R D nL k n ws lv st tgt) (kf : ¬ a ≤ 0 → G x l R D nL k n ws lv st (pc + 3)) : G x l R D nL k n ws lv (.int a :: st) pc := by
  obtain ⟨p, e, s, m, args, below, meth, c, A, Q⟩ := x
  obtain ⟨hx, hb, hml, hown, hts, hK, hA, hNw⟩ := C
  intro H locs ls hP hD hS hl
  exact lv_if_le hx hb hdg ht (fun h => kt h H locs ls hP hD hS hl) (fun h => kf h H locs ls hP hD hS hl)
/-- the top of the stack in other words -/
theorem g_top {a b : Int32} (h : a = b) (kk : G x l R D nL k n ws lv (.int b :: st) pc) : G x l R D nL k n ws lv (.int a :: st) pc := by rw [h]; exact kk
/-- the locals, some of them, in another order -/
theorem g_lv (ks : List Nat) (h : lv_pick lv ks = lv') (kk : G x l R D nL k n ws lv' st pc) : G x l R D nL k n ws lv st pc := by
  obtain ⟨p, e, s, m, args, below, meth, c, A, Q⟩ := x
  intro H locs ls hP hD hS hl
  exact kk H locs ls hP hD hS (lv_sub hl ks h)
/-- the world, cells of it, in another order -/
theorem g_ws (is : List Nat) (hn : va_nd is = true) (h : is.map (fun i => ws[i]?) = ws'.map some) (kk : G x l R D nL k n ws' lv st pc) : G x l R D nL k n ws lv st pc := by
  obtain ⟨p, e, s, m, args, below, meth, c, A, Q⟩ := x
  intro H locs ls hP hD hS hl
  refine kk H locs ls ?_ (hD.sub is hn h) hS hl
  intro i q hq
  have h1 : (is.map (fun i => ws[i]?))[i]? = some (some q) := by rw [h, List.getElem?_map, hq]; rfl
  rw [List.getElem?_map] at h1
  cases hi : is[i]? with
  | none => rw [hi] at h1; cases h1
  | some j => rw [hi] at h1; exact hP j q (Option.some.inj h1)
/-- another picture of the same cells: int arrays that agree within their lengths -/
theorem g_same (hw : ∀ H : Heap, va_P D vwCl ws H → va_P D vwCl ws' H) (hd : ws.map Prod.fst = ws'.map Prod.fst) (kk : G x l R D nL k n ws' lv st pc) : G x l R D nL k n ws lv st pc := by
  obtain ⟨p, e, s, m, args, below, meth, c, A, Q⟩ := x
  intro H locs ls hP hD hS hl
  refine kk H locs ls (hw H hP) ?_ hS hl
  have key : ∀ (i : Nat) (q : Nat × va_E), ws'[i]? = some q → ∃ q0, ws[i]? = some q0 ∧ q0.1 = q.1 := by
    intro i q hq
    have h1 : (ws'.map Prod.fst)[i]? = some q.1 := by rw [List.getElem?_map, hq]; rfl
    rw [← hd, List.getElem?_map] at h1
    cases hi : ws[i]? with
    | none => rw [hi] at h1; cases h1
    | some q0 => rw [hi] at h1; exact ⟨q0, rfl, Option.some.inj h1⟩
  refine ⟨fun i j a b ha hb hab => ?_, fun i q hq => ?_⟩
  · obtain ⟨a0, h1, h2⟩ := key i a ha
    obtain ⟨b0, h3, h4⟩ := key j b hb
    exact hD.1 i j a0 b0 h1 h3 (h2.trans (hab.trans h4.symm))
  · obtain ⟨q0, h1, h2⟩ := key i q hq
    rw [← h2]; exact hD.2 i q0 h1
theorem g_get (C : Cx x D tys cc nL Ts own) (q0 : Nat) {a ci : Nat} {fs : List Value} {Cn : String} {T : u_T} {N index f : Nat} {v : Value} (hdg : decode cc pc = .ok (.getfield index, 3)) (he : ws[q0]? = some (a, .inr (ci, fs))) (hc : vwCl[ci]? = some (Cn, T, N)) (hin : ∀ w ∈ u_ws Cn T N, w ∈ Ts) (hk : f < N) (hlink : Cond.fieldLink own index (T f).1 (T f).2.1 (T f).2.2.1 ∈ Ts) (hv : fs[f]? = some v) (kk : G x l R D nL k n ws lv (v :: st) (pc + 3)) : G x l R D nL k n ws lv (.ref a :: st) pc := by
  obtain ⟨p, e, s, m, args, below, meth, c, A, Q⟩ := x
  obtain ⟨hx, hb, hml, hown, hts, hK, hA, hNw⟩ := C
  intro H locs ls hP hD hS hl
  exact va_get hx hb hts hin hown hK hP q0 he hc f hk (hts _ hlink) (fun _ h => h) hv hdg (kk H locs ls hP hD hS hl)
theorem g_put (C : Cx x D tys cc nL Ts own) (q0 : Nat) {a ci : Nat} {fs : List Value} {Cn : String} {T : u_T} {N index f : Nat} {v : Value} {ty : FieldType} (hdg : decode cc pc = .ok (.putfield index, 3)) (he : ws[q0]? = some (a, .inr (ci, fs))) (hc : vwCl[ci]? = some (Cn, T, N)) (hin : ∀ w ∈ u_ws Cn T N, w ∈ Ts) (ty0 : Nat → FieldType) (hty : ∀ k, k < N → parseFieldDescriptor (T k).2.2.1 = some (ty0 k)) (hnm : ∀ a, a < N → ∀ b, b < N → a ≠ b → (T a).2.1 ≠ (T b).2.1) (hk : f < N) (hlink : Cond.fieldLink own index (T f).1 (T f).2.1 (T f).2.2.1 ∈ Ts) (hfin : (T f).2.2.2 = false) (htf : ty0 f = ty) (hn : narrow ty v = v) (hfit : fits ty v = true) (hl0 : f < fs.length) (hs : ws.set q0 (a, .inr (ci, fs.set f v)) = ws') (kk : G x l R D nL k n ws' lv st (pc + 3)) : G x l R D nL k n ws lv (v :: .ref a :: st) pc := by
  obtain ⟨p, e, s, m, args, below, meth, c, A, Q⟩ := x
  obtain ⟨hx, hb, hml, hown, hts, hK, hA, hNw⟩ := C
  intro H locs ls hP hD hS hl
  refine va_put hx hb hts hin ty0 hty hnm hown hK hP hD hS q0 he hc f hk (hts _ hlink) (fun _ h => h) hfin ((hty f hk).trans (congrArg some htf)) hn hfit hl0 hdg (fun H1 locs1 h1 h2 h3 => ?_)
  rw [hs] at h1 h2
  exact kk H1 locs1 ls h1 h2 h3 hl
theorem g_iald (C : Cx x D tys cc nL Ts own) (q0 t0 : Nat) {a N : Nat} {cA : ClassId} {f : Nat → Int32} {i : Int32} (j : Nat) (hdg : decode cc pc = .ok (.iaload, 1)) (ha : ws[q0]? = some (a, .inl (cA, N, .inl f))) (ht : tys[t0]? = some (cA, .int)) (hN : N < 2 ^ 31) (hi : i = nI j) (hj : j < N) (kk : G x l R D nL k n ws lv (.int (f j) :: st) (pc + 1)) : G x l R D nL k n ws lv (.int i :: .ref a :: st) pc := by
  obtain ⟨p, e, s, m, args, below, meth, c, A, Q⟩ := x
  obtain ⟨hx, hb, hml, hown, hts, hK, hA, hNw⟩ := C
  intro H locs ls hP hD hS hl
  subst hi
  refine va_iald hx hb hK hP q0 t0 ha ht (vp_in_nI hj hN) hdg ?_
  rw [nI_clamp (Nat.lt_trans hj hN)]
  exact kk H locs ls hP hD hS hl
theorem g_zald (C : Cx x D tys cc nL Ts own) (q0 t0 : Nat) {a N : Nat} {cA : ClassId} {f : Nat → Int32} {i : Int32} (j : Nat) (hdg : decode cc pc = .ok (.baload, 1)) (ha : ws[q0]? = some (a, .inl (cA, N, .inl f))) (ht : tys[t0]? = some (cA, .boolean)) (hN : N < 2 ^ 31) (hi : i = nI j) (hj : j < N) (kk : G x l R D nL k n ws lv (.int (f j) :: st) (pc + 1)) : G x l R D nL k n ws lv (.int i :: .ref a :: st) pc := by
  obtain ⟨p, e, s, m, args, below, meth, c, A, Q⟩ := x
  obtain ⟨hx, hb, hml, hown, hts, hK, hA, hNw⟩ := C
  intro H locs ls hP hD hS hl
  subst hi
  refine va_zald hx hb hK hP q0 t0 ha ht (vp_in_nI hj hN) hdg ?_
  rw [nI_clamp (Nat.lt_trans hj hN)]
  exact kk H locs ls hP hD hS hl
theorem g_iast (C : Cx x D tys cc nL Ts own) (q0 t0 : Nat) {a N : Nat} {cA : ClassId} {f : Nat → Int32} {i v : Int32} (j : Nat) (hdg : decode cc pc = .ok (.iastore, 1)) (ha : ws[q0]? = some (a, .inl (cA, N, .inl f))) (ht : tys[t0]? = some (cA, .int)) (hN : N < 2 ^ 31) (hi : i = nI j) (hj : j < N) (hs : ws.set q0 (a, .inl (cA, N, .inl (upd f j v))) = ws') (kk : G x l R D nL k n ws' lv st (pc + 1)) : G x l R D nL k n ws lv (.int v :: .int i :: .ref a :: st) pc := by
  obtain ⟨p, e, s, m, args, below, meth, c, A, Q⟩ := x
  obtain ⟨hx, hb, hml, hown, hts, hK, hA, hNw⟩ := C
  intro H locs ls hP hD hS hl
  subst hi
  refine va_iast hx hb hK hP hD hS q0 t0 ha ht (vp_in_nI hj hN) hdg (fun H1 locs1 h1 h2 h3 => ?_)
  rw [nI_clamp (Nat.lt_trans hj hN), hs] at h1 h2
  exact kk H1 locs1 ls h1 h2 h3 hl
theorem g_zast (C : Cx x D tys cc nL Ts own) (q0 t0 : Nat) {a N : Nat} {cA : ClassId} {f : Nat → Int32} {i v : Int32} (j : Nat) (hdg : decode cc pc = .ok (.bastore, 1)) (ha : ws[q0]? = some (a, .inl (cA, N, .inl f))) (ht : tys[t0]? = some (cA, .boolean)) (hN : N < 2 ^ 31) (hi : i = nI j) (hj : j < N) (hv : vp_nar .boolean v = v) (hs : ws.set q0 (a, .inl (cA, N, .inl (upd f j v))) = ws') (kk : G x l R D nL k n ws' lv st (pc + 1)) : G x l R D nL k n ws lv (.int v :: .int i :: .ref a :: st) pc := by
  obtain ⟨p, e, s, m, args, below, meth, c, A, Q⟩ := x
  obtain ⟨hx, hb, hml, hown, hts, hK, hA, hNw⟩ := C
  intro H locs ls hP hD hS hl
  subst hi
  refine va_zast hx hb hK hP hD hS q0 t0 ha ht (vp_in_nI hj hN) hdg (fun H1 locs1 h1 h2 h3 => ?_)
  rw [nI_clamp (Nat.lt_trans hj hN), hv, hs] at h1 h2
  exact kk H1 locs1 ls h1 h2 h3 hl
theorem g_alen (C : Cx x D tys cc nL Ts own) (q0 t0 : Nat) {a : Nat} {cA : ClassId} {N : Nat} {f : Nat → Int32} {ty : FieldType} (hdg : decode cc pc = .ok (.arraylength, 1)) (ha : ws[q0]? = some (a, .inl (cA, N, .inl f))) (ht : tys[t0]? = some (cA, ty)) (kk : G x l R D nL k n ws lv (.int (nI N) :: st) (pc + 1)) : G x l R D nL k n ws lv (.ref a :: st) pc := by
  obtain ⟨p, e, s, m, args, below, meth, c, A, Q⟩ := x
  obtain ⟨hx, hb, hml, hown, hts, hK, hA, hNw⟩ := C
  intro H locs ls hP hD hS hl
  exact va_alen hx hb hK hP q0 t0 ha ht rfl hdg (kk H locs ls hP hD hS hl)
theorem g_tabIn (C : Cx x D tys cc nL Ts own) {dflt lo hi : Int} {offs : Array Int} {len : Nat} {a : Int32} {off : Int} {tgt : Nat} (hdg : decode cc pc = .ok (.tableswitch dflt lo hi offs, len)) (h1 : ¬ a.toInt < lo) (h2 : ¬ hi < a.toInt) (ho : offs[(a.toInt - lo).toNat]? = some off) (ht : (pc : Int) + off = (tgt : Int)) (kk : G x l R D nL k n ws lv st tgt) : G x l R D nL k n ws lv (.int a :: st) pc := by
  obtain ⟨p, e, s, m, args, below, meth, c, A, Q⟩ := x
  obtain ⟨hx, hb, hml, hown, hts, hK, hA, hNw⟩ := C
  intro H locs ls hP hD hS hl
  exact lv_tableIn hx hb hdg h1 h2 ho ht (kk H locs ls hP hD hS hl)
theorem g_tabOut (C : Cx x D tys cc nL Ts own) {dflt lo hi : Int} {offs : Array Int} {len : Nat} {a : Int32} {tgt : Nat} (hdg : decode cc pc = .ok (.tableswitch dflt lo hi offs, len)) (h : a.toInt < lo ∨ hi < a.toInt) (ht : (pc : Int) + dflt = (tgt : Int)) (kk : G x l R D nL k n ws lv st tgt) : G x l R D nL k n ws lv (.int a :: st) pc := by
  obtain ⟨p, e, s, m, args, below, meth, c, A, Q⟩ := x
  obtain ⟨hx, hb, hml, hown, hts, hK, hA, hNw⟩ := C
  intro H locs ls hP hD hS hl
  exact lv_tableOut hx hb hdg h ht (kk H locs ls hP hD hS hl)
theorem g_max (C : Cx x D tys cc nL Ts own) {a b : Int32} {index : Nat} (hdg : decode cc pc = .ok (.invokestatic index, 3)) (h1 : Cond.methodLink own index Lib.Math.max.name ∈ Ts) (h2 : Cond.static Lib.Math.max.name ∈ Ts) (h3 : Cond.initialized "java/lang/Math" ∈ Ts) (h4 : Cond.code Lib.Math.max.name Lib.Math.max.code 2 (some .int) ∈ Ts) (hf : 1 ≤ R.frames) (hlo : (st.map fun v => v.category).sum + 13 ≤ R.locals) (hc : k ≤ R.cells) (hs : n ≤ R.slots) (kk : G x l R D nL k n ws lv (.int (if a < b then b else a) :: st) (pc + 3)) : G x l R D nL k n ws lv (.int b :: .int a :: st) pc := by
  obtain ⟨p, e, s, m, args, below, meth, c, A, Q⟩ := x
  obtain ⟨hx, hb, hml, hown, hts, hK, hA, hNw⟩ := C
  intro H locs ls hP hD hS hl
  exact va_mmax hx hb (hml.trans hl.1.symm) hown (hts _ h1) (hts _ h2) (hts _ h3) (hts _ h4) hf hlo hc hs hdg (kk H locs ls hP hD hS hl)
theorem g_min (C : Cx x D tys cc nL Ts own) {a b : Int32} {index : Nat} (hdg : decode cc pc = .ok (.invokestatic index, 3)) (h1 : Cond.methodLink own index Lib.Math.min.name ∈ Ts) (h2 : Cond.static Lib.Math.min.name ∈ Ts) (h3 : Cond.initialized "java/lang/Math" ∈ Ts) (h4 : Cond.code Lib.Math.min.name Lib.Math.min.code 2 (some .int) ∈ Ts) (hf : 1 ≤ R.frames) (hlo : (st.map fun v => v.category).sum + 13 ≤ R.locals) (hc : k ≤ R.cells) (hs : n ≤ R.slots) (kk : G x l R D nL k n ws lv (.int (if b < a then b else a) :: st) (pc + 3)) : G x l R D nL k n ws lv (.int b :: .int a :: st) pc := by
  obtain ⟨p, e, s, m, args, below, meth, c, A, Q⟩ := x
  obtain ⟨hx, hb, hml, hown, hts, hK, hA, hNw⟩ := C
  intro H locs ls hP hD hS hl
  exact va_mmin hx hb (hml.trans hl.1.symm) hown (hts _ h1) (hts _ h2) (hts _ h3) (hts _ h4) hf hlo hc hs hdg (kk H locs ls hP hD hS hl)
/-- System.arraycopy of a whole int array over another of the same length -/
theorem g_copy (C : Cx x D tys cc nL Ts own) (q0 q1 t0 : Nat) {a0 a1 : Nat} {cA : ClassId} {N index : Nat} {f g : Nat → Int32} {i : Int32} (hdg : decode cc pc = .ok (.invokestatic index, 3)) (h1 : Cond.methodLink own index arraycopyName ∈ Ts) (h2 : Cond.native arraycopyName ∈ Ts) (h3 : Cond.static arraycopyName ∈ Ts) (h4 : Cond.initialized "java/lang/System" ∈ Ts) (ha0 : ws[q0]? = some (a0, .inl (cA, N, .inl f))) (ha1 : ws[q1]? = some (a1, .inl (cA, N, .inl g))) (ht : tys[t0]? = some (cA, .int)) (hN : N < 2 ^ 31) (hi : i = nI N) (hf : 1 ≤ R.frames) (hlo : (st.map fun v => v.category).sum + (nativeFrameWords "java/lang/System" "arraycopy" 5 + 11) ≤ R.locals) (hs : ws.set q1 (a1, .inl (cA, N, .inl f)) = ws') (kk : G x l R D nL k n ws' lv st (pc + 3)) : G x l R D nL k n ws lv (.int i :: .int 0 :: .ref a1 :: .int 0 :: .ref a0 :: st) pc := by
  obtain ⟨p, e, s, m, args, below, meth, c, A, Q⟩ := x
  obtain ⟨hx, hb, hml, hown, hts, hK, hA, hNw⟩ := C
  intro H locs ls hP hD hS hl
  subst hi
  refine va_copyi hx hb (hml.trans hl.1.symm) hown (hts _ h1) (hts _ h2) (hts _ h3) (hts _ h4) hK hP hD hS q0 q1 t0 t0 ha0 ha1 ht ht rfl (by decide) (by decide) (nI_pos hN) (by rw [nI_clamp hN, sb_cl0]; omega) (by rw [nI_clamp hN, sb_cl0]; omega) (fun _ _ => rfl) hf hlo hdg (fun H1 locs1 h1 h2 h3 => ?_)
  have e : vp_cell cA (N, .inl (va_cpy f g (0 : Int32).toNatClampNeg (0 : Int32).toNatClampNeg (nI N).toNatClampNeg)) = vp_cell cA (N, .inl f) := by
    rw [vp_cell_i, vp_cell_i, nI_clamp hN, sb_cl0]
    exact g_arr (fun j hj => by rw [sb_cpy0 hj])
  have hq1 : q1 < ws.length := (List.getElem?_eq_some_iff.mp ha1).1
  rw [← hs] at kk
  refine kk H1 locs1 ls (fun i q hq => ?_) (hD.set ha1) h3 hl
  by_cases hi : i = q1
  · subst hi
    rw [List.getElem?_set_self hq1] at hq
    cases hq
    have := h1 i _ (List.getElem?_set_self hq1)
    exact this.trans (congrArg some e)
  · rw [List.getElem?_set_ne (Ne.symm hi)] at hq
    exact h1 i q (by rw [List.getElem?_set_ne (Ne.symm hi)]; exact hq)
end GL

/-! contracts over worlds: what a method answers and which world it leaves; nothing is made -/
def mPre (D : va_G) (tys : List (ClassId × FieldType)) (av : List Value) (sz : Nat) (ws : va_W) : Array Value → State → Prop := va_Pc av (fun U => U.heap.size = sz ∧ va_P D vwCl ws U.heap ∧ va_K D vwCl tys U ∧ va_D (fun _ => True) ws ∧ va_Nw gNw U)
def mB (D : va_G) (A : Nat → Prop) (w : va_W) (t : State) : Prop := va_P D vwCl w t.heap ∧ va_D A w
theorem mPre_blind (D : va_G) (tys : List (ClassId × FieldType)) (av : List Value) (sz : Nat) (ws : va_W) : FrameBlind (mPre D tys av sz ws) := fun a U g mk q => by
  obtain ⟨q0, q1, qP, qK, qD, qN⟩ := q
  exact ⟨q0, q1, qP, va_K.moved (u := U) (U := U.calling g mk a) (Vm.Alike.refl U.vm) qK, qD, va_Nw.same (u := U) (U := U.calling g mk a) rfl rfl qN⟩
def MI (l : Launch) (y : MethodName) (w : List Cond) (rm : Room) (D : va_G) (tys : List (ClassId × FieldType)) (av : List Value) (ws : va_W) {S : Type} (post : Int32 → S → Prop) (wn : S → va_W) : Prop :=
  ∀ sz : Nat, Met l y w rm (mPre D tys av sz ws) (va_Qi post (fun u t => mB D (va_A ws sz) (wn u) t) (va_A ws sz)) 0 0 (va_A ws sz)
def MV (l : Launch) (y : MethodName) (w : List Cond) (rm : Room) (D : va_G) (tys : List (ClassId × FieldType)) (av : List Value) (ws : va_W) {S : Type} (post : S → Prop) (wn : S → va_W) : Prop :=
  ∀ sz : Nat, Met l y w rm (mPre D tys av sz ws) (va_Qv post (fun u t => mB D (va_A ws sz) (wn u) t) (va_A ws sz)) 0 0 (va_A ws sz)
/-- the answer and the world behind it, just these -/
abbrev MId (l : Launch) (y : MethodName) (w : List Cond) (rm : Room) (D : va_G) (tys : List (ClassId × FieldType)) (av : List Value) (ws : va_W) (r0 : Int32) (w1 : va_W) : Prop := MI l y w rm D tys av ws (fun r (_ : Unit) => r = r0) (fun _ => w1)
abbrev MVd (l : Launch) (y : MethodName) (w : List Cond) (rm : Room) (D : va_G) (tys : List (ClassId × FieldType)) (av : List Value) (ws : va_W) (w1 : va_W) : Prop := MV l y w rm D tys av ws (fun (_ : Unit) => True) (fun _ => w1)
abbrev rmF (f w : Nat) : Room := { frames := f, cells := 0, slots := 0, locals := w }
section GE
variable {l : Launch} {y : MethodName} {w w' : List Cond} {rm : Room} {D : va_G} {tys : List (ClassId × FieldType)} {av : List Value} {ws : va_W} {S : Type} {wn : S → va_W} {cc : ByteArray} {maxL : Nat} {own : String}
theorem g_entI {post : Int32 → S → Prop} (hy : plainName y.cls = true) (hw : w = Cond.code y cc maxL (some .int) :: w') (ho : y.cls = own) (hav : (lg_sl av).length ≤ maxL)
    (body : ∀ x : GX, Cx x D tys cc maxL w own → (∀ (r : Int32) (u : S) (lv : List (Nat × Value)) (pc : Nat), decode cc pc = .ok (.ireturn, 1) → post r u → G x l rm D maxL 0 0 (wn u) lv [.int r] pc) → G x l rm D maxL 0 0 ws (lv_args 0 av) [] 0) : MI l y w rm D tys av ws post wn := by
  intro sz
  refine Met.ofW (cc := cc) (maxL := maxL) (ret := some .int) hy hw ?_
  intro p e s m args below meth c s₁ B hml hv
  obtain ⟨rfl, hsz, hP, hK, hD0, hNw⟩ := hv
  have hx := B.exec
  have hb := B.bytes
  have hr := B.returns
  have hts := atoms_spec (ws := w) B.pre
  have hown : s.vm.findClass own = some m.cls := by rw [← ho]; exact findClass_of_methodNamed B.named
  have hlocks := B.notSynchronized
  subst hsz
  have hD := hD0.self (sz := s.heap.size)
  have hl := lv_entry av (n := maxL) hav
  rw [lg_entry_eq]
  refine body (p, e, s, m, av.toArray, below, meth, c, va_A ws s.heap.size, _) ⟨hx, hb, hml, hown, hts, hK, fun q h => Or.inr h, hNw⟩ ?_ s.heap [] _ hP hD va_S.rf hl
  intro r u lv pc hdg hp H locs ls hP hD hS hl
  exact W.iret (v := r) hx hb hr (fun t ht hW => ⟨⟨r, u, rfl, hp, by rw [ht]; exact hP, hD⟩, hS.F ht⟩) hS.2.2 hdg
theorem g_entZ {post : Int32 → S → Prop} (hy : plainName y.cls = true) (hw : w = Cond.code y cc maxL (some .boolean) :: w') (ho : y.cls = own) (hav : (lg_sl av).length ≤ maxL)
    (body : ∀ x : GX, Cx x D tys cc maxL w own → (∀ (r : Int32) (u : S) (lv : List (Nat × Value)) (pc : Nat), decode cc pc = .ok (.ireturn, 1) → narrow .boolean (.int r) = .int r → post r u → G x l rm D maxL 0 0 (wn u) lv [.int r] pc) → G x l rm D maxL 0 0 ws (lv_args 0 av) [] 0) : MI l y w rm D tys av ws post wn := by
  intro sz
  refine Met.ofW (cc := cc) (maxL := maxL) (ret := some .boolean) hy hw ?_
  intro p e s m args below meth c s₁ B hml hv
  obtain ⟨rfl, hsz, hP, hK, hD0, hNw⟩ := hv
  have hx := B.exec
  have hb := B.bytes
  have hr := B.returns
  have hts := atoms_spec (ws := w) B.pre
  have hown : s.vm.findClass own = some m.cls := by rw [← ho]; exact findClass_of_methodNamed B.named
  have hlocks := B.notSynchronized
  subst hsz
  have hD := hD0.self (sz := s.heap.size)
  have hl := lv_entry av (n := maxL) hav
  rw [lg_entry_eq]
  refine body (p, e, s, m, av.toArray, below, meth, c, va_A ws s.heap.size, _) ⟨hx, hb, hml, hown, hts, hK, fun q h => Or.inr h, hNw⟩ ?_ s.heap [] _ hP hD va_S.rf hl
  intro r u lv pc hdg hn hp H locs ls hP hD hS hl
  exact W.zret (v := r) hx hb hr hn (fun t ht hW => ⟨⟨r, u, rfl, hp, by rw [ht]; exact hP, hD⟩, hS.F ht⟩) hS.2.2 hdg
theorem g_entV {post : S → Prop} (hy : plainName y.cls = true) (hw : w = Cond.code y cc maxL none :: w') (ho : y.cls = own) (hav : (lg_sl av).length ≤ maxL)
    (body : ∀ x : GX, Cx x D tys cc maxL w own → (∀ (u : S) (lv : List (Nat × Value)) (pc : Nat), decode cc pc = .ok (.return_, 1) → post u → G x l rm D maxL 0 0 (wn u) lv [] pc) → G x l rm D maxL 0 0 ws (lv_args 0 av) [] 0) : MV l y w rm D tys av ws post wn := by
  intro sz
  refine Met.ofW (cc := cc) (maxL := maxL) (ret := none) hy hw ?_
  intro p e s m args below meth c s₁ B hml hv
  obtain ⟨rfl, hsz, hP, hK, hD0, hNw⟩ := hv
  have hx := B.exec
  have hb := B.bytes
  have hr := B.returns
  have hts := atoms_spec (ws := w) B.pre
  have hown : s.vm.findClass own = some m.cls := by rw [← ho]; exact findClass_of_methodNamed B.named
  have hlocks := B.notSynchronized
  subst hsz
  have hD := hD0.self (sz := s.heap.size)
  have hl := lv_entry av (n := maxL) hav
  rw [lg_entry_eq]
  refine body (p, e, s, m, av.toArray, below, meth, c, va_A ws s.heap.size, _) ⟨hx, hb, hml, hown, hts, hK, fun q h => Or.inr h, hNw⟩ ?_ s.heap [] _ hP hD va_S.rf hl
  intro u lv pc hdg hp H locs ls hP hD hS hl
  exact W.vret hx hb hr (fun t ht hW => ⟨⟨u, rfl, hp, by rw [ht]; exact hP, hD⟩, hS.F ht⟩) hS.2.2 hdg
end GE
theorem va_P_by {D : va_G} {ws wc : va_W} {H : Heap} (hP : va_P D vwCl ws H) (is : List Nat) (h : is.map (fun i => ws[i]?) = wc.map some) : va_P D vwCl wc H := by
  intro i q hq
  have h1 : (is.map (fun i => ws[i]?))[i]? = some (some q) := by rw [h, List.getElem?_map, hq]; rfl
  rw [List.getElem?_map] at h1
  cases hi : is[i]? with
  | none => rw [hi] at h1; cases h1
  | some j => rw [hi] at h1; exact hP j q (Option.some.inj h1)
section GC
variable {x : GX} {l : Launch} {R : Room} {D : va_G} {tys : List (ClassId × FieldType)} {cc bytes : ByteArray} {nL k n maxL index : Nat} {Ts : List Cond} {own Cn : String} {ws wc wr : va_W} {lv : List (Nat × Value)} {rest : List Value} {pc : Nat} {y : MethodName} {w w' : List Cond} {rm : Room} {S : Type} {wn wf : S → va_W} {b : Nat} {As : List Value} {ret : Option FieldType}
/-- what stays of a call's static facts -/
abbrev gMeth (y : MethodName) (Cn : String) (a : Nat) : Prop := y.cls = Cn ∧ y.cls ≠ "java/lang/invoke/MethodHandle" ∧ y.cls ≠ "java/lang/invoke/VarHandle" ∧ (parseMethodDescriptor y.desc).map (fun d => d.parameters.length) = some a
/-- how the callee's cells lie in the caller's world, and how the world is put together again -/
abbrev gCut (ws wc wr : va_W) {S : Type} (wn wf : S → va_W) (isC isR isF : List Nat) : Prop := isC.map (fun i => ws[i]?) = wc.map some ∧ isR.map (fun i => ws[i]?) = wr.map some ∧ va_nd isC = true ∧ va_nd isR = true ∧ (∀ i ∈ isR, i ∉ isC) ∧ va_nd isF = true ∧ ∀ u : S, isF.map (fun i => (wr ++ wn u)[i]?) = (wf u).map some

theorem g_callIV {post : Int32 → S → Prop} (C : Cx x D tys cc nL Ts own) (isC isR isF : List Nat) (q0 ci : Nat) {fs : List Value} {T : u_T} {N : Nat} (hci : vwCl[ci]? = some (Cn, T, N)) (hq : wc[q0]? = some (b, .inr (ci, fs))) (hdg : decode cc pc = .ok (.invokevirtual index, 3)) (hG : GoodIn Ts (wsV own index Cn y w)) (hw : w = Cond.code y bytes maxL ret :: w') (hd : gMeth y Cn As.length) (hR : rm.cells = 0 ∧ rm.slots = 0 ∧ rm.frames + 1 ≤ R.frames ∧ 8 + (maxL + 11) + rm.locals ≤ R.locals ∧ k ≤ R.cells ∧ n ≤ R.slots) (hM : MI l y w rm D tys (.ref b :: As) wc post wn) (hcut : gCut ws wc wr wn wf isC isR isF) (hroom : (rest.map fun v => v.category).sum ≤ 8) (kk : ∀ (r : Int32) (u : S), post r u → G x l R D nL k n (wf u) lv (.int r :: rest) (pc + 3)) : G x l R D nL k n ws lv (As.reverse ++ .ref b :: rest) pc := by
  obtain ⟨p, e, s, m, args, below, meth, c, A, Q⟩ := x
  obtain ⟨hx, hb, hml, hown, hts, hK, hA, hNw⟩ := C
  intro H locs ls hP hD hS hl
  obtain ⟨hC, hR', hnC, hnR, hdis, hnF, hF⟩ := hcut
  obtain ⟨r1, r2, r3, r4, r5, r6⟩ := hR
  have hPc := va_P_by hP isC hC
  have hDc := hD.sub isC hnC hC
  have hFc := va_free (wc := wc) hD hS hA isC hC
  have hpre : ∀ U : State, U.heap = H → s.WarmedH U.vm → mPre D tys (.ref b :: As) H.size wc ((.ref b :: As)).toArray U := fun U hU hW => ⟨rfl, by rw [hU], by rw [hU]; exact hPc, va_K.moved hW.alike hK, hDc.weaken (fun _ _ _ _ => trivial), va_Nw.warmM hW hNw⟩
  refine va_calli (va_runV (As := As) (rest := rest) ⟨hx, hb, hml, hown, hts⟩ (hM H.size) (cwV As.length hts hG hw r1 r2 hd ⟨r3, r4⟩) ⟨mPre_blind _ _ _ _ _, va_recv hK hPc hci hq, hpre⟩ rfl rfl hl.1 rfl (lv_room hroom) hdg ⟨r5, r6⟩) hS (fun q _ h => hFc q h) hFc (fun r u t H1 locs1 ht hvm hp hB hz1 hk1 hS1 => ?_)
  obtain ⟨hP1, hD1⟩ := hB
  rw [ht] at hP1
  obtain ⟨hP2, hD2⟩ := va_join (wr := wr) (w1 := wn u) hP hD isC isR hC hR' hnR hdis hk1 hFc hP1 hD1
  exact kk r u hp H1 locs1 ls (va_P_by hP2 isF (hF u)) (hD2.sub isF hnF (hF u)) hS1 hl
theorem g_callVV {post : S → Prop} (C : Cx x D tys cc nL Ts own) (isC isR isF : List Nat) (q0 ci : Nat) {fs : List Value} {T : u_T} {N : Nat} (hci : vwCl[ci]? = some (Cn, T, N)) (hq : wc[q0]? = some (b, .inr (ci, fs))) (hdg : decode cc pc = .ok (.invokevirtual index, 3)) (hG : GoodIn Ts (wsV own index Cn y w)) (hw : w = Cond.code y bytes maxL ret :: w') (hd : gMeth y Cn As.length) (hR : rm.cells = 0 ∧ rm.slots = 0 ∧ rm.frames + 1 ≤ R.frames ∧ 8 + (maxL + 11) + rm.locals ≤ R.locals ∧ k ≤ R.cells ∧ n ≤ R.slots) (hM : MV l y w rm D tys (.ref b :: As) wc post wn) (hcut : gCut ws wc wr wn wf isC isR isF) (hroom : (rest.map fun v => v.category).sum ≤ 8) (kk : ∀ u : S, post u → G x l R D nL k n (wf u) lv rest (pc + 3)) : G x l R D nL k n ws lv (As.reverse ++ .ref b :: rest) pc := by
  obtain ⟨p, e, s, m, args, below, meth, c, A, Q⟩ := x
  obtain ⟨hx, hb, hml, hown, hts, hK, hA, hNw⟩ := C
  intro H locs ls hP hD hS hl
  obtain ⟨hC, hR', hnC, hnR, hdis, hnF, hF⟩ := hcut
  obtain ⟨r1, r2, r3, r4, r5, r6⟩ := hR
  have hPc := va_P_by hP isC hC
  have hDc := hD.sub isC hnC hC
  have hFc := va_free (wc := wc) hD hS hA isC hC
  have hpre : ∀ U : State, U.heap = H → s.WarmedH U.vm → mPre D tys (.ref b :: As) H.size wc ((.ref b :: As)).toArray U := fun U hU hW => ⟨rfl, by rw [hU], by rw [hU]; exact hPc, va_K.moved hW.alike hK, hDc.weaken (fun _ _ _ _ => trivial), va_Nw.warmM hW hNw⟩
  refine va_callv (va_runV (As := As) (rest := rest) ⟨hx, hb, hml, hown, hts⟩ (hM H.size) (cwV As.length hts hG hw r1 r2 hd ⟨r3, r4⟩) ⟨mPre_blind _ _ _ _ _, va_recv hK hPc hci hq, hpre⟩ rfl rfl hl.1 rfl (lv_room hroom) hdg ⟨r5, r6⟩) hS (fun q _ h => hFc q h) hFc (fun u t H1 locs1 ht hvm hp hB hz1 hk1 hS1 => ?_)
  obtain ⟨hP1, hD1⟩ := hB
  rw [ht] at hP1
  obtain ⟨hP2, hD2⟩ := va_join (wr := wr) (w1 := wn u) hP hD isC isR hC hR' hnR hdis hk1 hFc hP1 hD1
  exact kk u hp H1 locs1 ls (va_P_by hP2 isF (hF u)) (hD2.sub isF hnF (hF u)) hS1 hl
theorem g_callIS {post : Int32 → S → Prop} (C : Cx x D tys cc nL Ts own) (isC isR isF : List Nat) (hdg : decode cc pc = .ok (.invokestatic index, 3)) (hG : GoodIn Ts (va_wsS own index y w)) (hw : w = Cond.code y bytes maxL ret :: w') (hd : gMeth y Cn As.length) (hR : rm.cells = 0 ∧ rm.slots = 0 ∧ rm.frames + 1 ≤ R.frames ∧ 8 + (maxL + 11) + rm.locals ≤ R.locals ∧ k ≤ R.cells ∧ n ≤ R.slots) (hM : MI l y w rm D tys As wc post wn) (hcut : gCut ws wc wr wn wf isC isR isF) (hroom : (rest.map fun v => v.category).sum ≤ 8) (kk : ∀ (r : Int32) (u : S), post r u → G x l R D nL k n (wf u) lv (.int r :: rest) (pc + 3)) : G x l R D nL k n ws lv (As.reverse ++ rest) pc := by
  obtain ⟨p, e, s, m, args, below, meth, c, A, Q⟩ := x
  obtain ⟨hx, hb, hml, hown, hts, hK, hA, hNw⟩ := C
  intro H locs ls hP hD hS hl
  obtain ⟨hC, hR', hnC, hnR, hdis, hnF, hF⟩ := hcut
  obtain ⟨r1, r2, r3, r4, r5, r6⟩ := hR
  have hPc := va_P_by hP isC hC
  have hDc := hD.sub isC hnC hC
  have hFc := va_free (wc := wc) hD hS hA isC hC
  have hpre : ∀ U : State, U.heap = H → s.WarmedH U.vm → mPre D tys As H.size wc (As).toArray U := fun U hU hW => ⟨rfl, by rw [hU], by rw [hU]; exact hPc, va_K.moved hW.alike hK, hDc.weaken (fun _ _ _ _ => trivial), va_Nw.warmM hW hNw⟩
  refine va_calli (va_runS (As := As) (rest := rest) ⟨hx, hb, hml, hown, hts⟩ (hM H.size) (va_cwS As.length hts hG hw r1 r2 hd.2 ⟨r3, r4⟩) ⟨mPre_blind _ _ _ _ _, hpre⟩ rfl rfl hl.1 rfl (lv_room hroom) hdg ⟨r5, r6⟩) hS (fun q _ h => hFc q h) hFc (fun r u t H1 locs1 ht hvm hp hB hz1 hk1 hS1 => ?_)
  obtain ⟨hP1, hD1⟩ := hB
  rw [ht] at hP1
  obtain ⟨hP2, hD2⟩ := va_join (wr := wr) (w1 := wn u) hP hD isC isR hC hR' hnR hdis hk1 hFc hP1 hD1
  exact kk r u hp H1 locs1 ls (va_P_by hP2 isF (hF u)) (hD2.sub isF hnF (hF u)) hS1 hl
theorem g_callVS {post : S → Prop} (C : Cx x D tys cc nL Ts own) (isC isR isF : List Nat) (hdg : decode cc pc = .ok (.invokestatic index, 3)) (hG : GoodIn Ts (va_wsS own index y w)) (hw : w = Cond.code y bytes maxL ret :: w') (hd : gMeth y Cn As.length) (hR : rm.cells = 0 ∧ rm.slots = 0 ∧ rm.frames + 1 ≤ R.frames ∧ 8 + (maxL + 11) + rm.locals ≤ R.locals ∧ k ≤ R.cells ∧ n ≤ R.slots) (hM : MV l y w rm D tys As wc post wn) (hcut : gCut ws wc wr wn wf isC isR isF) (hroom : (rest.map fun v => v.category).sum ≤ 8) (kk : ∀ u : S, post u → G x l R D nL k n (wf u) lv rest (pc + 3)) : G x l R D nL k n ws lv (As.reverse ++ rest) pc := by
  obtain ⟨p, e, s, m, args, below, meth, c, A, Q⟩ := x
  obtain ⟨hx, hb, hml, hown, hts, hK, hA, hNw⟩ := C
  intro H locs ls hP hD hS hl
  obtain ⟨hC, hR', hnC, hnR, hdis, hnF, hF⟩ := hcut
  obtain ⟨r1, r2, r3, r4, r5, r6⟩ := hR
  have hPc := va_P_by hP isC hC
  have hDc := hD.sub isC hnC hC
  have hFc := va_free (wc := wc) hD hS hA isC hC
  have hpre : ∀ U : State, U.heap = H → s.WarmedH U.vm → mPre D tys As H.size wc (As).toArray U := fun U hU hW => ⟨rfl, by rw [hU], by rw [hU]; exact hPc, va_K.moved hW.alike hK, hDc.weaken (fun _ _ _ _ => trivial), va_Nw.warmM hW hNw⟩
  refine va_callv (va_runS (As := As) (rest := rest) ⟨hx, hb, hml, hown, hts⟩ (hM H.size) (va_cwS As.length hts hG hw r1 r2 hd.2 ⟨r3, r4⟩) ⟨mPre_blind _ _ _ _ _, hpre⟩ rfl rfl hl.1 rfl (lv_room hroom) hdg ⟨r5, r6⟩) hS (fun q _ h => hFc q h) hFc (fun u t H1 locs1 ht hvm hp hB hz1 hk1 hS1 => ?_)
  obtain ⟨hP1, hD1⟩ := hB
  rw [ht] at hP1
  obtain ⟨hP2, hD2⟩ := va_join (wr := wr) (w1 := wn u) hP hD isC isR hC hR' hnR hdis hk1 hFc hP1 hD1
  exact kk u hp H1 locs1 ls (va_P_by hP2 isF (hF u)) (hD2.sub isF hnF (hF u)) hS1 hl
theorem g_callIN {post : Int32 → S → Prop} (C : Cx x D tys cc nL Ts own) (isC isR isF : List Nat) (hdg : decode cc pc = .ok (.invokestatic index, 3)) (hG : GoodIn Ts w) (hw : w = Cond.code y bytes maxL ret :: w') (hd : gMeth y Cn As.length) (hR : rm.cells = 0 ∧ rm.slots = 0 ∧ rm.frames + 1 ≤ R.frames ∧ 8 + (maxL + 11) + rm.locals ≤ R.locals ∧ k ≤ R.cells ∧ n ≤ R.slots) (hnw : gNw = .methodLinkNest own index y RX3) (hini : Cond.initialized y.cls ∈ Ts) (hsta : Cond.static y ∈ Ts) (hM : MI l y w rm D tys As wc post wn) (hcut : gCut ws wc wr wn wf isC isR isF) (hroom : (rest.map fun v => v.category).sum ≤ 8) (kk : ∀ (r : Int32) (u : S), post r u → G x l R D nL k n (wf u) lv (.int r :: rest) (pc + 3)) : G x l R D nL k n ws lv (As.reverse ++ rest) pc := by
  obtain ⟨p, e, s, m, args, below, meth, c, A, Q⟩ := x
  obtain ⟨hx, hb, hml, hown, hts, hK, hA, hNw⟩ := C
  intro H locs ls hP hD hS hl
  obtain ⟨hC, hR', hnC, hnR, hdis, hnF, hF⟩ := hcut
  obtain ⟨r1, r2, r3, r4, r5, r6⟩ := hR
  have hPc := va_P_by hP isC hC
  have hDc := hD.sub isC hnC hC
  have hFc := va_free (wc := wc) hD hS hA isC hC
  have hpre : ∀ U : State, U.heap = H → s.WarmedH U.vm → mPre D tys As H.size wc (As).toArray U := fun U hU hW => ⟨rfl, by rw [hU], by rw [hU]; exact hPc, va_K.moved hW.alike hK, hDc.weaken (fun _ _ _ _ => trivial), va_Nw.warmM hW hNw⟩
  refine va_calli (va_runSN (As := As) (rest := rest) (host := RX3) ⟨hx, hb, hml, hown, hts⟩ (hM H.size) ⟨va_cnB As.length hts hG hw r1 r2 (hnw ▸ hNw) (hts _ hini) hd.2 ⟨r3, r4⟩, hts _ hsta, trivial⟩ ⟨mPre_blind _ _ _ _ _, hpre⟩ rfl rfl hl.1 rfl (lv_room hroom) hdg ⟨r5, r6⟩) hS (fun q _ h => hFc q h) hFc (fun r u t H1 locs1 ht hvm hp hB hz1 hk1 hS1 => ?_)
  obtain ⟨hP1, hD1⟩ := hB
  rw [ht] at hP1
  obtain ⟨hP2, hD2⟩ := va_join (wr := wr) (w1 := wn u) hP hD isC isR hC hR' hnR hdis hk1 hFc hP1 hD1
  exact kk r u hp H1 locs1 ls (va_P_by hP2 isF (hF u)) (hD2.sub isF hnF (hF u)) hS1 hl
end GC
/-- a loop: a measure that falls, any invariant over world, locals and numbers -/
theorem g_loop {x : GX} {l : Launch} {R : Room} {D : va_G} {nL k n : Nat} {st : List Value} {pc : Nat} {σ : Type} (ws : σ → va_W) (lv : σ → List (Nat × Value)) (I : σ → Prop) (μ : σ → Nat) (hs : ∀ a : σ, I a → (∀ b : σ, I b → μ b < μ a → G x l R D nL k n (ws b) (lv b) st pc) → G x l R D nL k n (ws a) (lv a) st pc) (a : σ) (h : I a) : G x l R D nL k n (ws a) (lv a) st pc := by
  have key : ∀ (m : Nat) (a : σ), μ a < m → I a → G x l R D nL k n (ws a) (lv a) st pc := by
    intro m
    induction m with
    | zero => intro a h; exact absurd h (Nat.not_lt_zero _)
    | succ m ih => intro a h hI; exact hs a hI (fun b hb hm => ih b (by omega) hb)
  exact key (μ a + 1) a (Nat.lt_succ_self _) h
end
section
/-! WORLDS AND THE STORE'S PICTURE: a memory is a row of arrays (number 0: the int fields) -/
abbrev vNONE : Int32 := -2000000005
abbrev Mem : Type := Nat → Nat → Int32
def ps (P : Mem) (k j : Nat) (v : Int32) : Mem := fun a => if a = k then upd (P k) j v else P a
abbrev tyL (cy cz : ClassId) : List (ClassId × FieldType) := [(cy, .int), (cz, .boolean)]
/-- Aside: keys, values; size -/
abbrev wZ (cy : ClassId) (z : Nat → Nat) (Z : Mem) : va_W := [(z 0, .inr (0, [.ref (z 1), .ref (z 2), .int (Z 0 0)])), (z 1, .inl (cy, 264, .inl (Z 1))), (z 2, .inl (cy, 264, .inl (Z 2)))]
/-- Journal: kinds, keys, values, groupEnds; writes, groups, open, openFrom -/
abbrev wJ (cy : ClassId) (j : Nat → Nat) (J : Mem) : va_W := [(j 0, .inr (1, [.ref (j 1), .ref (j 2), .ref (j 3), .ref (j 4), .int (J 0 0), .int (J 0 1), .int (J 0 2), .int (J 0 3)])), (j 1, .inl (cy, 64, .inl (J 1))), (j 2, .inl (cy, 64, .inl (J 2))), (j 3, .inl (cy, 64, .inl (J 3))), (j 4, .inl (cy, 64, .inl (J 4)))]
/-- Pages: keys, values, used, behind, ahead, holder, last; level, split, entries -/
abbrev wG (cy : ClassId) (g : Nat → Nat) (z0 : Nat) (P : Mem) : va_W := [(g 0, .inr (2, [.ref (g 1), .ref (g 2), .ref (g 3), .ref (g 4), .ref (g 5), .ref (g 6), .ref (g 7), .ref z0, .int (P 0 0), .int (P 0 1), .int (P 0 2)])), (g 1, .inl (cy, 512, .inl (P 1))), (g 2, .inl (cy, 512, .inl (P 2))), (g 3, .inl (cy, 128, .inl (P 3))), (g 4, .inl (cy, 128, .inl (P 4))), (g 5, .inl (cy, 128, .inl (P 5))), (g 6, .inl (cy, 128, .inl (P 6))), (g 7, .inl (cy, 64, .inl (P 7)))]
/-- PageBuckets: current, kept, journal; pagesRead, writesThatStand -/
abbrev wB (b : Nat → Nat) (g0 h0 j0 : Nat) (B : Mem) : va_W := [(b 0, .inr (3, [.ref g0, .ref h0, .ref j0, .int (B 0 0), .int (B 0 1)]))]
/-- the reference: keys, values, sizes, links, isFree, writeKey, writeValue, groups, heldKey, heldValue; level, split, entries, writes, keptWrites, groupCount, isOpen, openWrites, read, held -/
abbrev wM (cy cz : ClassId) (m : Nat → Nat) (M : Mem) : va_W := [(m 0, .inr (4, [.ref (m 1), .ref (m 2), .ref (m 3), .ref (m 4), .ref (m 5), .int (M 0 0), .int (M 0 1), .int (M 0 2), .ref (m 6), .ref (m 7), .int (M 0 3), .int (M 0 4), .ref (m 8), .int (M 0 5), .int (M 0 6), .int (M 0 7), .int (M 0 8), .ref (m 9), .ref (m 10), .int (M 0 9)])), (m 1, .inl (cy, 512, .inl (M 1))), (m 2, .inl (cy, 512, .inl (M 2))), (m 3, .inl (cy, 128, .inl (M 3))), (m 4, .inl (cy, 128, .inl (M 4))), (m 5, .inl (cz, 128, .inl (M 5))), (m 6, .inl (cy, 4200, .inl (M 6))), (m 7, .inl (cy, 4200, .inl (M 7))), (m 8, .inl (cy, 64, .inl (M 8))), (m 9, .inl (cy, 512, .inl (M 9))), (m 10, .inl (cy, 512, .inl (M 10)))]
/-- an index test, as the class writes it -/
def inI (N : Int32) (i : Int32) : Int32 := if i < 0 then 0 else if N ≤ i then 0 else 1
theorem inI_nI {N p : Nat} (hp : p < N) (hN : N < 2 ^ 31) : inI (nI N) (nI p) = 1 := by
  unfold inI
  rw [if_neg (nI_pos (by omega)), if_neg (nI_ge hp hN)]
theorem inI_NONE (N : Int32) : inI N vNONE = 0 := by
  unfold inI
  rw [if_pos (by decide)]
theorem inI_nat {N : Nat} {i : Int32} (hN : N < 2 ^ 31) (h : ¬ inI (nI N) i = 0) : ∃ j : Nat, j < N ∧ i = nI j := by
  unfold inI at h
  by_cases h1 : i < 0
  · rw [if_pos h1] at h; exact absurd rfl h
  · rw [if_neg h1] at h
    by_cases h2 : nI N ≤ i
    · rw [if_pos h2] at h; exact absurd rfl h
    · exact vp_in_of (n := N) (fun q => by
        rcases q with q | q
        · exact h1 q
        · obtain ⟨j, hj, rfl⟩ := nI_of h1
          rw [nI_clamp hj] at q
          exact h2 (nI_le q hj)) hN
/-- a number of a switch -/
theorem sw_of {a : Int32} {n : Nat} (h : 0 ≤ a.toInt ∧ a.toInt ≤ (n : Int)) (hn : n + 1 < 2 ^ 31) : ∃ j : Nat, j ≤ n ∧ a = nI j := by
  obtain ⟨h1, h2⟩ := h
  obtain ⟨j, hj, e⟩ := vp_in_of (x := a) (n := n + 1) (vp_in_iff.mpr ⟨h1, by omega⟩) hn
  exact ⟨j, by omega, e⟩
theorem sw_2 {j : Nat} (h : j ≤ 2) : j = 0 ∨ j = 1 ∨ j = 2 := by omega
theorem sw_10 {j : Nat} (h : j ≤ 10) : j = 0 ∨ j = 1 ∨ j = 2 ∨ j = 3 ∨ j = 4 ∨ j = 5 ∨ j = 6 ∨ j = 7 ∨ j = 8 ∨ j = 9 ∨ j = 10 := by omega
/-! one cell of a world changes: the memory changes at one place -/
theorem set_l {w1 w1' w2 : va_W} {k : Nat} {e : Nat × va_E} (hk : k < w1.length) (h : w1.set k e = w1') : (w1 ++ w2).set k e = w1' ++ w2 := by
  rw [← h, List.set_append_left _ _ hk]
theorem set_r {w1 w2 w2' : va_W} {k j : Nat} {e : Nat × va_E} (hk : k = w1.length + j) (h : w2.set j e = w2') : (w1 ++ w2).set k e = w1 ++ w2' := by
  rw [← h, hk, List.set_append_right _ _ (Nat.le_add_right _ _), Nat.add_sub_cancel_left]
def pa (P : Mem) (k : Nat) (f : Nat → Int32) : Mem := fun a => if a = k then f else P a
theorem wZ_s0 (cy : ClassId) (z : Nat → Nat) (P : Mem) (v : Int32) : (wZ cy z P).set 0 (z 0, .inr (0, [.ref (z 1), .ref (z 2), .int (P 0 0)].set 2 (.int v))) = wZ cy z (ps P 0 0 v) := rfl
theorem wZ_a1 (cy : ClassId) (z : Nat → Nat) (P : Mem) (j : Nat) (v : Int32) : (wZ cy z P).set 1 (z 1, .inl (cy, 264, .inl (upd (P 1) j v))) = wZ cy z (ps P 1 j v) := rfl
theorem wZ_a2 (cy : ClassId) (z : Nat → Nat) (P : Mem) (j : Nat) (v : Int32) : (wZ cy z P).set 2 (z 2, .inl (cy, 264, .inl (upd (P 2) j v))) = wZ cy z (ps P 2 j v) := rfl
theorem wJ_s0 (cy : ClassId) (j : Nat → Nat) (P : Mem) (v : Int32) : (wJ cy j P).set 0 (j 0, .inr (1, [.ref (j 1), .ref (j 2), .ref (j 3), .ref (j 4), .int (P 0 0), .int (P 0 1), .int (P 0 2), .int (P 0 3)].set 4 (.int v))) = wJ cy j (ps P 0 0 v) := rfl
theorem wJ_s1 (cy : ClassId) (j : Nat → Nat) (P : Mem) (v : Int32) : (wJ cy j P).set 0 (j 0, .inr (1, [.ref (j 1), .ref (j 2), .ref (j 3), .ref (j 4), .int (P 0 0), .int (P 0 1), .int (P 0 2), .int (P 0 3)].set 5 (.int v))) = wJ cy j (ps P 0 1 v) := rfl
theorem wJ_s2 (cy : ClassId) (j : Nat → Nat) (P : Mem) (v : Int32) : (wJ cy j P).set 0 (j 0, .inr (1, [.ref (j 1), .ref (j 2), .ref (j 3), .ref (j 4), .int (P 0 0), .int (P 0 1), .int (P 0 2), .int (P 0 3)].set 6 (.int v))) = wJ cy j (ps P 0 2 v) := rfl
theorem wJ_s3 (cy : ClassId) (j : Nat → Nat) (P : Mem) (v : Int32) : (wJ cy j P).set 0 (j 0, .inr (1, [.ref (j 1), .ref (j 2), .ref (j 3), .ref (j 4), .int (P 0 0), .int (P 0 1), .int (P 0 2), .int (P 0 3)].set 7 (.int v))) = wJ cy j (ps P 0 3 v) := rfl
theorem wJ_a1 (cy : ClassId) (j9 : Nat → Nat) (P : Mem) (j : Nat) (v : Int32) : (wJ cy j9 P).set 1 (j9 1, .inl (cy, 64, .inl (upd (P 1) j v))) = wJ cy j9 (ps P 1 j v) := rfl
theorem wJ_a2 (cy : ClassId) (j9 : Nat → Nat) (P : Mem) (j : Nat) (v : Int32) : (wJ cy j9 P).set 2 (j9 2, .inl (cy, 64, .inl (upd (P 2) j v))) = wJ cy j9 (ps P 2 j v) := rfl
theorem wJ_a3 (cy : ClassId) (j9 : Nat → Nat) (P : Mem) (j : Nat) (v : Int32) : (wJ cy j9 P).set 3 (j9 3, .inl (cy, 64, .inl (upd (P 3) j v))) = wJ cy j9 (ps P 3 j v) := rfl
theorem wJ_a4 (cy : ClassId) (j9 : Nat → Nat) (P : Mem) (j : Nat) (v : Int32) : (wJ cy j9 P).set 4 (j9 4, .inl (cy, 64, .inl (upd (P 4) j v))) = wJ cy j9 (ps P 4 j v) := rfl
theorem wG_s0 (cy : ClassId) (g : Nat → Nat) (z0 : Nat) (P : Mem) (v : Int32) : (wG cy g z0 P).set 0 (g 0, .inr (2, [.ref (g 1), .ref (g 2), .ref (g 3), .ref (g 4), .ref (g 5), .ref (g 6), .ref (g 7), .ref z0, .int (P 0 0), .int (P 0 1), .int (P 0 2)].set 8 (.int v))) = wG cy g z0 (ps P 0 0 v) := rfl
theorem wG_s1 (cy : ClassId) (g : Nat → Nat) (z0 : Nat) (P : Mem) (v : Int32) : (wG cy g z0 P).set 0 (g 0, .inr (2, [.ref (g 1), .ref (g 2), .ref (g 3), .ref (g 4), .ref (g 5), .ref (g 6), .ref (g 7), .ref z0, .int (P 0 0), .int (P 0 1), .int (P 0 2)].set 9 (.int v))) = wG cy g z0 (ps P 0 1 v) := rfl
theorem wG_s2 (cy : ClassId) (g : Nat → Nat) (z0 : Nat) (P : Mem) (v : Int32) : (wG cy g z0 P).set 0 (g 0, .inr (2, [.ref (g 1), .ref (g 2), .ref (g 3), .ref (g 4), .ref (g 5), .ref (g 6), .ref (g 7), .ref z0, .int (P 0 0), .int (P 0 1), .int (P 0 2)].set 10 (.int v))) = wG cy g z0 (ps P 0 2 v) := rfl
theorem wG_a1 (cy : ClassId) (g : Nat → Nat) (z0 : Nat) (P : Mem) (j : Nat) (v : Int32) : (wG cy g z0 P).set 1 (g 1, .inl (cy, 512, .inl (upd (P 1) j v))) = wG cy g z0 (ps P 1 j v) := rfl
theorem wG_c1 (cy : ClassId) (g : Nat → Nat) (z0 : Nat) (P : Mem) (f : Nat → Int32) : (wG cy g z0 P).set 1 (g 1, .inl (cy, 512, .inl f)) = wG cy g z0 (pa P 1 f) := rfl
theorem wG_a2 (cy : ClassId) (g : Nat → Nat) (z0 : Nat) (P : Mem) (j : Nat) (v : Int32) : (wG cy g z0 P).set 2 (g 2, .inl (cy, 512, .inl (upd (P 2) j v))) = wG cy g z0 (ps P 2 j v) := rfl
theorem wG_c2 (cy : ClassId) (g : Nat → Nat) (z0 : Nat) (P : Mem) (f : Nat → Int32) : (wG cy g z0 P).set 2 (g 2, .inl (cy, 512, .inl f)) = wG cy g z0 (pa P 2 f) := rfl
theorem wG_a3 (cy : ClassId) (g : Nat → Nat) (z0 : Nat) (P : Mem) (j : Nat) (v : Int32) : (wG cy g z0 P).set 3 (g 3, .inl (cy, 128, .inl (upd (P 3) j v))) = wG cy g z0 (ps P 3 j v) := rfl
theorem wG_c3 (cy : ClassId) (g : Nat → Nat) (z0 : Nat) (P : Mem) (f : Nat → Int32) : (wG cy g z0 P).set 3 (g 3, .inl (cy, 128, .inl f)) = wG cy g z0 (pa P 3 f) := rfl
theorem wG_a4 (cy : ClassId) (g : Nat → Nat) (z0 : Nat) (P : Mem) (j : Nat) (v : Int32) : (wG cy g z0 P).set 4 (g 4, .inl (cy, 128, .inl (upd (P 4) j v))) = wG cy g z0 (ps P 4 j v) := rfl
theorem wG_c4 (cy : ClassId) (g : Nat → Nat) (z0 : Nat) (P : Mem) (f : Nat → Int32) : (wG cy g z0 P).set 4 (g 4, .inl (cy, 128, .inl f)) = wG cy g z0 (pa P 4 f) := rfl
theorem wG_a5 (cy : ClassId) (g : Nat → Nat) (z0 : Nat) (P : Mem) (j : Nat) (v : Int32) : (wG cy g z0 P).set 5 (g 5, .inl (cy, 128, .inl (upd (P 5) j v))) = wG cy g z0 (ps P 5 j v) := rfl
theorem wG_c5 (cy : ClassId) (g : Nat → Nat) (z0 : Nat) (P : Mem) (f : Nat → Int32) : (wG cy g z0 P).set 5 (g 5, .inl (cy, 128, .inl f)) = wG cy g z0 (pa P 5 f) := rfl
theorem wG_a6 (cy : ClassId) (g : Nat → Nat) (z0 : Nat) (P : Mem) (j : Nat) (v : Int32) : (wG cy g z0 P).set 6 (g 6, .inl (cy, 128, .inl (upd (P 6) j v))) = wG cy g z0 (ps P 6 j v) := rfl
theorem wG_c6 (cy : ClassId) (g : Nat → Nat) (z0 : Nat) (P : Mem) (f : Nat → Int32) : (wG cy g z0 P).set 6 (g 6, .inl (cy, 128, .inl f)) = wG cy g z0 (pa P 6 f) := rfl
theorem wG_a7 (cy : ClassId) (g : Nat → Nat) (z0 : Nat) (P : Mem) (j : Nat) (v : Int32) : (wG cy g z0 P).set 7 (g 7, .inl (cy, 64, .inl (upd (P 7) j v))) = wG cy g z0 (ps P 7 j v) := rfl
theorem wG_c7 (cy : ClassId) (g : Nat → Nat) (z0 : Nat) (P : Mem) (f : Nat → Int32) : (wG cy g z0 P).set 7 (g 7, .inl (cy, 64, .inl f)) = wG cy g z0 (pa P 7 f) := rfl
theorem wB_s0 (b : Nat → Nat) (g0 h0 j0 : Nat) (P : Mem) (v : Int32) : (wB b g0 h0 j0 P).set 0 (b 0, .inr (3, [.ref g0, .ref h0, .ref j0, .int (P 0 0), .int (P 0 1)].set 3 (.int v))) = wB b g0 h0 j0 (ps P 0 0 v) := rfl
theorem wB_s1 (b : Nat → Nat) (g0 h0 j0 : Nat) (P : Mem) (v : Int32) : (wB b g0 h0 j0 P).set 0 (b 0, .inr (3, [.ref g0, .ref h0, .ref j0, .int (P 0 0), .int (P 0 1)].set 4 (.int v))) = wB b g0 h0 j0 (ps P 0 1 v) := rfl
theorem wM_s0 (cy cz : ClassId) (m : Nat → Nat) (P : Mem) (v : Int32) : (wM cy cz m P).set 0 (m 0, .inr (4, [.ref (m 1), .ref (m 2), .ref (m 3), .ref (m 4), .ref (m 5), .int (P 0 0), .int (P 0 1), .int (P 0 2), .ref (m 6), .ref (m 7), .int (P 0 3), .int (P 0 4), .ref (m 8), .int (P 0 5), .int (P 0 6), .int (P 0 7), .int (P 0 8), .ref (m 9), .ref (m 10), .int (P 0 9)].set 5 (.int v))) = wM cy cz m (ps P 0 0 v) := rfl
theorem wM_s1 (cy cz : ClassId) (m : Nat → Nat) (P : Mem) (v : Int32) : (wM cy cz m P).set 0 (m 0, .inr (4, [.ref (m 1), .ref (m 2), .ref (m 3), .ref (m 4), .ref (m 5), .int (P 0 0), .int (P 0 1), .int (P 0 2), .ref (m 6), .ref (m 7), .int (P 0 3), .int (P 0 4), .ref (m 8), .int (P 0 5), .int (P 0 6), .int (P 0 7), .int (P 0 8), .ref (m 9), .ref (m 10), .int (P 0 9)].set 6 (.int v))) = wM cy cz m (ps P 0 1 v) := rfl
theorem wM_s2 (cy cz : ClassId) (m : Nat → Nat) (P : Mem) (v : Int32) : (wM cy cz m P).set 0 (m 0, .inr (4, [.ref (m 1), .ref (m 2), .ref (m 3), .ref (m 4), .ref (m 5), .int (P 0 0), .int (P 0 1), .int (P 0 2), .ref (m 6), .ref (m 7), .int (P 0 3), .int (P 0 4), .ref (m 8), .int (P 0 5), .int (P 0 6), .int (P 0 7), .int (P 0 8), .ref (m 9), .ref (m 10), .int (P 0 9)].set 7 (.int v))) = wM cy cz m (ps P 0 2 v) := rfl
theorem wM_s3 (cy cz : ClassId) (m : Nat → Nat) (P : Mem) (v : Int32) : (wM cy cz m P).set 0 (m 0, .inr (4, [.ref (m 1), .ref (m 2), .ref (m 3), .ref (m 4), .ref (m 5), .int (P 0 0), .int (P 0 1), .int (P 0 2), .ref (m 6), .ref (m 7), .int (P 0 3), .int (P 0 4), .ref (m 8), .int (P 0 5), .int (P 0 6), .int (P 0 7), .int (P 0 8), .ref (m 9), .ref (m 10), .int (P 0 9)].set 10 (.int v))) = wM cy cz m (ps P 0 3 v) := rfl
theorem wM_s4 (cy cz : ClassId) (m : Nat → Nat) (P : Mem) (v : Int32) : (wM cy cz m P).set 0 (m 0, .inr (4, [.ref (m 1), .ref (m 2), .ref (m 3), .ref (m 4), .ref (m 5), .int (P 0 0), .int (P 0 1), .int (P 0 2), .ref (m 6), .ref (m 7), .int (P 0 3), .int (P 0 4), .ref (m 8), .int (P 0 5), .int (P 0 6), .int (P 0 7), .int (P 0 8), .ref (m 9), .ref (m 10), .int (P 0 9)].set 11 (.int v))) = wM cy cz m (ps P 0 4 v) := rfl
theorem wM_s5 (cy cz : ClassId) (m : Nat → Nat) (P : Mem) (v : Int32) : (wM cy cz m P).set 0 (m 0, .inr (4, [.ref (m 1), .ref (m 2), .ref (m 3), .ref (m 4), .ref (m 5), .int (P 0 0), .int (P 0 1), .int (P 0 2), .ref (m 6), .ref (m 7), .int (P 0 3), .int (P 0 4), .ref (m 8), .int (P 0 5), .int (P 0 6), .int (P 0 7), .int (P 0 8), .ref (m 9), .ref (m 10), .int (P 0 9)].set 13 (.int v))) = wM cy cz m (ps P 0 5 v) := rfl
theorem wM_s6 (cy cz : ClassId) (m : Nat → Nat) (P : Mem) (v : Int32) : (wM cy cz m P).set 0 (m 0, .inr (4, [.ref (m 1), .ref (m 2), .ref (m 3), .ref (m 4), .ref (m 5), .int (P 0 0), .int (P 0 1), .int (P 0 2), .ref (m 6), .ref (m 7), .int (P 0 3), .int (P 0 4), .ref (m 8), .int (P 0 5), .int (P 0 6), .int (P 0 7), .int (P 0 8), .ref (m 9), .ref (m 10), .int (P 0 9)].set 14 (.int v))) = wM cy cz m (ps P 0 6 v) := rfl
theorem wM_s7 (cy cz : ClassId) (m : Nat → Nat) (P : Mem) (v : Int32) : (wM cy cz m P).set 0 (m 0, .inr (4, [.ref (m 1), .ref (m 2), .ref (m 3), .ref (m 4), .ref (m 5), .int (P 0 0), .int (P 0 1), .int (P 0 2), .ref (m 6), .ref (m 7), .int (P 0 3), .int (P 0 4), .ref (m 8), .int (P 0 5), .int (P 0 6), .int (P 0 7), .int (P 0 8), .ref (m 9), .ref (m 10), .int (P 0 9)].set 15 (.int v))) = wM cy cz m (ps P 0 7 v) := rfl
theorem wM_s8 (cy cz : ClassId) (m : Nat → Nat) (P : Mem) (v : Int32) : (wM cy cz m P).set 0 (m 0, .inr (4, [.ref (m 1), .ref (m 2), .ref (m 3), .ref (m 4), .ref (m 5), .int (P 0 0), .int (P 0 1), .int (P 0 2), .ref (m 6), .ref (m 7), .int (P 0 3), .int (P 0 4), .ref (m 8), .int (P 0 5), .int (P 0 6), .int (P 0 7), .int (P 0 8), .ref (m 9), .ref (m 10), .int (P 0 9)].set 16 (.int v))) = wM cy cz m (ps P 0 8 v) := rfl
theorem wM_s9 (cy cz : ClassId) (m : Nat → Nat) (P : Mem) (v : Int32) : (wM cy cz m P).set 0 (m 0, .inr (4, [.ref (m 1), .ref (m 2), .ref (m 3), .ref (m 4), .ref (m 5), .int (P 0 0), .int (P 0 1), .int (P 0 2), .ref (m 6), .ref (m 7), .int (P 0 3), .int (P 0 4), .ref (m 8), .int (P 0 5), .int (P 0 6), .int (P 0 7), .int (P 0 8), .ref (m 9), .ref (m 10), .int (P 0 9)].set 19 (.int v))) = wM cy cz m (ps P 0 9 v) := rfl
theorem wM_a1 (cy cz : ClassId) (m : Nat → Nat) (P : Mem) (j : Nat) (v : Int32) : (wM cy cz m P).set 1 (m 1, .inl (cy, 512, .inl (upd (P 1) j v))) = wM cy cz m (ps P 1 j v) := rfl
theorem wM_a2 (cy cz : ClassId) (m : Nat → Nat) (P : Mem) (j : Nat) (v : Int32) : (wM cy cz m P).set 2 (m 2, .inl (cy, 512, .inl (upd (P 2) j v))) = wM cy cz m (ps P 2 j v) := rfl
theorem wM_a3 (cy cz : ClassId) (m : Nat → Nat) (P : Mem) (j : Nat) (v : Int32) : (wM cy cz m P).set 3 (m 3, .inl (cy, 128, .inl (upd (P 3) j v))) = wM cy cz m (ps P 3 j v) := rfl
theorem wM_a4 (cy cz : ClassId) (m : Nat → Nat) (P : Mem) (j : Nat) (v : Int32) : (wM cy cz m P).set 4 (m 4, .inl (cy, 128, .inl (upd (P 4) j v))) = wM cy cz m (ps P 4 j v) := rfl
theorem wM_a5 (cy cz : ClassId) (m : Nat → Nat) (P : Mem) (j : Nat) (v : Int32) : (wM cy cz m P).set 5 (m 5, .inl (cz, 128, .inl (upd (P 5) j v))) = wM cy cz m (ps P 5 j v) := rfl
theorem wM_a6 (cy cz : ClassId) (m : Nat → Nat) (P : Mem) (j : Nat) (v : Int32) : (wM cy cz m P).set 6 (m 6, .inl (cy, 4200, .inl (upd (P 6) j v))) = wM cy cz m (ps P 6 j v) := rfl
theorem wM_a7 (cy cz : ClassId) (m : Nat → Nat) (P : Mem) (j : Nat) (v : Int32) : (wM cy cz m P).set 7 (m 7, .inl (cy, 4200, .inl (upd (P 7) j v))) = wM cy cz m (ps P 7 j v) := rfl
theorem wM_a8 (cy cz : ClassId) (m : Nat → Nat) (P : Mem) (j : Nat) (v : Int32) : (wM cy cz m P).set 8 (m 8, .inl (cy, 64, .inl (upd (P 8) j v))) = wM cy cz m (ps P 8 j v) := rfl
theorem wM_a9 (cy cz : ClassId) (m : Nat → Nat) (P : Mem) (j : Nat) (v : Int32) : (wM cy cz m P).set 9 (m 9, .inl (cy, 512, .inl (upd (P 9) j v))) = wM cy cz m (ps P 9 j v) := rfl
theorem wM_a10 (cy cz : ClassId) (m : Nat → Nat) (P : Mem) (j : Nat) (v : Int32) : (wM cy cz m P).set 10 (m 10, .inl (cy, 512, .inl (upd (P 10) j v))) = wM cy cz m (ps P 10 j v) := rfl
end
section
/-! THE STORE, ABSTRACTLY: sizes of pages, tails of chains, keys, values, which spare pages are free, level, split -/
def hsh (key : Int32) : Int32 := (key * (-1640531527)) ^^^ ((key * (-1640531527)).toUInt32 >>> ((15 : Int32).toUInt32 &&& Int32.toUInt32 31)).toInt32
def hN (key : Int32) : Nat := (hsh key).toBitVec.toNat
def adr (L S : Nat) (key : Int32) : Nat := if hN key % 2 ^ (L + 2) < S then hN key % 2 ^ (L + 3) else hN key % 2 ^ (L + 2)
theorem L5 {L : Nat} (h : L ≤ 4) : L = 0 ∨ L = 1 ∨ L = 2 ∨ L = 3 ∨ L = 4 := by omega
theorem adr_m1 {L : Nat} (h : L ≤ 4) : (((4 : Int32) <<< (nI L &&& 31)) - 1).toBitVec.toNat = 2 ^ (L + 2) - 1 := by
  rcases L5 h with rfl | rfl | rfl | rfl | rfl <;> decide
theorem adr_m2 {L : Nat} (h : L ≤ 4) : (((8 : Int32) <<< (nI L &&& 31)) - 1).toBitVec.toNat = 2 ^ (L + 3) - 1 := by
  rcases L5 h with rfl | rfl | rfl | rfl | rfl <;> decide
theorem adr_m3 {L : Nat} (h : L ≤ 4) : (2 * ((4 : Int32) <<< (nI L &&& 31)) - 1).toBitVec.toNat = 2 ^ (L + 3) - 1 := by
  rcases L5 h with rfl | rfl | rfl | rfl | rfl <;> decide
theorem adr_lo (key : Int32) {L : Nat} (h : L ≤ 4) : hsh key &&& (((4 : Int32) <<< (nI L &&& 31)) - 1) = nI (hN key % 2 ^ (L + 2)) := pk_and (hsh key) (L + 2) (adr_m1 h)
theorem adr_hi (key : Int32) {L : Nat} (h : L ≤ 4) : hsh key &&& (((8 : Int32) <<< (nI L &&& 31)) - 1) = nI (hN key % 2 ^ (L + 3)) := pk_and (hsh key) (L + 3) (adr_m2 h)
theorem adr_hi3 (key : Int32) {L : Nat} (h : L ≤ 4) : hsh key &&& (2 * ((4 : Int32) <<< (nI L &&& 31)) - 1) = nI (hN key % 2 ^ (L + 3)) := pk_and (hsh key) (L + 3) (adr_m3 h)
theorem adr_lt2 (key : Int32) {L : Nat} (h : L ≤ 4) : hN key % 2 ^ (L + 2) < 64 := by
  have h1 : hN key % 2 ^ (L + 2) < 2 ^ (L + 2) := Nat.mod_lt _ (Nat.pow_pos (by decide))
  have h2 : 2 ^ (L + 2) ≤ 2 ^ 6 := Nat.pow_le_pow_right (by decide) (by omega)
  omega
theorem adr_t {L S : Nat} {key : Int32} (h4 : L ≤ 4) (h5 : S ≤ 64) (c : nI S ≤ nI (hN key % 2 ^ (L + 2))) : nI (hN key % 2 ^ (L + 2)) = nI (adr L S key) := by
  have h1 := adr_lt2 key h4
  have h2 := (nI_leI (by omega) (by omega)).mp c
  unfold adr
  rw [if_neg (by omega)]
theorem adr_f {L S : Nat} {key : Int32} (h4 : L ≤ 4) (h5 : S ≤ 64) (c : ¬ nI S ≤ nI (hN key % 2 ^ (L + 2))) : nI (hN key % 2 ^ (L + 3)) = nI (adr L S key) := by
  have h1 := adr_lt2 key h4
  have h2 : ¬ S ≤ hN key % 2 ^ (L + 2) := fun q => c (nI_le q (by omega))
  unfold adr
  rw [if_pos (by omega)]
def nbN (L S : Nat) : Nat := 4 * 2 ^ L + S
theorem nb_eq {L S : Nat} (h : L ≤ 4) : ((4 : Int32) <<< (nI L &&& 31)) + nI S = nI (nbN L S) := by
  have e : ((4 : Int32) <<< (nI L &&& 31)) = nI (4 * 2 ^ L) := by rcases L5 h with rfl | rfl | rfl | rfl | rfl <;> decide
  rw [e, nI_add]; rfl
theorem base_eq {L : Nat} (h : L ≤ 4) : ((4 : Int32) <<< (nI L &&& 31)) = nI (4 * 2 ^ L) := by rcases L5 h with rfl | rfl | rfl | rfl | rfl <;> decide
/-- an address lies among the buckets -/
theorem adr_lt (L S : Nat) (key : Int32) : adr L S key < nbN L S := by
  unfold adr nbN
  have h1 : hN key % 2 ^ (L + 2) < 2 ^ (L + 2) := Nat.mod_lt _ (Nat.pow_pos (by decide))
  have e2 : 2 ^ (L + 2) = 4 * 2 ^ L := by rw [Nat.pow_add]; omega
  have e3 : 2 ^ (L + 3) = 2 ^ (L + 2) * 2 := by rw [Nat.pow_succ]
  split
  · rename_i h
    have e4 : hN key % 2 ^ (L + 3) = hN key % 2 ^ (L + 2) + 2 ^ (L + 2) * (hN key / 2 ^ (L + 2) % 2) := by rw [e3]; exact Nat.mod_mul
    have h2 : hN key / 2 ^ (L + 2) % 2 < 2 := Nat.mod_lt _ (by decide)
    rw [e4]
    rcases (show hN key / 2 ^ (L + 2) % 2 = 0 ∨ hN key / 2 ^ (L + 2) % 2 = 1 by omega) with e | e <;> rw [e] <;> omega
  · omega
/-! lists of pages -/
def hdI : List Nat → Int32
  | [] => vNONE
  | q :: _ => nI q
def isCh (f : Nat → Int32) : List Nat → Prop
  | [] => True
  | q :: l => q < 128 ∧ f q = hdI l ∧ isCh f l
def ocI : Option Nat → Int32
  | none => vNONE
  | some c => nI c
def lst : Nat → List Nat → Nat
  | b, [] => b
  | _, q :: l => lst q l
def isAh (f : Nat → Int32) : Nat → List Nat → Prop
  | _, [] => True
  | q, r :: l => f r = nI q ∧ isAh f r l
def flB (sz : Nat → Nat) : Nat → List Nat → Prop
  | _, [] => True
  | q, r :: l => sz q = 4 ∧ flB sz r l
def fndI (ks : Nat → Int32) (key : Int32) (q : Nat) : Nat → Nat → Option Nat
  | 0, _ => none
  | n + 1, i => if ks (q * 4 + i) = key then some (q * 4 + i) else fndI ks key q n (i + 1)
def fndL (sz : Nat → Nat) (ks : Nat → Int32) (key : Int32) : List Nat → Option Nat
  | [] => none
  | q :: l => match fndI ks key q (sz q) 0 with
    | some c => some c
    | none => fndL sz ks key l
def lookL (o : Option Nat) : List Nat → Nat
  | [] => 0
  | q :: l => match o with
    | none => 1 + lookL o l
    | some c => if q = c / 4 then 1 else 1 + lookL o l
def rdL (sz : Nat → Nat) (ks : Nat → Int32) (key : Int32) : List Nat → Nat
  | [] => 0
  | q :: l => match fndI ks key q (sz q) 0 with
    | some _ => 1
    | none => 1 + rdL sz ks key l
def sumL (sz : Nat → Nat) : List Nat → Nat
  | [] => 0
  | q :: l => sz q + sumL sz l
def effL (sz : Nat → Nat) : Nat → List Nat → Nat
  | _, [] => 0
  | k, q :: l => k * sz q + effL sz (k + 1) l
def entL (sz : Nat → Nat) : List Nat → Nat → Option Nat
  | [], _ => none
  | q :: l, i => if i < sz q then some (q * 4 + i) else entL sz l (i - sz q)
/-- the first free page from p on, n of them -/
def lfrF (fr : Nat → Bool) : Nat → Nat → Option Nat
  | 0, _ => none
  | n + 1, p => if fr p = true then some p else lfrF fr n (p + 1)
def frcF (fr : Nat → Bool) : Nat → Nat → Nat
  | 0, _ => 0
  | n + 1, p => (if fr p = true then 1 else 0) + frcF fr n (p + 1)
def smF (f : Nat → Nat) : Nat → Nat → Nat
  | 0, _ => 0
  | n + 1, b => f b + smF f n (b + 1)
def mxF (f : Nat → Nat) : Nat → Nat → Nat → Nat
  | 0, _, m => m
  | n + 1, b, m => mxF f n (b + 1) (if m < f b then f b else m)
def pgF (ch : Nat → List Nat) : Nat → Nat → List Nat
  | 0, _ => []
  | n + 1, b => ch b ++ pgF ch n (b + 1)
/-- the first bucket from b on whose chain has page p -/
def ownF (ch : Nat → List Nat) (p : Nat) : Nat → Nat → Option Nat
  | 0, _ => none
  | n + 1, b => if p ∈ ch b then some b else ownF ch p n (b + 1)
/-! the state -/
abbrev AS : Type := (Nat → Nat) × (Nat → List Nat) × (Nat → Int32) × (Nat → Int32) × (Nat → Bool) × Nat × Nat
def AS.sz (A : AS) : Nat → Nat := A.1
def AS.tl (A : AS) : Nat → List Nat := A.2.1
def AS.ks (A : AS) : Nat → Int32 := A.2.2.1
def AS.vs (A : AS) : Nat → Int32 := A.2.2.2.1
def AS.fr (A : AS) : Nat → Bool := A.2.2.2.2.1
def AS.L (A : AS) : Nat := A.2.2.2.2.2.1
def AS.S (A : AS) : Nat := A.2.2.2.2.2.2
def AS.ch (A : AS) (b : Nat) : List Nat := b :: A.tl b
def AS.nb (A : AS) : Nat := nbN A.L A.S
def AS.ad (A : AS) (key : Int32) : Nat := adr A.L A.S key
def AS.la (A : AS) (b : Nat) : Nat := lst b (A.tl b)
def AS.fnd (A : AS) (key : Int32) : Option Nat := fndL A.sz A.ks key (A.ch (A.ad key))
def AS.lf (A : AS) : Option Nat := lfrF A.fr 64 64
def AS.fc (A : AS) : Nat := frcF A.fr 64 64
def AS.lng (A : AS) : Nat := mxF (fun b => (A.tl b).length + 1) A.nb 0 0
def AS.eff (A : AS) : Nat := smF (fun b => effL A.sz 1 (A.ch b)) A.nb 0
def AS.ent (A : AS) (i : Nat) : Option Nat := entL A.sz (pgF A.ch A.nb 0) i
def AS.own (A : AS) (p : Nat) : Option Nat := ownF A.ch p A.nb 0
/-- the chains are as they must be -/
def WFc (A : AS) : Prop :=
  (∀ b, b < 64 → ∀ p, p ∈ A.tl b → 64 ≤ p ∧ p < 128 ∧ A.fr p = false ∧ 1 ≤ A.sz p) ∧
  (∀ b, b < 64 → (A.tl b).Nodup) ∧
  (∀ b c, b < 64 → c < 64 → ∀ p, p ∈ A.tl b → p ∈ A.tl c → b = c) ∧
  (∀ p, 64 ≤ p → p < 128 → A.fr p = false → ∃ b, b < 64 ∧ p ∈ A.tl b) ∧
  (∀ p, p < 128 → A.sz p ≤ 4) ∧
  (∀ p, 64 ≤ p → p < 128 → A.fr p = true → A.sz p = 0) ∧
  (∀ b, b < 64 → flB A.sz b (A.tl b))
/-- level and split, and where keys stand -/
def WFa (A : AS) : Prop :=
  A.L ≤ 4 ∧ A.S < 4 * 2 ^ A.L ∧ A.nb ≤ 64 ∧
  (∀ b, A.nb ≤ b → b < 64 → A.tl b = [] ∧ A.sz b = 0) ∧
  (∀ b, b < A.nb → ∀ p, p ∈ A.ch b → ∀ i, i < A.sz p → A.ad (A.ks (p * 4 + i)) = b)
/-- the class's arrays hold it -/
def RPc (A : AS) (P : Mem) : Prop :=
  (∀ p, p < 128 → P 3 p = nI (A.sz p)) ∧
  (∀ b, b < 64 → isCh (P 4) (A.ch b)) ∧
  (∀ p, 64 ≤ p → p < 128 → A.fr p = true → P 4 p = vNONE) ∧
  (∀ b, b < 64 → isAh (P 5) b (A.tl b)) ∧
  (∀ b, b < 64 → ∀ p, p ∈ A.tl b → P 6 p = nI b) ∧
  (∀ p, 64 ≤ p → p < 128 → A.fr p = true → P 6 p = vNONE) ∧
  (∀ b, b < 64 → P 7 b = nI (A.la b)) ∧
  (∀ p, p < 128 → ∀ i, i < A.sz p → P 1 (p * 4 + i) = A.ks (p * 4 + i) ∧ P 2 (p * 4 + i) = A.vs (p * 4 + i))
def RC (A : AS) (P : Mem) : Prop := WFc A ∧ RPc A P
def RP (A : AS) (P : Mem) : Prop := RC A P ∧ WFa A ∧ P 0 0 = nI A.L ∧ P 0 1 = nI A.S
/-- the reference's arrays hold it -/
def RMc (A : AS) (M : Mem) : Prop :=
  (∀ p, p < 128 → M 3 p = nI (A.sz p)) ∧
  (∀ b, b < 64 → isCh (M 4) (A.ch b)) ∧
  (∀ p, 64 ≤ p → p < 128 → A.fr p = true → M 4 p = vNONE) ∧
  (∀ p, 64 ≤ p → p < 128 → M 5 p = if A.fr p = true then 1 else 0) ∧
  (∀ p, p < 128 → ∀ i, i < A.sz p → M 1 (p * 4 + i) = A.ks (p * 4 + i) ∧ M 2 (p * 4 + i) = A.vs (p * 4 + i))
def RD (A : AS) (M : Mem) : Prop := WFc A ∧ RMc A M
def RM (A : AS) (M : Mem) : Prop := RD A M ∧ WFa A ∧ M 0 0 = nI A.L ∧ M 0 1 = nI A.S
/-! first rows -/
theorem NONE_nI {p : Nat} (h : p < 2 ^ 31) : ¬ nI p = vNONE := by
  intro e
  have := nI_pos h
  rw [e] at this
  exact this (by decide)
theorem nodup_le {l : List Nat} (h1 : l.Nodup) : ∀ (n a : Nat), (∀ p, p ∈ l → a ≤ p ∧ p < a + n) → l.length ≤ n := by
  intro n a h2
  have h3 : l ⊆ List.range' a n := fun p hp => List.mem_range'_1.mpr (h2 p hp)
  have h4 := (List.nodup_range' (step := 1) (s := a) (n := n) (by decide))
  have := List.Nodup.length_le_of_subset h1 h3
  simpa using this
theorem WFc.len {A : AS} (h : WFc A) {b : Nat} (hb : b < 64) : (A.tl b).length ≤ 64 := nodup_le (h.2.1 b hb) 64 64 (fun p hp => ⟨(h.1 b hb p hp).1, (h.1 b hb p hp).2.1⟩)
theorem WFc.sz4 {A : AS} (h : WFc A) {p : Nat} (hp : p < 128) : A.sz p ≤ 4 := h.2.2.2.2.1 p hp
theorem RC.used {A : AS} {P : Mem} (h : RC A P) {p : Nat} (hp : p < 128) : P 3 p = nI (A.sz p) := h.2.1 p hp
theorem RC.sz4 {A : AS} {P : Mem} (h : RC A P) {p : Nat} (hp : p < 128) : A.sz p ≤ 4 := h.1.sz4 hp
theorem RC.chain {A : AS} {P : Mem} (h : RC A P) {b : Nat} (hb : b < 64) : isCh (P 4) (A.ch b) := h.2.2.1 b hb
theorem RC.len {A : AS} {P : Mem} (h : RC A P) {b : Nat} (hb : b < 64) : (A.ch b).length ≤ 65 := by
  have := h.1.len hb
  show (A.tl b).length + 1 ≤ 65
  omega
theorem RC.last {A : AS} {P : Mem} (h : RC A P) {b : Nat} (hb : b < 64) : P 7 b = nI (A.la b) := h.2.2.2.2.2.2.2.1 b hb
theorem RC.key {A : AS} {P : Mem} (h : RC A P) {p i : Nat} (hp : p < 128) (hi : i < A.sz p) : P 1 (p * 4 + i) = A.ks (p * 4 + i) := (h.2.2.2.2.2.2.2.2 p hp i hi).1
theorem RC.val {A : AS} {P : Mem} (h : RC A P) {p i : Nat} (hp : p < 128) (hi : i < A.sz p) : P 2 (p * 4 + i) = A.vs (p * 4 + i) := (h.2.2.2.2.2.2.2.2 p hp i hi).2
theorem RC.hold {A : AS} {P : Mem} (h : RC A P) {p : Nat} (h1 : 64 ≤ p) (h2 : p < 128) : P 6 p = vNONE ↔ A.fr p = true := by
  constructor
  · intro e
    cases hf : A.fr p with
    | true => rfl
    | false =>
      obtain ⟨b, hb, hp⟩ := h.1.2.2.2.1 p h1 h2 hf
      have h3 := h.2.2.2.2.2.1 b hb p hp
      rw [h3] at e
      exact absurd e (NONE_nI (by omega))
  · exact h.2.2.2.2.2.2.1 p h1 h2
theorem lst_in (b : Nat) (l : List Nat) : lst b l ∈ b :: l := by
  induction l generalizing b with
  | nil => exact List.mem_cons_self
  | cons q l ih => exact List.mem_cons_of_mem _ (ih q)
theorem WFc.page {A : AS} (h : WFc A) {b p : Nat} (hb : b < 64) (hp : p ∈ A.ch b) : p < 128 := by
  rcases List.mem_cons.mp hp with rfl | h1
  · omega
  · exact (h.1 b hb p h1).2.1
theorem WFc.la {A : AS} (h : WFc A) {b : Nat} (hb : b < 64) : A.la b < 128 := h.page hb (lst_in _ _)
theorem RC.la {A : AS} {P : Mem} (h : RC A P) {b : Nat} (hb : b < 64) : A.la b < 128 := h.1.la hb
theorem WFa.lt {A : AS} (h : WFa A) (key : Int32) : A.ad key < 64 := Nat.lt_of_lt_of_le (adr_lt A.L A.S key) h.2.2.1
theorem RP.nb {A : AS} {P : Mem} (h : RP A P) : ((4 : Int32) <<< (P 0 0 &&& 31)) + P 0 1 = nI A.nb := by
  rw [h.2.2.1, h.2.2.2]; exact nb_eq h.2.1.1
theorem RP.nb64 {A : AS} {P : Mem} (h : RP A P) : A.nb ≤ 64 := h.2.1.2.2.1
theorem RP.S64 {A : AS} {P : Mem} (h : RP A P) : A.S ≤ 64 := by
  have := h.nb64
  unfold AS.nb nbN at this
  omega
theorem RP.adlt {A : AS} {P : Mem} (h : RP A P) (key : Int32) : A.ad key < 64 := h.2.1.lt key
theorem fndI_miss {ks : Nat → Int32} {key : Int32} {q n i : Nat} (h : i < n) (hk : ¬ ks (q * 4 + i) = key) : fndI ks key q (n - i) i = fndI ks key q (n - (i + 1)) (i + 1) := by
  rw [show n - i = (n - (i + 1)) + 1 by omega]
  show (if ks (q * 4 + i) = key then _ else _) = _
  rw [if_neg hk]
theorem fndI_hit {ks : Nat → Int32} {key : Int32} {q n i : Nat} (h : i < n) (hk : ks (q * 4 + i) = key) : fndI ks key q (n - i) i = some (q * 4 + i) := by
  rw [show n - i = (n - (i + 1)) + 1 by omega]
  show (if ks (q * 4 + i) = key then _ else _) = _
  rw [if_pos hk]
theorem lfrF_miss {fr : Nat → Bool} {p : Nat} (h : p < 128) (hf : ¬ fr p = true) : lfrF fr (128 - p) p = lfrF fr (128 - (p + 1)) (p + 1) := by
  rw [show 128 - p = (128 - (p + 1)) + 1 by omega]
  show (if fr p = true then _ else _) = _
  rw [if_neg hf]
theorem lfrF_hit {fr : Nat → Bool} {p : Nat} (h : p < 128) (hf : fr p = true) : lfrF fr (128 - p) p = some p := by
  rw [show 128 - p = (128 - (p + 1)) + 1 by omega]
  show (if fr p = true then _ else _) = _
  rw [if_pos hf]
theorem frcF_step {fr : Nat → Bool} {p : Nat} (h : p < 128) : frcF fr (128 - p) p = (if fr p = true then 1 else 0) + frcF fr (128 - (p + 1)) (p + 1) := by
  rw [show 128 - p = (128 - (p + 1)) + 1 by omega]
  rfl
theorem smF_step {f : Nat → Nat} {n b : Nat} (h : b < n) : smF f (n - b) b = f b + smF f (n - (b + 1)) (b + 1) := by
  rw [show n - b = (n - (b + 1)) + 1 by omega]
  rfl
theorem mxF_step {f : Nat → Nat} {n b m : Nat} (h : b < n) : mxF f (n - b) b m = mxF f (n - (b + 1)) (b + 1) (if m < f b then f b else m) := by
  rw [show n - b = (n - (b + 1)) + 1 by omega]
  rfl
theorem pgF_step {ch : Nat → List Nat} {n b : Nat} (h : b < n) : pgF ch (n - b) b = ch b ++ pgF ch (n - (b + 1)) (b + 1) := by
  rw [show n - b = (n - (b + 1)) + 1 by omega]
  rfl
theorem nI_ite {p : Prop} [Decidable p] {a b : Nat} : (if p then nI a else nI b) = nI (if p then a else b) := by
  split <;> rfl
end
section
/-! WRITES, ABSTRACTLY, and that the class's arrays follow -/
theorem lfrF_in {fr : Nat → Bool} : ∀ (n p q : Nat), lfrF fr n p = some q → p ≤ q ∧ q < p + n ∧ fr q = true
  | 0, _, _, h => by cases h
  | n + 1, p, q, h => by
    by_cases hf : fr p = true
    · have h : (if fr p = true then some p else lfrF fr n (p + 1)) = some q := h
      rw [if_pos hf] at h
      cases h
      exact ⟨Nat.le_refl _, by omega, hf⟩
    · have h : (if fr p = true then some p else lfrF fr n (p + 1)) = some q := h
      rw [if_neg hf] at h
      obtain ⟨h1, h2, h3⟩ := lfrF_in n (p + 1) q h
      exact ⟨by omega, by omega, h3⟩
theorem AS_lf (A : AS) : ∀ q, A.lf = some q → q < 2 ^ 31 := fun q h => by
  have := lfrF_in 64 64 q h
  omega
theorem ocI_none {o : Option Nat} (h : ∀ q, o = some q → q < 2 ^ 31) (e : ocI o = vNONE) : o = none := by
  cases o with
  | none => rfl
  | some q => exact absurd e (NONE_nI (h q rfl))
def AS.add (A : AS) (b : Nat) (k v : Int32) : AS :=
  if A.sz (A.la b) < 4 then (va_up A.sz (A.la b) (A.sz (A.la b) + 1), A.tl, va_up A.ks (A.la b * 4 + A.sz (A.la b)) k, va_up A.vs (A.la b * 4 + A.sz (A.la b)) v, A.fr, A.L, A.S)
  else match A.lf with
    | none => A
    | some r => (va_up A.sz r 1, va_up A.tl b (A.tl b ++ [r]), va_up A.ks (r * 4) k, va_up A.vs (r * 4) v, va_up A.fr r false, A.L, A.S)
abbrev clrP (P : Mem) (q : Nat) : Mem := ps (ps (ps (ps P 3 q 0) 4 q vNONE) 5 q vNONE) 6 q vNONE
abbrev lnkP (P : Mem) (b q r : Nat) : Mem := ps (ps (ps (ps P 4 q (nI r)) 5 r (nI q)) 6 r (nI b)) 7 b (nI r)
theorem up_s {α : Type} {f : Nat → α} {k : Nat} {x : α} : va_up f k x k = x := by simp [va_up]
theorem up_n {α : Type} {f : Nat → α} {k j : Nat} {x : α} (h : ¬ j = k) : va_up f k x j = f j := by simp [va_up, h]
theorem isCh_congr {f g : Nat → Int32} : ∀ {l : List Nat}, (∀ p, p ∈ l → g p = f p) → isCh f l → isCh g l
  | [], _, _ => trivial
  | q :: l, h, hc => ⟨hc.1, by rw [h q List.mem_cons_self]; exact hc.2.1, isCh_congr (fun p hp => h p (List.mem_cons_of_mem _ hp)) hc.2.2⟩
theorem isAh_congr {f g : Nat → Int32} : ∀ {b : Nat} {l : List Nat}, (∀ p, p ∈ l → g p = f p) → isAh f b l → isAh g b l
  | _, [], _, _ => trivial
  | b, q :: l, h, hc => ⟨by rw [h q List.mem_cons_self]; exact hc.1, isAh_congr (fun p hp => h p (List.mem_cons_of_mem _ hp)) hc.2⟩
theorem flB_congr {f g : Nat → Nat} : ∀ {b : Nat} {l : List Nat}, (b :: l).Nodup → (∀ p, p ∈ b :: l → ¬ p = lst b l → g p = f p) → flB f b l → flB g b l
  | _, [], _, _, _ => trivial
  | b, q :: l, hn, h, hc => by
    have hn1 := List.nodup_cons.mp hn
    refine ⟨?_, flB_congr hn1.2 (fun p hp hl => h p (List.mem_cons_of_mem _ hp) hl) hc.2⟩
    rw [h b List.mem_cons_self (fun e => hn1.1 (by rw [e]; exact lst_in q l))]
    exact hc.1
theorem lst_snoc (b r : Nat) : ∀ (l : List Nat), lst b (l ++ [r]) = r := by
  intro l
  induction l generalizing b with
  | nil => rfl
  | cons q l ih => exact ih q
theorem flB_snoc {f : Nat → Nat} {r : Nat} : ∀ {b : Nat} {l : List Nat}, flB f b l → f (lst b l) = 4 → flB f b (l ++ [r])
  | _, [], _, h => ⟨h, trivial⟩
  | _, _ :: _, hc, h => ⟨hc.1, flB_snoc hc.2 h⟩
theorem isAh_snoc {f : Nat → Int32} {r : Nat} : ∀ {b : Nat} {l : List Nat}, isAh f b l → f r = nI (lst b l) → isAh f b (l ++ [r])
  | _, [], _, h => ⟨h, trivial⟩
  | _, _ :: _, hc, h => ⟨hc.1, isAh_snoc hc.2 h⟩
theorem isCh_snoc {f : Nat → Int32} {r : Nat} (hr : r < 128) : ∀ {b : Nat} {l : List Nat}, (b :: l).Nodup → ¬ r ∈ b :: l → isCh f (b :: l) → f r = vNONE → isCh (upd f (lst b l) (nI r)) (b :: (l ++ [r]))
  | b, [], _, hm, hc, h => by
    have hrb : ¬ r = b := fun e => hm (by rw [e]; exact List.mem_cons_self)
    refine ⟨hc.1, ?_, hr, ?_, trivial⟩
    · show upd f b (nI r) b = nI r
      rw [pk_us]
    · show upd f b (nI r) r = vNONE
      rw [pk_un hrb]; exact h
  | b, q :: l, hn, hm, hc, h => by
    have hn1 := List.nodup_cons.mp hn
    refine ⟨hc.1, ?_, isCh_snoc hr hn1.2 (fun w => hm (List.mem_cons_of_mem _ w)) hc.2.2 h⟩
    show upd f (lst q l) (nI r) b = nI q
    rw [pk_un (fun e => hn1.1 (by rw [e]; exact lst_in q l))]
    exact hc.2.1
theorem WFc.nodup {A : AS} (h : WFc A) {b : Nat} (hb : b < 64) : (A.ch b).Nodup := List.nodup_cons.mpr ⟨fun w => by have := (h.1 b hb b w).1; omega, h.2.1 b hb⟩
/-- a page is in one chain alone -/
theorem WFc.one {A : AS} (h : WFc A) {b c p : Nat} (hb : b < 64) (hc : c < 64) (h1 : p ∈ A.ch b) (h2 : p ∈ A.ch c) : b = c := by
  rcases List.mem_cons.mp h1 with rfl | h1 <;> rcases List.mem_cons.mp h2 with rfl | h2
  · rfl
  · have := (h.1 c hc p h2).1; omega
  · have := (h.1 b hb p h1).1; omega
  · exact h.2.2.1 b c hb hc p h1 h2
theorem WFc.nfree {A : AS} (h : WFc A) {b p : Nat} (hb : b < 64) (h1 : p ∈ A.ch b) (h2 : 64 ≤ p) : A.fr p = false := by
  rcases List.mem_cons.mp h1 with rfl | h1
  · omega
  · exact (h.1 b hb p h1).2.2.1
theorem WFc.lf {A : AS} {r : Nat} (h : A.lf = some r) : 64 ≤ r ∧ r < 128 ∧ A.fr r = true := by
  have := lfrF_in 64 64 r h
  exact ⟨this.1, by omega, this.2.2⟩
theorem WFc_add1 {A : AS} {b : Nat} (h : WFc A) (hb : b < 64) (hs : A.sz (A.la b) < 4) (k v : Int32) : WFc (A.add b k v) := by
  have hq : A.la b ∈ A.ch b := lst_in _ _
  unfold AS.add
  rw [if_pos hs]
  generalize hgq : A.la b = q at hq hs
  refine ⟨fun c hc p hp => ?_, h.2.1, h.2.2.1, h.2.2.2.1, fun p hp => ?_, fun p h1 h2 hf => ?_, fun c hc => ?_⟩
  · obtain ⟨a1, a2, a3, a4⟩ := h.1 c hc p hp
    refine ⟨a1, a2, a3, ?_⟩
    show 1 ≤ va_up A.sz q (A.sz q + 1) p
    by_cases e : p = q
    · subst e; rw [up_s]; omega
    · rw [up_n e]; exact a4
  · show va_up A.sz q (A.sz q + 1) p ≤ 4
    by_cases e : p = q
    · subst e; rw [up_s]; omega
    · rw [up_n e]; exact h.sz4 hp
  · show va_up A.sz q (A.sz q + 1) p = 0
    have e : ¬ p = q := fun e => by
      subst e
      have := h.nfree hb hq h1
      rw [show A.fr p = true from hf] at this
      cases this
    rw [up_n e]; exact h.2.2.2.2.2.1 p h1 h2 hf
  · refine flB_congr (f := A.sz) (h.nodup hc) (fun p hp hl => up_n (fun e => ?_)) (h.2.2.2.2.2.2 c hc)
    subst e
    have := h.one hb hc hq hp
    subst this
    exact hl hgq.symm
theorem RPc_add1 {A : AS} {P : Mem} {b : Nat} (h : WFc A) (hp0 : RPc A P) (hb : b < 64) (hs : A.sz (A.la b) < 4) (k v E : Int32) : RPc (A.add b k v) (ps (ps (ps (ps P 1 (A.la b * 4 + A.sz (A.la b)) k) 2 (A.la b * 4 + A.sz (A.la b)) v) 3 (A.la b) (nI (A.sz (A.la b) + 1))) 0 2 E) := by
  have hq : A.la b ∈ A.ch b := lst_in _ _
  obtain ⟨p1, p2, p3, p4, p5, p6, p7, p8⟩ := hp0
  unfold AS.add
  rw [if_pos hs]
  have hq1 : A.la b < 128 := h.la hb
  have hlae : ∀ c, lst c (A.tl c) = A.la c := fun _ => rfl
  generalize A.la b = q at hq hs hq1
  refine ⟨fun p hp => ?_, p2, p3, p4, p5, p6, p7, fun p hp i hi => ?_⟩
  · show upd (P 3) q (nI (A.sz q + 1)) p = nI (va_up A.sz q (A.sz q + 1) p)
    by_cases e : p = q
    · subst e; rw [pk_us, up_s]
    · rw [pk_un e, up_n e]; exact p1 p hp
  · show upd (P 1) (q * 4 + A.sz q) k (p * 4 + i) = va_up A.ks (q * 4 + A.sz q) k (p * 4 + i) ∧ upd (P 2) (q * 4 + A.sz q) v (p * 4 + i) = va_up A.vs (q * 4 + A.sz q) v (p * 4 + i)
    have hi : i < va_up A.sz q (A.sz q + 1) p := hi
    by_cases e : p * 4 + i = q * 4 + A.sz q
    · rw [e, pk_us, pk_us, up_s, up_s]; exact ⟨rfl, rfl⟩
    · rw [pk_un e, pk_un e, up_n e, up_n e]
      refine p8 p hp i ?_
      by_cases e2 : p = q
      · subst e2; rw [up_s] at hi; omega
      · rw [up_n e2] at hi; exact hi
theorem RC_add1 {A : AS} {P : Mem} {b : Nat} (hr : RC A P) (hb : b < 64) (hs : A.sz (A.la b) < 4) (k v E : Int32) : RC (A.add b k v) (ps (ps (ps (ps P 1 (A.la b * 4 + A.sz (A.la b)) k) 2 (A.la b * 4 + A.sz (A.la b)) v) 3 (A.la b) (nI (A.sz (A.la b) + 1))) 0 2 E) :=
  ⟨WFc_add1 hr.1 hb hs k v, RPc_add1 hr.1 hr.2 hb hs k v E⟩
theorem WFc_add2 {A : AS} {b r : Nat} (h : WFc A) (hb : b < 64) (hs : ¬ A.sz (A.la b) < 4) (hf : A.lf = some r) (k v : Int32) : WFc (A.add b k v) := by
  obtain ⟨r1, r2, r3⟩ := WFc.lf hf
  have hs4 : A.sz (lst b (A.tl b)) = 4 := by have := h.sz4 (h.la hb); unfold AS.la at this hs; omega
  have hrn : ∀ c, c < 64 → ¬ r ∈ A.ch c := fun c hc w => by have := h.nfree hc w r1; rw [r3] at this; cases this
  unfold AS.add
  rw [if_neg hs, hf]
  have htl : ∀ c p, p ∈ va_up A.tl b (A.tl b ++ [r]) c → p ∈ A.tl c ∨ (c = b ∧ p = r) := by
    intro c p hp
    by_cases e : c = b
    · subst e; rw [up_s] at hp
      rcases List.mem_append.mp hp with w | w
      · exact Or.inl w
      · exact Or.inr ⟨rfl, by simpa using w⟩
    · rw [up_n e] at hp; exact Or.inl hp
  have hne : ∀ c, c < 64 → ∀ p, p ∈ A.tl c → ¬ p = r := fun c hc p hp e => hrn c hc (by rw [← e]; exact List.mem_cons_of_mem _ hp)
  refine ⟨fun c hc p hp => ?_, fun c hc => ?_, fun c d hc hd p h1 h2 => ?_, fun p h1 h2 h3 => ?_, fun p hp => ?_, fun p h1 h2 h3 => ?_, fun c hc => ?_⟩
  · show 64 ≤ p ∧ p < 128 ∧ va_up A.fr r false p = false ∧ 1 ≤ va_up A.sz r 1 p
    rcases htl c p hp with w | ⟨-, rfl⟩
    · rw [up_n (hne c hc p w), up_n (hne c hc p w)]; exact h.1 c hc p w
    · rw [up_s, up_s]; exact ⟨r1, r2, rfl, Nat.le_refl _⟩
  · show (va_up A.tl b (A.tl b ++ [r]) c).Nodup
    by_cases e : c = b
    · subst e; rw [up_s]
      refine List.nodup_append.mpr ⟨h.2.1 c hc, List.nodup_cons.mpr ⟨by simp, List.nodup_nil⟩, fun x hx y hy => ?_⟩
      have : y = r := by simpa using hy
      rw [this]; exact hne c hc x hx
    · rw [up_n e]; exact h.2.1 c hc
  · rcases htl c p h1 with w1 | ⟨e1, e2⟩ <;> rcases htl d p h2 with w2 | ⟨e3, e4⟩
    · exact h.2.2.1 c d hc hd p w1 w2
    · exact absurd e4 (hne c hc p w1)
    · exact absurd e2 (hne d hd p w2)
    · rw [e1, e3]
  · have h3 : va_up A.fr r false p = false := h3
    show ∃ c, c < 64 ∧ p ∈ va_up A.tl b (A.tl b ++ [r]) c
    by_cases e : p = r
    · exact ⟨b, hb, by rw [up_s, e]; simp⟩
    · rw [up_n e] at h3
      obtain ⟨c, hc, hp⟩ := h.2.2.2.1 p h1 h2 h3
      refine ⟨c, hc, ?_⟩
      by_cases e2 : c = b
      · subst e2; rw [up_s]; exact List.mem_append_left _ hp
      · rw [up_n e2]; exact hp
  · show va_up A.sz r 1 p ≤ 4
    by_cases e : p = r
    · subst e; rw [up_s]; decide
    · rw [up_n e]; exact h.sz4 hp
  · have h3 : va_up A.fr r false p = true := h3
    show va_up A.sz r 1 p = 0
    by_cases e : p = r
    · subst e; rw [up_s] at h3; cases h3
    · rw [up_n e] at h3 ⊢; exact h.2.2.2.2.2.1 p h1 h2 h3
  · show flB (va_up A.sz r 1) c (va_up A.tl b (A.tl b ++ [r]) c)
    by_cases e : c = b
    · subst e; rw [up_s]
      refine flB_congr (f := A.sz) ?_ (fun p hp hl => up_n (fun e => hl (by rw [e, lst_snoc]))) (flB_snoc (h.2.2.2.2.2.2 c hc) hs4)
      refine List.nodup_cons.mpr ⟨fun w => ?_, ?_⟩
      · rcases List.mem_append.mp w with w | w
        · have := (h.1 c hc c w).1; omega
        · have : c = r := by simpa using w
          omega
      · refine List.nodup_append.mpr ⟨h.2.1 c hc, List.nodup_cons.mpr ⟨by simp, List.nodup_nil⟩, fun x hx y hy => ?_⟩
        have : y = r := by simpa using hy
        rw [this]; exact hne c hc x hx
    · rw [up_n e]
      exact flB_congr (f := A.sz) (h.nodup hc) (fun p hp hl => up_n (fun e => hrn c hc (by rw [← e]; exact hp))) (h.2.2.2.2.2.2 c hc)
theorem RPc_add2 {A : AS} {P : Mem} {b r : Nat} (h : WFc A) (hp0 : RPc A P) (hb : b < 64) (hs : ¬ A.sz (A.la b) < 4) (hf : A.lf = some r) (k v E : Int32) : RPc (A.add b k v) (ps (ps (ps (ps (lnkP P b (A.la b) r) 1 (r * 4) k) 2 (r * 4) v) 3 r (nI 1)) 0 2 E) := by
  obtain ⟨r1, r2, r3⟩ := WFc.lf hf
  have hq : A.la b ∈ A.ch b := lst_in _ _
  obtain ⟨p1, p2, p3, p4, p5, p6, p7, p8⟩ := hp0
  have hrn : ∀ c, c < 64 → ¬ r ∈ A.ch c := fun c hc w => by have := h.nfree hc w r1; rw [r3] at this; cases this
  have hne : ∀ c, c < 64 → ∀ p, p ∈ A.tl c → ¬ p = r := fun c hc p hp e => hrn c hc (by rw [← e]; exact List.mem_cons_of_mem _ hp)
  have hqr : ¬ A.la b = r := fun e => hrn b hb (by rw [← e]; exact hq)
  unfold AS.add
  rw [if_neg hs, hf]
  refine ⟨fun p hp => ?_, fun c hc => ?_, fun p h1 h2 h3 => ?_, fun c hc => ?_, fun c hc p hp => ?_, fun p h1 h2 h3 => ?_, fun c hc => ?_, fun p hp i hi => ?_⟩
  · show upd (P 3) r (nI 1) p = nI (va_up A.sz r 1 p)
    by_cases e : p = r
    · subst e; rw [pk_us, up_s]
    · rw [pk_un e, up_n e]; exact p1 p hp
  · show isCh (upd (P 4) (A.la b) (nI r)) (c :: va_up A.tl b (A.tl b ++ [r]) c)
    by_cases e : c = b
    · subst e; rw [up_s]
      exact isCh_snoc r2 (h.nodup hc) (hrn c hc) (p2 c hc) (p3 r r1 r2 r3)
    · rw [up_n e]
      exact isCh_congr (f := P 4) (fun p hp => pk_un (fun e2 => e (h.one hc hb hp (by rw [e2]; exact hq)))) (p2 c hc)
  · have h3 : va_up A.fr r false p = true := h3
    show upd (P 4) (A.la b) (nI r) p = vNONE
    have e : ¬ p = r := fun e => by rw [e, up_s] at h3; cases h3
    rw [up_n e] at h3
    have e2 : ¬ p = A.la b := fun e2 => by have := h.nfree hb (by rw [e2]; exact hq) h1; rw [h3] at this; cases this
    rw [pk_un e2]; exact p3 p h1 h2 h3
  · show isAh (upd (P 5) r (nI (A.la b))) c (va_up A.tl b (A.tl b ++ [r]) c)
    by_cases e : c = b
    · subst e; rw [up_s]
      exact isAh_snoc (isAh_congr (f := P 5) (fun p hp => pk_un (hne c hc p hp)) (p4 c hc)) pk_us
    · rw [up_n e]
      exact isAh_congr (f := P 5) (fun p hp => pk_un (hne c hc p hp)) (p4 c hc)
  · have hp : p ∈ va_up A.tl b (A.tl b ++ [r]) c := hp
    show upd (P 6) r (nI b) p = nI c
    by_cases e : c = b
    · subst e; rw [up_s] at hp
      rcases List.mem_append.mp hp with w | w
      · rw [pk_un (hne c hc p w)]; exact p5 c hc p w
      · have : p = r := by simpa using w
        rw [this, pk_us]
    · rw [up_n e] at hp
      rw [pk_un (hne c hc p hp)]; exact p5 c hc p hp
  · have h3 : va_up A.fr r false p = true := h3
    show upd (P 6) r (nI b) p = vNONE
    have e : ¬ p = r := fun e => by rw [e, up_s] at h3; cases h3
    rw [up_n e] at h3
    rw [pk_un e]; exact p6 p h1 h2 h3
  · show upd (P 7) b (nI r) c = nI (lst c (va_up A.tl b (A.tl b ++ [r]) c))
    by_cases e : c = b
    · subst e; rw [up_s, pk_us, lst_snoc]
    · rw [up_n e, pk_un e]; exact p7 c hc
  · show upd (P 1) (r * 4) k (p * 4 + i) = va_up A.ks (r * 4) k (p * 4 + i) ∧ upd (P 2) (r * 4) v (p * 4 + i) = va_up A.vs (r * 4) v (p * 4 + i)
    have hi : i < va_up A.sz r 1 p := hi
    by_cases e : p * 4 + i = r * 4
    · rw [e, pk_us, pk_us, up_s, up_s]; exact ⟨rfl, rfl⟩
    · rw [pk_un e, pk_un e, up_n e, up_n e]
      refine p8 p hp i ?_
      by_cases e2 : p = r
      · subst e2; rw [up_s] at hi; omega
      · rw [up_n e2] at hi; exact hi
theorem RC_add2 {A : AS} {P : Mem} {b r : Nat} (hr : RC A P) (hb : b < 64) (hs : ¬ A.sz (A.la b) < 4) (hf : A.lf = some r) (k v E : Int32) : RC (A.add b k v) (ps (ps (ps (ps (lnkP P b (A.la b) r) 1 (r * 4) k) 2 (r * 4) v) 3 r (nI 1)) 0 2 E) :=
  ⟨WFc_add2 hr.1 hb hs hf k v, RPc_add2 hr.1 hr.2 hb hs hf k v E⟩
end
section
/-! taking out -/
def AS.del (A : AS) (b c : Nat) : AS :=
  if A.sz (A.la b) - 1 = 0 ∧ 64 ≤ A.la b then (va_up A.sz (A.la b) 0, va_up A.tl b (A.tl b).dropLast, va_up A.ks c (A.ks (A.la b * 4 + (A.sz (A.la b) - 1))), va_up A.vs c (A.vs (A.la b * 4 + (A.sz (A.la b) - 1))), va_up A.fr (A.la b) true, A.L, A.S)
  else (va_up A.sz (A.la b) (A.sz (A.la b) - 1), A.tl, va_up A.ks c (A.ks (A.la b * 4 + (A.sz (A.la b) - 1))), va_up A.vs c (A.vs (A.la b * 4 + (A.sz (A.la b) - 1))), A.fr, A.L, A.S)
/-- a cell of bucket b that has an entry -/
def AS.live (A : AS) (b c : Nat) : Prop := ∃ p i, p ∈ A.ch b ∧ i < A.sz p ∧ c = p * 4 + i
theorem lst_split (b : Nat) : ∀ (l : List Nat), ¬ l = [] → l = l.dropLast ++ [lst b l]
  | [], h => absurd rfl h
  | [q], _ => rfl
  | q :: r :: l, _ => by
    have := lst_split q (r :: l) (by simp)
    show q :: r :: l = q :: ((r :: l).dropLast ++ [lst q (r :: l)])
    rw [← this]
theorem flB_pre {f : Nat → Nat} {r : Nat} : ∀ {b : Nat} {l : List Nat}, flB f b (l ++ [r]) → flB f b l
  | _, [], _ => trivial
  | _, _ :: _, h => ⟨h.1, flB_pre h.2⟩
theorem isAh_pre {f : Nat → Int32} {r : Nat} : ∀ {b : Nat} {l : List Nat}, isAh f b (l ++ [r]) → isAh f b l ∧ f r = nI (lst b l)
  | _, [], h => ⟨trivial, h.1⟩
  | _, _ :: _, h => ⟨⟨h.1, (isAh_pre h.2).1⟩, (isAh_pre h.2).2⟩
theorem isCh_pre {f : Nat → Int32} {r : Nat} : ∀ {b : Nat} {l : List Nat}, (b :: l).Nodup → ¬ r ∈ b :: l → isCh f (b :: (l ++ [r])) → isCh (upd (upd f (lst b l) vNONE) r vNONE) (b :: l)
  | b, [], _, hm, hc => by
    have hrb : ¬ b = r := fun e => hm (by rw [e]; exact List.mem_cons_self)
    refine ⟨hc.1, ?_, trivial⟩
    show upd (upd f b vNONE) r vNONE b = vNONE
    rw [pk_un hrb, pk_us]
  | b, q :: l, hn, hm, hc => by
    have hn1 := List.nodup_cons.mp hn
    refine ⟨hc.1, ?_, isCh_pre hn1.2 (fun w => hm (List.mem_cons_of_mem _ w)) hc.2.2⟩
    show upd (upd f (lst q l) vNONE) r vNONE b = nI q
    rw [pk_un (fun e => hm (by rw [e]; exact List.mem_cons_self)), pk_un (fun e => hn1.1 (by rw [e]; exact lst_in q l))]
    exact hc.2.1
theorem WFc.la1 {A : AS} (h : WFc A) {b c : Nat} (hb : b < 64) (hl : A.live b c) : 1 ≤ A.sz (A.la b) := by
  obtain ⟨p, i, h1, h2, -⟩ := hl
  by_cases e : A.tl b = []
  · unfold AS.la; rw [e]
    unfold AS.ch at h1; rw [e] at h1
    have : p = b := by simpa using h1
    subst this
    show 1 ≤ A.sz p
    omega
  · have h3 := lst_split b (A.tl b) e
    have h4 : lst b (A.tl b) ∈ A.tl b := by rw [h3]; exact List.mem_append_right _ (by rw [← h3]; exact List.mem_cons_self)
    exact (h.1 b hb _ h4).2.2.2
theorem WFc_del1 {A : AS} {b : Nat} (h : WFc A) (hb : b < 64) (hs : ¬ (A.sz (A.la b) - 1 = 0 ∧ 64 ≤ A.la b)) (c : Nat) : WFc (A.del b c) := by
  have hq : A.la b ∈ A.ch b := lst_in _ _
  have hq1 := h.la hb
  unfold AS.del
  rw [if_neg hs]
  generalize hgq : A.la b = q at hq hs hq1
  refine ⟨fun d hd p hp => ?_, h.2.1, h.2.2.1, h.2.2.2.1, fun p hp => ?_, fun p h1 h2 hf => ?_, fun d hd => ?_⟩
  · obtain ⟨a1, a2, a3, a4⟩ := h.1 d hd p hp
    refine ⟨a1, a2, a3, ?_⟩
    show 1 ≤ va_up A.sz q (A.sz q - 1) p
    by_cases e : p = q
    · subst e; rw [up_s]; omega
    · rw [up_n e]; exact a4
  · show va_up A.sz q (A.sz q - 1) p ≤ 4
    by_cases e : p = q
    · subst e; rw [up_s]; have := h.sz4 hp; omega
    · rw [up_n e]; exact h.sz4 hp
  · show va_up A.sz q (A.sz q - 1) p = 0
    have e : ¬ p = q := fun e => by
      subst e
      have := h.nfree hb hq h1
      rw [show A.fr p = true from hf] at this
      cases this
    rw [up_n e]; exact h.2.2.2.2.2.1 p h1 h2 hf
  · refine flB_congr (f := A.sz) (h.nodup hd) (fun p hp hl => up_n (fun e => ?_)) (h.2.2.2.2.2.2 d hd)
    subst e
    have := h.one hb hd hq hp
    subst this
    exact hl hgq.symm
theorem cells_del {A : AS} {P : Mem} {c q : Nat} {sz' : Nat → Nat} (hq : q < 128) (h1 : 1 ≤ A.sz q) (hz : ∀ p, sz' p ≤ A.sz p) (p8 : ∀ p, p < 128 → ∀ i, i < A.sz p → P 1 (p * 4 + i) = A.ks (p * 4 + i) ∧ P 2 (p * 4 + i) = A.vs (p * 4 + i)) :
    ∀ p, p < 128 → ∀ i, i < sz' p → upd (P 1) c (P 1 (q * 4 + (A.sz q - 1))) (p * 4 + i) = va_up A.ks c (A.ks (q * 4 + (A.sz q - 1))) (p * 4 + i) ∧ upd (P 2) c (P 2 (q * 4 + (A.sz q - 1))) (p * 4 + i) = va_up A.vs c (A.vs (q * 4 + (A.sz q - 1))) (p * 4 + i) := by
  intro p hp i hi
  by_cases e : p * 4 + i = c
  · rw [e, pk_us, pk_us, up_s, up_s]; exact p8 q hq _ (by omega)
  · rw [pk_un e, pk_un e, up_n e, up_n e]; exact p8 p hp i (Nat.lt_of_lt_of_le hi (hz p))
abbrev delP (P : Mem) (c d q : Nat) (s E : Int32) : Mem := ps (ps (ps (ps P 1 c (P 1 d)) 2 c (P 2 d)) 3 q s) 0 2 E
theorem RC_del1 {A : AS} {P : Mem} {b c : Nat} (hr : RC A P) (hb : b < 64) (h1 : 1 ≤ A.sz (A.la b)) (hs : ¬ (A.sz (A.la b) - 1 = 0 ∧ 64 ≤ A.la b)) (E : Int32) : RC (A.del b c) (delP P c (A.la b * 4 + (A.sz (A.la b) - 1)) (A.la b) (nI (A.sz (A.la b) - 1)) E) := by
  refine ⟨WFc_del1 hr.1 hb hs c, ?_⟩
  obtain ⟨h, p1, p2, p3, p4, p5, p6, p7, p8⟩ := hr
  have hq1 := h.la hb
  unfold AS.del
  rw [if_neg hs]
  generalize A.la b = q at h1 hs hq1
  refine ⟨fun p hp => ?_, p2, p3, p4, p5, p6, p7, ?_⟩
  · show upd (P 3) q (nI (A.sz q - 1)) p = nI (va_up A.sz q (A.sz q - 1) p)
    by_cases e : p = q
    · subst e; rw [pk_us, up_s]
    · rw [pk_un e, up_n e]; exact p1 p hp
  · refine cells_del (sz' := va_up A.sz q (A.sz q - 1)) hq1 h1 (fun p => ?_) p8
    by_cases e : p = q
    · subst e; rw [up_s]; omega
    · rw [up_n e]; exact Nat.le_refl _
theorem RC_del2 {A : AS} {P : Mem} {b c : Nat} (hr : RC A P) (hb : b < 64) (h1 : 1 ≤ A.sz (A.la b)) (hs : A.sz (A.la b) - 1 = 0 ∧ 64 ≤ A.la b) (E : Int32) : RC (A.del b c) (clrP (ps (ps (delP P c (A.la b * 4 + (A.sz (A.la b) - 1)) (A.la b) (nI (A.sz (A.la b) - 1)) E) 4 (lst b (A.tl b).dropLast) vNONE) 7 b (nI (lst b (A.tl b).dropLast))) (A.la b)) := by
  obtain ⟨h, p1, p2, p3, p4, p5, p6, p7, p8⟩ := hr
  have hq1 := h.la hb
  have hne : ¬ A.tl b = [] := fun e => by have := hs.2; unfold AS.la at this; rw [e] at this; have : 64 ≤ b := this; omega
  have hsp : A.tl b = (A.tl b).dropLast ++ [A.la b] := lst_split b (A.tl b) hne
  have hqt : A.la b ∈ A.tl b := by rw [hsp]; exact List.mem_append_right _ List.mem_cons_self
  have hq : A.la b ∈ A.ch b := List.mem_cons_of_mem _ hqt
  have hfl := h.2.2.2.2.2.2 b hb
  have hnd := h.2.1 b hb
  have hch := p2 b hb
  have hah := p4 b hb
  unfold AS.ch at hch
  rw [hsp] at hfl hnd hch hah
  have hndc := h.nodup hb
  unfold AS.ch at hndc
  rw [hsp] at hndc
  obtain ⟨n1, n2⟩ := List.nodup_cons.mp hndc
  obtain ⟨n3, -, n4⟩ := List.nodup_append.mp n2
  generalize hl' : (A.tl b).dropLast = l' at *
  have hqn : ¬ A.la b ∈ l' := fun w => n4 _ w _ (List.mem_singleton.mpr rfl) rfl
  have hqb : ¬ A.la b = b := by omega
  have hqn2 : ¬ A.la b ∈ b :: l' := fun w => by
    rcases List.mem_cons.mp w with w | w
    · exact hqb w
    · exact hqn w
  have hbl : (b :: l').Nodup := List.nodup_cons.mpr ⟨fun w => n1 (List.mem_append_left _ w), n3⟩
  have hsub : ∀ d p, p ∈ va_up A.tl b l' d → p ∈ A.tl d := by
    intro d p hp
    by_cases e : d = b
    · subst e; rw [up_s] at hp; rw [hsp]; exact List.mem_append_left _ hp
    · rw [up_n e] at hp; exact hp
  have hnq : ∀ d, d < 64 → ∀ p, p ∈ va_up A.tl b l' d → ¬ p = A.la b := by
    intro d hd p hp e
    by_cases e2 : d = b
    · subst e2; rw [up_s] at hp; rw [e] at hp; exact hqn hp
    · rw [up_n e2] at hp
      exact e2 (h.2.2.1 d b hd hb p hp (by rw [e]; exact hqt))
  have hlq : lst b l' ∈ A.ch b := by
    have := lst_in b l'
    rcases List.mem_cons.mp this with w | w
    · rw [w]; exact List.mem_cons_self
    · exact List.mem_cons_of_mem _ (by rw [hsp]; exact List.mem_append_left _ w)
  unfold AS.del
  rw [if_pos hs]
  rw [hl']
  refine ⟨⟨fun d hd p hp => ?_, fun d hd => ?_, fun d e hd he p hp1 hp2 => h.2.2.1 d e hd he p (hsub d p hp1) (hsub e p hp2), fun p g1 g2 g3 => ?_, fun p hp => ?_, fun p g1 g2 g3 => ?_, fun d hd => ?_⟩, fun p hp => ?_, fun d hd => ?_, fun p g1 g2 g3 => ?_, fun d hd => ?_, fun d hd p hp => ?_, fun p g1 g2 g3 => ?_, fun d hd => ?_, ?_⟩
  · show 64 ≤ p ∧ p < 128 ∧ va_up A.fr (A.la b) true p = false ∧ 1 ≤ va_up A.sz (A.la b) 0 p
    rw [up_n (hnq d hd p hp), up_n (hnq d hd p hp)]; exact h.1 d hd p (hsub d p hp)
  · show (va_up A.tl b l' d).Nodup
    by_cases e : d = b
    · subst e; rw [up_s]; exact n3
    · rw [up_n e]; exact h.2.1 d hd
  · have g3 : va_up A.fr (A.la b) true p = false := g3
    have e : ¬ p = A.la b := fun e => by rw [e, up_s] at g3; cases g3
    rw [up_n e] at g3
    obtain ⟨d, hd, hp⟩ := h.2.2.2.1 p g1 g2 g3
    refine ⟨d, hd, ?_⟩
    show p ∈ va_up A.tl b l' d
    by_cases e2 : d = b
    · subst e2; rw [up_s]
      rw [hsp] at hp
      rcases List.mem_append.mp hp with w | w
      · exact w
      · exact absurd (List.mem_singleton.mp w) e
    · rw [up_n e2]; exact hp
  · show va_up A.sz (A.la b) 0 p ≤ 4
    by_cases e : p = A.la b
    · rw [e, up_s]; decide
    · rw [up_n e]; exact h.sz4 hp
  · have g3 : va_up A.fr (A.la b) true p = true := g3
    show va_up A.sz (A.la b) 0 p = 0
    by_cases e : p = A.la b
    · rw [e, up_s]
    · rw [up_n e] at g3 ⊢; exact h.2.2.2.2.2.1 p g1 g2 g3
  · show flB (va_up A.sz (A.la b) 0) d (va_up A.tl b l' d)
    by_cases e : d = b
    · subst e; rw [up_s]
      exact flB_congr (f := A.sz) hbl (fun p hp hl => up_n (fun e => hqn2 (by rw [← e]; exact hp))) (flB_pre hfl)
    · rw [up_n e]
      exact flB_congr (f := A.sz) (h.nodup hd) (fun p hp hl => up_n (fun e2 => e (h.one hd hb hp (by rw [e2]; exact hq)))) (h.2.2.2.2.2.2 d hd)
  · show upd (upd (P 3) (A.la b) (nI (A.sz (A.la b) - 1))) (A.la b) 0 p = nI (va_up A.sz (A.la b) 0 p)
    by_cases e : p = A.la b
    · rw [e, pk_us, up_s]; rfl
    · rw [pk_un e, pk_un e, up_n e]; exact p1 p hp
  · show isCh (upd (upd (P 4) (lst b l') vNONE) (A.la b) vNONE) (d :: va_up A.tl b l' d)
    by_cases e : d = b
    · subst e; rw [up_s]
      exact isCh_pre hbl hqn2 hch
    · rw [up_n e]
      refine isCh_congr (f := P 4) (fun p hp => ?_) (p2 d hd)
      rw [pk_un (fun e2 => e (h.one hd hb hp (by rw [e2]; exact hq))), pk_un (fun e2 => e (h.one hd hb hp (by rw [e2]; exact hlq)))]
  · have g3 : va_up A.fr (A.la b) true p = true := g3
    show upd (upd (P 4) (lst b l') vNONE) (A.la b) vNONE p = vNONE
    by_cases e : p = A.la b
    · rw [e, pk_us]
    · rw [up_n e] at g3
      rw [pk_un e]
      by_cases e2 : p = lst b l'
      · rw [e2, pk_us]
      · rw [pk_un e2]; exact p3 p g1 g2 g3
  · show isAh (upd (P 5) (A.la b) vNONE) d (va_up A.tl b l' d)
    by_cases e : d = b
    · subst e; rw [up_s]
      exact isAh_congr (f := P 5) (fun p hp => pk_un (fun e => hqn (by rw [← e]; exact hp))) (isAh_pre hah).1
    · rw [up_n e]
      exact isAh_congr (f := P 5) (fun p hp => pk_un (fun e2 => e (h.2.2.1 d b hd hb p hp (by rw [e2]; exact hqt)))) (p4 d hd)
  · show upd (P 6) (A.la b) vNONE p = nI d
    rw [pk_un (hnq d hd p hp)]; exact p5 d hd p (hsub d p hp)
  · have g3 : va_up A.fr (A.la b) true p = true := g3
    show upd (P 6) (A.la b) vNONE p = vNONE
    by_cases e : p = A.la b
    · rw [e, pk_us]
    · rw [up_n e] at g3; rw [pk_un e]; exact p6 p g1 g2 g3
  · show upd (P 7) b (nI (lst b l')) d = nI (lst d (va_up A.tl b l' d))
    by_cases e : d = b
    · subst e; rw [up_s, pk_us]
    · rw [up_n e, pk_un e]; exact p7 d hd
  · refine cells_del (sz' := va_up A.sz (A.la b) 0) hq1 h1 (fun p => ?_) p8
    by_cases e : p = A.la b
    · rw [e, up_s]; omega
    · rw [up_n e]; exact Nat.le_refl _
theorem RC.ahead {A : AS} {P : Mem} {b : Nat} (hr : RC A P) (hb : b < 64) (hs : 64 ≤ A.la b) : P 5 (A.la b) = nI (lst b (A.tl b).dropLast) ∧ lst b (A.tl b).dropLast < 128 := by
  have hne : ¬ A.tl b = [] := fun e => by unfold AS.la at hs; rw [e] at hs; have : 64 ≤ b := hs; omega
  have hsp : A.tl b = (A.tl b).dropLast ++ [A.la b] := lst_split b (A.tl b) hne
  have h1 := hr.2.2.2.2.1 b hb
  rw [hsp] at h1
  refine ⟨(isAh_pre h1).2, ?_⟩
  rcases List.mem_cons.mp (lst_in b (A.tl b).dropLast) with w | w
  · rw [w]; omega
  · have w2 : lst b (A.tl b).dropLast ∈ (A.tl b).dropLast ++ [A.la b] := List.mem_append_left _ w
    rw [← hsp] at w2
    exact (hr.1.1 b hb _ w2).2.1
end
section
/-! made by wip/whole/gen.py and m1.py -/
theorem dmX3_put : gMeth yX3_put RX3 2 := by decide +kernel
theorem dmX3_remove : gMeth yX3_remove RX3 1 := by decide +kernel
theorem dmX3_get : gMeth yX3_get RX3 1 := by decide +kernel
theorem dmX3_begin : gMeth yX3_begin RX3 0 := by decide +kernel
theorem dmX3_end : gMeth yX3_end RX3 0 := by decide +kernel
theorem dmX3_undo : gMeth yX3_undo RX3 0 := by decide +kernel
theorem dmX3_keep : gMeth yX3_keep RX3 0 := by decide +kernel
theorem dmX3_stop : gMeth yX3_stop RX3 1 := by decide +kernel
theorem dmX3_address : gMeth yX3_address RX3 1 := by decide +kernel
theorem dmX3_bucket : gMeth yX3_bucket RX3 2 := by decide +kernel
theorem dmX3_page : gMeth yX3_page RX3 2 := by decide +kernel
theorem dmX3_cell : gMeth yX3_cell RX3 3 := by decide +kernel
theorem dmX3_entry : gMeth yX3_entry RX3 1 := by decide +kernel
theorem dmX3_effort : gMeth yX3_effort RX3 0 := by decide +kernel
theorem dmX3_count : gMeth yX3_count RX3 1 := by decide +kernel
theorem dmX3_isPage : gMeth yX3_isPage RX3 1 := by decide +kernel
theorem dmX3_write : gMeth yX3_write RX3 3 := by decide +kernel
theorem dmX3_takeBack : gMeth yX3_takeBack RX3 2 := by decide +kernel
theorem dmX3_keepCurrent : gMeth yX3_keepCurrent RX3 0 := by decide +kernel
theorem dmX4_clear : gMeth yX4_clear RX4 0 := by decide +kernel
theorem dmX4_base : gMeth yX4_base RX4 0 := by decide +kernel
theorem dmX4_buckets : gMeth yX4_buckets RX4 0 := by decide +kernel
theorem dmX4_addressOf : gMeth yX4_addressOf RX4 1 := by decide +kernel
theorem dmX4_lastOf : gMeth yX4_lastOf RX4 1 := by decide +kernel
theorem dmX4_freeOnes : gMeth yX4_freeOnes RX4 0 := by decide +kernel
theorem dmX4_add : gMeth yX4_add RX4 3 := by decide +kernel
theorem dmX4_placeOf : gMeth yX4_placeOf RX4 1 := by decide +kernel
theorem dmX4_hold : gMeth yX4_hold RX4 1 := by decide +kernel
theorem dmX4_layHeld : gMeth yX4_layHeld RX4 0 := by decide +kernel
theorem dmX4_grow : gMeth yX4_grow RX4 0 := by decide +kernel
theorem dmX4_manyIn : gMeth yX4_manyIn RX4 1 := by decide +kernel
theorem dmX4_pagesIn : gMeth yX4_pagesIn RX4 1 := by decide +kernel
theorem dmX4_shrink : gMeth yX4_shrink RX4 0 := by decide +kernel
theorem dmX4_takeOut : gMeth yX4_takeOut RX4 1 := by decide +kernel
theorem dmX4_write : gMeth yX4_write RX4 2 := by decide +kernel
theorem dmX4_note : gMeth yX4_note RX4 2 := by decide +kernel
theorem dmX4_again : gMeth yX4_again RX4 1 := by decide +kernel
theorem dmX4_isLogFull : gMeth yX4_isLogFull RX4 0 := by decide +kernel
theorem dmX4_put : gMeth yX4_put RX4 2 := by decide +kernel
theorem dmX4_remove : gMeth yX4_remove RX4 1 := by decide +kernel
theorem dmX4_get : gMeth yX4_get RX4 1 := by decide +kernel
theorem dmX4_begin : gMeth yX4_begin RX4 0 := by decide +kernel
theorem dmX4_end : gMeth yX4_end RX4 0 := by decide +kernel
theorem dmX4_undo : gMeth yX4_undo RX4 0 := by decide +kernel
theorem dmX4_keep : gMeth yX4_keep RX4 0 := by decide +kernel
theorem dmX4_stop : gMeth yX4_stop RX4 1 := by decide +kernel
theorem dmX4_address : gMeth yX4_address RX4 1 := by decide +kernel
theorem dmX4_isBucket : gMeth yX4_isBucket RX4 1 := by decide +kernel
theorem dmX4_bucket : gMeth yX4_bucket RX4 2 := by decide +kernel
theorem dmX4_ownerOf : gMeth yX4_ownerOf RX4 1 := by decide +kernel
theorem dmX4_isPage : gMeth yX4_isPage RX4 1 := by decide +kernel
theorem dmX4_page : gMeth yX4_page RX4 2 := by decide +kernel
theorem dmX4_cell : gMeth yX4_cell RX4 3 := by decide +kernel
theorem dmX4_entry : gMeth yX4_entry RX4 1 := by decide +kernel
theorem dmX4_effort : gMeth yX4_effort RX4 0 := by decide +kernel
theorem dmX4_longest : gMeth yX4_longest RX4 0 := by decide +kernel
theorem dmX4_count : gMeth yX4_count RX4 1 := by decide +kernel
theorem dmX0_push : gMeth yX0_push RX0 2 := by decide +kernel
theorem dmX1_isFull : gMeth yX1_isFull RX1 0 := by decide +kernel
theorem dmX1_isOpen : gMeth yX1_isOpen RX1 0 := by decide +kernel
theorem dmX1_writeCount : gMeth yX1_writeCount RX1 0 := by decide +kernel
theorem dmX1_groupCount : gMeth yX1_groupCount RX1 0 := by decide +kernel
theorem dmX1_openWrites : gMeth yX1_openWrites RX1 0 := by decide +kernel
theorem dmX1_note : gMeth yX1_note RX1 3 := by decide +kernel
theorem dmX1_openGroup : gMeth yX1_openGroup RX1 0 := by decide +kernel
theorem dmX1_closeGroup : gMeth yX1_closeGroup RX1 0 := by decide +kernel
theorem dmX1_dropOpenGroup : gMeth yX1_dropOpenGroup RX1 0 := by decide +kernel
theorem dmX1_clear : gMeth yX1_clear RX1 0 := by decide +kernel
theorem dmX1_writesInFirstGroups : gMeth yX1_writesInFirstGroups RX1 1 := by decide +kernel
theorem dmX1_kindOf : gMeth yX1_kindOf RX1 1 := by decide +kernel
theorem dmX1_keyOf : gMeth yX1_keyOf RX1 1 := by decide +kernel
theorem dmX1_valueOf : gMeth yX1_valueOf RX1 1 := by decide +kernel
theorem dmX1_isWrite : gMeth yX1_isWrite RX1 1 := by decide +kernel
theorem dmX1_endGroupHere : gMeth yX1_endGroupHere RX1 0 := by decide +kernel
theorem dmX2_copyFrom : gMeth yX2_copyFrom RX2 1 := by decide +kernel
theorem dmX2_entryCount : gMeth yX2_entryCount RX2 0 := by decide +kernel
theorem dmX2_levelNumber : gMeth yX2_levelNumber RX2 0 := by decide +kernel
theorem dmX2_splitNumber : gMeth yX2_splitNumber RX2 0 := by decide +kernel
theorem dmX2_bucketCount : gMeth yX2_bucketCount RX2 0 := by decide +kernel
theorem dmX2_addressOf : gMeth yX2_addressOf RX2 1 := by decide +kernel
theorem dmX2_keyIn : gMeth yX2_keyIn RX2 1 := by decide +kernel
theorem dmX2_valueIn : gMeth yX2_valueIn RX2 1 := by decide +kernel
theorem dmX2_entriesOnPage : gMeth yX2_entriesOnPage RX2 1 := by decide +kernel
theorem dmX2_pageBehind : gMeth yX2_pageBehind RX2 1 := by decide +kernel
theorem dmX2_bucketOfPage : gMeth yX2_bucketOfPage RX2 1 := by decide +kernel
theorem dmX2_lastPage : gMeth yX2_lastPage RX2 1 := by decide +kernel
theorem dmX2_pagesInChain : gMeth yX2_pagesInChain RX2 1 := by decide +kernel
theorem dmX2_entriesInChain : gMeth yX2_entriesInChain RX2 1 := by decide +kernel
theorem dmX2_freePages : gMeth yX2_freePages RX2 0 := by decide +kernel
theorem dmX2_longestChain : gMeth yX2_longestChain RX2 0 := by decide +kernel
theorem dmX2_effortForAll : gMeth yX2_effortForAll RX2 0 := by decide +kernel
theorem dmX2_cellOfEntry : gMeth yX2_cellOfEntry RX2 1 := by decide +kernel
theorem dmX2_find : gMeth yX2_find RX2 1 := by decide +kernel
theorem dmX2_pagesLookedAt : gMeth yX2_pagesLookedAt RX2 2 := by decide +kernel
theorem dmX2_hasRoomFor : gMeth yX2_hasRoomFor RX2 1 := by decide +kernel
theorem dmX2_carryOut : gMeth yX2_carryOut RX2 3 := by decide +kernel
theorem dmX2_setValue : gMeth yX2_setValue RX2 2 := by decide +kernel
theorem dmX2_grow : gMeth yX2_grow RX2 0 := by decide +kernel
theorem dmX2_shrink : gMeth yX2_shrink RX2 0 := by decide +kernel
theorem dmX2_canJoin : gMeth yX2_canJoin RX2 2 := by decide +kernel
theorem dmX2_setAside : gMeth yX2_setAside RX2 1 := by decide +kernel
theorem dmX2_clearPage : gMeth yX2_clearPage RX2 1 := by decide +kernel
theorem dmX2_append : gMeth yX2_append RX2 3 := by decide +kernel
theorem dmX2_linkNewPage : gMeth yX2_linkNewPage RX2 2 := by decide +kernel
theorem dmX2_takeOut : gMeth yX2_takeOut RX2 2 := by decide +kernel
theorem dmX2_unlinkLast : gMeth yX2_unlinkLast RX2 2 := by decide +kernel
theorem dmX2_leastFreePage : gMeth yX2_leastFreePage RX2 0 := by decide +kernel
theorem dmX2_isBucketPlace : gMeth yX2_isBucketPlace RX2 1 := by decide +kernel
set_option maxHeartbeats 1600000 in
set_option maxRecDepth 20000 in
theorem c_X3_isPage (l : Launch) (D : va_G) (cy cz : ClassId) (p : Int32) : MId l yX3_isPage wsX3_isPage (rmF 0 0) D (tyL cy cz) [.int p] ([] : va_W) (inI 128 p) ([] : va_W) := by
  refine g_entZ (cc := cX3_isPage) (maxL := 1) (own := RX3) (by decide) rfl rfl (Nat.le_of_ble_eq_true rfl) (fun x C ret => ?_)
  show G x l (rmF 0 0) D 1 0 0 ([] : va_W) [(0, .int p)] [] 0
  refine g_iload_n C dX3_isPage_0 0 rfl rfl ?_
  refine g_if_lt C (tgt := 15) dX3_isPage_1 (by decide) (fun c1 => ?_) (fun c1 => ?_)
  · skip
    refine g_iconst C (v := 0) dX3_isPage_15 (by decide) ?_
    exact ret _ () _ _ dX3_isPage_16 (by decide) (by simp [inI, c1])
  · skip
    refine g_iload_n C dX3_isPage_4 0 rfl rfl ?_
    refine g_sipush C (v := 128) dX3_isPage_5 (by decide) ?_
    refine g_icmp_ge C (tgt := 15) dX3_isPage_8 (by decide) (fun c2 => ?_) (fun c2 => ?_)
    · skip
      refine g_iconst C (v := 0) dX3_isPage_15 (by decide) ?_
      exact ret _ () _ _ dX3_isPage_16 (by decide) (by simp [inI, c1, c2])
    · skip
      refine g_iconst C (v := 1) dX3_isPage_11 (by decide) ?_
      refine g_goto C (tgt := 16) dX3_isPage_12 (by decide) ?_
      exact ret _ () _ _ dX3_isPage_16 (by decide) (by simp [inI, c1, c2])

set_option maxHeartbeats 1600000 in
set_option maxRecDepth 20000 in
theorem c_X2_isBucketPlace (l : Launch) (D : va_G) (cy cz : ClassId) (p : Int32) : MId l yX2_isBucketPlace wsX2_isBucketPlace (rmF 0 0) D (tyL cy cz) [.int p] ([] : va_W) (inI 64 p) ([] : va_W) := by
  refine g_entZ (cc := cX2_isBucketPlace) (maxL := 1) (own := RX2) (by decide) rfl rfl (Nat.le_of_ble_eq_true rfl) (fun x C ret => ?_)
  show G x l (rmF 0 0) D 1 0 0 ([] : va_W) [(0, .int p)] [] 0
  refine g_iload_n C dX2_isBucketPlace_0 0 rfl rfl ?_
  refine g_if_lt C (tgt := 14) dX2_isBucketPlace_1 (by decide) (fun c1 => ?_) (fun c1 => ?_)
  · skip
    refine g_iconst C (v := 0) dX2_isBucketPlace_14 (by decide) ?_
    exact ret _ () _ _ dX2_isBucketPlace_15 (by decide) (by simp [inI, c1])
  · skip
    refine g_iload_n C dX2_isBucketPlace_4 0 rfl rfl ?_
    refine g_bipush C (v := 64) dX2_isBucketPlace_5 (by decide) ?_
    refine g_icmp_ge C (tgt := 14) dX2_isBucketPlace_7 (by decide) (fun c2 => ?_) (fun c2 => ?_)
    · skip
      refine g_iconst C (v := 0) dX2_isBucketPlace_14 (by decide) ?_
      exact ret _ () _ _ dX2_isBucketPlace_15 (by decide) (by simp [inI, c1, c2])
    · skip
      refine g_iconst C (v := 1) dX2_isBucketPlace_10 (by decide) ?_
      refine g_goto C (tgt := 15) dX2_isBucketPlace_11 (by decide) ?_
      exact ret _ () _ _ dX2_isBucketPlace_15 (by decide) (by simp [inI, c1, c2])

theorem mX2_entryCount_f57 : Cond.fieldLink RX2 57 (TX2 10).1 (TX2 10).2.1 (TX2 10).2.2.1 ∈ wsX2_entryCount := List.mem_of_getElem? (i := 1) rfl
theorem iX2_entryCount_X2 : ∀ w ∈ wsX20, w ∈ wsX2_entryCount := by decide +kernel
set_option maxHeartbeats 1600000 in
set_option maxRecDepth 20000 in
theorem c_X2_entryCount (l : Launch) (D : va_G) (cy cz : ClassId) (g : Nat → Nat) (z0 : Nat) (P : Mem) : MId l yX2_entryCount wsX2_entryCount (rmF 0 0) D (tyL cy cz) [.ref (g 0)] (wG cy g z0 P) (P 0 2) (wG cy g z0 P) := by
  refine g_entI (cc := cX2_entryCount) (maxL := 1) (own := RX2) (by decide) rfl rfl (Nat.le_of_ble_eq_true rfl) (fun x C ret => ?_)
  show G x l (rmF 0 0) D 1 0 0 (wG cy g z0 P) [(0, .ref (g 0))] [] 0
  refine g_aload_n C dX2_entryCount_0 0 rfl rfl ?_
  refine g_get C 0 (f := 10) (v := .int (P 0 2)) (Cn := RX2) (T := TX2) (N := 11) dX2_entryCount_1 rfl rfl iX2_entryCount_X2 (by decide) mX2_entryCount_f57 rfl ?_
  exact ret _ () _ _ dX2_entryCount_4 rfl

theorem mX2_levelNumber_f50 : Cond.fieldLink RX2 50 (TX2 8).1 (TX2 8).2.1 (TX2 8).2.2.1 ∈ wsX2_levelNumber := List.mem_of_getElem? (i := 1) rfl
theorem iX2_levelNumber_X2 : ∀ w ∈ wsX20, w ∈ wsX2_levelNumber := by decide +kernel
set_option maxHeartbeats 1600000 in
set_option maxRecDepth 20000 in
theorem c_X2_levelNumber (l : Launch) (D : va_G) (cy cz : ClassId) (g : Nat → Nat) (z0 : Nat) (P : Mem) : MId l yX2_levelNumber wsX2_levelNumber (rmF 0 0) D (tyL cy cz) [.ref (g 0)] (wG cy g z0 P) (P 0 0) (wG cy g z0 P) := by
  refine g_entI (cc := cX2_levelNumber) (maxL := 1) (own := RX2) (by decide) rfl rfl (Nat.le_of_ble_eq_true rfl) (fun x C ret => ?_)
  show G x l (rmF 0 0) D 1 0 0 (wG cy g z0 P) [(0, .ref (g 0))] [] 0
  refine g_aload_n C dX2_levelNumber_0 0 rfl rfl ?_
  refine g_get C 0 (f := 8) (v := .int (P 0 0)) (Cn := RX2) (T := TX2) (N := 11) dX2_levelNumber_1 rfl rfl iX2_levelNumber_X2 (by decide) mX2_levelNumber_f50 rfl ?_
  exact ret _ () _ _ dX2_levelNumber_4 rfl

theorem mX2_splitNumber_f54 : Cond.fieldLink RX2 54 (TX2 9).1 (TX2 9).2.1 (TX2 9).2.2.1 ∈ wsX2_splitNumber := List.mem_of_getElem? (i := 1) rfl
theorem iX2_splitNumber_X2 : ∀ w ∈ wsX20, w ∈ wsX2_splitNumber := by decide +kernel
set_option maxHeartbeats 1600000 in
set_option maxRecDepth 20000 in
theorem c_X2_splitNumber (l : Launch) (D : va_G) (cy cz : ClassId) (g : Nat → Nat) (z0 : Nat) (P : Mem) : MId l yX2_splitNumber wsX2_splitNumber (rmF 0 0) D (tyL cy cz) [.ref (g 0)] (wG cy g z0 P) (P 0 1) (wG cy g z0 P) := by
  refine g_entI (cc := cX2_splitNumber) (maxL := 1) (own := RX2) (by decide) rfl rfl (Nat.le_of_ble_eq_true rfl) (fun x C ret => ?_)
  show G x l (rmF 0 0) D 1 0 0 (wG cy g z0 P) [(0, .ref (g 0))] [] 0
  refine g_aload_n C dX2_splitNumber_0 0 rfl rfl ?_
  refine g_get C 0 (f := 9) (v := .int (P 0 1)) (Cn := RX2) (T := TX2) (N := 11) dX2_splitNumber_1 rfl rfl iX2_splitNumber_X2 (by decide) mX2_splitNumber_f54 rfl ?_
  exact ret _ () _ _ dX2_splitNumber_4 rfl

theorem mX2_bucketCount_f50 : Cond.fieldLink RX2 50 (TX2 8).1 (TX2 8).2.1 (TX2 8).2.2.1 ∈ wsX2_bucketCount := List.mem_of_getElem? (i := 1) rfl
theorem iX2_bucketCount_X2 : ∀ w ∈ wsX20, w ∈ wsX2_bucketCount := by decide +kernel
theorem mX2_bucketCount_f54 : Cond.fieldLink RX2 54 (TX2 9).1 (TX2 9).2.1 (TX2 9).2.2.1 ∈ wsX2_bucketCount := List.mem_of_getElem? (i := 2) rfl
set_option maxHeartbeats 1600000 in
set_option maxRecDepth 20000 in
theorem c_X2_bucketCount (l : Launch) (D : va_G) (cy cz : ClassId) (g : Nat → Nat) (z0 : Nat) (P : Mem) : MId l yX2_bucketCount wsX2_bucketCount (rmF 0 0) D (tyL cy cz) [.ref (g 0)] (wG cy g z0 P) ((4 <<< (P 0 0 &&& 31)) + P 0 1) (wG cy g z0 P) := by
  refine g_entI (cc := cX2_bucketCount) (maxL := 1) (own := RX2) (by decide) rfl rfl (Nat.le_of_ble_eq_true rfl) (fun x C ret => ?_)
  show G x l (rmF 0 0) D 1 0 0 (wG cy g z0 P) [(0, .ref (g 0))] [] 0
  refine g_iconst C (v := 4) dX2_bucketCount_0 (by decide) ?_
  refine g_aload_n C dX2_bucketCount_1 0 rfl rfl ?_
  refine g_get C 0 (f := 8) (v := .int (P 0 0)) (Cn := RX2) (T := TX2) (N := 11) dX2_bucketCount_2 rfl rfl iX2_bucketCount_X2 (by decide) mX2_bucketCount_f50 rfl ?_
  refine g_ishl C dX2_bucketCount_5 ?_
  refine g_aload_n C dX2_bucketCount_6 0 rfl rfl ?_
  refine g_get C 0 (f := 9) (v := .int (P 0 1)) (Cn := RX2) (T := TX2) (N := 11) dX2_bucketCount_7 rfl rfl iX2_bucketCount_X2 (by decide) mX2_bucketCount_f54 rfl ?_
  refine g_iadd C dX2_bucketCount_10 ?_
  exact ret _ () _ _ dX2_bucketCount_11 rfl

theorem mX1_writeCount_f24 : Cond.fieldLink RX1 24 (TX1 4).1 (TX1 4).2.1 (TX1 4).2.2.1 ∈ wsX1_writeCount := List.mem_of_getElem? (i := 1) rfl
theorem iX1_writeCount_X1 : ∀ w ∈ wsX10, w ∈ wsX1_writeCount := by decide +kernel
set_option maxHeartbeats 1600000 in
set_option maxRecDepth 20000 in
theorem c_X1_writeCount (l : Launch) (D : va_G) (cy cz : ClassId) (j : Nat → Nat) (J : Mem) : MId l yX1_writeCount wsX1_writeCount (rmF 0 0) D (tyL cy cz) [.ref (j 0)] (wJ cy j J) (J 0 0) (wJ cy j J) := by
  refine g_entI (cc := cX1_writeCount) (maxL := 1) (own := RX1) (by decide) rfl rfl (Nat.le_of_ble_eq_true rfl) (fun x C ret => ?_)
  show G x l (rmF 0 0) D 1 0 0 (wJ cy j J) [(0, .ref (j 0))] [] 0
  refine g_aload_n C dX1_writeCount_0 0 rfl rfl ?_
  refine g_get C 0 (f := 4) (v := .int (J 0 0)) (Cn := RX1) (T := TX1) (N := 8) dX1_writeCount_1 rfl rfl iX1_writeCount_X1 (by decide) mX1_writeCount_f24 rfl ?_
  exact ret _ () _ _ dX1_writeCount_4 rfl

theorem mX1_groupCount_f32 : Cond.fieldLink RX1 32 (TX1 5).1 (TX1 5).2.1 (TX1 5).2.2.1 ∈ wsX1_groupCount := List.mem_of_getElem? (i := 1) rfl
theorem iX1_groupCount_X1 : ∀ w ∈ wsX10, w ∈ wsX1_groupCount := by decide +kernel
set_option maxHeartbeats 1600000 in
set_option maxRecDepth 20000 in
theorem c_X1_groupCount (l : Launch) (D : va_G) (cy cz : ClassId) (j : Nat → Nat) (J : Mem) : MId l yX1_groupCount wsX1_groupCount (rmF 0 0) D (tyL cy cz) [.ref (j 0)] (wJ cy j J) (J 0 1) (wJ cy j J) := by
  refine g_entI (cc := cX1_groupCount) (maxL := 1) (own := RX1) (by decide) rfl rfl (Nat.le_of_ble_eq_true rfl) (fun x C ret => ?_)
  show G x l (rmF 0 0) D 1 0 0 (wJ cy j J) [(0, .ref (j 0))] [] 0
  refine g_aload_n C dX1_groupCount_0 0 rfl rfl ?_
  refine g_get C 0 (f := 5) (v := .int (J 0 1)) (Cn := RX1) (T := TX1) (N := 8) dX1_groupCount_1 rfl rfl iX1_groupCount_X1 (by decide) mX1_groupCount_f32 rfl ?_
  exact ret _ () _ _ dX1_groupCount_4 rfl

theorem mX1_isFull_f24 : Cond.fieldLink RX1 24 (TX1 4).1 (TX1 4).2.1 (TX1 4).2.2.1 ∈ wsX1_isFull := List.mem_of_getElem? (i := 1) rfl
theorem iX1_isFull_X1 : ∀ w ∈ wsX10, w ∈ wsX1_isFull := by decide +kernel
set_option maxHeartbeats 1600000 in
set_option maxRecDepth 20000 in
theorem c_X1_isFull (l : Launch) (D : va_G) (cy cz : ClassId) (j : Nat → Nat) (J : Mem) : MId l yX1_isFull wsX1_isFull (rmF 0 0) D (tyL cy cz) [.ref (j 0)] (wJ cy j J) (if 64 ≤ J 0 0 then 1 else 0) (wJ cy j J) := by
  refine g_entZ (cc := cX1_isFull) (maxL := 1) (own := RX1) (by decide) rfl rfl (Nat.le_of_ble_eq_true rfl) (fun x C ret => ?_)
  show G x l (rmF 0 0) D 1 0 0 (wJ cy j J) [(0, .ref (j 0))] [] 0
  refine g_aload_n C dX1_isFull_0 0 rfl rfl ?_
  refine g_get C 0 (f := 4) (v := .int (J 0 0)) (Cn := RX1) (T := TX1) (N := 8) dX1_isFull_1 rfl rfl iX1_isFull_X1 (by decide) mX1_isFull_f24 rfl ?_
  refine g_bipush C (v := 64) dX1_isFull_4 (by decide) ?_
  refine g_icmp_lt C (tgt := 13) dX1_isFull_6 (by decide) (fun c1 => ?_) (fun c1 => ?_)
  · skip
    refine g_iconst C (v := 0) dX1_isFull_13 (by decide) ?_
    exact ret _ () _ _ dX1_isFull_14 (by decide) (by simp [c1])
  · skip
    refine g_iconst C (v := 1) dX1_isFull_9 (by decide) ?_
    refine g_goto C (tgt := 14) dX1_isFull_10 (by decide) ?_
    exact ret _ () _ _ dX1_isFull_14 (by decide) (by simp [c1])

theorem mX1_openWrites_f28 : Cond.fieldLink RX1 28 (TX1 6).1 (TX1 6).2.1 (TX1 6).2.2.1 ∈ wsX1_openWrites := List.mem_of_getElem? (i := 1) rfl
theorem iX1_openWrites_X1 : ∀ w ∈ wsX10, w ∈ wsX1_openWrites := by decide +kernel
theorem mX1_openWrites_f24 : Cond.fieldLink RX1 24 (TX1 4).1 (TX1 4).2.1 (TX1 4).2.2.1 ∈ wsX1_openWrites := List.mem_of_getElem? (i := 2) rfl
theorem mX1_openWrites_f35 : Cond.fieldLink RX1 35 (TX1 7).1 (TX1 7).2.1 (TX1 7).2.2.1 ∈ wsX1_openWrites := List.mem_of_getElem? (i := 3) rfl
set_option maxHeartbeats 1600000 in
set_option maxRecDepth 20000 in
theorem c_X1_openWrites (l : Launch) (D : va_G) (cy cz : ClassId) (j : Nat → Nat) (J : Mem) : MId l yX1_openWrites wsX1_openWrites (rmF 0 0) D (tyL cy cz) [.ref (j 0)] (wJ cy j J) (if J 0 2 = 0 then 0 else J 0 0 - J 0 3) (wJ cy j J) := by
  refine g_entI (cc := cX1_openWrites) (maxL := 1) (own := RX1) (by decide) rfl rfl (Nat.le_of_ble_eq_true rfl) (fun x C ret => ?_)
  show G x l (rmF 0 0) D 1 0 0 (wJ cy j J) [(0, .ref (j 0))] [] 0
  refine g_aload_n C dX1_openWrites_0 0 rfl rfl ?_
  refine g_get C 0 (f := 6) (v := .int (J 0 2)) (Cn := RX1) (T := TX1) (N := 8) dX1_openWrites_1 rfl rfl iX1_openWrites_X1 (by decide) mX1_openWrites_f28 rfl ?_
  refine g_if_eq C (tgt := 19) dX1_openWrites_4 (by decide) (fun c1 => ?_) (fun c1 => ?_)
  · skip
    refine g_iconst C (v := 0) dX1_openWrites_19 (by decide) ?_
    exact ret _ () _ _ dX1_openWrites_20 (by simp [c1])
  · skip
    refine g_aload_n C dX1_openWrites_7 0 rfl rfl ?_
    refine g_get C 0 (f := 4) (v := .int (J 0 0)) (Cn := RX1) (T := TX1) (N := 8) dX1_openWrites_8 rfl rfl iX1_openWrites_X1 (by decide) mX1_openWrites_f24 rfl ?_
    refine g_aload_n C dX1_openWrites_11 0 rfl rfl ?_
    refine g_get C 0 (f := 7) (v := .int (J 0 3)) (Cn := RX1) (T := TX1) (N := 8) dX1_openWrites_12 rfl rfl iX1_openWrites_X1 (by decide) mX1_openWrites_f35 rfl ?_
    refine g_isub C dX1_openWrites_15 ?_
    refine g_goto C (tgt := 20) dX1_openWrites_16 (by decide) ?_
    exact ret _ () _ _ dX1_openWrites_20 (by simp [c1])
end
section
/-! made by wip/whole/gen.py and m1.py -/
theorem mX2_entriesOnPage_inX3_isPage : Cond.initialized yX3_isPage.cls ∈ wsX2_entriesOnPage := List.mem_of_getElem? (i := 3) rfl
theorem mX2_entriesOnPage_stX3_isPage : Cond.static yX3_isPage ∈ wsX2_entriesOnPage := List.mem_of_getElem? (i := 2) rfl
theorem mX2_entriesOnPage_f18 : Cond.fieldLink RX2 18 (TX2 2).1 (TX2 2).2.1 (TX2 2).2.2.1 ∈ wsX2_entriesOnPage := List.mem_of_getElem? (i := 1) rfl
theorem iX2_entriesOnPage_X2 : ∀ w ∈ wsX20, w ∈ wsX2_entriesOnPage := by decide +kernel
set_option maxHeartbeats 1600000 in
set_option maxRecDepth 20000 in
theorem c_X2_entriesOnPage (l : Launch) (D : va_G) (cy cz : ClassId) (g : Nat → Nat) (z0 : Nat) (P : Mem) (q : Nat) (hq : q < 128) : MId l yX2_entriesOnPage wsX2_entriesOnPage (rmF 1 36) D (tyL cy cz) [.ref (g 0), .int (nI q)] (wG cy g z0 P) (P 3 q) (wG cy g z0 P) := by
  refine g_entI (cc := cX2_entriesOnPage) (maxL := 2) (own := RX2) (by decide) rfl rfl (Nat.le_of_ble_eq_true rfl) (fun x C ret => ?_)
  show G x l (rmF 1 36) D 2 0 0 (wG cy g z0 P) [(0, .ref (g 0)), (1, .int (nI q))] [] 0
  refine g_iload_n C dX2_entriesOnPage_0 1 rfl rfl ?_
  refine g_callIN C [] [0, 1, 2, 3, 4, 5, 6, 7] [0, 1, 2, 3, 4, 5, 6, 7] (As := [.int (nI q)]) (rest := []) (wr := (wG cy g z0 P)) (wf := fun _ => (wG cy g z0 P)) dX2_entriesOnPage_1 gX2_entriesOnPage_X3_isPage_n61 rfl dmX3_isPage ⟨rfl, rfl, Nat.le_of_ble_eq_true rfl, Nat.le_of_ble_eq_true rfl, Nat.zero_le _, Nat.zero_le _⟩ rfl mX2_entriesOnPage_inX3_isPage mX2_entriesOnPage_stX3_isPage (c_X3_isPage l D cy cz (nI q)) ⟨rfl, rfl, rfl, rfl, by decide, rfl, fun _ => rfl⟩ (Nat.le_of_ble_eq_true rfl) ?_
  rintro _ - rfl
  show G x l (rmF 1 36) D 2 0 0 (wG cy g z0 P) [(0, .ref (g 0)), (1, .int (nI q))] [.int (inI 128 (nI q))] 4
  refine g_top (b := 1) (inI_nI (N := 128) hq (by decide)) ?_
  refine g_if_eq C (tgt := 16) dX2_entriesOnPage_4 (by decide) (fun c1 => ?_) (fun c1 => ?_)
  · skip
    exact absurd c1 (by decide)
  · skip
    refine g_aload_n C dX2_entriesOnPage_7 0 rfl rfl ?_
    refine g_get C 0 (f := 2) (v := .ref (g 3)) (Cn := RX2) (T := TX2) (N := 11) dX2_entriesOnPage_8 rfl rfl iX2_entriesOnPage_X2 (by decide) mX2_entriesOnPage_f18 rfl ?_
    refine g_iload_n C dX2_entriesOnPage_11 1 rfl rfl ?_
    refine g_iald C 3 0 (f := P 3) (N := 128) q dX2_entriesOnPage_12 rfl rfl (by decide) (rfl) (by omega) ?_
    refine g_goto C (tgt := 17) dX2_entriesOnPage_13 (by decide) ?_
    exact ret _ () _ _ dX2_entriesOnPage_17 rfl

theorem mX2_pageBehind_inX3_isPage : Cond.initialized yX3_isPage.cls ∈ wsX2_pageBehind := List.mem_of_getElem? (i := 4) rfl
theorem mX2_pageBehind_stX3_isPage : Cond.static yX3_isPage ∈ wsX2_pageBehind := List.mem_of_getElem? (i := 3) rfl
theorem mX2_pageBehind_f21 : Cond.fieldLink RX2 21 (TX2 3).1 (TX2 3).2.1 (TX2 3).2.2.1 ∈ wsX2_pageBehind := List.mem_of_getElem? (i := 1) rfl
theorem iX2_pageBehind_X2 : ∀ w ∈ wsX20, w ∈ wsX2_pageBehind := by decide +kernel
set_option maxHeartbeats 1600000 in
set_option maxRecDepth 20000 in
theorem c_X2_pageBehind (l : Launch) (D : va_G) (cy cz : ClassId) (g : Nat → Nat) (z0 : Nat) (P : Mem) (q : Nat) (hq : q < 128) : MId l yX2_pageBehind wsX2_pageBehind (rmF 1 36) D (tyL cy cz) [.ref (g 0), .int (nI q)] (wG cy g z0 P) (P 4 q) (wG cy g z0 P) := by
  refine g_entI (cc := cX2_pageBehind) (maxL := 2) (own := RX2) (by decide) rfl rfl (Nat.le_of_ble_eq_true rfl) (fun x C ret => ?_)
  show G x l (rmF 1 36) D 2 0 0 (wG cy g z0 P) [(0, .ref (g 0)), (1, .int (nI q))] [] 0
  refine g_iload_n C dX2_pageBehind_0 1 rfl rfl ?_
  refine g_callIN C [] [0, 1, 2, 3, 4, 5, 6, 7] [0, 1, 2, 3, 4, 5, 6, 7] (As := [.int (nI q)]) (rest := []) (wr := (wG cy g z0 P)) (wf := fun _ => (wG cy g z0 P)) dX2_pageBehind_1 gX2_pageBehind_X3_isPage_n61 rfl dmX3_isPage ⟨rfl, rfl, Nat.le_of_ble_eq_true rfl, Nat.le_of_ble_eq_true rfl, Nat.zero_le _, Nat.zero_le _⟩ rfl mX2_pageBehind_inX3_isPage mX2_pageBehind_stX3_isPage (c_X3_isPage l D cy cz (nI q)) ⟨rfl, rfl, rfl, rfl, by decide, rfl, fun _ => rfl⟩ (Nat.le_of_ble_eq_true rfl) ?_
  rintro _ - rfl
  show G x l (rmF 1 36) D 2 0 0 (wG cy g z0 P) [(0, .ref (g 0)), (1, .int (nI q))] [.int (inI 128 (nI q))] 4
  refine g_top (b := 1) (inI_nI (N := 128) hq (by decide)) ?_
  refine g_if_eq C (tgt := 16) dX2_pageBehind_4 (by decide) (fun c1 => ?_) (fun c1 => ?_)
  · skip
    exact absurd c1 (by decide)
  · skip
    refine g_aload_n C dX2_pageBehind_7 0 rfl rfl ?_
    refine g_get C 0 (f := 3) (v := .ref (g 4)) (Cn := RX2) (T := TX2) (N := 11) dX2_pageBehind_8 rfl rfl iX2_pageBehind_X2 (by decide) mX2_pageBehind_f21 rfl ?_
    refine g_iload_n C dX2_pageBehind_11 1 rfl rfl ?_
    refine g_iald C 4 0 (f := P 4) (N := 128) q dX2_pageBehind_12 rfl rfl (by decide) (rfl) (by omega) ?_
    refine g_goto C (tgt := 18) dX2_pageBehind_13 (by decide) ?_
    exact ret _ () _ _ dX2_pageBehind_18 rfl

theorem mX2_lastPage_f30 : Cond.fieldLink RX2 30 (TX2 6).1 (TX2 6).2.1 (TX2 6).2.2.1 ∈ wsX2_lastPage := List.mem_of_getElem? (i := 1) rfl
theorem iX2_lastPage_X2 : ∀ w ∈ wsX20, w ∈ wsX2_lastPage := by decide +kernel
set_option maxHeartbeats 1600000 in
set_option maxRecDepth 20000 in
theorem c_X2_lastPage (l : Launch) (D : va_G) (cy cz : ClassId) (g : Nat → Nat) (z0 : Nat) (P : Mem) (q : Nat) (hq : q < 64) : MId l yX2_lastPage wsX2_lastPage (rmF 1 36) D (tyL cy cz) [.ref (g 0), .int (nI q)] (wG cy g z0 P) (P 7 q) (wG cy g z0 P) := by
  refine g_entI (cc := cX2_lastPage) (maxL := 2) (own := RX2) (by decide) rfl rfl (Nat.le_of_ble_eq_true rfl) (fun x C ret => ?_)
  show G x l (rmF 1 36) D 2 0 0 (wG cy g z0 P) [(0, .ref (g 0)), (1, .int (nI q))] [] 0
  refine g_iload_n C dX2_lastPage_0 1 rfl rfl ?_
  refine g_callIS C [] [0, 1, 2, 3, 4, 5, 6, 7] [0, 1, 2, 3, 4, 5, 6, 7] (As := [.int (nI q)]) (rest := []) (wr := (wG cy g z0 P)) (wf := fun _ => (wG cy g z0 P)) dX2_lastPage_1 gX2_lastPage_X2_isBucketPlace rfl dmX2_isBucketPlace ⟨rfl, rfl, Nat.le_of_ble_eq_true rfl, Nat.le_of_ble_eq_true rfl, Nat.zero_le _, Nat.zero_le _⟩ (c_X2_isBucketPlace l D cy cz (nI q)) ⟨rfl, rfl, rfl, rfl, by decide, rfl, fun _ => rfl⟩ (Nat.le_of_ble_eq_true rfl) ?_
  rintro _ - rfl
  show G x l (rmF 1 36) D 2 0 0 (wG cy g z0 P) [(0, .ref (g 0)), (1, .int (nI q))] [.int (inI 64 (nI q))] 4
  refine g_top (b := 1) (inI_nI (N := 64) hq (by decide)) ?_
  refine g_if_eq C (tgt := 16) dX2_lastPage_4 (by decide) (fun c1 => ?_) (fun c1 => ?_)
  · skip
    exact absurd c1 (by decide)
  · skip
    refine g_aload_n C dX2_lastPage_7 0 rfl rfl ?_
    refine g_get C 0 (f := 6) (v := .ref (g 7)) (Cn := RX2) (T := TX2) (N := 11) dX2_lastPage_8 rfl rfl iX2_lastPage_X2 (by decide) mX2_lastPage_f30 rfl ?_
    refine g_iload_n C dX2_lastPage_11 1 rfl rfl ?_
    refine g_iald C 7 0 (f := P 7) (N := 64) q dX2_lastPage_12 rfl rfl (by decide) (rfl) (by omega) ?_
    refine g_goto C (tgt := 18) dX2_lastPage_13 (by decide) ?_
    exact ret _ () _ _ dX2_lastPage_18 rfl

theorem mX2_keyIn_f9 : Cond.fieldLink RX2 9 (TX2 0).1 (TX2 0).2.1 (TX2 0).2.2.1 ∈ wsX2_keyIn := List.mem_of_getElem? (i := 1) rfl
theorem iX2_keyIn_X2 : ∀ w ∈ wsX20, w ∈ wsX2_keyIn := by decide +kernel
set_option maxHeartbeats 1600000 in
set_option maxRecDepth 20000 in
theorem c_X2_keyIn (l : Launch) (D : va_G) (cy cz : ClassId) (g : Nat → Nat) (z0 : Nat) (P : Mem) (q : Nat) (hq : q < 512) : MId l yX2_keyIn wsX2_keyIn (rmF 0 0) D (tyL cy cz) [.ref (g 0), .int (nI q)] (wG cy g z0 P) (P 1 q) (wG cy g z0 P) := by
  refine g_entI (cc := cX2_keyIn) (maxL := 2) (own := RX2) (by decide) rfl rfl (Nat.le_of_ble_eq_true rfl) (fun x C ret => ?_)
  show G x l (rmF 0 0) D 2 0 0 (wG cy g z0 P) [(0, .ref (g 0)), (1, .int (nI q))] [] 0
  refine g_iload_n C dX2_keyIn_0 1 rfl rfl ?_
  refine g_if_lt C (tgt := 22) dX2_keyIn_1 (by decide) (fun c1 => ?_) (fun c1 => ?_)
  · skip
    exact absurd c1 (nI_pos (by omega))
  · skip
    refine g_iload_n C dX2_keyIn_4 1 rfl rfl ?_
    refine g_aload_n C dX2_keyIn_5 0 rfl rfl ?_
    refine g_get C 0 (f := 0) (v := .ref (g 1)) (Cn := RX2) (T := TX2) (N := 11) dX2_keyIn_6 rfl rfl iX2_keyIn_X2 (by decide) mX2_keyIn_f9 rfl ?_
    refine g_alen C 1 0 (f := P 1) (N := 512) dX2_keyIn_9 rfl rfl ?_
    refine g_icmp_ge C (tgt := 22) dX2_keyIn_10 (by decide) (fun c2 => ?_) (fun c2 => ?_)
    · skip
      exact absurd c2 (nI_ge hq (by decide))
    · skip
      refine g_aload_n C dX2_keyIn_13 0 rfl rfl ?_
      refine g_get C 0 (f := 0) (v := .ref (g 1)) (Cn := RX2) (T := TX2) (N := 11) dX2_keyIn_14 rfl rfl iX2_keyIn_X2 (by decide) mX2_keyIn_f9 rfl ?_
      refine g_iload_n C dX2_keyIn_17 1 rfl rfl ?_
      refine g_iald C 1 0 (f := P 1) (N := 512) q dX2_keyIn_18 rfl rfl (by decide) (rfl) (by omega) ?_
      refine g_goto C (tgt := 24) dX2_keyIn_19 (by decide) ?_
      exact ret _ () _ _ dX2_keyIn_24 rfl

theorem mX2_valueIn_f15 : Cond.fieldLink RX2 15 (TX2 1).1 (TX2 1).2.1 (TX2 1).2.2.1 ∈ wsX2_valueIn := List.mem_of_getElem? (i := 1) rfl
theorem iX2_valueIn_X2 : ∀ w ∈ wsX20, w ∈ wsX2_valueIn := by decide +kernel
set_option maxHeartbeats 1600000 in
set_option maxRecDepth 20000 in
theorem c_X2_valueIn (l : Launch) (D : va_G) (cy cz : ClassId) (g : Nat → Nat) (z0 : Nat) (P : Mem) (q : Nat) (hq : q < 512) : MId l yX2_valueIn wsX2_valueIn (rmF 0 0) D (tyL cy cz) [.ref (g 0), .int (nI q)] (wG cy g z0 P) (P 2 q) (wG cy g z0 P) := by
  refine g_entI (cc := cX2_valueIn) (maxL := 2) (own := RX2) (by decide) rfl rfl (Nat.le_of_ble_eq_true rfl) (fun x C ret => ?_)
  show G x l (rmF 0 0) D 2 0 0 (wG cy g z0 P) [(0, .ref (g 0)), (1, .int (nI q))] [] 0
  refine g_iload_n C dX2_valueIn_0 1 rfl rfl ?_
  refine g_if_lt C (tgt := 22) dX2_valueIn_1 (by decide) (fun c1 => ?_) (fun c1 => ?_)
  · skip
    exact absurd c1 (nI_pos (by omega))
  · skip
    refine g_iload_n C dX2_valueIn_4 1 rfl rfl ?_
    refine g_aload_n C dX2_valueIn_5 0 rfl rfl ?_
    refine g_get C 0 (f := 1) (v := .ref (g 2)) (Cn := RX2) (T := TX2) (N := 11) dX2_valueIn_6 rfl rfl iX2_valueIn_X2 (by decide) mX2_valueIn_f15 rfl ?_
    refine g_alen C 2 0 (f := P 2) (N := 512) dX2_valueIn_9 rfl rfl ?_
    refine g_icmp_ge C (tgt := 22) dX2_valueIn_10 (by decide) (fun c2 => ?_) (fun c2 => ?_)
    · skip
      exact absurd c2 (nI_ge hq (by decide))
    · skip
      refine g_aload_n C dX2_valueIn_13 0 rfl rfl ?_
      refine g_get C 0 (f := 1) (v := .ref (g 2)) (Cn := RX2) (T := TX2) (N := 11) dX2_valueIn_14 rfl rfl iX2_valueIn_X2 (by decide) mX2_valueIn_f15 rfl ?_
      refine g_iload_n C dX2_valueIn_17 1 rfl rfl ?_
      refine g_iald C 2 0 (f := P 2) (N := 512) q dX2_valueIn_18 rfl rfl (by decide) (rfl) (by omega) ?_
      refine g_goto C (tgt := 24) dX2_valueIn_19 (by decide) ?_
      exact ret _ () _ _ dX2_valueIn_24 rfl

theorem mX2_addressOf_k60 : Cond.constant RX2 60 (-1640531527) ∈ wsX2_addressOf := List.mem_of_getElem? (i := 1) rfl
theorem mX2_addressOf_f50 : Cond.fieldLink RX2 50 (TX2 8).1 (TX2 8).2.1 (TX2 8).2.2.1 ∈ wsX2_addressOf := List.mem_of_getElem? (i := 2) rfl
theorem iX2_addressOf_X2 : ∀ w ∈ wsX20, w ∈ wsX2_addressOf := by decide +kernel
theorem mX2_addressOf_f54 : Cond.fieldLink RX2 54 (TX2 9).1 (TX2 9).2.1 (TX2 9).2.2.1 ∈ wsX2_addressOf := List.mem_of_getElem? (i := 3) rfl
set_option maxHeartbeats 1600000 in
set_option maxRecDepth 20000 in
theorem c_X2_addressOf (l : Launch) (D : va_G) (cy cz : ClassId) (g : Nat → Nat) (z0 : Nat) (P : Mem) (L : Nat) (S : Nat) (key : Int32) (hL : P 0 0 = nI L) (hS : P 0 1 = nI S) (h4 : L ≤ 4) (h5 : S ≤ 64) : MId l yX2_addressOf wsX2_addressOf (rmF 0 0) D (tyL cy cz) [.ref (g 0), .int key] (wG cy g z0 P) (nI (adr L S key)) (wG cy g z0 P) := by
  refine g_entI (cc := cX2_addressOf) (maxL := 4) (own := RX2) (by decide) rfl rfl (Nat.le_of_ble_eq_true rfl) (fun x C ret => ?_)
  show G x l (rmF 0 0) D 4 0 0 (wG cy g z0 P) [(0, .ref (g 0)), (1, .int key)] [] 0
  refine g_iload_n C dX2_addressOf_0 1 rfl rfl ?_
  refine g_ldc C (v := (-1640531527)) mX2_addressOf_k60 dX2_addressOf_1 ?_
  refine g_imul C dX2_addressOf_3 ?_
  refine g_istore_n C (lv' := [(2, .int (key * (-1640531527))), (0, .ref (g 0)), (1, .int key)]) dX2_addressOf_4 rfl (by decide) rfl ?_
  refine g_iload_n C dX2_addressOf_5 0 rfl rfl ?_
  refine g_iload_n C dX2_addressOf_6 0 rfl rfl ?_
  refine g_bipush C (v := 15) dX2_addressOf_7 (by decide) ?_
  refine g_iushr C dX2_addressOf_9 ?_
  refine g_ixor C dX2_addressOf_10 ?_
  refine g_top (b := hsh key) (rfl) ?_
  refine g_istore_n C (lv' := [(2, .int (hsh key)), (0, .ref (g 0)), (1, .int key)]) dX2_addressOf_11 rfl (by decide) rfl ?_
  refine g_iload_n C dX2_addressOf_12 0 rfl rfl ?_
  refine g_iconst C (v := 4) dX2_addressOf_13 (by decide) ?_
  refine g_aload_n C dX2_addressOf_14 1 rfl rfl ?_
  refine g_get C 0 (f := 8) (v := .int (P 0 0)) (Cn := RX2) (T := TX2) (N := 11) dX2_addressOf_15 rfl rfl iX2_addressOf_X2 (by decide) mX2_addressOf_f50 rfl ?_
  refine g_top (b := nI L) (hL) ?_
  refine g_ishl C dX2_addressOf_18 ?_
  refine g_iconst C (v := 1) dX2_addressOf_19 (by decide) ?_
  refine g_isub C dX2_addressOf_20 ?_
  refine g_iand C dX2_addressOf_21 ?_
  refine g_top (b := nI (hN key % 2 ^ (L + 2))) (adr_lo key h4) ?_
  refine g_istore_n C (lv' := [(3, .int (nI (hN key % 2 ^ (L + 2)))), (2, .int (hsh key)), (0, .ref (g 0)), (1, .int key)]) dX2_addressOf_22 rfl (by decide) rfl ?_
  refine g_iload_n C dX2_addressOf_23 0 rfl rfl ?_
  refine g_aload_n C dX2_addressOf_24 2 rfl rfl ?_
  refine g_get C 0 (f := 9) (v := .int (P 0 1)) (Cn := RX2) (T := TX2) (N := 11) dX2_addressOf_25 rfl rfl iX2_addressOf_X2 (by decide) mX2_addressOf_f54 rfl ?_
  refine g_top (b := nI S) (hS) ?_
  refine g_icmp_ge C (tgt := 45) dX2_addressOf_28 (by decide) (fun c1 => ?_) (fun c1 => ?_)
  · skip
    refine g_iload_n C dX2_addressOf_45 0 rfl rfl ?_
    exact ret _ () _ _ dX2_addressOf_46 (adr_t h4 h5 c1)
  · skip
    refine g_iload_n C dX2_addressOf_31 1 rfl rfl ?_
    refine g_bipush C (v := 8) dX2_addressOf_32 (by decide) ?_
    refine g_aload_n C dX2_addressOf_34 2 rfl rfl ?_
    refine g_get C 0 (f := 8) (v := .int (P 0 0)) (Cn := RX2) (T := TX2) (N := 11) dX2_addressOf_35 rfl rfl iX2_addressOf_X2 (by decide) mX2_addressOf_f50 rfl ?_
    refine g_top (b := nI L) (hL) ?_
    refine g_ishl C dX2_addressOf_38 ?_
    refine g_iconst C (v := 1) dX2_addressOf_39 (by decide) ?_
    refine g_isub C dX2_addressOf_40 ?_
    refine g_iand C dX2_addressOf_41 ?_
    refine g_top (b := nI (hN key % 2 ^ (L + 3))) (adr_hi key h4) ?_
    refine g_goto C (tgt := 46) dX2_addressOf_42 (by decide) ?_
    exact ret _ () _ _ dX2_addressOf_46 (adr_f h4 h5 c1)

theorem mX2_bucketOfPage_inX3_isPage : Cond.initialized yX3_isPage.cls ∈ wsX2_bucketOfPage := List.mem_of_getElem? (i := 4) rfl
theorem mX2_bucketOfPage_stX3_isPage : Cond.static yX3_isPage ∈ wsX2_bucketOfPage := List.mem_of_getElem? (i := 3) rfl
theorem mX2_bucketOfPage_f27 : Cond.fieldLink RX2 27 (TX2 5).1 (TX2 5).2.1 (TX2 5).2.2.1 ∈ wsX2_bucketOfPage := List.mem_of_getElem? (i := 2) rfl
theorem iX2_bucketOfPage_X2 : ∀ w ∈ wsX20, w ∈ wsX2_bucketOfPage := by decide +kernel
theorem mX2_bucketOfPage_k37 : Cond.constant RX2 37 (-2000000005) ∈ wsX2_bucketOfPage := List.mem_of_getElem? (i := 1) rfl
set_option maxHeartbeats 1600000 in
set_option maxRecDepth 20000 in
theorem c_X2_bucketOfPage (l : Launch) (D : va_G) (cy cz : ClassId) (g : Nat → Nat) (z0 : Nat) (P : Mem) (A : AS) (q : Nat) (hr : RP A P) (hq : q < 128) : MId l yX2_bucketOfPage wsX2_bucketOfPage (rmF 1 36) D (tyL cy cz) [.ref (g 0), .int (nI q)] (wG cy g z0 P) (if q < 64 then (if q < A.nb then nI q else vNONE) else P 6 q) (wG cy g z0 P) := by
  refine g_entI (cc := cX2_bucketOfPage) (maxL := 2) (own := RX2) (by decide) rfl rfl (Nat.le_of_ble_eq_true rfl) (fun x C ret => ?_)
  show G x l (rmF 1 36) D 2 0 0 (wG cy g z0 P) [(0, .ref (g 0)), (1, .int (nI q))] [] 0
  refine g_iload_n C dX2_bucketOfPage_0 1 rfl rfl ?_
  refine g_callIN C [] [0, 1, 2, 3, 4, 5, 6, 7] [0, 1, 2, 3, 4, 5, 6, 7] (As := [.int (nI q)]) (rest := []) (wr := (wG cy g z0 P)) (wf := fun _ => (wG cy g z0 P)) dX2_bucketOfPage_1 gX2_bucketOfPage_X3_isPage_n61 rfl dmX3_isPage ⟨rfl, rfl, Nat.le_of_ble_eq_true rfl, Nat.le_of_ble_eq_true rfl, Nat.zero_le _, Nat.zero_le _⟩ rfl mX2_bucketOfPage_inX3_isPage mX2_bucketOfPage_stX3_isPage (c_X3_isPage l D cy cz (nI q)) ⟨rfl, rfl, rfl, rfl, by decide, rfl, fun _ => rfl⟩ (Nat.le_of_ble_eq_true rfl) ?_
  rintro _ - rfl
  show G x l (rmF 1 36) D 2 0 0 (wG cy g z0 P) [(0, .ref (g 0)), (1, .int (nI q))] [.int (inI 128 (nI q))] 4
  refine g_top (b := 1) (inI_nI (N := 128) hq (by decide)) ?_
  refine g_if_ne C (tgt := 10) dX2_bucketOfPage_4 (by decide) (fun c1 => ?_) (fun c1 => ?_)
  · skip
    refine g_iload_n C dX2_bucketOfPage_10 1 rfl rfl ?_
    refine g_bipush C (v := 64) dX2_bucketOfPage_11 (by decide) ?_
    refine g_icmp_ge C (tgt := 31) dX2_bucketOfPage_13 (by decide) (fun c2 => ?_) (fun c2 => ?_)
    · skip
      refine g_aload_n C dX2_bucketOfPage_31 0 rfl rfl ?_
      refine g_get C 0 (f := 5) (v := .ref (g 6)) (Cn := RX2) (T := TX2) (N := 11) dX2_bucketOfPage_32 rfl rfl iX2_bucketOfPage_X2 (by decide) mX2_bucketOfPage_f27 rfl ?_
      refine g_iload_n C dX2_bucketOfPage_35 1 rfl rfl ?_
      refine g_iald C 6 0 (f := P 6) (N := 128) q dX2_bucketOfPage_36 rfl rfl (by decide) (rfl) (by omega) ?_
      exact ret _ () _ _ dX2_bucketOfPage_37 (by rw [if_neg (fun w => absurd c2 (nI_ge w (by decide)))])
    · skip
      refine g_iload_n C dX2_bucketOfPage_16 1 rfl rfl ?_
      refine g_aload_n C dX2_bucketOfPage_17 0 rfl rfl ?_
      refine g_callIV C [0, 1, 2, 3, 4, 5, 6, 7] [] [0, 1, 2, 3, 4, 5, 6, 7] 0 2 (b := g 0) rfl rfl (As := []) (rest := [.int (nI q)]) (wr := ([] : va_W)) (wf := fun _ => (wG cy g z0 P)) dX2_bucketOfPage_18 gX2_bucketOfPage_X2_bucketCount rfl dmX2_bucketCount ⟨rfl, rfl, Nat.le_of_ble_eq_true rfl, Nat.le_of_ble_eq_true rfl, Nat.zero_le _, Nat.zero_le _⟩ (c_X2_bucketCount l D cy cz g z0 P) ⟨rfl, rfl, rfl, rfl, by decide, rfl, fun _ => rfl⟩ (Nat.le_of_ble_eq_true rfl) ?_
      rintro _ - rfl
      show G x l (rmF 1 36) D 2 0 0 (wG cy g z0 P) [(0, .ref (g 0)), (1, .int (nI q))] [.int ((4 <<< (P 0 0 &&& 31)) + P 0 1), .int (nI q)] 21
      refine g_top (b := nI A.nb) (hr.nb) ?_
      refine g_icmp_ge C (tgt := 28) dX2_bucketOfPage_21 (by decide) (fun c3 => ?_) (fun c3 => ?_)
      · skip
        refine g_ldc C (v := vNONE) mX2_bucketOfPage_k37 dX2_bucketOfPage_28 ?_
        exact ret _ () _ _ dX2_bucketOfPage_30 (by rw [if_pos (show q < 64 from Nat.lt_of_not_le (fun w => c2 (nI_le w (by omega)))), if_neg (fun w => absurd c3 (nI_ge w (by have := hr.nb64; omega)))])
      · skip
        refine g_iload_n C dX2_bucketOfPage_24 1 rfl rfl ?_
        refine g_goto C (tgt := 30) dX2_bucketOfPage_25 (by decide) ?_
        exact ret _ () _ _ dX2_bucketOfPage_30 (by rw [if_pos (show q < 64 from Nat.lt_of_not_le (fun w => c2 (nI_le w (by omega)))), if_pos (show q < A.nb from Nat.lt_of_not_le (fun w => c3 (nI_le w (by omega))))])
  · skip
    exact absurd c1 (by decide)

theorem mX2_pagesInChain_inX3_isPage : Cond.initialized yX3_isPage.cls ∈ wsX2_pagesInChain := List.mem_of_getElem? (i := 3) rfl
theorem mX2_pagesInChain_stX3_isPage : Cond.static yX3_isPage ∈ wsX2_pagesInChain := List.mem_of_getElem? (i := 2) rfl
theorem mX2_pagesInChain_f21 : Cond.fieldLink RX2 21 (TX2 3).1 (TX2 3).2.1 (TX2 3).2.2.1 ∈ wsX2_pagesInChain := List.mem_of_getElem? (i := 1) rfl
theorem iX2_pagesInChain_X2 : ∀ w ∈ wsX20, w ∈ wsX2_pagesInChain := by decide +kernel
set_option maxHeartbeats 1600000 in
set_option maxRecDepth 20000 in
theorem c_X2_pagesInChain (l : Launch) (D : va_G) (cy cz : ClassId) (g : Nat → Nat) (z0 : Nat) (P : Mem) (b : Nat) (t : List Nat) (h1 : isCh (P 4) (b :: t)) (h2 : t.length + 1 ≤ 128) : MId l yX2_pagesInChain wsX2_pagesInChain (rmF 1 36) D (tyL cy cz) [.ref (g 0), .int (nI b)] (wG cy g z0 P) (nI (t.length + 1)) (wG cy g z0 P) := by
  refine g_entI (cc := cX2_pagesInChain) (maxL := 4) (own := RX2) (by decide) rfl rfl (Nat.le_of_ble_eq_true rfl) (fun x C ret => ?_)
  show G x l (rmF 1 36) D 4 0 0 (wG cy g z0 P) [(0, .ref (g 0)), (1, .int (nI b))] [] 0
  refine g_iconst C (v := 0) dX2_pagesInChain_0 (by decide) ?_
  refine g_istore_n C (lv' := [(2, .int 0), (0, .ref (g 0)), (1, .int (nI b))]) dX2_pagesInChain_1 rfl (by decide) rfl ?_
  refine g_iload_n C dX2_pagesInChain_2 2 rfl rfl ?_
  refine g_istore_n C (lv' := [(3, .int (nI b)), (2, .int 0), (0, .ref (g 0)), (1, .int (nI b))]) dX2_pagesInChain_3 rfl (by decide) rfl ?_
  refine g_lv (lv' := [(2, .int 0), (3, .int (nI b)), (0, .ref (g 0)), (1, .int (nI b))]) [1, 0, 2, 3] rfl ?_
  refine g_loop (σ := List Nat × Nat) (fun (a : List Nat × Nat) => match a with | (r, d) => (wG cy g z0 P)) (fun (a : List Nat × Nat) => match a with | (r, d) => [(2, .int (nI d)), (3, .int (hdI r)), (0, .ref (g 0)), (1, .int (nI b))]) (fun (a : List Nat × Nat) => match a with | (r, d) => (isCh (P 4) r) ∧ (r.length + d = t.length + 1)) (fun (a : List Nat × Nat) => match a with | (r, d) => r.length) ?_ (b :: t, 0) (⟨h1, rfl⟩)
  intro a hI ih
  obtain ⟨r, d⟩ := a
  obtain ⟨i1, i2⟩ : (isCh (P 4) r) ∧ (r.length + d = t.length + 1) := hI
  show G x l (rmF 1 36) D 4 0 0 (wG cy g z0 P) [(2, .int (nI d)), (3, .int (hdI r)), (0, .ref (g 0)), (1, .int (nI b))] [] 4
  rcases r with _ | ⟨q, r⟩
  · skip
    have i2 : d = t.length + 1 := by simpa using i2
    show G x l (rmF 1 36) D 4 0 0 (wG cy g z0 P) [(2, .int (nI d)), (3, .int vNONE), (0, .ref (g 0)), (1, .int (nI b))] [] 4
    refine g_iload_n C dX2_pagesInChain_4 0 rfl rfl ?_
    refine g_sipush C (v := 128) dX2_pagesInChain_5 (by decide) ?_
    refine g_icmp_ge C (tgt := 31) dX2_pagesInChain_8 (by decide) (fun c1 => ?_) (fun c1 => ?_)
    · skip
      refine g_iload_n C dX2_pagesInChain_31 0 rfl rfl ?_
      exact ret _ () _ _ dX2_pagesInChain_32 (by rw [i2])
    · skip
      refine g_iload_n C dX2_pagesInChain_11 1 rfl rfl ?_
      refine g_callIN C [] [0, 1, 2, 3, 4, 5, 6, 7] [0, 1, 2, 3, 4, 5, 6, 7] (As := [.int vNONE]) (rest := []) (wr := (wG cy g z0 P)) (wf := fun _ => (wG cy g z0 P)) dX2_pagesInChain_12 gX2_pagesInChain_X3_isPage_n61 rfl dmX3_isPage ⟨rfl, rfl, Nat.le_of_ble_eq_true rfl, Nat.le_of_ble_eq_true rfl, Nat.zero_le _, Nat.zero_le _⟩ rfl mX2_pagesInChain_inX3_isPage mX2_pagesInChain_stX3_isPage (c_X3_isPage l D cy cz vNONE) ⟨rfl, rfl, rfl, rfl, by decide, rfl, fun _ => rfl⟩ (Nat.le_of_ble_eq_true rfl) ?_
      rintro _ - rfl
      show G x l (rmF 1 36) D 4 0 0 (wG cy g z0 P) [(2, .int (nI d)), (3, .int vNONE), (0, .ref (g 0)), (1, .int (nI b))] [.int (inI 128 vNONE)] 15
      refine g_top (b := 0) (inI_NONE _) ?_
      refine g_if_eq C (tgt := 31) dX2_pagesInChain_15 (by decide) (fun c1 => ?_) (fun c1 => ?_)
      · skip
        refine g_iload_n C dX2_pagesInChain_31 0 rfl rfl ?_
        exact ret _ () _ _ dX2_pagesInChain_32 (by rw [i2])
      · skip
        exact absurd rfl (c1)
  · skip
    obtain ⟨hq, hn, i1⟩ := i1
    have i2 : r.length + 1 + d = t.length + 1 := by simpa using i2
    show G x l (rmF 1 36) D 4 0 0 (wG cy g z0 P) [(2, .int (nI d)), (3, .int (nI q)), (0, .ref (g 0)), (1, .int (nI b))] [] 4
    refine g_iload_n C dX2_pagesInChain_4 0 rfl rfl ?_
    refine g_sipush C (v := 128) dX2_pagesInChain_5 (by decide) ?_
    refine g_icmp_ge C (tgt := 31) dX2_pagesInChain_8 (by decide) (fun c2 => ?_) (fun c2 => ?_)
    · skip
      exact absurd c2 (nI_ge (a := d) (b := 128) (by omega) (by decide))
    · skip
      refine g_iload_n C dX2_pagesInChain_11 1 rfl rfl ?_
      refine g_callIN C [] [0, 1, 2, 3, 4, 5, 6, 7] [0, 1, 2, 3, 4, 5, 6, 7] (As := [.int (nI q)]) (rest := []) (wr := (wG cy g z0 P)) (wf := fun _ => (wG cy g z0 P)) dX2_pagesInChain_12 gX2_pagesInChain_X3_isPage_n61 rfl dmX3_isPage ⟨rfl, rfl, Nat.le_of_ble_eq_true rfl, Nat.le_of_ble_eq_true rfl, Nat.zero_le _, Nat.zero_le _⟩ rfl mX2_pagesInChain_inX3_isPage mX2_pagesInChain_stX3_isPage (c_X3_isPage l D cy cz (nI q)) ⟨rfl, rfl, rfl, rfl, by decide, rfl, fun _ => rfl⟩ (Nat.le_of_ble_eq_true rfl) ?_
      rintro _ - rfl
      show G x l (rmF 1 36) D 4 0 0 (wG cy g z0 P) [(2, .int (nI d)), (3, .int (nI q)), (0, .ref (g 0)), (1, .int (nI b))] [.int (inI 128 (nI q))] 15
      refine g_top (b := 1) (inI_nI (N := 128) hq (by decide)) ?_
      refine g_if_eq C (tgt := 31) dX2_pagesInChain_15 (by decide) (fun c1 => ?_) (fun c1 => ?_)
      · skip
        exact absurd c1 (by decide)
      · skip
        refine g_iinc C (q := 0) (v := nI (d + 1)) (lv' := [(2, .int (nI (d + 1))), (3, .int (nI q)), (0, .ref (g 0)), (1, .int (nI b))]) dX2_pagesInChain_18 rfl (nI_1 d) (by decide) rfl ?_
        refine g_aload_n C dX2_pagesInChain_21 2 rfl rfl ?_
        refine g_get C 0 (f := 3) (v := .ref (g 4)) (Cn := RX2) (T := TX2) (N := 11) dX2_pagesInChain_22 rfl rfl iX2_pagesInChain_X2 (by decide) mX2_pagesInChain_f21 rfl ?_
        refine g_iload_n C dX2_pagesInChain_25 1 rfl rfl ?_
        refine g_iald C 4 0 (f := P 4) (N := 128) q dX2_pagesInChain_26 rfl rfl (by decide) (rfl) (by omega) ?_
        refine g_top (b := hdI r) (hn) ?_
        refine g_istore_n C (lv' := [(3, .int (hdI r)), (2, .int (nI (d + 1))), (0, .ref (g 0)), (1, .int (nI b))]) dX2_pagesInChain_27 rfl (by decide) rfl ?_
        refine g_goto C (tgt := 4) dX2_pagesInChain_28 (by decide) ?_
        refine g_lv (lv' := [(2, .int (nI (d + 1))), (3, .int (hdI r)), (0, .ref (g 0)), (1, .int (nI b))]) [1, 0, 2, 3] rfl ?_
        exact ih (r, d + 1) ⟨i1, by omega⟩ (Nat.lt_succ_self _)

set_option maxHeartbeats 1600000 in
set_option maxRecDepth 20000 in
theorem c_X2_entriesInChain (l : Launch) (D : va_G) (cy cz : ClassId) (g : Nat → Nat) (z0 : Nat) (P : Mem) (A : AS) (b : Nat) (hr : RC A P) (hb : b < 64) : MId l yX2_entriesInChain wsX2_entriesInChain (rmF 2 72) D (tyL cy cz) [.ref (g 0), .int (nI b)] (wG cy g z0 P) (nI ((A.tl b).length * 4 + A.sz (A.la b))) (wG cy g z0 P) := by
  refine g_entI (cc := cX2_entriesInChain) (maxL := 2) (own := RX2) (by decide) rfl rfl (Nat.le_of_ble_eq_true rfl) (fun x C ret => ?_)
  show G x l (rmF 2 72) D 2 0 0 (wG cy g z0 P) [(0, .ref (g 0)), (1, .int (nI b))] [] 0
  refine g_aload_n C dX2_entriesInChain_0 0 rfl rfl ?_
  refine g_iload_n C dX2_entriesInChain_1 1 rfl rfl ?_
  refine g_callIV C [0, 1, 2, 3, 4, 5, 6, 7] [] [0, 1, 2, 3, 4, 5, 6, 7] 0 2 (b := g 0) rfl rfl (As := [.int (nI b)]) (rest := []) (wr := ([] : va_W)) (wf := fun _ => (wG cy g z0 P)) dX2_entriesInChain_2 gX2_entriesInChain_X2_pagesInChain rfl dmX2_pagesInChain ⟨rfl, rfl, Nat.le_of_ble_eq_true rfl, Nat.le_of_ble_eq_true rfl, Nat.zero_le _, Nat.zero_le _⟩ (c_X2_pagesInChain l D cy cz g z0 P b (A.tl b) (hr.chain hb) (by have := hr.1.len hb; omega)) ⟨rfl, rfl, rfl, rfl, by decide, rfl, fun _ => rfl⟩ (Nat.le_of_ble_eq_true rfl) ?_
  rintro _ - rfl
  show G x l (rmF 2 72) D 2 0 0 (wG cy g z0 P) [(0, .ref (g 0)), (1, .int (nI b))] [.int (nI ((A.tl b).length + 1))] 5
  refine g_iconst C (v := 1) dX2_entriesInChain_5 (by decide) ?_
  refine g_isub C dX2_entriesInChain_6 ?_
  refine g_top (b := nI (A.tl b).length) (nI_pred _) ?_
  refine g_iconst C (v := 4) dX2_entriesInChain_7 (by decide) ?_
  refine g_imul C dX2_entriesInChain_8 ?_
  refine g_top (b := nI ((A.tl b).length * 4)) (pk_mul _ 4) ?_
  refine g_aload_n C dX2_entriesInChain_9 0 rfl rfl ?_
  refine g_aload_n C dX2_entriesInChain_10 0 rfl rfl ?_
  refine g_iload_n C dX2_entriesInChain_11 1 rfl rfl ?_
  refine g_callIV C [0, 1, 2, 3, 4, 5, 6, 7] [] [0, 1, 2, 3, 4, 5, 6, 7] 0 2 (b := g 0) rfl rfl (As := [.int (nI b)]) (rest := [.ref (g 0), .int (nI ((A.tl b).length * 4))]) (wr := ([] : va_W)) (wf := fun _ => (wG cy g z0 P)) dX2_entriesInChain_12 gX2_entriesInChain_X2_lastPage rfl dmX2_lastPage ⟨rfl, rfl, Nat.le_of_ble_eq_true rfl, Nat.le_of_ble_eq_true rfl, Nat.zero_le _, Nat.zero_le _⟩ (c_X2_lastPage l D cy cz g z0 P b hb) ⟨rfl, rfl, rfl, rfl, by decide, rfl, fun _ => rfl⟩ (Nat.le_of_ble_eq_true rfl) ?_
  rintro _ - rfl
  show G x l (rmF 2 72) D 2 0 0 (wG cy g z0 P) [(0, .ref (g 0)), (1, .int (nI b))] [.int (P 7 b), .ref (g 0), .int (nI ((A.tl b).length * 4))] 15
  refine g_top (b := nI (A.la b)) (hr.last hb) ?_
  refine g_callIV C [0, 1, 2, 3, 4, 5, 6, 7] [] [0, 1, 2, 3, 4, 5, 6, 7] 0 2 (b := g 0) rfl rfl (As := [.int (nI (A.la b))]) (rest := [.int (nI ((A.tl b).length * 4))]) (wr := ([] : va_W)) (wf := fun _ => (wG cy g z0 P)) dX2_entriesInChain_15 gX2_entriesInChain_X2_entriesOnPage rfl dmX2_entriesOnPage ⟨rfl, rfl, Nat.le_of_ble_eq_true rfl, Nat.le_of_ble_eq_true rfl, Nat.zero_le _, Nat.zero_le _⟩ (c_X2_entriesOnPage l D cy cz g z0 P (A.la b) (hr.la hb)) ⟨rfl, rfl, rfl, rfl, by decide, rfl, fun _ => rfl⟩ (Nat.le_of_ble_eq_true rfl) ?_
  rintro _ - rfl
  show G x l (rmF 2 72) D 2 0 0 (wG cy g z0 P) [(0, .ref (g 0)), (1, .int (nI b))] [.int (P 3 (A.la b)), .int (nI ((A.tl b).length * 4))] 18
  refine g_top (b := nI (A.sz (A.la b))) (hr.used (hr.la hb)) ?_
  refine g_iadd C dX2_entriesInChain_18 ?_
  refine g_top (b := nI ((A.tl b).length * 4 + A.sz (A.la b))) (nI_add _ _) ?_
  exact ret _ () _ _ dX2_entriesInChain_19 rfl

theorem mX2_leastFreePage_k37 : Cond.constant RX2 37 (-2000000005) ∈ wsX2_leastFreePage := List.mem_of_getElem? (i := 2) rfl
theorem mX2_leastFreePage_f27 : Cond.fieldLink RX2 27 (TX2 5).1 (TX2 5).2.1 (TX2 5).2.2.1 ∈ wsX2_leastFreePage := List.mem_of_getElem? (i := 1) rfl
theorem iX2_leastFreePage_X2 : ∀ w ∈ wsX20, w ∈ wsX2_leastFreePage := by decide +kernel
set_option maxHeartbeats 1600000 in
set_option maxRecDepth 20000 in
theorem c_X2_leastFreePage (l : Launch) (D : va_G) (cy cz : ClassId) (g : Nat → Nat) (z0 : Nat) (P : Mem) (A : AS) (hr : RC A P) : MId l yX2_leastFreePage wsX2_leastFreePage (rmF 0 0) D (tyL cy cz) [.ref (g 0)] (wG cy g z0 P) (ocI A.lf) (wG cy g z0 P) := by
  refine g_entI (cc := cX2_leastFreePage) (maxL := 2) (own := RX2) (by decide) rfl rfl (Nat.le_of_ble_eq_true rfl) (fun x C ret => ?_)
  show G x l (rmF 0 0) D 2 0 0 (wG cy g z0 P) [(0, .ref (g 0))] [] 0
  refine g_bipush C (v := 64) dX2_leastFreePage_0 (by decide) ?_
  refine g_istore_n C (lv' := [(1, .int 64), (0, .ref (g 0))]) dX2_leastFreePage_2 rfl (by decide) rfl ?_
  refine g_loop (σ := Nat) (fun (a : Nat) => match a with | p => (wG cy g z0 P)) (fun (a : Nat) => match a with | p => [(1, .int (nI p)), (0, .ref (g 0))]) (fun (a : Nat) => match a with | p => (64 ≤ p) ∧ (p ≤ 128) ∧ (A.lf = lfrF A.fr (128 - p) p)) (fun (a : Nat) => match a with | p => 128 - p) ?_ 64 (⟨by decide, by decide, rfl⟩)
  intro a hI ih
  obtain ⟨p, rfl⟩ : ∃ z, z = a := ⟨_, rfl⟩
  obtain ⟨i1, i2, i3⟩ : (64 ≤ p) ∧ (p ≤ 128) ∧ (A.lf = lfrF A.fr (128 - p) p) := hI
  show G x l (rmF 0 0) D 2 0 0 (wG cy g z0 P) [(1, .int (nI p)), (0, .ref (g 0))] [] 3
  refine g_iload_n C dX2_leastFreePage_3 0 rfl rfl ?_
  refine g_sipush C (v := 128) dX2_leastFreePage_4 (by decide) ?_
  refine g_icmp_ge C (tgt := 29) dX2_leastFreePage_7 (by decide) (fun c1 => ?_) (fun c1 => ?_)
  · skip
    refine g_ldc C (v := vNONE) mX2_leastFreePage_k37 dX2_leastFreePage_29 ?_
    exact ret _ () _ _ dX2_leastFreePage_31 (by rw [i3, show p = 128 by have := (nI_leI (a := 128) (b := p) (by decide) (by omega)).mp c1; omega]; rfl)
  · skip
    have h1 : p < 128 := Nat.lt_of_not_le (fun w => c1 (nI_le w (by omega)))
    refine g_aload_n C dX2_leastFreePage_10 1 rfl rfl ?_
    refine g_get C 0 (f := 5) (v := .ref (g 6)) (Cn := RX2) (T := TX2) (N := 11) dX2_leastFreePage_11 rfl rfl iX2_leastFreePage_X2 (by decide) mX2_leastFreePage_f27 rfl ?_
    refine g_iload_n C dX2_leastFreePage_14 0 rfl rfl ?_
    refine g_iald C 6 0 (f := P 6) (N := 128) p dX2_leastFreePage_15 rfl rfl (by decide) (rfl) (h1) ?_
    refine g_ldc C (v := vNONE) mX2_leastFreePage_k37 dX2_leastFreePage_16 ?_
    refine g_icmp_ne C (tgt := 23) dX2_leastFreePage_18 (by decide) (fun c2 => ?_) (fun c2 => ?_)
    · skip
      refine g_iinc C (q := 0) (v := nI (p + 1)) (lv' := [(1, .int (nI (p + 1))), (0, .ref (g 0))]) dX2_leastFreePage_23 rfl (nI_1 p) (by decide) rfl ?_
      refine g_goto C (tgt := 3) dX2_leastFreePage_26 (by decide) ?_
      exact ih (p + 1) ⟨by omega, by omega, by rw [i3]; exact lfrF_miss h1 (fun w => c2 ((hr.hold i1 h1).mpr w))⟩ (by show 128 - (p + 1) < 128 - p; omega)
    · skip
      refine g_iload_n C dX2_leastFreePage_21 0 rfl rfl ?_
      exact ret _ () _ _ dX2_leastFreePage_22 (by rw [i3, lfrF_hit h1 ((hr.hold i1 h1).mp c2)]; rfl)

theorem mX2_freePages_f27 : Cond.fieldLink RX2 27 (TX2 5).1 (TX2 5).2.1 (TX2 5).2.2.1 ∈ wsX2_freePages := List.mem_of_getElem? (i := 1) rfl
theorem iX2_freePages_X2 : ∀ w ∈ wsX20, w ∈ wsX2_freePages := by decide +kernel
theorem mX2_freePages_k37 : Cond.constant RX2 37 (-2000000005) ∈ wsX2_freePages := List.mem_of_getElem? (i := 2) rfl
set_option maxHeartbeats 1600000 in
set_option maxRecDepth 20000 in
theorem c_X2_freePages (l : Launch) (D : va_G) (cy cz : ClassId) (g : Nat → Nat) (z0 : Nat) (P : Mem) (A : AS) (hr : RC A P) : MId l yX2_freePages wsX2_freePages (rmF 0 0) D (tyL cy cz) [.ref (g 0)] (wG cy g z0 P) (nI A.fc) (wG cy g z0 P) := by
  refine g_entI (cc := cX2_freePages) (maxL := 3) (own := RX2) (by decide) rfl rfl (Nat.le_of_ble_eq_true rfl) (fun x C ret => ?_)
  show G x l (rmF 0 0) D 3 0 0 (wG cy g z0 P) [(0, .ref (g 0))] [] 0
  refine g_iconst C (v := 0) dX2_freePages_0 (by decide) ?_
  refine g_istore_n C (lv' := [(1, .int 0), (0, .ref (g 0))]) dX2_freePages_1 rfl (by decide) rfl ?_
  refine g_bipush C (v := 64) dX2_freePages_2 (by decide) ?_
  refine g_istore_n C (lv' := [(2, .int 64), (1, .int 0), (0, .ref (g 0))]) dX2_freePages_4 rfl (by decide) rfl ?_
  refine g_lv (lv' := [(1, .int 0), (2, .int 64), (0, .ref (g 0))]) [1, 0, 2] rfl ?_
  refine g_loop (σ := Nat × Nat) (fun (a : Nat × Nat) => match a with | (p, n) => (wG cy g z0 P)) (fun (a : Nat × Nat) => match a with | (p, n) => [(1, .int (nI n)), (2, .int (nI p)), (0, .ref (g 0))]) (fun (a : Nat × Nat) => match a with | (p, n) => (64 ≤ p) ∧ (p ≤ 128) ∧ (A.fc = n + frcF A.fr (128 - p) p)) (fun (a : Nat × Nat) => match a with | (p, n) => 128 - p) ?_ (64, 0) (⟨by decide, by decide, (Nat.zero_add _).symm⟩)
  intro a hI ih
  obtain ⟨p, n⟩ := a
  obtain ⟨i1, i2, i3⟩ : (64 ≤ p) ∧ (p ≤ 128) ∧ (A.fc = n + frcF A.fr (128 - p) p) := hI
  show G x l (rmF 0 0) D 3 0 0 (wG cy g z0 P) [(1, .int (nI n)), (2, .int (nI p)), (0, .ref (g 0))] [] 5
  refine g_iload_n C dX2_freePages_5 1 rfl rfl ?_
  refine g_sipush C (v := 128) dX2_freePages_6 (by decide) ?_
  refine g_icmp_ge C (tgt := 32) dX2_freePages_9 (by decide) (fun c1 => ?_) (fun c1 => ?_)
  · skip
    refine g_iload_n C dX2_freePages_32 0 rfl rfl ?_
    exact ret _ () _ _ dX2_freePages_33 (by rw [i3, show p = 128 by have := (nI_leI (a := 128) (b := p) (by decide) (by omega)).mp c1; omega]; rfl)
  · skip
    have h1 : p < 128 := Nat.lt_of_not_le (fun w => c1 (nI_le w (by omega)))
    refine g_aload_n C dX2_freePages_12 2 rfl rfl ?_
    refine g_get C 0 (f := 5) (v := .ref (g 6)) (Cn := RX2) (T := TX2) (N := 11) dX2_freePages_13 rfl rfl iX2_freePages_X2 (by decide) mX2_freePages_f27 rfl ?_
    refine g_iload_n C dX2_freePages_16 1 rfl rfl ?_
    refine g_iald C 6 0 (f := P 6) (N := 128) p dX2_freePages_17 rfl rfl (by decide) (rfl) (h1) ?_
    refine g_ldc C (v := vNONE) mX2_freePages_k37 dX2_freePages_18 ?_
    refine g_icmp_ne C (tgt := 26) dX2_freePages_20 (by decide) (fun c2 => ?_) (fun c2 => ?_)
    · skip
      refine g_iinc C (q := 1) (v := nI (p + 1)) (lv' := [(2, .int (nI (p + 1))), (1, .int (nI n)), (0, .ref (g 0))]) dX2_freePages_26 rfl (nI_1 p) (by decide) rfl ?_
      refine g_goto C (tgt := 5) dX2_freePages_29 (by decide) ?_
      refine g_lv (lv' := [(1, .int (nI n)), (2, .int (nI (p + 1))), (0, .ref (g 0))]) [1, 0, 2] rfl ?_
      exact ih (p + 1, n) ⟨by omega, by omega, by rw [i3, frcF_step h1, if_neg (fun w => c2 ((hr.hold i1 h1).mpr w)), Nat.zero_add]⟩ (by show 128 - (p + 1) < 128 - p; omega)
    · skip
      refine g_iinc C (q := 0) (v := nI (n + 1)) (lv' := [(1, .int (nI (n + 1))), (2, .int (nI p)), (0, .ref (g 0))]) dX2_freePages_23 rfl (nI_1 n) (by decide) rfl ?_
      refine g_iinc C (q := 1) (v := nI (p + 1)) (lv' := [(2, .int (nI (p + 1))), (1, .int (nI (n + 1))), (0, .ref (g 0))]) dX2_freePages_26 rfl (nI_1 p) (by decide) rfl ?_
      refine g_goto C (tgt := 5) dX2_freePages_29 (by decide) ?_
      refine g_lv (lv' := [(1, .int (nI (n + 1))), (2, .int (nI (p + 1))), (0, .ref (g 0))]) [1, 0, 2] rfl ?_
      exact ih (p + 1, n + 1) ⟨by omega, by omega, by rw [i3, frcF_step h1, if_pos ((hr.hold i1 h1).mp c2)]; omega⟩ (by show 128 - (p + 1) < 128 - p; omega)
end
section
/-! made by wip/whole/gen.py and m1.py -/
theorem mX2_find_k37 : Cond.constant RX2 37 (-2000000005) ∈ wsX2_find := List.mem_of_getElem? (i := 4) rfl
theorem mX2_find_inX3_isPage : Cond.initialized yX3_isPage.cls ∈ wsX2_find := List.mem_of_getElem? (i := 14) rfl
theorem mX2_find_stX3_isPage : Cond.static yX3_isPage ∈ wsX2_find := List.mem_of_getElem? (i := 13) rfl
theorem mX2_find_f21 : Cond.fieldLink RX2 21 (TX2 3).1 (TX2 3).2.1 (TX2 3).2.2.1 ∈ wsX2_find := List.mem_of_getElem? (i := 3) rfl
theorem iX2_find_X2 : ∀ w ∈ wsX20, w ∈ wsX2_find := by decide +kernel
theorem mX2_find_f18 : Cond.fieldLink RX2 18 (TX2 2).1 (TX2 2).2.1 (TX2 2).2.2.1 ∈ wsX2_find := List.mem_of_getElem? (i := 1) rfl
theorem mX2_find_f9 : Cond.fieldLink RX2 9 (TX2 0).1 (TX2 0).2.1 (TX2 0).2.2.1 ∈ wsX2_find := List.mem_of_getElem? (i := 2) rfl
set_option maxHeartbeats 1600000 in
set_option maxRecDepth 20000 in
theorem c_X2_find (l : Launch) (D : va_G) (cy cz : ClassId) (g : Nat → Nat) (z0 : Nat) (P : Mem) (A : AS) (key : Int32) (hr : RP A P) : MId l yX2_find wsX2_find (rmF 1 36) D (tyL cy cz) [.ref (g 0), .int key] (wG cy g z0 P) (ocI (A.fnd key)) (wG cy g z0 P) := by
  refine g_entI (cc := cX2_find) (maxL := 5) (own := RX2) (by decide) rfl rfl (Nat.le_of_ble_eq_true rfl) (fun x C ret => ?_)
  show G x l (rmF 1 36) D 5 0 0 (wG cy g z0 P) [(0, .ref (g 0)), (1, .int key)] [] 0
  refine g_aload_n C dX2_find_0 0 rfl rfl ?_
  refine g_iload_n C dX2_find_1 1 rfl rfl ?_
  refine g_callIV C [0, 1, 2, 3, 4, 5, 6, 7] [] [0, 1, 2, 3, 4, 5, 6, 7] 0 2 (b := g 0) rfl rfl (As := [.int key]) (rest := []) (wr := ([] : va_W)) (wf := fun _ => (wG cy g z0 P)) dX2_find_2 gX2_find_X2_addressOf rfl dmX2_addressOf ⟨rfl, rfl, Nat.le_of_ble_eq_true rfl, Nat.le_of_ble_eq_true rfl, Nat.zero_le _, Nat.zero_le _⟩ (c_X2_addressOf l D cy cz g z0 P A.L A.S key hr.2.2.1 hr.2.2.2 hr.2.1.1 hr.S64) ⟨rfl, rfl, rfl, rfl, by decide, rfl, fun _ => rfl⟩ (Nat.le_of_ble_eq_true rfl) ?_
  rintro _ - rfl
  show G x l (rmF 1 36) D 5 0 0 (wG cy g z0 P) [(0, .ref (g 0)), (1, .int key)] [.int (nI (adr A.L A.S key))] 5
  refine g_top (b := nI (A.ad key)) (rfl) ?_
  refine g_istore_n C (lv' := [(2, .int (nI (A.ad key))), (0, .ref (g 0)), (1, .int key)]) dX2_find_5 rfl (by decide) rfl ?_
  refine g_iconst C (v := 0) dX2_find_6 (by decide) ?_
  refine g_istore_n C (lv' := [(3, .int 0), (2, .int (nI (A.ad key))), (0, .ref (g 0)), (1, .int key)]) dX2_find_7 rfl (by decide) rfl ?_
  refine g_lv (lv' := [(2, .int (nI (A.ad key))), (3, .int 0), (0, .ref (g 0)), (1, .int key)]) [1, 0, 2, 3] rfl ?_
  refine g_loop (σ := List Nat × Nat) (fun (a : List Nat × Nat) => match a with | (r, d) => (wG cy g z0 P)) (fun (a : List Nat × Nat) => match a with | (r, d) => [(2, .int (hdI r)), (3, .int (nI d)), (0, .ref (g 0)), (1, .int key)]) (fun (a : List Nat × Nat) => match a with | (r, d) => (isCh (P 4) r) ∧ (r.length + d ≤ 65) ∧ (A.fnd key = fndL A.sz A.ks key r)) (fun (a : List Nat × Nat) => match a with | (r, d) => r.length) ?_ (A.ch (A.ad key), 0) (⟨hr.1.chain (hr.adlt key), hr.1.len (hr.adlt key), rfl⟩)
  intro a hI ih
  obtain ⟨r, d⟩ := a
  obtain ⟨i1, i2, i3⟩ : (isCh (P 4) r) ∧ (r.length + d ≤ 65) ∧ (A.fnd key = fndL A.sz A.ks key r) := hI
  show G x l (rmF 1 36) D 5 0 0 (wG cy g z0 P) [(2, .int (hdI r)), (3, .int (nI d)), (0, .ref (g 0)), (1, .int key)] [] 8
  rcases r with _ | ⟨q, r⟩
  · skip
    show G x l (rmF 1 36) D 5 0 0 (wG cy g z0 P) [(2, .int vNONE), (3, .int (nI d)), (0, .ref (g 0)), (1, .int key)] [] 8
    refine g_iload_n C dX2_find_8 1 rfl rfl ?_
    refine g_sipush C (v := 128) dX2_find_9 (by decide) ?_
    refine g_icmp_ge C (tgt := 83) dX2_find_12 (by decide) (fun c1 => ?_) (fun c1 => ?_)
    · skip
      refine g_ldc C (v := vNONE) mX2_find_k37 dX2_find_83 ?_
      exact ret _ () _ _ dX2_find_85 (by rw [i3]; rfl)
    · skip
      refine g_iload_n C dX2_find_15 0 rfl rfl ?_
      refine g_callIN C [] [0, 1, 2, 3, 4, 5, 6, 7] [0, 1, 2, 3, 4, 5, 6, 7] (As := [.int vNONE]) (rest := []) (wr := (wG cy g z0 P)) (wf := fun _ => (wG cy g z0 P)) dX2_find_16 gX2_find_X3_isPage_n61 rfl dmX3_isPage ⟨rfl, rfl, Nat.le_of_ble_eq_true rfl, Nat.le_of_ble_eq_true rfl, Nat.zero_le _, Nat.zero_le _⟩ rfl mX2_find_inX3_isPage mX2_find_stX3_isPage (c_X3_isPage l D cy cz vNONE) ⟨rfl, rfl, rfl, rfl, by decide, rfl, fun _ => rfl⟩ (Nat.le_of_ble_eq_true rfl) ?_
      rintro _ - rfl
      show G x l (rmF 1 36) D 5 0 0 (wG cy g z0 P) [(2, .int vNONE), (3, .int (nI d)), (0, .ref (g 0)), (1, .int key)] [.int (inI 128 vNONE)] 19
      refine g_top (b := 0) (inI_NONE _) ?_
      refine g_if_eq C (tgt := 83) dX2_find_19 (by decide) (fun c1 => ?_) (fun c1 => ?_)
      · skip
        refine g_ldc C (v := vNONE) mX2_find_k37 dX2_find_83 ?_
        exact ret _ () _ _ dX2_find_85 (by rw [i3]; rfl)
      · skip
        exact absurd rfl (c1)
  · skip
    obtain ⟨hq, hn, i1⟩ := i1
    have i2 : r.length + 1 + d ≤ 65 := i2
    have hz := hr.1.sz4 hq
    show G x l (rmF 1 36) D 5 0 0 (wG cy g z0 P) [(2, .int (nI q)), (3, .int (nI d)), (0, .ref (g 0)), (1, .int key)] [] 8
    refine g_iload_n C dX2_find_8 1 rfl rfl ?_
    refine g_sipush C (v := 128) dX2_find_9 (by decide) ?_
    refine g_icmp_ge C (tgt := 83) dX2_find_12 (by decide) (fun c2 => ?_) (fun c2 => ?_)
    · skip
      exact absurd c2 (nI_ge (a := d) (b := 128) (by omega) (by decide))
    · skip
      refine g_iload_n C dX2_find_15 0 rfl rfl ?_
      refine g_callIN C [] [0, 1, 2, 3, 4, 5, 6, 7] [0, 1, 2, 3, 4, 5, 6, 7] (As := [.int (nI q)]) (rest := []) (wr := (wG cy g z0 P)) (wf := fun _ => (wG cy g z0 P)) dX2_find_16 gX2_find_X3_isPage_n61 rfl dmX3_isPage ⟨rfl, rfl, Nat.le_of_ble_eq_true rfl, Nat.le_of_ble_eq_true rfl, Nat.zero_le _, Nat.zero_le _⟩ rfl mX2_find_inX3_isPage mX2_find_stX3_isPage (c_X3_isPage l D cy cz (nI q)) ⟨rfl, rfl, rfl, rfl, by decide, rfl, fun _ => rfl⟩ (Nat.le_of_ble_eq_true rfl) ?_
      rintro _ - rfl
      show G x l (rmF 1 36) D 5 0 0 (wG cy g z0 P) [(2, .int (nI q)), (3, .int (nI d)), (0, .ref (g 0)), (1, .int key)] [.int (inI 128 (nI q))] 19
      refine g_top (b := 1) (inI_nI (N := 128) hq (by decide)) ?_
      refine g_if_eq C (tgt := 83) dX2_find_19 (by decide) (fun c1 => ?_) (fun c1 => ?_)
      · skip
        exact absurd c1 (by decide)
      · skip
        refine g_iconst C (v := 0) dX2_find_22 (by decide) ?_
        refine g_istore C (lv' := [(4, .int 0), (2, .int (nI q)), (3, .int (nI d)), (0, .ref (g 0)), (1, .int key)]) dX2_find_23 (by decide) rfl ?_
        refine g_loop (σ := Nat) (fun (a : Nat) => match a with | i => (wG cy g z0 P)) (fun (a : Nat) => match a with | i => [(4, .int (nI i)), (2, .int (nI q)), (3, .int (nI d)), (0, .ref (g 0)), (1, .int key)]) (fun (a : Nat) => match a with | i => (i ≤ A.sz q) ∧ (A.fnd key = match fndI A.ks key q (A.sz q - i) i with | some c => some c | none => fndL A.sz A.ks key r)) (fun (a : Nat) => match a with | i => A.sz q - i) ?_ 0 (⟨Nat.zero_le _, i3⟩)
        intro a hI ih2
        obtain ⟨i, rfl⟩ : ∃ z, z = a := ⟨_, rfl⟩
        obtain ⟨k1, k2⟩ : (i ≤ A.sz q) ∧ (A.fnd key = match fndI A.ks key q (A.sz q - i) i with | some c => some c | none => fndL A.sz A.ks key r) := hI
        show G x l (rmF 1 36) D 5 0 0 (wG cy g z0 P) [(4, .int (nI i)), (2, .int (nI q)), (3, .int (nI d)), (0, .ref (g 0)), (1, .int key)] [] 25
        refine g_iload C dX2_find_25 0 rfl ?_
        refine g_iconst C (v := 4) dX2_find_27 (by decide) ?_
        refine g_icmp_ge C (tgt := 70) dX2_find_28 (by decide) (fun c3 => ?_) (fun c3 => ?_)
        · skip
          have h3 : 4 ≤ i := (nI_leI (a := 4) (b := i) (by decide) (by omega)).mp c3
          have e1 : A.fnd key = fndL A.sz A.ks key r := by rw [k2, show A.sz q - i = 0 by omega]; rfl
          refine g_aload_n C dX2_find_70 3 rfl rfl ?_
          refine g_get C 0 (f := 3) (v := .ref (g 4)) (Cn := RX2) (T := TX2) (N := 11) dX2_find_71 rfl rfl iX2_find_X2 (by decide) mX2_find_f21 rfl ?_
          refine g_iload_n C dX2_find_74 1 rfl rfl ?_
          refine g_iald C 4 0 (f := P 4) (N := 128) q dX2_find_75 rfl rfl (by decide) (rfl) (by omega) ?_
          refine g_top (b := hdI r) (hn) ?_
          refine g_istore_n C (lv' := [(2, .int (hdI r)), (4, .int (nI i)), (3, .int (nI d)), (0, .ref (g 0)), (1, .int key)]) dX2_find_76 rfl (by decide) rfl ?_
          refine g_iinc C (q := 2) (v := nI (d + 1)) (lv' := [(3, .int (nI (d + 1))), (2, .int (hdI r)), (4, .int (nI i)), (0, .ref (g 0)), (1, .int key)]) dX2_find_77 rfl (nI_1 d) (by decide) rfl ?_
          refine g_goto C (tgt := 8) dX2_find_80 (by decide) ?_
          refine g_lv (lv' := [(2, .int (hdI r)), (3, .int (nI (d + 1))), (0, .ref (g 0)), (1, .int key)]) [1, 0, 3, 4] rfl ?_
          exact ih (r, d + 1) ⟨i1, by omega, e1⟩ (Nat.lt_succ_self _)
        · skip
          refine g_iload C dX2_find_31 0 rfl ?_
          refine g_aload_n C dX2_find_33 3 rfl rfl ?_
          refine g_get C 0 (f := 2) (v := .ref (g 3)) (Cn := RX2) (T := TX2) (N := 11) dX2_find_34 rfl rfl iX2_find_X2 (by decide) mX2_find_f18 rfl ?_
          refine g_iload_n C dX2_find_37 1 rfl rfl ?_
          refine g_iald C 3 0 (f := P 3) (N := 128) q dX2_find_38 rfl rfl (by decide) (rfl) (by omega) ?_
          refine g_top (b := nI (A.sz q)) (hr.1.used hq) ?_
          refine g_icmp_ge C (tgt := 70) dX2_find_39 (by decide) (fun c4 => ?_) (fun c4 => ?_)
          · skip
            have h3 : A.sz q ≤ i := (nI_leI (by omega) (by omega)).mp c4
            have e1 : A.fnd key = fndL A.sz A.ks key r := by rw [k2, show A.sz q - i = 0 by omega]; rfl
            refine g_aload_n C dX2_find_70 3 rfl rfl ?_
            refine g_get C 0 (f := 3) (v := .ref (g 4)) (Cn := RX2) (T := TX2) (N := 11) dX2_find_71 rfl rfl iX2_find_X2 (by decide) mX2_find_f21 rfl ?_
            refine g_iload_n C dX2_find_74 1 rfl rfl ?_
            refine g_iald C 4 0 (f := P 4) (N := 128) q dX2_find_75 rfl rfl (by decide) (rfl) (by omega) ?_
            refine g_top (b := hdI r) (hn) ?_
            refine g_istore_n C (lv' := [(2, .int (hdI r)), (4, .int (nI i)), (3, .int (nI d)), (0, .ref (g 0)), (1, .int key)]) dX2_find_76 rfl (by decide) rfl ?_
            refine g_iinc C (q := 2) (v := nI (d + 1)) (lv' := [(3, .int (nI (d + 1))), (2, .int (hdI r)), (4, .int (nI i)), (0, .ref (g 0)), (1, .int key)]) dX2_find_77 rfl (nI_1 d) (by decide) rfl ?_
            refine g_goto C (tgt := 8) dX2_find_80 (by decide) ?_
            refine g_lv (lv' := [(2, .int (hdI r)), (3, .int (nI (d + 1))), (0, .ref (g 0)), (1, .int key)]) [1, 0, 3, 4] rfl ?_
            exact ih (r, d + 1) ⟨i1, by omega, e1⟩ (Nat.lt_succ_self _)
          · skip
            have h3 : i < A.sz q := Nat.lt_of_not_le (fun w => c4 (nI_le w (by omega)))
            refine g_aload_n C dX2_find_42 3 rfl rfl ?_
            refine g_get C 0 (f := 0) (v := .ref (g 1)) (Cn := RX2) (T := TX2) (N := 11) dX2_find_43 rfl rfl iX2_find_X2 (by decide) mX2_find_f9 rfl ?_
            refine g_iload_n C dX2_find_46 1 rfl rfl ?_
            refine g_iconst C (v := 4) dX2_find_47 (by decide) ?_
            refine g_imul C dX2_find_48 ?_
            refine g_top (b := nI (q * 4)) (pk_mul q 4) ?_
            refine g_iload C dX2_find_49 0 rfl ?_
            refine g_iadd C dX2_find_51 ?_
            refine g_top (b := nI (q * 4 + i)) (nI_add _ _) ?_
            refine g_iald C 1 0 (f := P 1) (N := 512) (q * 4 + i) dX2_find_52 rfl rfl (by decide) (rfl) (by omega) ?_
            refine g_top (b := A.ks (q * 4 + i)) (hr.1.key hq h3) ?_
            refine g_iload_n C dX2_find_53 4 rfl rfl ?_
            refine g_icmp_ne C (tgt := 64) dX2_find_54 (by decide) (fun c5 => ?_) (fun c5 => ?_)
            · skip
              refine g_iinc C (q := 0) (v := nI (i + 1)) (lv' := [(4, .int (nI (i + 1))), (2, .int (nI q)), (3, .int (nI d)), (0, .ref (g 0)), (1, .int key)]) dX2_find_64 rfl (nI_1 i) (by decide) rfl ?_
              refine g_goto C (tgt := 25) dX2_find_67 (by decide) ?_
              exact ih2 (i + 1) ⟨by omega, by rw [k2, fndI_miss h3 c5]⟩ (by show A.sz q - (i + 1) < A.sz q - i; omega)
            · skip
              refine g_iload_n C dX2_find_57 1 rfl rfl ?_
              refine g_iconst C (v := 4) dX2_find_58 (by decide) ?_
              refine g_imul C dX2_find_59 ?_
              refine g_top (b := nI (q * 4)) (pk_mul q 4) ?_
              refine g_iload C dX2_find_60 0 rfl ?_
              refine g_iadd C dX2_find_62 ?_
              refine g_top (b := nI (q * 4 + i)) (nI_add _ _) ?_
              exact ret _ () _ _ dX2_find_63 (by rw [k2, fndI_hit h3 c5]; rfl)

theorem mX2_pagesLookedAt_inX3_isPage : Cond.initialized yX3_isPage.cls ∈ wsX2_pagesLookedAt := List.mem_of_getElem? (i := 12) rfl
theorem mX2_pagesLookedAt_stX3_isPage : Cond.static yX3_isPage ∈ wsX2_pagesLookedAt := List.mem_of_getElem? (i := 11) rfl
theorem mX2_pagesLookedAt_k37 : Cond.constant RX2 37 (-2000000005) ∈ wsX2_pagesLookedAt := List.mem_of_getElem? (i := 1) rfl
theorem mX2_pagesLookedAt_f21 : Cond.fieldLink RX2 21 (TX2 3).1 (TX2 3).2.1 (TX2 3).2.2.1 ∈ wsX2_pagesLookedAt := List.mem_of_getElem? (i := 2) rfl
theorem iX2_pagesLookedAt_X2 : ∀ w ∈ wsX20, w ∈ wsX2_pagesLookedAt := by decide +kernel
set_option maxHeartbeats 1600000 in
set_option maxRecDepth 20000 in
theorem c_X2_pagesLookedAt (l : Launch) (D : va_G) (cy cz : ClassId) (g : Nat → Nat) (z0 : Nat) (P : Mem) (A : AS) (key : Int32) (o : Option Nat) (hr : RP A P) (ho : ∀ c, o = some c → c < 512) : MId l yX2_pagesLookedAt wsX2_pagesLookedAt (rmF 1 36) D (tyL cy cz) [.ref (g 0), .int key, .int (ocI o)] (wG cy g z0 P) (nI (lookL o (A.ch (A.ad key)))) (wG cy g z0 P) := by
  refine g_entI (cc := cX2_pagesLookedAt) (maxL := 5) (own := RX2) (by decide) rfl rfl (Nat.le_of_ble_eq_true rfl) (fun x C ret => ?_)
  show G x l (rmF 1 36) D 5 0 0 (wG cy g z0 P) [(0, .ref (g 0)), (1, .int key), (2, .int (ocI o))] [] 0
  rcases o with _ | c0
  · skip
    show G x l (rmF 1 36) D 5 0 0 (wG cy g z0 P) [(0, .ref (g 0)), (1, .int key), (2, .int vNONE)] [] 0
    refine g_aload_n C dX2_pagesLookedAt_0 0 rfl rfl ?_
    refine g_iload_n C dX2_pagesLookedAt_1 1 rfl rfl ?_
    refine g_callIV C [0, 1, 2, 3, 4, 5, 6, 7] [] [0, 1, 2, 3, 4, 5, 6, 7] 0 2 (b := g 0) rfl rfl (As := [.int key]) (rest := []) (wr := ([] : va_W)) (wf := fun _ => (wG cy g z0 P)) dX2_pagesLookedAt_2 gX2_pagesLookedAt_X2_addressOf rfl dmX2_addressOf ⟨rfl, rfl, Nat.le_of_ble_eq_true rfl, Nat.le_of_ble_eq_true rfl, Nat.zero_le _, Nat.zero_le _⟩ (c_X2_addressOf l D cy cz g z0 P A.L A.S key hr.2.2.1 hr.2.2.2 hr.2.1.1 hr.S64) ⟨rfl, rfl, rfl, rfl, by decide, rfl, fun _ => rfl⟩ (Nat.le_of_ble_eq_true rfl) ?_
    rintro _ - rfl
    show G x l (rmF 1 36) D 5 0 0 (wG cy g z0 P) [(0, .ref (g 0)), (1, .int key), (2, .int vNONE)] [.int (nI (adr A.L A.S key))] 5
    refine g_top (b := nI (A.ad key)) (rfl) ?_
    refine g_istore_n C (lv' := [(3, .int (nI (A.ad key))), (0, .ref (g 0)), (1, .int key), (2, .int vNONE)]) dX2_pagesLookedAt_5 rfl (by decide) rfl ?_
    refine g_iconst C (v := 0) dX2_pagesLookedAt_6 (by decide) ?_
    refine g_istore C (lv' := [(4, .int 0), (3, .int (nI (A.ad key))), (0, .ref (g 0)), (1, .int key), (2, .int vNONE)]) dX2_pagesLookedAt_7 (by decide) rfl ?_
    refine g_lv (lv' := [(3, .int (nI (A.ad key))), (4, .int 0), (0, .ref (g 0)), (1, .int key), (2, .int vNONE)]) [1, 0, 2, 3, 4] rfl ?_
    refine g_loop (σ := List Nat × Nat) (fun (a : List Nat × Nat) => match a with | (r, d) => (wG cy g z0 P)) (fun (a : List Nat × Nat) => match a with | (r, d) => [(3, .int (hdI r)), (4, .int (nI d)), (0, .ref (g 0)), (1, .int key), (2, .int vNONE)]) (fun (a : List Nat × Nat) => match a with | (r, d) => (isCh (P 4) r) ∧ (r.length + d ≤ 65) ∧ (lookL none (A.ch (A.ad key)) = d + lookL none r)) (fun (a : List Nat × Nat) => match a with | (r, d) => r.length) ?_ (A.ch (A.ad key), 0) (⟨hr.1.chain (hr.adlt key), hr.1.len (hr.adlt key), (Nat.zero_add _).symm⟩)
    intro a hI ih
    obtain ⟨r, d⟩ := a
    obtain ⟨i1, i2, i3⟩ : (isCh (P 4) r) ∧ (r.length + d ≤ 65) ∧ (lookL none (A.ch (A.ad key)) = d + lookL none r) := hI
    show G x l (rmF 1 36) D 5 0 0 (wG cy g z0 P) [(3, .int (hdI r)), (4, .int (nI d)), (0, .ref (g 0)), (1, .int key), (2, .int vNONE)] [] 9
    rcases r with _ | ⟨q, r⟩
    · skip
      show G x l (rmF 1 36) D 5 0 0 (wG cy g z0 P) [(3, .int vNONE), (4, .int (nI d)), (0, .ref (g 0)), (1, .int key), (2, .int vNONE)] [] 9
      refine g_iload C dX2_pagesLookedAt_9 1 rfl ?_
      refine g_sipush C (v := 128) dX2_pagesLookedAt_11 (by decide) ?_
      refine g_icmp_ge C (tgt := 53) dX2_pagesLookedAt_14 (by decide) (fun c1 => ?_) (fun c1 => ?_)
      · skip
        refine g_iload C dX2_pagesLookedAt_53 1 rfl ?_
        exact ret _ () _ _ dX2_pagesLookedAt_55 (by rw [i3]; rfl)
      · skip
        refine g_iload_n C dX2_pagesLookedAt_17 0 rfl rfl ?_
        refine g_callIN C [] [0, 1, 2, 3, 4, 5, 6, 7] [0, 1, 2, 3, 4, 5, 6, 7] (As := [.int vNONE]) (rest := []) (wr := (wG cy g z0 P)) (wf := fun _ => (wG cy g z0 P)) dX2_pagesLookedAt_18 gX2_pagesLookedAt_X3_isPage_n61 rfl dmX3_isPage ⟨rfl, rfl, Nat.le_of_ble_eq_true rfl, Nat.le_of_ble_eq_true rfl, Nat.zero_le _, Nat.zero_le _⟩ rfl mX2_pagesLookedAt_inX3_isPage mX2_pagesLookedAt_stX3_isPage (c_X3_isPage l D cy cz vNONE) ⟨rfl, rfl, rfl, rfl, by decide, rfl, fun _ => rfl⟩ (Nat.le_of_ble_eq_true rfl) ?_
        rintro _ - rfl
        show G x l (rmF 1 36) D 5 0 0 (wG cy g z0 P) [(3, .int vNONE), (4, .int (nI d)), (0, .ref (g 0)), (1, .int key), (2, .int vNONE)] [.int (inI 128 vNONE)] 21
        refine g_top (b := 0) (inI_NONE _) ?_
        refine g_if_eq C (tgt := 53) dX2_pagesLookedAt_21 (by decide) (fun c1 => ?_) (fun c1 => ?_)
        · skip
          refine g_iload C dX2_pagesLookedAt_53 1 rfl ?_
          exact ret _ () _ _ dX2_pagesLookedAt_55 (by rw [i3]; rfl)
        · skip
          exact absurd rfl (c1)
    · skip
      obtain ⟨hq, hn, i1⟩ := i1
      have i2 : r.length + 1 + d ≤ 65 := i2
      have i3 : lookL none (A.ch (A.ad key)) = d + (1 + lookL none r) := i3
      show G x l (rmF 1 36) D 5 0 0 (wG cy g z0 P) [(3, .int (nI q)), (4, .int (nI d)), (0, .ref (g 0)), (1, .int key), (2, .int vNONE)] [] 9
      refine g_iload C dX2_pagesLookedAt_9 1 rfl ?_
      refine g_sipush C (v := 128) dX2_pagesLookedAt_11 (by decide) ?_
      refine g_icmp_ge C (tgt := 53) dX2_pagesLookedAt_14 (by decide) (fun c2 => ?_) (fun c2 => ?_)
      · skip
        exact absurd c2 (nI_ge (a := d) (b := 128) (by omega) (by decide))
      · skip
        refine g_iload_n C dX2_pagesLookedAt_17 0 rfl rfl ?_
        refine g_callIN C [] [0, 1, 2, 3, 4, 5, 6, 7] [0, 1, 2, 3, 4, 5, 6, 7] (As := [.int (nI q)]) (rest := []) (wr := (wG cy g z0 P)) (wf := fun _ => (wG cy g z0 P)) dX2_pagesLookedAt_18 gX2_pagesLookedAt_X3_isPage_n61 rfl dmX3_isPage ⟨rfl, rfl, Nat.le_of_ble_eq_true rfl, Nat.le_of_ble_eq_true rfl, Nat.zero_le _, Nat.zero_le _⟩ rfl mX2_pagesLookedAt_inX3_isPage mX2_pagesLookedAt_stX3_isPage (c_X3_isPage l D cy cz (nI q)) ⟨rfl, rfl, rfl, rfl, by decide, rfl, fun _ => rfl⟩ (Nat.le_of_ble_eq_true rfl) ?_
        rintro _ - rfl
        show G x l (rmF 1 36) D 5 0 0 (wG cy g z0 P) [(3, .int (nI q)), (4, .int (nI d)), (0, .ref (g 0)), (1, .int key), (2, .int vNONE)] [.int (inI 128 (nI q))] 21
        refine g_top (b := 1) (inI_nI (N := 128) hq (by decide)) ?_
        refine g_if_eq C (tgt := 53) dX2_pagesLookedAt_21 (by decide) (fun c1 => ?_) (fun c1 => ?_)
        · skip
          exact absurd c1 (by decide)
        · skip
          refine g_iinc C (q := 1) (v := nI (d + 1)) (lv' := [(4, .int (nI (d + 1))), (3, .int (nI q)), (0, .ref (g 0)), (1, .int key), (2, .int vNONE)]) dX2_pagesLookedAt_24 rfl (nI_1 d) (by decide) rfl ?_
          refine g_iload_n C dX2_pagesLookedAt_27 4 rfl rfl ?_
          refine g_ldc C (v := vNONE) mX2_pagesLookedAt_k37 dX2_pagesLookedAt_28 ?_
          refine g_icmp_eq C (tgt := 43) dX2_pagesLookedAt_30 (by decide) (fun c3 => ?_) (fun c3 => ?_)
          · skip
            refine g_aload_n C dX2_pagesLookedAt_43 2 rfl rfl ?_
            refine g_get C 0 (f := 3) (v := .ref (g 4)) (Cn := RX2) (T := TX2) (N := 11) dX2_pagesLookedAt_44 rfl rfl iX2_pagesLookedAt_X2 (by decide) mX2_pagesLookedAt_f21 rfl ?_
            refine g_iload_n C dX2_pagesLookedAt_47 1 rfl rfl ?_
            refine g_iald C 4 0 (f := P 4) (N := 128) q dX2_pagesLookedAt_48 rfl rfl (by decide) (rfl) (by omega) ?_
            refine g_top (b := hdI r) (hn) ?_
            refine g_istore_n C (lv' := [(3, .int (hdI r)), (4, .int (nI (d + 1))), (0, .ref (g 0)), (1, .int key), (2, .int vNONE)]) dX2_pagesLookedAt_49 rfl (by decide) rfl ?_
            refine g_goto C (tgt := 9) dX2_pagesLookedAt_50 (by decide) ?_
            exact ih (r, d + 1) ⟨i1, by omega, by omega⟩ (Nat.lt_succ_self _)
          · skip
            exact absurd rfl (c3)
  · skip
    have h0 : c0 < 512 := ho c0 rfl
    show G x l (rmF 1 36) D 5 0 0 (wG cy g z0 P) [(0, .ref (g 0)), (1, .int key), (2, .int (nI c0))] [] 0
    refine g_aload_n C dX2_pagesLookedAt_0 0 rfl rfl ?_
    refine g_iload_n C dX2_pagesLookedAt_1 1 rfl rfl ?_
    refine g_callIV C [0, 1, 2, 3, 4, 5, 6, 7] [] [0, 1, 2, 3, 4, 5, 6, 7] 0 2 (b := g 0) rfl rfl (As := [.int key]) (rest := []) (wr := ([] : va_W)) (wf := fun _ => (wG cy g z0 P)) dX2_pagesLookedAt_2 gX2_pagesLookedAt_X2_addressOf rfl dmX2_addressOf ⟨rfl, rfl, Nat.le_of_ble_eq_true rfl, Nat.le_of_ble_eq_true rfl, Nat.zero_le _, Nat.zero_le _⟩ (c_X2_addressOf l D cy cz g z0 P A.L A.S key hr.2.2.1 hr.2.2.2 hr.2.1.1 hr.S64) ⟨rfl, rfl, rfl, rfl, by decide, rfl, fun _ => rfl⟩ (Nat.le_of_ble_eq_true rfl) ?_
    rintro _ - rfl
    show G x l (rmF 1 36) D 5 0 0 (wG cy g z0 P) [(0, .ref (g 0)), (1, .int key), (2, .int (nI c0))] [.int (nI (adr A.L A.S key))] 5
    refine g_top (b := nI (A.ad key)) (rfl) ?_
    refine g_istore_n C (lv' := [(3, .int (nI (A.ad key))), (0, .ref (g 0)), (1, .int key), (2, .int (nI c0))]) dX2_pagesLookedAt_5 rfl (by decide) rfl ?_
    refine g_iconst C (v := 0) dX2_pagesLookedAt_6 (by decide) ?_
    refine g_istore C (lv' := [(4, .int 0), (3, .int (nI (A.ad key))), (0, .ref (g 0)), (1, .int key), (2, .int (nI c0))]) dX2_pagesLookedAt_7 (by decide) rfl ?_
    refine g_lv (lv' := [(3, .int (nI (A.ad key))), (4, .int 0), (0, .ref (g 0)), (1, .int key), (2, .int (nI c0))]) [1, 0, 2, 3, 4] rfl ?_
    refine g_loop (σ := List Nat × Nat) (fun (a : List Nat × Nat) => match a with | (r, d) => (wG cy g z0 P)) (fun (a : List Nat × Nat) => match a with | (r, d) => [(3, .int (hdI r)), (4, .int (nI d)), (0, .ref (g 0)), (1, .int key), (2, .int (nI c0))]) (fun (a : List Nat × Nat) => match a with | (r, d) => (isCh (P 4) r) ∧ (r.length + d ≤ 65) ∧ (lookL (some c0) (A.ch (A.ad key)) = d + lookL (some c0) r)) (fun (a : List Nat × Nat) => match a with | (r, d) => r.length) ?_ (A.ch (A.ad key), 0) (⟨hr.1.chain (hr.adlt key), hr.1.len (hr.adlt key), (Nat.zero_add _).symm⟩)
    intro a hI ih
    obtain ⟨r, d⟩ := a
    obtain ⟨i1, i2, i3⟩ : (isCh (P 4) r) ∧ (r.length + d ≤ 65) ∧ (lookL (some c0) (A.ch (A.ad key)) = d + lookL (some c0) r) := hI
    show G x l (rmF 1 36) D 5 0 0 (wG cy g z0 P) [(3, .int (hdI r)), (4, .int (nI d)), (0, .ref (g 0)), (1, .int key), (2, .int (nI c0))] [] 9
    rcases r with _ | ⟨q, r⟩
    · skip
      show G x l (rmF 1 36) D 5 0 0 (wG cy g z0 P) [(3, .int vNONE), (4, .int (nI d)), (0, .ref (g 0)), (1, .int key), (2, .int (nI c0))] [] 9
      refine g_iload C dX2_pagesLookedAt_9 1 rfl ?_
      refine g_sipush C (v := 128) dX2_pagesLookedAt_11 (by decide) ?_
      refine g_icmp_ge C (tgt := 53) dX2_pagesLookedAt_14 (by decide) (fun c2 => ?_) (fun c2 => ?_)
      · skip
        refine g_iload C dX2_pagesLookedAt_53 1 rfl ?_
        exact ret _ () _ _ dX2_pagesLookedAt_55 (by rw [i3]; rfl)
      · skip
        refine g_iload_n C dX2_pagesLookedAt_17 0 rfl rfl ?_
        refine g_callIN C [] [0, 1, 2, 3, 4, 5, 6, 7] [0, 1, 2, 3, 4, 5, 6, 7] (As := [.int vNONE]) (rest := []) (wr := (wG cy g z0 P)) (wf := fun _ => (wG cy g z0 P)) dX2_pagesLookedAt_18 gX2_pagesLookedAt_X3_isPage_n61 rfl dmX3_isPage ⟨rfl, rfl, Nat.le_of_ble_eq_true rfl, Nat.le_of_ble_eq_true rfl, Nat.zero_le _, Nat.zero_le _⟩ rfl mX2_pagesLookedAt_inX3_isPage mX2_pagesLookedAt_stX3_isPage (c_X3_isPage l D cy cz vNONE) ⟨rfl, rfl, rfl, rfl, by decide, rfl, fun _ => rfl⟩ (Nat.le_of_ble_eq_true rfl) ?_
        rintro _ - rfl
        show G x l (rmF 1 36) D 5 0 0 (wG cy g z0 P) [(3, .int vNONE), (4, .int (nI d)), (0, .ref (g 0)), (1, .int key), (2, .int (nI c0))] [.int (inI 128 vNONE)] 21
        refine g_top (b := 0) (inI_NONE _) ?_
        refine g_if_eq C (tgt := 53) dX2_pagesLookedAt_21 (by decide) (fun c1 => ?_) (fun c1 => ?_)
        · skip
          refine g_iload C dX2_pagesLookedAt_53 1 rfl ?_
          exact ret _ () _ _ dX2_pagesLookedAt_55 (by rw [i3]; rfl)
        · skip
          exact absurd rfl (c1)
    · skip
      obtain ⟨hq, hn, i1⟩ := i1
      have i2 : r.length + 1 + d ≤ 65 := i2
      have i3 : lookL (some c0) (A.ch (A.ad key)) = d + (if q = c0 / 4 then 1 else 1 + lookL (some c0) r) := i3
      show G x l (rmF 1 36) D 5 0 0 (wG cy g z0 P) [(3, .int (nI q)), (4, .int (nI d)), (0, .ref (g 0)), (1, .int key), (2, .int (nI c0))] [] 9
      refine g_iload C dX2_pagesLookedAt_9 1 rfl ?_
      refine g_sipush C (v := 128) dX2_pagesLookedAt_11 (by decide) ?_
      refine g_icmp_ge C (tgt := 53) dX2_pagesLookedAt_14 (by decide) (fun c2 => ?_) (fun c2 => ?_)
      · skip
        exact absurd c2 (nI_ge (a := d) (b := 128) (by omega) (by decide))
      · skip
        refine g_iload_n C dX2_pagesLookedAt_17 0 rfl rfl ?_
        refine g_callIN C [] [0, 1, 2, 3, 4, 5, 6, 7] [0, 1, 2, 3, 4, 5, 6, 7] (As := [.int (nI q)]) (rest := []) (wr := (wG cy g z0 P)) (wf := fun _ => (wG cy g z0 P)) dX2_pagesLookedAt_18 gX2_pagesLookedAt_X3_isPage_n61 rfl dmX3_isPage ⟨rfl, rfl, Nat.le_of_ble_eq_true rfl, Nat.le_of_ble_eq_true rfl, Nat.zero_le _, Nat.zero_le _⟩ rfl mX2_pagesLookedAt_inX3_isPage mX2_pagesLookedAt_stX3_isPage (c_X3_isPage l D cy cz (nI q)) ⟨rfl, rfl, rfl, rfl, by decide, rfl, fun _ => rfl⟩ (Nat.le_of_ble_eq_true rfl) ?_
        rintro _ - rfl
        show G x l (rmF 1 36) D 5 0 0 (wG cy g z0 P) [(3, .int (nI q)), (4, .int (nI d)), (0, .ref (g 0)), (1, .int key), (2, .int (nI c0))] [.int (inI 128 (nI q))] 21
        refine g_top (b := 1) (inI_nI (N := 128) hq (by decide)) ?_
        refine g_if_eq C (tgt := 53) dX2_pagesLookedAt_21 (by decide) (fun c1 => ?_) (fun c1 => ?_)
        · skip
          exact absurd c1 (by decide)
        · skip
          refine g_iinc C (q := 1) (v := nI (d + 1)) (lv' := [(4, .int (nI (d + 1))), (3, .int (nI q)), (0, .ref (g 0)), (1, .int key), (2, .int (nI c0))]) dX2_pagesLookedAt_24 rfl (nI_1 d) (by decide) rfl ?_
          refine g_iload_n C dX2_pagesLookedAt_27 4 rfl rfl ?_
          refine g_ldc C (v := vNONE) mX2_pagesLookedAt_k37 dX2_pagesLookedAt_28 ?_
          refine g_icmp_eq C (tgt := 43) dX2_pagesLookedAt_30 (by decide) (fun c3 => ?_) (fun c3 => ?_)
          · skip
            exact absurd c3 (NONE_nI (by omega))
          · skip
            refine g_iload_n C dX2_pagesLookedAt_33 1 rfl rfl ?_
            refine g_iload_n C dX2_pagesLookedAt_34 4 rfl rfl ?_
            refine g_iconst C (v := 4) dX2_pagesLookedAt_35 (by decide) ?_
            refine g_idiv C dX2_pagesLookedAt_36 (by decide) ?_
            refine g_top (b := nI (c0 / 4)) (pk_div (by omega) (by decide) (by decide)) ?_
            refine g_icmp_ne C (tgt := 43) dX2_pagesLookedAt_37 (by decide) (fun c4 => ?_) (fun c4 => ?_)
            · skip
              refine g_aload_n C dX2_pagesLookedAt_43 2 rfl rfl ?_
              refine g_get C 0 (f := 3) (v := .ref (g 4)) (Cn := RX2) (T := TX2) (N := 11) dX2_pagesLookedAt_44 rfl rfl iX2_pagesLookedAt_X2 (by decide) mX2_pagesLookedAt_f21 rfl ?_
              refine g_iload_n C dX2_pagesLookedAt_47 1 rfl rfl ?_
              refine g_iald C 4 0 (f := P 4) (N := 128) q dX2_pagesLookedAt_48 rfl rfl (by decide) (rfl) (by omega) ?_
              refine g_top (b := hdI r) (hn) ?_
              refine g_istore_n C (lv' := [(3, .int (hdI r)), (4, .int (nI (d + 1))), (0, .ref (g 0)), (1, .int key), (2, .int (nI c0))]) dX2_pagesLookedAt_49 rfl (by decide) rfl ?_
              refine g_goto C (tgt := 9) dX2_pagesLookedAt_50 (by decide) ?_
              exact ih (r, d + 1) ⟨i1, by omega, by rw [i3, if_neg (fun w => c4 (by rw [w]))]; omega⟩ (Nat.lt_succ_self _)
            · skip
              refine g_iload C dX2_pagesLookedAt_40 0 rfl ?_
              exact ret _ () _ _ dX2_pagesLookedAt_42 (by rw [i3, if_pos ((nI_eq (by omega) (by omega)).mp c4)])

theorem mX2_hasRoomFor_k37 : Cond.constant RX2 37 (-2000000005) ∈ wsX2_hasRoomFor := List.mem_of_getElem? (i := 1) rfl
set_option maxHeartbeats 1600000 in
set_option maxRecDepth 20000 in
theorem c_X2_hasRoomFor (l : Launch) (D : va_G) (cy cz : ClassId) (g : Nat → Nat) (z0 : Nat) (P : Mem) (A : AS) (key : Int32) (hr : RP A P) : MId l yX2_hasRoomFor wsX2_hasRoomFor (rmF 2 72) D (tyL cy cz) [.ref (g 0), .int key] (wG cy g z0 P) (if A.sz (A.la (A.ad key)) < 4 ∨ ¬ A.lf = none then 1 else 0) (wG cy g z0 P) := by
  refine g_entZ (cc := cX2_hasRoomFor) (maxL := 2) (own := RX2) (by decide) rfl rfl (Nat.le_of_ble_eq_true rfl) (fun x C ret => ?_)
  show G x l (rmF 2 72) D 2 0 0 (wG cy g z0 P) [(0, .ref (g 0)), (1, .int key)] [] 0
  refine g_aload_n C dX2_hasRoomFor_0 0 rfl rfl ?_
  refine g_aload_n C dX2_hasRoomFor_1 0 rfl rfl ?_
  refine g_aload_n C dX2_hasRoomFor_2 0 rfl rfl ?_
  refine g_iload_n C dX2_hasRoomFor_3 1 rfl rfl ?_
  refine g_callIV C [0, 1, 2, 3, 4, 5, 6, 7] [] [0, 1, 2, 3, 4, 5, 6, 7] 0 2 (b := g 0) rfl rfl (As := [.int key]) (rest := [.ref (g 0), .ref (g 0)]) (wr := ([] : va_W)) (wf := fun _ => (wG cy g z0 P)) dX2_hasRoomFor_4 gX2_hasRoomFor_X2_addressOf rfl dmX2_addressOf ⟨rfl, rfl, Nat.le_of_ble_eq_true rfl, Nat.le_of_ble_eq_true rfl, Nat.zero_le _, Nat.zero_le _⟩ (c_X2_addressOf l D cy cz g z0 P A.L A.S key hr.2.2.1 hr.2.2.2 hr.2.1.1 hr.S64) ⟨rfl, rfl, rfl, rfl, by decide, rfl, fun _ => rfl⟩ (Nat.le_of_ble_eq_true rfl) ?_
  rintro _ - rfl
  show G x l (rmF 2 72) D 2 0 0 (wG cy g z0 P) [(0, .ref (g 0)), (1, .int key)] [.int (nI (adr A.L A.S key)), .ref (g 0), .ref (g 0)] 7
  refine g_top (b := nI (A.ad key)) (rfl) ?_
  refine g_callIV C [0, 1, 2, 3, 4, 5, 6, 7] [] [0, 1, 2, 3, 4, 5, 6, 7] 0 2 (b := g 0) rfl rfl (As := [.int (nI (A.ad key))]) (rest := [.ref (g 0)]) (wr := ([] : va_W)) (wf := fun _ => (wG cy g z0 P)) dX2_hasRoomFor_7 gX2_hasRoomFor_X2_lastPage rfl dmX2_lastPage ⟨rfl, rfl, Nat.le_of_ble_eq_true rfl, Nat.le_of_ble_eq_true rfl, Nat.zero_le _, Nat.zero_le _⟩ (c_X2_lastPage l D cy cz g z0 P (A.ad key) (hr.adlt key)) ⟨rfl, rfl, rfl, rfl, by decide, rfl, fun _ => rfl⟩ (Nat.le_of_ble_eq_true rfl) ?_
  rintro _ - rfl
  show G x l (rmF 2 72) D 2 0 0 (wG cy g z0 P) [(0, .ref (g 0)), (1, .int key)] [.int (P 7 (A.ad key)), .ref (g 0)] 10
  refine g_top (b := nI (A.la (A.ad key))) (hr.1.last (hr.adlt key)) ?_
  refine g_callIV C [0, 1, 2, 3, 4, 5, 6, 7] [] [0, 1, 2, 3, 4, 5, 6, 7] 0 2 (b := g 0) rfl rfl (As := [.int (nI (A.la (A.ad key)))]) (rest := []) (wr := ([] : va_W)) (wf := fun _ => (wG cy g z0 P)) dX2_hasRoomFor_10 gX2_hasRoomFor_X2_entriesOnPage rfl dmX2_entriesOnPage ⟨rfl, rfl, Nat.le_of_ble_eq_true rfl, Nat.le_of_ble_eq_true rfl, Nat.zero_le _, Nat.zero_le _⟩ (c_X2_entriesOnPage l D cy cz g z0 P (A.la (A.ad key)) (hr.1.la (hr.adlt key))) ⟨rfl, rfl, rfl, rfl, by decide, rfl, fun _ => rfl⟩ (Nat.le_of_ble_eq_true rfl) ?_
  rintro _ - rfl
  show G x l (rmF 2 72) D 2 0 0 (wG cy g z0 P) [(0, .ref (g 0)), (1, .int key)] [.int (P 3 (A.la (A.ad key)))] 13
  refine g_top (b := nI (A.sz (A.la (A.ad key)))) (hr.1.used (hr.1.la (hr.adlt key))) ?_
  refine g_iconst C (v := 4) dX2_hasRoomFor_13 (by decide) ?_
  refine g_icmp_lt C (tgt := 26) dX2_hasRoomFor_14 (by decide) (fun c1 => ?_) (fun c1 => ?_)
  · skip
    have hz := hr.1.sz4 (hr.1.la (hr.adlt key))
    have h1 : A.sz (A.la (A.ad key)) < 4 := (nI_ltI (b := 4) (by omega) (by decide)).mp c1
    refine g_iconst C (v := 1) dX2_hasRoomFor_26 (by decide) ?_
    refine g_goto C (tgt := 31) dX2_hasRoomFor_27 (by decide) ?_
    exact ret _ () _ _ dX2_hasRoomFor_31 (by decide) (by rw [if_pos (Or.inl h1)])
  · skip
    have hz := hr.1.sz4 (hr.1.la (hr.adlt key))
    have h1 : ¬ A.sz (A.la (A.ad key)) < 4 := fun w => c1 (nI_lt w (by decide))
    refine g_aload_n C dX2_hasRoomFor_17 0 rfl rfl ?_
    refine g_callIV C [0, 1, 2, 3, 4, 5, 6, 7] [] [0, 1, 2, 3, 4, 5, 6, 7] 0 2 (b := g 0) rfl rfl (As := []) (rest := []) (wr := ([] : va_W)) (wf := fun _ => (wG cy g z0 P)) dX2_hasRoomFor_18 gX2_hasRoomFor_X2_leastFreePage rfl dmX2_leastFreePage ⟨rfl, rfl, Nat.le_of_ble_eq_true rfl, Nat.le_of_ble_eq_true rfl, Nat.zero_le _, Nat.zero_le _⟩ (c_X2_leastFreePage l D cy cz g z0 P A hr.1) ⟨rfl, rfl, rfl, rfl, by decide, rfl, fun _ => rfl⟩ (Nat.le_of_ble_eq_true rfl) ?_
    rintro _ - rfl
    show G x l (rmF 2 72) D 2 0 0 (wG cy g z0 P) [(0, .ref (g 0)), (1, .int key)] [.int (ocI A.lf)] 21
    refine g_ldc C (v := vNONE) mX2_hasRoomFor_k37 dX2_hasRoomFor_21 ?_
    refine g_icmp_eq C (tgt := 30) dX2_hasRoomFor_23 (by decide) (fun c2 => ?_) (fun c2 => ?_)
    · skip
      refine g_iconst C (v := 0) dX2_hasRoomFor_30 (by decide) ?_
      exact ret _ () _ _ dX2_hasRoomFor_31 (by decide) (by rw [if_neg (fun w => w.elim h1 (fun v => v (ocI_none (AS_lf A) c2)))])
    · skip
      refine g_iconst C (v := 1) dX2_hasRoomFor_26 (by decide) ?_
      refine g_goto C (tgt := 31) dX2_hasRoomFor_27 (by decide) ?_
      exact ret _ () _ _ dX2_hasRoomFor_31 (by decide) (by rw [if_pos (Or.inr (fun v => c2 (by rw [v]; rfl)))])

theorem mX2_longestChain_l82 : Cond.methodLink RX2 82 Lib.Math.max.name ∈ wsX2_longestChain := List.mem_of_getElem? (i := 1) rfl
theorem mX2_longestChain_s82 : Cond.static Lib.Math.max.name ∈ wsX2_longestChain := List.mem_of_getElem? (i := 2) rfl
theorem mX2_longestChain_i82 : Cond.initialized "java/lang/Math" ∈ wsX2_longestChain := List.mem_of_getElem? (i := 3) rfl
theorem mX2_longestChain_c82 : Cond.code Lib.Math.max.name Lib.Math.max.code 2 (some .int) ∈ wsX2_longestChain := List.mem_of_getElem? (i := 4) rfl
set_option maxHeartbeats 1600000 in
set_option maxRecDepth 20000 in
theorem c_X2_longestChain (l : Launch) (D : va_G) (cy cz : ClassId) (g : Nat → Nat) (z0 : Nat) (P : Mem) (A : AS) (hr : RP A P) : MId l yX2_longestChain wsX2_longestChain (rmF 2 72) D (tyL cy cz) [.ref (g 0)] (wG cy g z0 P) (nI A.lng) (wG cy g z0 P) := by
  refine g_entI (cc := cX2_longestChain) (maxL := 3) (own := RX2) (by decide) rfl rfl (Nat.le_of_ble_eq_true rfl) (fun x C ret => ?_)
  show G x l (rmF 2 72) D 3 0 0 (wG cy g z0 P) [(0, .ref (g 0))] [] 0
  refine g_iconst C (v := 0) dX2_longestChain_0 (by decide) ?_
  refine g_istore_n C (lv' := [(1, .int 0), (0, .ref (g 0))]) dX2_longestChain_1 rfl (by decide) rfl ?_
  refine g_iconst C (v := 0) dX2_longestChain_2 (by decide) ?_
  refine g_istore_n C (lv' := [(2, .int 0), (1, .int 0), (0, .ref (g 0))]) dX2_longestChain_3 rfl (by decide) rfl ?_
  refine g_lv (lv' := [(1, .int 0), (2, .int 0), (0, .ref (g 0))]) [1, 0, 2] rfl ?_
  refine g_loop (σ := Nat × Nat) (fun (a : Nat × Nat) => match a with | (b, n) => (wG cy g z0 P)) (fun (a : Nat × Nat) => match a with | (b, n) => [(1, .int (nI n)), (2, .int (nI b)), (0, .ref (g 0))]) (fun (a : Nat × Nat) => match a with | (b, n) => (b ≤ A.nb) ∧ (n ≤ 65) ∧ (A.lng = mxF (fun b => (A.tl b).length + 1) (A.nb - b) b n)) (fun (a : Nat × Nat) => match a with | (b, n) => A.nb - b) ?_ (0, 0) (⟨Nat.zero_le _, by decide, rfl⟩)
  intro a hI ih
  obtain ⟨b, n⟩ := a
  obtain ⟨i1, i2, i3⟩ : (b ≤ A.nb) ∧ (n ≤ 65) ∧ (A.lng = mxF (fun b => (A.tl b).length + 1) (A.nb - b) b n) := hI
  show G x l (rmF 2 72) D 3 0 0 (wG cy g z0 P) [(1, .int (nI n)), (2, .int (nI b)), (0, .ref (g 0))] [] 4
  refine g_iload_n C dX2_longestChain_4 1 rfl rfl ?_
  refine g_aload_n C dX2_longestChain_5 2 rfl rfl ?_
  refine g_callIV C [0, 1, 2, 3, 4, 5, 6, 7] [] [0, 1, 2, 3, 4, 5, 6, 7] 0 2 (b := g 0) rfl rfl (As := []) (rest := [.int (nI b)]) (wr := ([] : va_W)) (wf := fun _ => (wG cy g z0 P)) dX2_longestChain_6 gX2_longestChain_X2_bucketCount rfl dmX2_bucketCount ⟨rfl, rfl, Nat.le_of_ble_eq_true rfl, Nat.le_of_ble_eq_true rfl, Nat.zero_le _, Nat.zero_le _⟩ (c_X2_bucketCount l D cy cz g z0 P) ⟨rfl, rfl, rfl, rfl, by decide, rfl, fun _ => rfl⟩ (Nat.le_of_ble_eq_true rfl) ?_
  rintro _ - rfl
  show G x l (rmF 2 72) D 3 0 0 (wG cy g z0 P) [(1, .int (nI n)), (2, .int (nI b)), (0, .ref (g 0))] [.int ((4 <<< (P 0 0 &&& 31)) + P 0 1), .int (nI b)] 9
  refine g_top (b := nI A.nb) (hr.nb) ?_
  refine g_icmp_ge C (tgt := 28) dX2_longestChain_9 (by decide) (fun c1 => ?_) (fun c1 => ?_)
  · skip
    refine g_iload_n C dX2_longestChain_28 0 rfl rfl ?_
    exact ret _ () _ _ dX2_longestChain_29 (by rw [i3, show A.nb - b = 0 by have := (nI_leI (by have := hr.nb64; omega) (by have := hr.nb64; omega)).mp c1; omega]; rfl)
  · skip
    have hb : b < A.nb := Nat.lt_of_not_le (fun w => c1 (nI_le w (by have := hr.nb64; omega)))
    have h64 : b < 64 := by have := hr.nb64; omega
    have hln := hr.1.1.len h64
    refine g_iload_n C dX2_longestChain_12 0 rfl rfl ?_
    refine g_aload_n C dX2_longestChain_13 2 rfl rfl ?_
    refine g_iload_n C dX2_longestChain_14 1 rfl rfl ?_
    refine g_callIV C [0, 1, 2, 3, 4, 5, 6, 7] [] [0, 1, 2, 3, 4, 5, 6, 7] 0 2 (b := g 0) rfl rfl (As := [.int (nI b)]) (rest := [.int (nI n)]) (wr := ([] : va_W)) (wf := fun _ => (wG cy g z0 P)) dX2_longestChain_15 gX2_longestChain_X2_pagesInChain rfl dmX2_pagesInChain ⟨rfl, rfl, Nat.le_of_ble_eq_true rfl, Nat.le_of_ble_eq_true rfl, Nat.zero_le _, Nat.zero_le _⟩ (c_X2_pagesInChain l D cy cz g z0 P b (A.tl b) (hr.1.chain h64) (by have := hr.1.1.len h64; omega)) ⟨rfl, rfl, rfl, rfl, by decide, rfl, fun _ => rfl⟩ (Nat.le_of_ble_eq_true rfl) ?_
    rintro _ - rfl
    show G x l (rmF 2 72) D 3 0 0 (wG cy g z0 P) [(1, .int (nI n)), (2, .int (nI b)), (0, .ref (g 0))] [.int (nI ((A.tl b).length + 1)), .int (nI n)] 18
    refine g_max C dX2_longestChain_18 mX2_longestChain_l82 mX2_longestChain_s82 mX2_longestChain_i82 mX2_longestChain_c82 (Nat.le_of_ble_eq_true rfl) (Nat.le_of_ble_eq_true rfl) (Nat.zero_le _) (Nat.zero_le _) ?_
    refine g_top (b := nI (if n < (A.tl b).length + 1 then (A.tl b).length + 1 else n)) (by rw [← nI_ite]; simp only [nI_ltI (show n < 2 ^ 31 by omega) (show (A.tl b).length + 1 < 2 ^ 31 by omega)]) ?_
    refine g_istore_n C (lv' := [(1, .int (nI (if n < (A.tl b).length + 1 then (A.tl b).length + 1 else n))), (2, .int (nI b)), (0, .ref (g 0))]) dX2_longestChain_21 rfl (by decide) rfl ?_
    refine g_iinc C (q := 1) (v := nI (b + 1)) (lv' := [(2, .int (nI (b + 1))), (1, .int (nI (if n < (A.tl b).length + 1 then (A.tl b).length + 1 else n))), (0, .ref (g 0))]) dX2_longestChain_22 rfl (nI_1 b) (by decide) rfl ?_
    refine g_goto C (tgt := 4) dX2_longestChain_25 (by decide) ?_
    refine g_lv (lv' := [(1, .int (nI (if n < (A.tl b).length + 1 then (A.tl b).length + 1 else n))), (2, .int (nI (b + 1))), (0, .ref (g 0))]) [1, 0, 2] rfl ?_
    exact ih (b + 1, if n < (A.tl b).length + 1 then (A.tl b).length + 1 else n) ⟨by omega, by split <;> omega, by rw [i3, mxF_step hb]⟩ (by show A.nb - (b + 1) < A.nb - b; omega)

theorem mX2_effortForAll_inX3_isPage : Cond.initialized yX3_isPage.cls ∈ wsX2_effortForAll := List.mem_of_getElem? (i := 11) rfl
theorem mX2_effortForAll_stX3_isPage : Cond.static yX3_isPage ∈ wsX2_effortForAll := List.mem_of_getElem? (i := 10) rfl
theorem mX2_effortForAll_f18 : Cond.fieldLink RX2 18 (TX2 2).1 (TX2 2).2.1 (TX2 2).2.2.1 ∈ wsX2_effortForAll := List.mem_of_getElem? (i := 1) rfl
theorem iX2_effortForAll_X2 : ∀ w ∈ wsX20, w ∈ wsX2_effortForAll := by decide +kernel
theorem mX2_effortForAll_f21 : Cond.fieldLink RX2 21 (TX2 3).1 (TX2 3).2.1 (TX2 3).2.2.1 ∈ wsX2_effortForAll := List.mem_of_getElem? (i := 2) rfl
set_option maxHeartbeats 1600000 in
set_option maxRecDepth 20000 in
theorem c_X2_effortForAll (l : Launch) (D : va_G) (cy cz : ClassId) (g : Nat → Nat) (z0 : Nat) (P : Mem) (A : AS) (hr : RP A P) : MId l yX2_effortForAll wsX2_effortForAll (rmF 1 36) D (tyL cy cz) [.ref (g 0)] (wG cy g z0 P) (nI A.eff) (wG cy g z0 P) := by
  refine g_entI (cc := cX2_effortForAll) (maxL := 5) (own := RX2) (by decide) rfl rfl (Nat.le_of_ble_eq_true rfl) (fun x C ret => ?_)
  show G x l (rmF 1 36) D 5 0 0 (wG cy g z0 P) [(0, .ref (g 0))] [] 0
  refine g_iconst C (v := 0) dX2_effortForAll_0 (by decide) ?_
  refine g_istore_n C (lv' := [(1, .int 0), (0, .ref (g 0))]) dX2_effortForAll_1 rfl (by decide) rfl ?_
  refine g_iconst C (v := 0) dX2_effortForAll_2 (by decide) ?_
  refine g_istore_n C (lv' := [(2, .int 0), (1, .int 0), (0, .ref (g 0))]) dX2_effortForAll_3 rfl (by decide) rfl ?_
  refine g_lv (lv' := [(1, .int 0), (2, .int 0), (0, .ref (g 0))]) [1, 0, 2] rfl ?_
  refine g_loop (σ := Nat × Nat) (fun (a : Nat × Nat) => match a with | (b, n) => (wG cy g z0 P)) (fun (a : Nat × Nat) => match a with | (b, n) => [(1, .int (nI n)), (2, .int (nI b)), (0, .ref (g 0))]) (fun (a : Nat × Nat) => match a with | (b, n) => (b ≤ A.nb) ∧ (A.eff = n + smF (fun b => effL A.sz 1 (A.ch b)) (A.nb - b) b)) (fun (a : Nat × Nat) => match a with | (b, n) => A.nb - b) ?_ (0, 0) (⟨Nat.zero_le _, (Nat.zero_add _).symm⟩)
  intro a hI ih
  obtain ⟨b, n⟩ := a
  obtain ⟨i1, i3⟩ : (b ≤ A.nb) ∧ (A.eff = n + smF (fun b => effL A.sz 1 (A.ch b)) (A.nb - b) b) := hI
  show G x l (rmF 1 36) D 5 0 0 (wG cy g z0 P) [(1, .int (nI n)), (2, .int (nI b)), (0, .ref (g 0))] [] 4
  refine g_iload_n C dX2_effortForAll_4 1 rfl rfl ?_
  refine g_aload_n C dX2_effortForAll_5 2 rfl rfl ?_
  refine g_callIV C [0, 1, 2, 3, 4, 5, 6, 7] [] [0, 1, 2, 3, 4, 5, 6, 7] 0 2 (b := g 0) rfl rfl (As := []) (rest := [.int (nI b)]) (wr := ([] : va_W)) (wf := fun _ => (wG cy g z0 P)) dX2_effortForAll_6 gX2_effortForAll_X2_bucketCount rfl dmX2_bucketCount ⟨rfl, rfl, Nat.le_of_ble_eq_true rfl, Nat.le_of_ble_eq_true rfl, Nat.zero_le _, Nat.zero_le _⟩ (c_X2_bucketCount l D cy cz g z0 P) ⟨rfl, rfl, rfl, rfl, by decide, rfl, fun _ => rfl⟩ (Nat.le_of_ble_eq_true rfl) ?_
  rintro _ - rfl
  show G x l (rmF 1 36) D 5 0 0 (wG cy g z0 P) [(1, .int (nI n)), (2, .int (nI b)), (0, .ref (g 0))] [.int ((4 <<< (P 0 0 &&& 31)) + P 0 1), .int (nI b)] 9
  refine g_top (b := nI A.nb) (hr.nb) ?_
  refine g_icmp_ge C (tgt := 63) dX2_effortForAll_9 (by decide) (fun c1 => ?_) (fun c1 => ?_)
  · skip
    refine g_iload_n C dX2_effortForAll_63 0 rfl rfl ?_
    exact ret _ () _ _ dX2_effortForAll_64 (by rw [i3, show A.nb - b = 0 by have := (nI_leI (by have := hr.nb64; omega) (by have := hr.nb64; omega)).mp c1; omega]; rfl)
  · skip
    have hb : b < A.nb := Nat.lt_of_not_le (fun w => c1 (nI_le w (by have := hr.nb64; omega)))
    have h64 : b < 64 := by have := hr.nb64; omega
    refine g_iload_n C dX2_effortForAll_12 1 rfl rfl ?_
    refine g_istore_n C (lv' := [(3, .int (nI b)), (1, .int (nI n)), (2, .int (nI b)), (0, .ref (g 0))]) dX2_effortForAll_13 rfl (by decide) rfl ?_
    refine g_iconst C (v := 1) dX2_effortForAll_14 (by decide) ?_
    refine g_istore C (lv' := [(4, .int 1), (3, .int (nI b)), (1, .int (nI n)), (2, .int (nI b)), (0, .ref (g 0))]) dX2_effortForAll_15 (by decide) rfl ?_
    refine g_lv (lv' := [(1, .int (nI n)), (3, .int (nI b)), (4, .int 1), (2, .int (nI b)), (0, .ref (g 0))]) [2, 1, 0, 3, 4] rfl ?_
    refine g_loop (σ := List Nat × Nat × Nat) (fun (a : List Nat × Nat × Nat) => match a with | (r, k, e) => (wG cy g z0 P)) (fun (a : List Nat × Nat × Nat) => match a with | (r, k, e) => [(1, .int (nI e)), (3, .int (hdI r)), (4, .int (nI k)), (2, .int (nI b)), (0, .ref (g 0))]) (fun (a : List Nat × Nat × Nat) => match a with | (r, k, e) => (isCh (P 4) r) ∧ (r.length + k ≤ 66) ∧ (A.eff = e + (effL A.sz k r + smF (fun b => effL A.sz 1 (A.ch b)) (A.nb - (b + 1)) (b + 1)))) (fun (a : List Nat × Nat × Nat) => match a with | (r, k, e) => r.length) ?_ (A.ch b, 1, n) (⟨hr.1.chain h64, by have := hr.1.len h64; omega, by rw [i3, smF_step hb]⟩)
    intro a hI ih2
    obtain ⟨r, k, e⟩ := a
    obtain ⟨j1, j2, j3⟩ : (isCh (P 4) r) ∧ (r.length + k ≤ 66) ∧ (A.eff = e + (effL A.sz k r + smF (fun b => effL A.sz 1 (A.ch b)) (A.nb - (b + 1)) (b + 1))) := hI
    show G x l (rmF 1 36) D 5 0 0 (wG cy g z0 P) [(1, .int (nI e)), (3, .int (hdI r)), (4, .int (nI k)), (2, .int (nI b)), (0, .ref (g 0))] [] 17
    rcases r with _ | ⟨q, r⟩
    · skip
      have j3 : A.eff = e + (0 + smF (fun b => effL A.sz 1 (A.ch b)) (A.nb - (b + 1)) (b + 1)) := j3
      rw [Nat.zero_add] at j3
      show G x l (rmF 1 36) D 5 0 0 (wG cy g z0 P) [(1, .int (nI e)), (3, .int vNONE), (4, .int (nI k)), (2, .int (nI b)), (0, .ref (g 0))] [] 17
      refine g_iload C dX2_effortForAll_17 2 rfl ?_
      refine g_sipush C (v := 128) dX2_effortForAll_19 (by decide) ?_
      refine g_icmp_gt C (tgt := 57) dX2_effortForAll_22 (by decide) (fun c1 => ?_) (fun c1 => ?_)
      · skip
        refine g_iinc C (q := 3) (v := nI (b + 1)) (lv' := [(2, .int (nI (b + 1))), (1, .int (nI e)), (3, .int vNONE), (4, .int (nI k)), (0, .ref (g 0))]) dX2_effortForAll_57 rfl (nI_1 b) (by decide) rfl ?_
        refine g_goto C (tgt := 4) dX2_effortForAll_60 (by decide) ?_
        refine g_lv (lv' := [(1, .int (nI e)), (2, .int (nI (b + 1))), (0, .ref (g 0))]) [1, 0, 4] rfl ?_
        exact ih (b + 1, e) ⟨by omega, by rw [j3]⟩ (by show A.nb - (b + 1) < A.nb - b; omega)
      · skip
        refine g_iload_n C dX2_effortForAll_25 1 rfl rfl ?_
        refine g_callIN C [] [0, 1, 2, 3, 4, 5, 6, 7] [0, 1, 2, 3, 4, 5, 6, 7] (As := [.int vNONE]) (rest := []) (wr := (wG cy g z0 P)) (wf := fun _ => (wG cy g z0 P)) dX2_effortForAll_26 gX2_effortForAll_X3_isPage_n61 rfl dmX3_isPage ⟨rfl, rfl, Nat.le_of_ble_eq_true rfl, Nat.le_of_ble_eq_true rfl, Nat.zero_le _, Nat.zero_le _⟩ rfl mX2_effortForAll_inX3_isPage mX2_effortForAll_stX3_isPage (c_X3_isPage l D cy cz vNONE) ⟨rfl, rfl, rfl, rfl, by decide, rfl, fun _ => rfl⟩ (Nat.le_of_ble_eq_true rfl) ?_
        rintro _ - rfl
        show G x l (rmF 1 36) D 5 0 0 (wG cy g z0 P) [(1, .int (nI e)), (3, .int vNONE), (4, .int (nI k)), (2, .int (nI b)), (0, .ref (g 0))] [.int (inI 128 vNONE)] 29
        refine g_top (b := 0) (inI_NONE _) ?_
        refine g_if_eq C (tgt := 57) dX2_effortForAll_29 (by decide) (fun c3 => ?_) (fun c3 => ?_)
        · skip
          refine g_iinc C (q := 3) (v := nI (b + 1)) (lv' := [(2, .int (nI (b + 1))), (1, .int (nI e)), (3, .int vNONE), (4, .int (nI k)), (0, .ref (g 0))]) dX2_effortForAll_57 rfl (nI_1 b) (by decide) rfl ?_
          refine g_goto C (tgt := 4) dX2_effortForAll_60 (by decide) ?_
          refine g_lv (lv' := [(1, .int (nI e)), (2, .int (nI (b + 1))), (0, .ref (g 0))]) [1, 0, 4] rfl ?_
          exact ih (b + 1, e) ⟨by omega, by rw [j3]⟩ (by show A.nb - (b + 1) < A.nb - b; omega)
        · skip
          exact absurd rfl (c3)
    · skip
      obtain ⟨hq, hn, j1⟩ := j1
      have j2 : r.length + 1 + k ≤ 66 := j2
      have j3 : A.eff = e + (k * A.sz q + effL A.sz (k + 1) r + smF (fun b => effL A.sz 1 (A.ch b)) (A.nb - (b + 1)) (b + 1)) := j3
      show G x l (rmF 1 36) D 5 0 0 (wG cy g z0 P) [(1, .int (nI e)), (3, .int (nI q)), (4, .int (nI k)), (2, .int (nI b)), (0, .ref (g 0))] [] 17
      refine g_iload C dX2_effortForAll_17 2 rfl ?_
      refine g_sipush C (v := 128) dX2_effortForAll_19 (by decide) ?_
      refine g_icmp_gt C (tgt := 57) dX2_effortForAll_22 (by decide) (fun c2 => ?_) (fun c2 => ?_)
      · skip
        exact absurd c2 (fun w => absurd ((nI_ltI (a := 128) (b := k) (by decide) (by omega)).mp w) (by omega))
      · skip
        refine g_iload_n C dX2_effortForAll_25 1 rfl rfl ?_
        refine g_callIN C [] [0, 1, 2, 3, 4, 5, 6, 7] [0, 1, 2, 3, 4, 5, 6, 7] (As := [.int (nI q)]) (rest := []) (wr := (wG cy g z0 P)) (wf := fun _ => (wG cy g z0 P)) dX2_effortForAll_26 gX2_effortForAll_X3_isPage_n61 rfl dmX3_isPage ⟨rfl, rfl, Nat.le_of_ble_eq_true rfl, Nat.le_of_ble_eq_true rfl, Nat.zero_le _, Nat.zero_le _⟩ rfl mX2_effortForAll_inX3_isPage mX2_effortForAll_stX3_isPage (c_X3_isPage l D cy cz (nI q)) ⟨rfl, rfl, rfl, rfl, by decide, rfl, fun _ => rfl⟩ (Nat.le_of_ble_eq_true rfl) ?_
        rintro _ - rfl
        show G x l (rmF 1 36) D 5 0 0 (wG cy g z0 P) [(1, .int (nI e)), (3, .int (nI q)), (4, .int (nI k)), (2, .int (nI b)), (0, .ref (g 0))] [.int (inI 128 (nI q))] 29
        refine g_top (b := 1) (inI_nI (N := 128) hq (by decide)) ?_
        refine g_if_eq C (tgt := 57) dX2_effortForAll_29 (by decide) (fun c3 => ?_) (fun c3 => ?_)
        · skip
          exact absurd c3 (by decide)
        · skip
          refine g_iload_n C dX2_effortForAll_32 0 rfl rfl ?_
          refine g_iload C dX2_effortForAll_33 2 rfl ?_
          refine g_aload_n C dX2_effortForAll_35 4 rfl rfl ?_
          refine g_get C 0 (f := 2) (v := .ref (g 3)) (Cn := RX2) (T := TX2) (N := 11) dX2_effortForAll_36 rfl rfl iX2_effortForAll_X2 (by decide) mX2_effortForAll_f18 rfl ?_
          refine g_iload_n C dX2_effortForAll_39 1 rfl rfl ?_
          refine g_iald C 3 0 (f := P 3) (N := 128) q dX2_effortForAll_40 rfl rfl (by decide) (rfl) (by omega) ?_
          refine g_top (b := nI (A.sz q)) (hr.1.used hq) ?_
          refine g_imul C dX2_effortForAll_41 ?_
          refine g_top (b := nI (k * A.sz q)) (pk_mul _ _) ?_
          refine g_iadd C dX2_effortForAll_42 ?_
          refine g_top (b := nI (e + k * A.sz q)) (nI_add _ _) ?_
          refine g_istore_n C (lv' := [(1, .int (nI (e + k * A.sz q))), (3, .int (nI q)), (4, .int (nI k)), (2, .int (nI b)), (0, .ref (g 0))]) dX2_effortForAll_43 rfl (by decide) rfl ?_
          refine g_aload_n C dX2_effortForAll_44 4 rfl rfl ?_
          refine g_get C 0 (f := 3) (v := .ref (g 4)) (Cn := RX2) (T := TX2) (N := 11) dX2_effortForAll_45 rfl rfl iX2_effortForAll_X2 (by decide) mX2_effortForAll_f21 rfl ?_
          refine g_iload_n C dX2_effortForAll_48 1 rfl rfl ?_
          refine g_iald C 4 0 (f := P 4) (N := 128) q dX2_effortForAll_49 rfl rfl (by decide) (rfl) (by omega) ?_
          refine g_top (b := hdI r) (hn) ?_
          refine g_istore_n C (lv' := [(3, .int (hdI r)), (1, .int (nI (e + k * A.sz q))), (4, .int (nI k)), (2, .int (nI b)), (0, .ref (g 0))]) dX2_effortForAll_50 rfl (by decide) rfl ?_
          refine g_iinc C (q := 2) (v := nI (k + 1)) (lv' := [(4, .int (nI (k + 1))), (3, .int (hdI r)), (1, .int (nI (e + k * A.sz q))), (2, .int (nI b)), (0, .ref (g 0))]) dX2_effortForAll_51 rfl (nI_1 k) (by decide) rfl ?_
          refine g_goto C (tgt := 17) dX2_effortForAll_54 (by decide) ?_
          refine g_lv (lv' := [(1, .int (nI (e + k * A.sz q))), (3, .int (hdI r)), (4, .int (nI (k + 1))), (2, .int (nI b)), (0, .ref (g 0))]) [2, 1, 0, 3, 4] rfl ?_
          exact ih2 (r, k + 1, e + k * A.sz q) ⟨j1, by omega, by omega⟩ (Nat.lt_succ_self _)

theorem mX2_cellOfEntry_k37 : Cond.constant RX2 37 (-2000000005) ∈ wsX2_cellOfEntry := List.mem_of_getElem? (i := 3) rfl
theorem mX2_cellOfEntry_inX3_isPage : Cond.initialized yX3_isPage.cls ∈ wsX2_cellOfEntry := List.mem_of_getElem? (i := 12) rfl
theorem mX2_cellOfEntry_stX3_isPage : Cond.static yX3_isPage ∈ wsX2_cellOfEntry := List.mem_of_getElem? (i := 11) rfl
theorem mX2_cellOfEntry_f18 : Cond.fieldLink RX2 18 (TX2 2).1 (TX2 2).2.1 (TX2 2).2.2.1 ∈ wsX2_cellOfEntry := List.mem_of_getElem? (i := 1) rfl
theorem iX2_cellOfEntry_X2 : ∀ w ∈ wsX20, w ∈ wsX2_cellOfEntry := by decide +kernel
theorem mX2_cellOfEntry_f21 : Cond.fieldLink RX2 21 (TX2 3).1 (TX2 3).2.1 (TX2 3).2.2.1 ∈ wsX2_cellOfEntry := List.mem_of_getElem? (i := 2) rfl
set_option maxHeartbeats 1600000 in
set_option maxRecDepth 20000 in
theorem c_X2_cellOfEntry (l : Launch) (D : va_G) (cy cz : ClassId) (g : Nat → Nat) (z0 : Nat) (P : Mem) (A : AS) (i : Nat) (hr : RP A P) (hi : i < 2 ^ 31) : MId l yX2_cellOfEntry wsX2_cellOfEntry (rmF 1 36) D (tyL cy cz) [.ref (g 0), .int (nI i)] (wG cy g z0 P) (ocI (A.ent i)) (wG cy g z0 P) := by
  refine g_entI (cc := cX2_cellOfEntry) (maxL := 6) (own := RX2) (by decide) rfl rfl (Nat.le_of_ble_eq_true rfl) (fun x C ret => ?_)
  show G x l (rmF 1 36) D 6 0 0 (wG cy g z0 P) [(0, .ref (g 0)), (1, .int (nI i))] [] 0
  refine g_iload_n C dX2_cellOfEntry_0 1 rfl rfl ?_
  refine g_istore_n C (lv' := [(2, .int (nI i)), (0, .ref (g 0)), (1, .int (nI i))]) dX2_cellOfEntry_1 rfl (by decide) rfl ?_
  refine g_iconst C (v := 0) dX2_cellOfEntry_2 (by decide) ?_
  refine g_istore_n C (lv' := [(3, .int 0), (2, .int (nI i)), (0, .ref (g 0)), (1, .int (nI i))]) dX2_cellOfEntry_3 rfl (by decide) rfl ?_
  refine g_lv (lv' := [(2, .int (nI i)), (3, .int 0), (0, .ref (g 0)), (1, .int (nI i))]) [1, 0, 2, 3] rfl ?_
  refine g_loop (σ := Nat × Nat) (fun (a : Nat × Nat) => match a with | (b, n) => (wG cy g z0 P)) (fun (a : Nat × Nat) => match a with | (b, n) => [(2, .int (nI n)), (3, .int (nI b)), (0, .ref (g 0)), (1, .int (nI i))]) (fun (a : Nat × Nat) => match a with | (b, n) => (b ≤ A.nb) ∧ (n < 2 ^ 31) ∧ (A.ent i = entL A.sz (pgF A.ch (A.nb - b) b) n)) (fun (a : Nat × Nat) => match a with | (b, n) => A.nb - b) ?_ (0, i) (⟨Nat.zero_le _, hi, rfl⟩)
  intro a hI ih
  obtain ⟨b, n⟩ := a
  obtain ⟨i1, i2, i3⟩ : (b ≤ A.nb) ∧ (n < 2 ^ 31) ∧ (A.ent i = entL A.sz (pgF A.ch (A.nb - b) b) n) := hI
  show G x l (rmF 1 36) D 6 0 0 (wG cy g z0 P) [(2, .int (nI n)), (3, .int (nI b)), (0, .ref (g 0)), (1, .int (nI i))] [] 4
  refine g_iload_n C dX2_cellOfEntry_4 1 rfl rfl ?_
  refine g_aload_n C dX2_cellOfEntry_5 2 rfl rfl ?_
  refine g_callIV C [0, 1, 2, 3, 4, 5, 6, 7] [] [0, 1, 2, 3, 4, 5, 6, 7] 0 2 (b := g 0) rfl rfl (As := []) (rest := [.int (nI b)]) (wr := ([] : va_W)) (wf := fun _ => (wG cy g z0 P)) dX2_cellOfEntry_6 gX2_cellOfEntry_X2_bucketCount rfl dmX2_bucketCount ⟨rfl, rfl, Nat.le_of_ble_eq_true rfl, Nat.le_of_ble_eq_true rfl, Nat.zero_le _, Nat.zero_le _⟩ (c_X2_bucketCount l D cy cz g z0 P) ⟨rfl, rfl, rfl, rfl, by decide, rfl, fun _ => rfl⟩ (Nat.le_of_ble_eq_true rfl) ?_
  rintro _ - rfl
  show G x l (rmF 1 36) D 6 0 0 (wG cy g z0 P) [(2, .int (nI n)), (3, .int (nI b)), (0, .ref (g 0)), (1, .int (nI i))] [.int ((4 <<< (P 0 0 &&& 31)) + P 0 1), .int (nI b)] 9
  refine g_top (b := nI A.nb) (hr.nb) ?_
  refine g_icmp_ge C (tgt := 83) dX2_cellOfEntry_9 (by decide) (fun c1 => ?_) (fun c1 => ?_)
  · skip
    refine g_ldc C (v := vNONE) mX2_cellOfEntry_k37 dX2_cellOfEntry_83 ?_
    exact ret _ () _ _ dX2_cellOfEntry_85 (by rw [i3, show A.nb - b = 0 by have := (nI_leI (by have := hr.nb64; omega) (by have := hr.nb64; omega)).mp c1; omega]; rfl)
  · skip
    have hb : b < A.nb := Nat.lt_of_not_le (fun w => c1 (nI_le w (by have := hr.nb64; omega)))
    have h64 : b < 64 := by have := hr.nb64; omega
    refine g_iload_n C dX2_cellOfEntry_12 1 rfl rfl ?_
    refine g_istore C (lv' := [(4, .int (nI b)), (2, .int (nI n)), (3, .int (nI b)), (0, .ref (g 0)), (1, .int (nI i))]) dX2_cellOfEntry_13 (by decide) rfl ?_
    refine g_iconst C (v := 0) dX2_cellOfEntry_15 (by decide) ?_
    refine g_istore C (lv' := [(5, .int 0), (4, .int (nI b)), (2, .int (nI n)), (3, .int (nI b)), (0, .ref (g 0)), (1, .int (nI i))]) dX2_cellOfEntry_16 (by decide) rfl ?_
    refine g_lv (lv' := [(2, .int (nI n)), (4, .int (nI b)), (5, .int 0), (3, .int (nI b)), (0, .ref (g 0)), (1, .int (nI i))]) [2, 1, 0, 3, 4, 5] rfl ?_
    refine g_loop (σ := List Nat × Nat × Nat) (fun (a : List Nat × Nat × Nat) => match a with | (r, d, e) => (wG cy g z0 P)) (fun (a : List Nat × Nat × Nat) => match a with | (r, d, e) => [(2, .int (nI e)), (4, .int (hdI r)), (5, .int (nI d)), (3, .int (nI b)), (0, .ref (g 0)), (1, .int (nI i))]) (fun (a : List Nat × Nat × Nat) => match a with | (r, d, e) => (isCh (P 4) r) ∧ (r.length + d ≤ 65) ∧ (e < 2 ^ 31) ∧ (A.ent i = entL A.sz (r ++ pgF A.ch (A.nb - (b + 1)) (b + 1)) e)) (fun (a : List Nat × Nat × Nat) => match a with | (r, d, e) => r.length) ?_ (A.ch b, 0, n) (⟨hr.1.chain h64, hr.1.len h64, i2, by rw [i3, pgF_step hb]⟩)
    intro a hI ih2
    obtain ⟨r, d, e⟩ := a
    obtain ⟨j1, j0, j2, j3⟩ : (isCh (P 4) r) ∧ (r.length + d ≤ 65) ∧ (e < 2 ^ 31) ∧ (A.ent i = entL A.sz (r ++ pgF A.ch (A.nb - (b + 1)) (b + 1)) e) := hI
    show G x l (rmF 1 36) D 6 0 0 (wG cy g z0 P) [(2, .int (nI e)), (4, .int (hdI r)), (5, .int (nI d)), (3, .int (nI b)), (0, .ref (g 0)), (1, .int (nI i))] [] 18
    rcases r with _ | ⟨q, r⟩
    · skip
      show G x l (rmF 1 36) D 6 0 0 (wG cy g z0 P) [(2, .int (nI e)), (4, .int vNONE), (5, .int (nI d)), (3, .int (nI b)), (0, .ref (g 0)), (1, .int (nI i))] [] 18
      refine g_iload C dX2_cellOfEntry_18 2 rfl ?_
      refine g_sipush C (v := 128) dX2_cellOfEntry_20 (by decide) ?_
      refine g_icmp_ge C (tgt := 77) dX2_cellOfEntry_23 (by decide) (fun c1 => ?_) (fun c1 => ?_)
      · skip
        refine g_iinc C (q := 3) (v := nI (b + 1)) (lv' := [(3, .int (nI (b + 1))), (2, .int (nI e)), (4, .int vNONE), (5, .int (nI d)), (0, .ref (g 0)), (1, .int (nI i))]) dX2_cellOfEntry_77 rfl (nI_1 b) (by decide) rfl ?_
        refine g_goto C (tgt := 4) dX2_cellOfEntry_80 (by decide) ?_
        refine g_lv (lv' := [(2, .int (nI e)), (3, .int (nI (b + 1))), (0, .ref (g 0)), (1, .int (nI i))]) [1, 0, 4, 5] rfl ?_
        exact ih (b + 1, e) ⟨by omega, j2, j3⟩ (by show A.nb - (b + 1) < A.nb - b; omega)
      · skip
        refine g_iload C dX2_cellOfEntry_26 1 rfl ?_
        refine g_callIN C [] [0, 1, 2, 3, 4, 5, 6, 7] [0, 1, 2, 3, 4, 5, 6, 7] (As := [.int vNONE]) (rest := []) (wr := (wG cy g z0 P)) (wf := fun _ => (wG cy g z0 P)) dX2_cellOfEntry_28 gX2_cellOfEntry_X3_isPage_n61 rfl dmX3_isPage ⟨rfl, rfl, Nat.le_of_ble_eq_true rfl, Nat.le_of_ble_eq_true rfl, Nat.zero_le _, Nat.zero_le _⟩ rfl mX2_cellOfEntry_inX3_isPage mX2_cellOfEntry_stX3_isPage (c_X3_isPage l D cy cz vNONE) ⟨rfl, rfl, rfl, rfl, by decide, rfl, fun _ => rfl⟩ (Nat.le_of_ble_eq_true rfl) ?_
        rintro _ - rfl
        show G x l (rmF 1 36) D 6 0 0 (wG cy g z0 P) [(2, .int (nI e)), (4, .int vNONE), (5, .int (nI d)), (3, .int (nI b)), (0, .ref (g 0)), (1, .int (nI i))] [.int (inI 128 vNONE)] 31
        refine g_top (b := 0) (inI_NONE _) ?_
        refine g_if_eq C (tgt := 77) dX2_cellOfEntry_31 (by decide) (fun c3 => ?_) (fun c3 => ?_)
        · skip
          refine g_iinc C (q := 3) (v := nI (b + 1)) (lv' := [(3, .int (nI (b + 1))), (2, .int (nI e)), (4, .int vNONE), (5, .int (nI d)), (0, .ref (g 0)), (1, .int (nI i))]) dX2_cellOfEntry_77 rfl (nI_1 b) (by decide) rfl ?_
          refine g_goto C (tgt := 4) dX2_cellOfEntry_80 (by decide) ?_
          refine g_lv (lv' := [(2, .int (nI e)), (3, .int (nI (b + 1))), (0, .ref (g 0)), (1, .int (nI i))]) [1, 0, 4, 5] rfl ?_
          exact ih (b + 1, e) ⟨by omega, j2, j3⟩ (by show A.nb - (b + 1) < A.nb - b; omega)
        · skip
          exact absurd rfl (c3)
    · skip
      obtain ⟨hq, hn, j1⟩ := j1
      have j0 : r.length + 1 + d ≤ 65 := j0
      have j3 : A.ent i = if e < A.sz q then some (q * 4 + e) else entL A.sz (r ++ pgF A.ch (A.nb - (b + 1)) (b + 1)) (e - A.sz q) := j3
      have hz := hr.1.sz4 hq
      show G x l (rmF 1 36) D 6 0 0 (wG cy g z0 P) [(2, .int (nI e)), (4, .int (nI q)), (5, .int (nI d)), (3, .int (nI b)), (0, .ref (g 0)), (1, .int (nI i))] [] 18
      refine g_iload C dX2_cellOfEntry_18 2 rfl ?_
      refine g_sipush C (v := 128) dX2_cellOfEntry_20 (by decide) ?_
      refine g_icmp_ge C (tgt := 77) dX2_cellOfEntry_23 (by decide) (fun c2 => ?_) (fun c2 => ?_)
      · skip
        exact absurd c2 (nI_ge (a := d) (b := 128) (by omega) (by decide))
      · skip
        refine g_iload C dX2_cellOfEntry_26 1 rfl ?_
        refine g_callIN C [] [0, 1, 2, 3, 4, 5, 6, 7] [0, 1, 2, 3, 4, 5, 6, 7] (As := [.int (nI q)]) (rest := []) (wr := (wG cy g z0 P)) (wf := fun _ => (wG cy g z0 P)) dX2_cellOfEntry_28 gX2_cellOfEntry_X3_isPage_n61 rfl dmX3_isPage ⟨rfl, rfl, Nat.le_of_ble_eq_true rfl, Nat.le_of_ble_eq_true rfl, Nat.zero_le _, Nat.zero_le _⟩ rfl mX2_cellOfEntry_inX3_isPage mX2_cellOfEntry_stX3_isPage (c_X3_isPage l D cy cz (nI q)) ⟨rfl, rfl, rfl, rfl, by decide, rfl, fun _ => rfl⟩ (Nat.le_of_ble_eq_true rfl) ?_
        rintro _ - rfl
        show G x l (rmF 1 36) D 6 0 0 (wG cy g z0 P) [(2, .int (nI e)), (4, .int (nI q)), (5, .int (nI d)), (3, .int (nI b)), (0, .ref (g 0)), (1, .int (nI i))] [.int (inI 128 (nI q))] 31
        refine g_top (b := 1) (inI_nI (N := 128) hq (by decide)) ?_
        refine g_if_eq C (tgt := 77) dX2_cellOfEntry_31 (by decide) (fun c3 => ?_) (fun c3 => ?_)
        · skip
          exact absurd c3 (by decide)
        · skip
          refine g_iload_n C dX2_cellOfEntry_34 0 rfl rfl ?_
          refine g_aload_n C dX2_cellOfEntry_35 4 rfl rfl ?_
          refine g_get C 0 (f := 2) (v := .ref (g 3)) (Cn := RX2) (T := TX2) (N := 11) dX2_cellOfEntry_36 rfl rfl iX2_cellOfEntry_X2 (by decide) mX2_cellOfEntry_f18 rfl ?_
          refine g_iload C dX2_cellOfEntry_39 1 rfl ?_
          refine g_iald C 3 0 (f := P 3) (N := 128) q dX2_cellOfEntry_41 rfl rfl (by decide) (rfl) (by omega) ?_
          refine g_top (b := nI (A.sz q)) (hr.1.used hq) ?_
          refine g_icmp_ge C (tgt := 52) dX2_cellOfEntry_42 (by decide) (fun c4 => ?_) (fun c4 => ?_)
          · skip
            have h3 : A.sz q ≤ e := (nI_leI (by omega) (by omega)).mp c4
            refine g_iload_n C dX2_cellOfEntry_52 0 rfl rfl ?_
            refine g_aload_n C dX2_cellOfEntry_53 4 rfl rfl ?_
            refine g_get C 0 (f := 2) (v := .ref (g 3)) (Cn := RX2) (T := TX2) (N := 11) dX2_cellOfEntry_54 rfl rfl iX2_cellOfEntry_X2 (by decide) mX2_cellOfEntry_f18 rfl ?_
            refine g_iload C dX2_cellOfEntry_57 1 rfl ?_
            refine g_iald C 3 0 (f := P 3) (N := 128) q dX2_cellOfEntry_59 rfl rfl (by decide) (rfl) (by omega) ?_
            refine g_top (b := nI (A.sz q)) (hr.1.used hq) ?_
            refine g_isub C dX2_cellOfEntry_60 ?_
            refine g_top (b := nI (e - A.sz q)) (pk_sub h3) ?_
            refine g_istore_n C (lv' := [(2, .int (nI (e - A.sz q))), (4, .int (nI q)), (5, .int (nI d)), (3, .int (nI b)), (0, .ref (g 0)), (1, .int (nI i))]) dX2_cellOfEntry_61 rfl (by decide) rfl ?_
            refine g_aload_n C dX2_cellOfEntry_62 4 rfl rfl ?_
            refine g_get C 0 (f := 3) (v := .ref (g 4)) (Cn := RX2) (T := TX2) (N := 11) dX2_cellOfEntry_63 rfl rfl iX2_cellOfEntry_X2 (by decide) mX2_cellOfEntry_f21 rfl ?_
            refine g_iload C dX2_cellOfEntry_66 1 rfl ?_
            refine g_iald C 4 0 (f := P 4) (N := 128) q dX2_cellOfEntry_68 rfl rfl (by decide) (rfl) (by omega) ?_
            refine g_top (b := hdI r) (hn) ?_
            refine g_istore C (lv' := [(4, .int (hdI r)), (2, .int (nI (e - A.sz q))), (5, .int (nI d)), (3, .int (nI b)), (0, .ref (g 0)), (1, .int (nI i))]) dX2_cellOfEntry_69 (by decide) rfl ?_
            refine g_iinc C (q := 2) (v := nI (d + 1)) (lv' := [(5, .int (nI (d + 1))), (4, .int (hdI r)), (2, .int (nI (e - A.sz q))), (3, .int (nI b)), (0, .ref (g 0)), (1, .int (nI i))]) dX2_cellOfEntry_71 rfl (nI_1 d) (by decide) rfl ?_
            refine g_goto C (tgt := 18) dX2_cellOfEntry_74 (by decide) ?_
            refine g_lv (lv' := [(2, .int (nI (e - A.sz q))), (4, .int (hdI r)), (5, .int (nI (d + 1))), (3, .int (nI b)), (0, .ref (g 0)), (1, .int (nI i))]) [2, 1, 0, 3, 4, 5] rfl ?_
            exact ih2 (r, d + 1, e - A.sz q) ⟨j1, by omega, by omega, by rw [j3, if_neg (by omega)]⟩ (Nat.lt_succ_self _)
          · skip
            have h3 : e < A.sz q := Nat.lt_of_not_le (fun w => c4 (nI_le w (by omega)))
            refine g_iload C dX2_cellOfEntry_45 1 rfl ?_
            refine g_iconst C (v := 4) dX2_cellOfEntry_47 (by decide) ?_
            refine g_imul C dX2_cellOfEntry_48 ?_
            refine g_top (b := nI (q * 4)) (pk_mul q 4) ?_
            refine g_iload_n C dX2_cellOfEntry_49 0 rfl rfl ?_
            refine g_iadd C dX2_cellOfEntry_50 ?_
            refine g_top (b := nI (q * 4 + e)) (nI_add _ _) ?_
            exact ret _ () _ _ dX2_cellOfEntry_51 (by rw [j3, if_pos h3]; rfl)
end
section
/-! made by wip/whole/gen.py and m1.py -/
theorem mX2_setValue_f15 : Cond.fieldLink RX2 15 (TX2 1).1 (TX2 1).2.1 (TX2 1).2.2.1 ∈ wsX2_setValue := List.mem_of_getElem? (i := 1) rfl
theorem iX2_setValue_X2 : ∀ w ∈ wsX20, w ∈ wsX2_setValue := by decide +kernel
set_option maxHeartbeats 1600000 in
set_option maxRecDepth 20000 in
theorem c_X2_setValue (l : Launch) (D : va_G) (cy cz : ClassId) (g : Nat → Nat) (z0 : Nat) (P : Mem) (c : Nat) (v : Int32) (hc : c < 512) : MVd l yX2_setValue wsX2_setValue (rmF 0 0) D (tyL cy cz) [.ref (g 0), .int (nI c), .int v] (wG cy g z0 P) (wG cy g z0 (ps P 2 c v)) := by
  refine g_entV (cc := cX2_setValue) (maxL := 3) (own := RX2) (by decide) rfl rfl (Nat.le_of_ble_eq_true rfl) (fun x C ret => ?_)
  show G x l (rmF 0 0) D 3 0 0 (wG cy g z0 P) [(0, .ref (g 0)), (1, .int (nI c)), (2, .int v)] [] 0
  refine g_iload_n C dX2_setValue_0 1 rfl rfl ?_
  refine g_if_lt C (tgt := 20) dX2_setValue_1 (by decide) (fun c1 => ?_) (fun c1 => ?_)
  · skip
    exact absurd c1 (nI_pos (by omega))
  · skip
    refine g_iload_n C dX2_setValue_4 1 rfl rfl ?_
    refine g_aload_n C dX2_setValue_5 0 rfl rfl ?_
    refine g_get C 0 (f := 1) (v := .ref (g 2)) (Cn := RX2) (T := TX2) (N := 11) dX2_setValue_6 rfl rfl iX2_setValue_X2 (by decide) mX2_setValue_f15 rfl ?_
    refine g_alen C 2 0 (f := P 2) (N := 512) dX2_setValue_9 rfl rfl ?_
    refine g_icmp_ge C (tgt := 20) dX2_setValue_10 (by decide) (fun c2 => ?_) (fun c2 => ?_)
    · skip
      exact absurd c2 (nI_ge hc (by decide))
    · skip
      refine g_aload_n C dX2_setValue_13 0 rfl rfl ?_
      refine g_get C 0 (f := 1) (v := .ref (g 2)) (Cn := RX2) (T := TX2) (N := 11) dX2_setValue_14 rfl rfl iX2_setValue_X2 (by decide) mX2_setValue_f15 rfl ?_
      refine g_iload_n C dX2_setValue_17 1 rfl rfl ?_
      refine g_iload_n C dX2_setValue_18 2 rfl rfl ?_
      refine g_iast C 2 0 (f := P 2) (N := 512) (ws' := (wG cy g z0 (ps P 2 c v))) c dX2_setValue_19 rfl rfl (by decide) (rfl) (by omega) (wG_a2 cy g z0 P c v) ?_
      exact ret () _ _ dX2_setValue_20 trivial

theorem mX2_clearPage_inX3_isPage : Cond.initialized yX3_isPage.cls ∈ wsX2_clearPage := List.mem_of_getElem? (i := 7) rfl
theorem mX2_clearPage_stX3_isPage : Cond.static yX3_isPage ∈ wsX2_clearPage := List.mem_of_getElem? (i := 6) rfl
theorem mX2_clearPage_f18 : Cond.fieldLink RX2 18 (TX2 2).1 (TX2 2).2.1 (TX2 2).2.2.1 ∈ wsX2_clearPage := List.mem_of_getElem? (i := 1) rfl
theorem iX2_clearPage_X2 : ∀ w ∈ wsX20, w ∈ wsX2_clearPage := by decide +kernel
theorem mX2_clearPage_f21 : Cond.fieldLink RX2 21 (TX2 3).1 (TX2 3).2.1 (TX2 3).2.2.1 ∈ wsX2_clearPage := List.mem_of_getElem? (i := 2) rfl
theorem mX2_clearPage_k37 : Cond.constant RX2 37 (-2000000005) ∈ wsX2_clearPage := List.mem_of_getElem? (i := 3) rfl
theorem mX2_clearPage_f24 : Cond.fieldLink RX2 24 (TX2 4).1 (TX2 4).2.1 (TX2 4).2.2.1 ∈ wsX2_clearPage := List.mem_of_getElem? (i := 4) rfl
theorem mX2_clearPage_f27 : Cond.fieldLink RX2 27 (TX2 5).1 (TX2 5).2.1 (TX2 5).2.2.1 ∈ wsX2_clearPage := List.mem_of_getElem? (i := 5) rfl
set_option maxHeartbeats 1600000 in
set_option maxRecDepth 20000 in
theorem c_X2_clearPage (l : Launch) (D : va_G) (cy cz : ClassId) (g : Nat → Nat) (z0 : Nat) (P : Mem) (q : Nat) (hq : q < 128) : MVd l yX2_clearPage wsX2_clearPage (rmF 1 36) D (tyL cy cz) [.ref (g 0), .int (nI q)] (wG cy g z0 P) (wG cy g z0 (clrP P q)) := by
  refine g_entV (cc := cX2_clearPage) (maxL := 2) (own := RX2) (by decide) rfl rfl (Nat.le_of_ble_eq_true rfl) (fun x C ret => ?_)
  show G x l (rmF 1 36) D 2 0 0 (wG cy g z0 P) [(0, .ref (g 0)), (1, .int (nI q))] [] 0
  refine g_iload_n C dX2_clearPage_0 1 rfl rfl ?_
  refine g_callIN C [] [0, 1, 2, 3, 4, 5, 6, 7] [0, 1, 2, 3, 4, 5, 6, 7] (As := [.int (nI q)]) (rest := []) (wr := (wG cy g z0 P)) (wf := fun _ => (wG cy g z0 P)) dX2_clearPage_1 gX2_clearPage_X3_isPage_n61 rfl dmX3_isPage ⟨rfl, rfl, Nat.le_of_ble_eq_true rfl, Nat.le_of_ble_eq_true rfl, Nat.zero_le _, Nat.zero_le _⟩ rfl mX2_clearPage_inX3_isPage mX2_clearPage_stX3_isPage (c_X3_isPage l D cy cz (nI q)) ⟨rfl, rfl, rfl, rfl, by decide, rfl, fun _ => rfl⟩ (Nat.le_of_ble_eq_true rfl) ?_
  rintro _ - rfl
  show G x l (rmF 1 36) D 2 0 0 (wG cy g z0 P) [(0, .ref (g 0)), (1, .int (nI q))] [.int (inI 128 (nI q))] 4
  refine g_top (b := 1) (inI_nI (N := 128) hq (by decide)) ?_
  refine g_if_eq C (tgt := 38) dX2_clearPage_4 (by decide) (fun c1 => ?_) (fun c1 => ?_)
  · skip
    exact absurd c1 (by decide)
  · skip
    refine g_aload_n C dX2_clearPage_7 0 rfl rfl ?_
    refine g_get C 0 (f := 2) (v := .ref (g 3)) (Cn := RX2) (T := TX2) (N := 11) dX2_clearPage_8 rfl rfl iX2_clearPage_X2 (by decide) mX2_clearPage_f18 rfl ?_
    refine g_iload_n C dX2_clearPage_11 1 rfl rfl ?_
    refine g_iconst C (v := 0) dX2_clearPage_12 (by decide) ?_
    refine g_iast C 3 0 (f := P 3) (N := 128) (ws' := (wG cy g z0 (ps P 3 q 0))) q dX2_clearPage_13 rfl rfl (by decide) (rfl) (by omega) (wG_a3 cy g z0 P q 0) ?_
    refine g_aload_n C dX2_clearPage_14 0 rfl rfl ?_
    refine g_get C 0 (f := 3) (v := .ref (g 4)) (Cn := RX2) (T := TX2) (N := 11) dX2_clearPage_15 rfl rfl iX2_clearPage_X2 (by decide) mX2_clearPage_f21 rfl ?_
    refine g_iload_n C dX2_clearPage_18 1 rfl rfl ?_
    refine g_ldc C (v := vNONE) mX2_clearPage_k37 dX2_clearPage_19 ?_
    refine g_iast C 4 0 (f := (ps P 3 q 0) 4) (N := 128) (ws' := (wG cy g z0 (ps (ps P 3 q 0) 4 q vNONE))) q dX2_clearPage_21 rfl rfl (by decide) (rfl) (by omega) (wG_a4 cy g z0 (ps P 3 q 0) q vNONE) ?_
    refine g_aload_n C dX2_clearPage_22 0 rfl rfl ?_
    refine g_get C 0 (f := 4) (v := .ref (g 5)) (Cn := RX2) (T := TX2) (N := 11) dX2_clearPage_23 rfl rfl iX2_clearPage_X2 (by decide) mX2_clearPage_f24 rfl ?_
    refine g_iload_n C dX2_clearPage_26 1 rfl rfl ?_
    refine g_ldc C (v := vNONE) mX2_clearPage_k37 dX2_clearPage_27 ?_
    refine g_iast C 5 0 (f := (ps (ps P 3 q 0) 4 q vNONE) 5) (N := 128) (ws' := (wG cy g z0 (ps (ps (ps P 3 q 0) 4 q vNONE) 5 q vNONE))) q dX2_clearPage_29 rfl rfl (by decide) (rfl) (by omega) (wG_a5 cy g z0 (ps (ps P 3 q 0) 4 q vNONE) q vNONE) ?_
    refine g_aload_n C dX2_clearPage_30 0 rfl rfl ?_
    refine g_get C 0 (f := 5) (v := .ref (g 6)) (Cn := RX2) (T := TX2) (N := 11) dX2_clearPage_31 rfl rfl iX2_clearPage_X2 (by decide) mX2_clearPage_f27 rfl ?_
    refine g_iload_n C dX2_clearPage_34 1 rfl rfl ?_
    refine g_ldc C (v := vNONE) mX2_clearPage_k37 dX2_clearPage_35 ?_
    refine g_iast C 6 0 (f := (ps (ps (ps P 3 q 0) 4 q vNONE) 5 q vNONE) 6) (N := 128) (ws' := (wG cy g z0 (ps (ps (ps (ps P 3 q 0) 4 q vNONE) 5 q vNONE) 6 q vNONE))) q dX2_clearPage_37 rfl rfl (by decide) (rfl) (by omega) (wG_a6 cy g z0 (ps (ps (ps P 3 q 0) 4 q vNONE) 5 q vNONE) q vNONE) ?_
    exact ret () _ _ dX2_clearPage_38 trivial

theorem mX2_linkNewPage_inX3_isPage : Cond.initialized yX3_isPage.cls ∈ wsX2_linkNewPage := List.mem_of_getElem? (i := 12) rfl
theorem mX2_linkNewPage_stX3_isPage : Cond.static yX3_isPage ∈ wsX2_linkNewPage := List.mem_of_getElem? (i := 11) rfl
theorem mX2_linkNewPage_f21 : Cond.fieldLink RX2 21 (TX2 3).1 (TX2 3).2.1 (TX2 3).2.2.1 ∈ wsX2_linkNewPage := List.mem_of_getElem? (i := 1) rfl
theorem iX2_linkNewPage_X2 : ∀ w ∈ wsX20, w ∈ wsX2_linkNewPage := by decide +kernel
theorem mX2_linkNewPage_f24 : Cond.fieldLink RX2 24 (TX2 4).1 (TX2 4).2.1 (TX2 4).2.2.1 ∈ wsX2_linkNewPage := List.mem_of_getElem? (i := 2) rfl
theorem mX2_linkNewPage_f27 : Cond.fieldLink RX2 27 (TX2 5).1 (TX2 5).2.1 (TX2 5).2.2.1 ∈ wsX2_linkNewPage := List.mem_of_getElem? (i := 3) rfl
theorem mX2_linkNewPage_f30 : Cond.fieldLink RX2 30 (TX2 6).1 (TX2 6).2.1 (TX2 6).2.2.1 ∈ wsX2_linkNewPage := List.mem_of_getElem? (i := 4) rfl
set_option maxHeartbeats 1600000 in
set_option maxRecDepth 20000 in
theorem c_X2_linkNewPage (l : Launch) (D : va_G) (cy cz : ClassId) (g : Nat → Nat) (z0 : Nat) (P : Mem) (A : AS) (b : Nat) (q : Nat) (r : Nat) (hr : RC A P) (hb : b < 64) (hq : q < 128) (hf : A.lf = some r) : MId l yX2_linkNewPage wsX2_linkNewPage (rmF 1 36) D (tyL cy cz) [.ref (g 0), .int (nI b), .int (nI q)] (wG cy g z0 P) (nI r) (wG cy g z0 (lnkP P b q r)) := by
  refine g_entI (cc := cX2_linkNewPage) (maxL := 4) (own := RX2) (by decide) rfl rfl (Nat.le_of_ble_eq_true rfl) (fun x C ret => ?_)
  show G x l (rmF 1 36) D 4 0 0 (wG cy g z0 P) [(0, .ref (g 0)), (1, .int (nI b)), (2, .int (nI q))] [] 0
  obtain ⟨f1, f2, f3⟩ := WFc.lf hf
  refine g_aload_n C dX2_linkNewPage_0 0 rfl rfl ?_
  refine g_callIV C [0, 1, 2, 3, 4, 5, 6, 7] [] [0, 1, 2, 3, 4, 5, 6, 7] 0 2 (b := g 0) rfl rfl (As := []) (rest := []) (wr := ([] : va_W)) (wf := fun _ => (wG cy g z0 P)) dX2_linkNewPage_1 gX2_linkNewPage_X2_leastFreePage rfl dmX2_leastFreePage ⟨rfl, rfl, Nat.le_of_ble_eq_true rfl, Nat.le_of_ble_eq_true rfl, Nat.zero_le _, Nat.zero_le _⟩ (c_X2_leastFreePage l D cy cz g z0 P A hr) ⟨rfl, rfl, rfl, rfl, by decide, rfl, fun _ => rfl⟩ (Nat.le_of_ble_eq_true rfl) ?_
  rintro _ - rfl
  show G x l (rmF 1 36) D 4 0 0 (wG cy g z0 P) [(0, .ref (g 0)), (1, .int (nI b)), (2, .int (nI q))] [.int (ocI A.lf)] 4
  refine g_top (b := nI r) (by rw [hf]; rfl) ?_
  refine g_istore_n C (lv' := [(3, .int (nI r)), (0, .ref (g 0)), (1, .int (nI b)), (2, .int (nI q))]) dX2_linkNewPage_4 rfl (by decide) rfl ?_
  refine g_iload_n C dX2_linkNewPage_5 0 rfl rfl ?_
  refine g_callIN C [] [0, 1, 2, 3, 4, 5, 6, 7] [0, 1, 2, 3, 4, 5, 6, 7] (As := [.int (nI r)]) (rest := []) (wr := (wG cy g z0 P)) (wf := fun _ => (wG cy g z0 P)) dX2_linkNewPage_6 gX2_linkNewPage_X3_isPage_n61 rfl dmX3_isPage ⟨rfl, rfl, Nat.le_of_ble_eq_true rfl, Nat.le_of_ble_eq_true rfl, Nat.zero_le _, Nat.zero_le _⟩ rfl mX2_linkNewPage_inX3_isPage mX2_linkNewPage_stX3_isPage (c_X3_isPage l D cy cz (nI r)) ⟨rfl, rfl, rfl, rfl, by decide, rfl, fun _ => rfl⟩ (Nat.le_of_ble_eq_true rfl) ?_
  rintro _ - rfl
  show G x l (rmF 1 36) D 4 0 0 (wG cy g z0 P) [(3, .int (nI r)), (0, .ref (g 0)), (1, .int (nI b)), (2, .int (nI q))] [.int (inI 128 (nI r))] 9
  refine g_top (b := 1) (inI_nI (N := 128) f2 (by decide)) ?_
  refine g_if_eq C (tgt := 54) dX2_linkNewPage_9 (by decide) (fun c1 => ?_) (fun c1 => ?_)
  · skip
    exact absurd c1 (by decide)
  · skip
    refine g_iload_n C dX2_linkNewPage_12 3 rfl rfl ?_
    refine g_callIN C [] [0, 1, 2, 3, 4, 5, 6, 7] [0, 1, 2, 3, 4, 5, 6, 7] (As := [.int (nI q)]) (rest := []) (wr := (wG cy g z0 P)) (wf := fun _ => (wG cy g z0 P)) dX2_linkNewPage_13 gX2_linkNewPage_X3_isPage_n61 rfl dmX3_isPage ⟨rfl, rfl, Nat.le_of_ble_eq_true rfl, Nat.le_of_ble_eq_true rfl, Nat.zero_le _, Nat.zero_le _⟩ rfl mX2_linkNewPage_inX3_isPage mX2_linkNewPage_stX3_isPage (c_X3_isPage l D cy cz (nI q)) ⟨rfl, rfl, rfl, rfl, by decide, rfl, fun _ => rfl⟩ (Nat.le_of_ble_eq_true rfl) ?_
    rintro _ - rfl
    show G x l (rmF 1 36) D 4 0 0 (wG cy g z0 P) [(3, .int (nI r)), (0, .ref (g 0)), (1, .int (nI b)), (2, .int (nI q))] [.int (inI 128 (nI q))] 16
    refine g_top (b := 1) (inI_nI (N := 128) hq (by decide)) ?_
    refine g_if_eq C (tgt := 54) dX2_linkNewPage_16 (by decide) (fun c2 => ?_) (fun c2 => ?_)
    · skip
      exact absurd c2 (by decide)
    · skip
      refine g_iload_n C dX2_linkNewPage_19 2 rfl rfl ?_
      refine g_callIS C [] [0, 1, 2, 3, 4, 5, 6, 7] [0, 1, 2, 3, 4, 5, 6, 7] (As := [.int (nI b)]) (rest := []) (wr := (wG cy g z0 P)) (wf := fun _ => (wG cy g z0 P)) dX2_linkNewPage_20 gX2_linkNewPage_X2_isBucketPlace rfl dmX2_isBucketPlace ⟨rfl, rfl, Nat.le_of_ble_eq_true rfl, Nat.le_of_ble_eq_true rfl, Nat.zero_le _, Nat.zero_le _⟩ (c_X2_isBucketPlace l D cy cz (nI b)) ⟨rfl, rfl, rfl, rfl, by decide, rfl, fun _ => rfl⟩ (Nat.le_of_ble_eq_true rfl) ?_
      rintro _ - rfl
      show G x l (rmF 1 36) D 4 0 0 (wG cy g z0 P) [(3, .int (nI r)), (0, .ref (g 0)), (1, .int (nI b)), (2, .int (nI q))] [.int (inI 64 (nI b))] 23
      refine g_top (b := 1) (inI_nI (N := 64) hb (by decide)) ?_
      refine g_if_eq C (tgt := 54) dX2_linkNewPage_23 (by decide) (fun c3 => ?_) (fun c3 => ?_)
      · skip
        exact absurd c3 (by decide)
      · skip
        refine g_aload_n C dX2_linkNewPage_26 1 rfl rfl ?_
        refine g_get C 0 (f := 3) (v := .ref (g 4)) (Cn := RX2) (T := TX2) (N := 11) dX2_linkNewPage_27 rfl rfl iX2_linkNewPage_X2 (by decide) mX2_linkNewPage_f21 rfl ?_
        refine g_iload_n C dX2_linkNewPage_30 3 rfl rfl ?_
        refine g_iload_n C dX2_linkNewPage_31 0 rfl rfl ?_
        refine g_iast C 4 0 (f := P 4) (N := 128) (ws' := (wG cy g z0 (ps P 4 q (nI r)))) q dX2_linkNewPage_32 rfl rfl (by decide) (rfl) (by omega) (wG_a4 cy g z0 P q (nI r)) ?_
        refine g_aload_n C dX2_linkNewPage_33 1 rfl rfl ?_
        refine g_get C 0 (f := 4) (v := .ref (g 5)) (Cn := RX2) (T := TX2) (N := 11) dX2_linkNewPage_34 rfl rfl iX2_linkNewPage_X2 (by decide) mX2_linkNewPage_f24 rfl ?_
        refine g_iload_n C dX2_linkNewPage_37 0 rfl rfl ?_
        refine g_iload_n C dX2_linkNewPage_38 3 rfl rfl ?_
        refine g_iast C 5 0 (f := (ps P 4 q (nI r)) 5) (N := 128) (ws' := (wG cy g z0 (ps (ps P 4 q (nI r)) 5 r (nI q)))) r dX2_linkNewPage_39 rfl rfl (by decide) (rfl) (by omega) (wG_a5 cy g z0 (ps P 4 q (nI r)) r (nI q)) ?_
        refine g_aload_n C dX2_linkNewPage_40 1 rfl rfl ?_
        refine g_get C 0 (f := 5) (v := .ref (g 6)) (Cn := RX2) (T := TX2) (N := 11) dX2_linkNewPage_41 rfl rfl iX2_linkNewPage_X2 (by decide) mX2_linkNewPage_f27 rfl ?_
        refine g_iload_n C dX2_linkNewPage_44 0 rfl rfl ?_
        refine g_iload_n C dX2_linkNewPage_45 2 rfl rfl ?_
        refine g_iast C 6 0 (f := (ps (ps P 4 q (nI r)) 5 r (nI q)) 6) (N := 128) (ws' := (wG cy g z0 (ps (ps (ps P 4 q (nI r)) 5 r (nI q)) 6 r (nI b)))) r dX2_linkNewPage_46 rfl rfl (by decide) (rfl) (by omega) (wG_a6 cy g z0 (ps (ps P 4 q (nI r)) 5 r (nI q)) r (nI b)) ?_
        refine g_aload_n C dX2_linkNewPage_47 1 rfl rfl ?_
        refine g_get C 0 (f := 6) (v := .ref (g 7)) (Cn := RX2) (T := TX2) (N := 11) dX2_linkNewPage_48 rfl rfl iX2_linkNewPage_X2 (by decide) mX2_linkNewPage_f30 rfl ?_
        refine g_iload_n C dX2_linkNewPage_51 2 rfl rfl ?_
        refine g_iload_n C dX2_linkNewPage_52 0 rfl rfl ?_
        refine g_iast C 7 0 (f := (ps (ps (ps P 4 q (nI r)) 5 r (nI q)) 6 r (nI b)) 7) (N := 64) (ws' := (wG cy g z0 (ps (ps (ps (ps P 4 q (nI r)) 5 r (nI q)) 6 r (nI b)) 7 b (nI r)))) b dX2_linkNewPage_53 rfl rfl (by decide) (rfl) (by omega) (wG_a7 cy g z0 (ps (ps (ps P 4 q (nI r)) 5 r (nI q)) 6 r (nI b)) b (nI r)) ?_
        refine g_iload_n C dX2_linkNewPage_54 0 rfl rfl ?_
        exact ret _ () _ _ dX2_linkNewPage_55 rfl

theorem mX2_append_inX3_isPage : Cond.initialized yX3_isPage.cls ∈ wsX2_append := List.mem_of_getElem? (i := 20) rfl
theorem mX2_append_stX3_isPage : Cond.static yX3_isPage ∈ wsX2_append := List.mem_of_getElem? (i := 19) rfl
theorem mX2_append_f18 : Cond.fieldLink RX2 18 (TX2 2).1 (TX2 2).2.1 (TX2 2).2.2.1 ∈ wsX2_append := List.mem_of_getElem? (i := 1) rfl
theorem iX2_append_X2 : ∀ w ∈ wsX20, w ∈ wsX2_append := by decide +kernel
theorem mX2_append_f9 : Cond.fieldLink RX2 9 (TX2 0).1 (TX2 0).2.1 (TX2 0).2.2.1 ∈ wsX2_append := List.mem_of_getElem? (i := 2) rfl
theorem mX2_append_f15 : Cond.fieldLink RX2 15 (TX2 1).1 (TX2 1).2.1 (TX2 1).2.2.1 ∈ wsX2_append := List.mem_of_getElem? (i := 3) rfl
theorem mX2_append_f57 : Cond.fieldLink RX2 57 (TX2 10).1 (TX2 10).2.1 (TX2 10).2.2.1 ∈ wsX2_append := List.mem_of_getElem? (i := 4) rfl
set_option maxHeartbeats 1600000 in
set_option maxRecDepth 20000 in
theorem c_X2_append (l : Launch) (D : va_G) (cy cz : ClassId) (g : Nat → Nat) (z0 : Nat) (P : Mem) (A : AS) (b : Nat) (k : Int32) (v : Int32) (hr : RC A P) (hb : b < 64) (hroom : A.sz (A.la b) < 4 ∨ ¬ A.lf = none) : MV l yX2_append wsX2_append (rmF 2 72) D (tyL cy cz) [.ref (g 0), .int (nI b), .int k, .int v] (wG cy g z0 P) (fun (P1 : Mem) => RC (A.add b k v) P1 ∧ P1 0 0 = P 0 0 ∧ P1 0 1 = P 0 1 ∧ P1 0 2 = P 0 2 + 1) (fun P1 => (wG cy g z0 P1)) := by
  refine g_entV (cc := cX2_append) (maxL := 6) (own := RX2) (by decide) rfl rfl (Nat.le_of_ble_eq_true rfl) (fun x C ret => ?_)
  show G x l (rmF 2 72) D 6 0 0 (wG cy g z0 P) [(0, .ref (g 0)), (1, .int (nI b)), (2, .int k), (3, .int v)] [] 0
  have hq := hr.la hb
  have hz := hr.sz4 hq
  refine g_aload_n C dX2_append_0 0 rfl rfl ?_
  refine g_iload_n C dX2_append_1 1 rfl rfl ?_
  refine g_callIV C [0, 1, 2, 3, 4, 5, 6, 7] [] [0, 1, 2, 3, 4, 5, 6, 7] 0 2 (b := g 0) rfl rfl (As := [.int (nI b)]) (rest := []) (wr := ([] : va_W)) (wf := fun _ => (wG cy g z0 P)) dX2_append_2 gX2_append_X2_lastPage rfl dmX2_lastPage ⟨rfl, rfl, Nat.le_of_ble_eq_true rfl, Nat.le_of_ble_eq_true rfl, Nat.zero_le _, Nat.zero_le _⟩ (c_X2_lastPage l D cy cz g z0 P b hb) ⟨rfl, rfl, rfl, rfl, by decide, rfl, fun _ => rfl⟩ (Nat.le_of_ble_eq_true rfl) ?_
  rintro _ - rfl
  show G x l (rmF 2 72) D 6 0 0 (wG cy g z0 P) [(0, .ref (g 0)), (1, .int (nI b)), (2, .int k), (3, .int v)] [.int (P 7 b)] 5
  refine g_top (b := nI (A.la b)) (hr.last hb) ?_
  refine g_istore C (lv' := [(4, .int (nI (A.la b))), (0, .ref (g 0)), (1, .int (nI b)), (2, .int k), (3, .int v)]) dX2_append_5 (by decide) rfl ?_
  refine g_aload_n C dX2_append_7 1 rfl rfl ?_
  refine g_iload C dX2_append_8 0 rfl ?_
  refine g_callIV C [0, 1, 2, 3, 4, 5, 6, 7] [] [0, 1, 2, 3, 4, 5, 6, 7] 0 2 (b := g 0) rfl rfl (As := [.int (nI (A.la b))]) (rest := []) (wr := ([] : va_W)) (wf := fun _ => (wG cy g z0 P)) dX2_append_10 gX2_append_X2_entriesOnPage rfl dmX2_entriesOnPage ⟨rfl, rfl, Nat.le_of_ble_eq_true rfl, Nat.le_of_ble_eq_true rfl, Nat.zero_le _, Nat.zero_le _⟩ (c_X2_entriesOnPage l D cy cz g z0 P (A.la b) hq) ⟨rfl, rfl, rfl, rfl, by decide, rfl, fun _ => rfl⟩ (Nat.le_of_ble_eq_true rfl) ?_
  rintro _ - rfl
  show G x l (rmF 2 72) D 6 0 0 (wG cy g z0 P) [(4, .int (nI (A.la b))), (0, .ref (g 0)), (1, .int (nI b)), (2, .int k), (3, .int v)] [.int (P 3 (A.la b))] 13
  refine g_top (b := nI (A.sz (A.la b))) (hr.used hq) ?_
  refine g_iconst C (v := 4) dX2_append_13 (by decide) ?_
  refine g_icmp_lt C (tgt := 26) dX2_append_14 (by decide) (fun c1 => ?_) (fun c1 => ?_)
  · skip
    have hs : A.sz (A.la b) < 4 := (nI_ltI (b := 4) (by omega) (by decide)).mp c1
    refine g_iload C dX2_append_26 0 rfl ?_
    refine g_callIN C [] [0, 1, 2, 3, 4, 5, 6, 7] [0, 1, 2, 3, 4, 5, 6, 7] (As := [.int (nI (A.la b))]) (rest := []) (wr := (wG cy g z0 P)) (wf := fun _ => (wG cy g z0 P)) dX2_append_28 gX2_append_X3_isPage_n61 rfl dmX3_isPage ⟨rfl, rfl, Nat.le_of_ble_eq_true rfl, Nat.le_of_ble_eq_true rfl, Nat.zero_le _, Nat.zero_le _⟩ rfl mX2_append_inX3_isPage mX2_append_stX3_isPage (c_X3_isPage l D cy cz (nI (A.la b))) ⟨rfl, rfl, rfl, rfl, by decide, rfl, fun _ => rfl⟩ (Nat.le_of_ble_eq_true rfl) ?_
    rintro _ - rfl
    show G x l (rmF 2 72) D 6 0 0 (wG cy g z0 P) [(4, .int (nI (A.la b))), (0, .ref (g 0)), (1, .int (nI b)), (2, .int k), (3, .int v)] [.int (inI 128 (nI (A.la b)))] 31
    refine g_top (b := 1) (inI_nI (N := 128) hq (by decide)) ?_
    refine g_if_ne C (tgt := 35) dX2_append_31 (by decide) (fun c2 => ?_) (fun c2 => ?_)
    · skip
      refine g_iload C dX2_append_35 0 rfl ?_
      refine g_iconst C (v := 4) dX2_append_37 (by decide) ?_
      refine g_imul C dX2_append_38 ?_
      refine g_top (b := nI (A.la b * 4)) (pk_mul _ 4) ?_
      refine g_aload_n C dX2_append_39 1 rfl rfl ?_
      refine g_get C 0 (f := 2) (v := .ref (g 3)) (Cn := RX2) (T := TX2) (N := 11) dX2_append_40 rfl rfl iX2_append_X2 (by decide) mX2_append_f18 rfl ?_
      refine g_iload C dX2_append_43 0 rfl ?_
      refine g_iald C 3 0 (f := P 3) (N := 128) (A.la b) dX2_append_45 rfl rfl (by decide) (rfl) (hq) ?_
      refine g_top (b := nI (A.sz (A.la b))) (hr.used hq) ?_
      refine g_iadd C dX2_append_46 ?_
      refine g_top (b := nI (A.la b * 4 + A.sz (A.la b))) (nI_add _ _) ?_
      refine g_istore C (lv' := [(5, .int (nI (A.la b * 4 + A.sz (A.la b)))), (4, .int (nI (A.la b))), (0, .ref (g 0)), (1, .int (nI b)), (2, .int k), (3, .int v)]) dX2_append_47 (by decide) rfl ?_
      refine g_iload C dX2_append_49 0 rfl ?_
      refine g_if_lt C (tgt := 101) dX2_append_51 (by decide) (fun c3 => ?_) (fun c3 => ?_)
      · skip
        exact absurd c3 (nI_pos (by omega))
      · skip
        refine g_iload C dX2_append_54 0 rfl ?_
        refine g_aload_n C dX2_append_56 2 rfl rfl ?_
        refine g_get C 0 (f := 0) (v := .ref (g 1)) (Cn := RX2) (T := TX2) (N := 11) dX2_append_57 rfl rfl iX2_append_X2 (by decide) mX2_append_f9 rfl ?_
        refine g_alen C 1 0 (f := P 1) (N := 512) dX2_append_60 rfl rfl ?_
        refine g_icmp_ge C (tgt := 101) dX2_append_61 (by decide) (fun c4 => ?_) (fun c4 => ?_)
        · skip
          exact absurd c4 (nI_ge (by omega) (by decide))
        · skip
          refine g_aload_n C dX2_append_64 2 rfl rfl ?_
          refine g_get C 0 (f := 0) (v := .ref (g 1)) (Cn := RX2) (T := TX2) (N := 11) dX2_append_65 rfl rfl iX2_append_X2 (by decide) mX2_append_f9 rfl ?_
          refine g_iload C dX2_append_68 0 rfl ?_
          refine g_iload_n C dX2_append_70 4 rfl rfl ?_
          refine g_iast C 1 0 (f := P 1) (N := 512) (ws' := (wG cy g z0 (ps P 1 (A.la b * 4 + A.sz (A.la b)) k))) (A.la b * 4 + A.sz (A.la b)) dX2_append_71 rfl rfl (by decide) (rfl) (by omega) (wG_a1 cy g z0 P (A.la b * 4 + A.sz (A.la b)) k) ?_
          refine g_aload_n C dX2_append_72 2 rfl rfl ?_
          refine g_get C 0 (f := 1) (v := .ref (g 2)) (Cn := RX2) (T := TX2) (N := 11) dX2_append_73 rfl rfl iX2_append_X2 (by decide) mX2_append_f15 rfl ?_
          refine g_iload C dX2_append_76 0 rfl ?_
          refine g_iload_n C dX2_append_78 5 rfl rfl ?_
          refine g_iast C 2 0 (f := (ps P 1 (A.la b * 4 + A.sz (A.la b)) k) 2) (N := 512) (ws' := (wG cy g z0 (ps (ps P 1 (A.la b * 4 + A.sz (A.la b)) k) 2 (A.la b * 4 + A.sz (A.la b)) v))) (A.la b * 4 + A.sz (A.la b)) dX2_append_79 rfl rfl (by decide) (rfl) (by omega) (wG_a2 cy g z0 (ps P 1 (A.la b * 4 + A.sz (A.la b)) k) (A.la b * 4 + A.sz (A.la b)) v) ?_
          refine g_aload_n C dX2_append_80 2 rfl rfl ?_
          refine g_get C 0 (f := 2) (v := .ref (g 3)) (Cn := RX2) (T := TX2) (N := 11) dX2_append_81 rfl rfl iX2_append_X2 (by decide) mX2_append_f18 rfl ?_
          refine g_iload C dX2_append_84 1 rfl ?_
          refine g_dup2 C dX2_append_86 rfl rfl ?_
          refine g_iald C 3 0 (f := P 3) (N := 128) (A.la b) dX2_append_87 rfl rfl (by decide) (rfl) (hq) ?_
          refine g_top (b := nI (A.sz (A.la b))) (hr.used hq) ?_
          refine g_iconst C (v := 1) dX2_append_88 (by decide) ?_
          refine g_iadd C dX2_append_89 ?_
          refine g_top (b := nI (A.sz (A.la b) + 1)) (nI_1 _) ?_
          refine g_iast C 3 0 (f := (ps (ps P 1 (A.la b * 4 + A.sz (A.la b)) k) 2 (A.la b * 4 + A.sz (A.la b)) v) 3) (N := 128) (ws' := (wG cy g z0 (ps (ps (ps P 1 (A.la b * 4 + A.sz (A.la b)) k) 2 (A.la b * 4 + A.sz (A.la b)) v) 3 (A.la b) (nI (A.sz (A.la b) + 1))))) (A.la b) dX2_append_90 rfl rfl (by decide) (rfl) (hq) (wG_a3 cy g z0 (ps (ps P 1 (A.la b * 4 + A.sz (A.la b)) k) 2 (A.la b * 4 + A.sz (A.la b)) v) (A.la b) (nI (A.sz (A.la b) + 1))) ?_
          refine g_aload_n C dX2_append_91 2 rfl rfl ?_
          refine g_dup C dX2_append_92 rfl ?_
          refine g_get C 0 (f := 10) (v := .int (P 0 2)) (Cn := RX2) (T := TX2) (N := 11) dX2_append_93 rfl rfl iX2_append_X2 (by decide) mX2_append_f57 rfl ?_
          refine g_iconst C (v := 1) dX2_append_96 (by decide) ?_
          refine g_iadd C dX2_append_97 ?_
          refine g_put C 0 (f := 10) (v := .int ((P 0 2) + 1)) (ty := .int) (Cn := RX2) (T := TX2) (N := 11) (ws' := (wG cy g z0 (ps (ps (ps (ps P 1 (A.la b * 4 + A.sz (A.la b)) k) 2 (A.la b * 4 + A.sz (A.la b)) v) 3 (A.la b) (nI (A.sz (A.la b) + 1))) 0 2 ((P 0 2) + 1)))) dX2_append_98 rfl rfl iX2_append_X2 tyX2 tyX2_ok nmX2 (by decide) mX2_append_f57 rfl rfl (rfl) (rfl) (Nat.le_of_ble_eq_true rfl) (wG_s2 cy g z0 (ps (ps (ps P 1 (A.la b * 4 + A.sz (A.la b)) k) 2 (A.la b * 4 + A.sz (A.la b)) v) 3 (A.la b) (nI (A.sz (A.la b) + 1))) ((P 0 2) + 1)) ?_
          exact ret (ps (ps (ps (ps P 1 (A.la b * 4 + A.sz (A.la b)) k) 2 (A.la b * 4 + A.sz (A.la b)) v) 3 (A.la b) (nI (A.sz (A.la b) + 1))) 0 2 ((P 0 2) + 1)) _ _ dX2_append_101 (⟨RC_add1 hr hb hs k v _, rfl, rfl, rfl⟩)
    · skip
      exact absurd c2 (by decide)
  · skip
    have hs : ¬ A.sz (A.la b) < 4 := fun w => c1 (nI_lt w (by decide))
    obtain ⟨r, hf⟩ : ∃ r, A.lf = some r := by
      cases e : A.lf with
      | none => exact absurd e (hroom.resolve_left hs)
      | some r => exact ⟨r, rfl⟩
    obtain ⟨f1, f2, f3⟩ := WFc.lf hf
    refine g_aload_n C dX2_append_17 1 rfl rfl ?_
    refine g_iload_n C dX2_append_18 2 rfl rfl ?_
    refine g_iload C dX2_append_19 0 rfl ?_
    refine g_callIV C [0, 1, 2, 3, 4, 5, 6, 7] [] [0, 1, 2, 3, 4, 5, 6, 7] 0 2 (b := g 0) rfl rfl (As := [.int (nI b), .int (nI (A.la b))]) (rest := []) (wr := ([] : va_W)) (wf := fun _ => (wG cy g z0 (lnkP P b (A.la b) r))) dX2_append_21 gX2_append_X2_linkNewPage rfl dmX2_linkNewPage ⟨rfl, rfl, Nat.le_of_ble_eq_true rfl, Nat.le_of_ble_eq_true rfl, Nat.zero_le _, Nat.zero_le _⟩ (c_X2_linkNewPage l D cy cz g z0 P A b (A.la b) r hr hb hq hf) ⟨rfl, rfl, rfl, rfl, by decide, rfl, fun _ => rfl⟩ (Nat.le_of_ble_eq_true rfl) ?_
    rintro _ - rfl
    show G x l (rmF 2 72) D 6 0 0 (wG cy g z0 (lnkP P b (A.la b) r)) [(4, .int (nI (A.la b))), (0, .ref (g 0)), (1, .int (nI b)), (2, .int k), (3, .int v)] [.int (nI r)] 24
    refine g_istore C (lv' := [(4, .int (nI r)), (0, .ref (g 0)), (1, .int (nI b)), (2, .int k), (3, .int v)]) dX2_append_24 (by decide) rfl ?_
    refine g_iload C dX2_append_26 0 rfl ?_
    refine g_callIN C [] [0, 1, 2, 3, 4, 5, 6, 7] [0, 1, 2, 3, 4, 5, 6, 7] (As := [.int (nI r)]) (rest := []) (wr := (wG cy g z0 (lnkP P b (A.la b) r))) (wf := fun _ => (wG cy g z0 (lnkP P b (A.la b) r))) dX2_append_28 gX2_append_X3_isPage_n61 rfl dmX3_isPage ⟨rfl, rfl, Nat.le_of_ble_eq_true rfl, Nat.le_of_ble_eq_true rfl, Nat.zero_le _, Nat.zero_le _⟩ rfl mX2_append_inX3_isPage mX2_append_stX3_isPage (c_X3_isPage l D cy cz (nI r)) ⟨rfl, rfl, rfl, rfl, by decide, rfl, fun _ => rfl⟩ (Nat.le_of_ble_eq_true rfl) ?_
    rintro _ - rfl
    show G x l (rmF 2 72) D 6 0 0 (wG cy g z0 (lnkP P b (A.la b) r)) [(4, .int (nI r)), (0, .ref (g 0)), (1, .int (nI b)), (2, .int k), (3, .int v)] [.int (inI 128 (nI r))] 31
    refine g_top (b := 1) (inI_nI (N := 128) f2 (by decide)) ?_
    refine g_if_ne C (tgt := 35) dX2_append_31 (by decide) (fun c2 => ?_) (fun c2 => ?_)
    · skip
      refine g_iload C dX2_append_35 0 rfl ?_
      refine g_iconst C (v := 4) dX2_append_37 (by decide) ?_
      refine g_imul C dX2_append_38 ?_
      refine g_top (b := nI (r * 4)) (pk_mul _ 4) ?_
      refine g_aload_n C dX2_append_39 1 rfl rfl ?_
      refine g_get C 0 (f := 2) (v := .ref (g 3)) (Cn := RX2) (T := TX2) (N := 11) dX2_append_40 rfl rfl iX2_append_X2 (by decide) mX2_append_f18 rfl ?_
      refine g_iload C dX2_append_43 0 rfl ?_
      refine g_iald C 3 0 (f := (lnkP P b (A.la b) r) 3) (N := 128) r dX2_append_45 rfl rfl (by decide) (rfl) (f2) ?_
      refine g_top (b := 0) ((hr.used f2).trans (by rw [hr.1.2.2.2.2.2.1 r f1 f2 f3]; rfl)) ?_
      refine g_iadd C dX2_append_46 ?_
      refine g_top (b := nI (r * 4)) (Int32.add_zero _) ?_
      refine g_istore C (lv' := [(5, .int (nI (r * 4))), (4, .int (nI r)), (0, .ref (g 0)), (1, .int (nI b)), (2, .int k), (3, .int v)]) dX2_append_47 (by decide) rfl ?_
      refine g_iload C dX2_append_49 0 rfl ?_
      refine g_if_lt C (tgt := 101) dX2_append_51 (by decide) (fun c3 => ?_) (fun c3 => ?_)
      · skip
        exact absurd c3 (nI_pos (by omega))
      · skip
        refine g_iload C dX2_append_54 0 rfl ?_
        refine g_aload_n C dX2_append_56 2 rfl rfl ?_
        refine g_get C 0 (f := 0) (v := .ref (g 1)) (Cn := RX2) (T := TX2) (N := 11) dX2_append_57 rfl rfl iX2_append_X2 (by decide) mX2_append_f9 rfl ?_
        refine g_alen C 1 0 (f := (lnkP P b (A.la b) r) 1) (N := 512) dX2_append_60 rfl rfl ?_
        refine g_icmp_ge C (tgt := 101) dX2_append_61 (by decide) (fun c4 => ?_) (fun c4 => ?_)
        · skip
          exact absurd c4 (nI_ge (by omega) (by decide))
        · skip
          refine g_aload_n C dX2_append_64 2 rfl rfl ?_
          refine g_get C 0 (f := 0) (v := .ref (g 1)) (Cn := RX2) (T := TX2) (N := 11) dX2_append_65 rfl rfl iX2_append_X2 (by decide) mX2_append_f9 rfl ?_
          refine g_iload C dX2_append_68 0 rfl ?_
          refine g_iload_n C dX2_append_70 4 rfl rfl ?_
          refine g_iast C 1 0 (f := (lnkP P b (A.la b) r) 1) (N := 512) (ws' := (wG cy g z0 (ps (lnkP P b (A.la b) r) 1 (r * 4) k))) (r * 4) dX2_append_71 rfl rfl (by decide) (rfl) (by omega) (wG_a1 cy g z0 (lnkP P b (A.la b) r) (r * 4) k) ?_
          refine g_aload_n C dX2_append_72 2 rfl rfl ?_
          refine g_get C 0 (f := 1) (v := .ref (g 2)) (Cn := RX2) (T := TX2) (N := 11) dX2_append_73 rfl rfl iX2_append_X2 (by decide) mX2_append_f15 rfl ?_
          refine g_iload C dX2_append_76 0 rfl ?_
          refine g_iload_n C dX2_append_78 5 rfl rfl ?_
          refine g_iast C 2 0 (f := (ps (lnkP P b (A.la b) r) 1 (r * 4) k) 2) (N := 512) (ws' := (wG cy g z0 (ps (ps (lnkP P b (A.la b) r) 1 (r * 4) k) 2 (r * 4) v))) (r * 4) dX2_append_79 rfl rfl (by decide) (rfl) (by omega) (wG_a2 cy g z0 (ps (lnkP P b (A.la b) r) 1 (r * 4) k) (r * 4) v) ?_
          refine g_aload_n C dX2_append_80 2 rfl rfl ?_
          refine g_get C 0 (f := 2) (v := .ref (g 3)) (Cn := RX2) (T := TX2) (N := 11) dX2_append_81 rfl rfl iX2_append_X2 (by decide) mX2_append_f18 rfl ?_
          refine g_iload C dX2_append_84 1 rfl ?_
          refine g_dup2 C dX2_append_86 rfl rfl ?_
          refine g_iald C 3 0 (f := (lnkP P b (A.la b) r) 3) (N := 128) r dX2_append_87 rfl rfl (by decide) (rfl) (f2) ?_
          refine g_top (b := 0) ((hr.used f2).trans (by rw [hr.1.2.2.2.2.2.1 r f1 f2 f3]; rfl)) ?_
          refine g_iconst C (v := 1) dX2_append_88 (by decide) ?_
          refine g_iadd C dX2_append_89 ?_
          refine g_top (b := nI 1) (rfl) ?_
          refine g_iast C 3 0 (f := (ps (ps (lnkP P b (A.la b) r) 1 (r * 4) k) 2 (r * 4) v) 3) (N := 128) (ws' := (wG cy g z0 (ps (ps (ps (lnkP P b (A.la b) r) 1 (r * 4) k) 2 (r * 4) v) 3 r (nI 1)))) r dX2_append_90 rfl rfl (by decide) (rfl) (f2) (wG_a3 cy g z0 (ps (ps (lnkP P b (A.la b) r) 1 (r * 4) k) 2 (r * 4) v) r (nI 1)) ?_
          refine g_aload_n C dX2_append_91 2 rfl rfl ?_
          refine g_dup C dX2_append_92 rfl ?_
          refine g_get C 0 (f := 10) (v := .int ((lnkP P b (A.la b) r) 0 2)) (Cn := RX2) (T := TX2) (N := 11) dX2_append_93 rfl rfl iX2_append_X2 (by decide) mX2_append_f57 rfl ?_
          refine g_iconst C (v := 1) dX2_append_96 (by decide) ?_
          refine g_iadd C dX2_append_97 ?_
          refine g_put C 0 (f := 10) (v := .int (((lnkP P b (A.la b) r) 0 2) + 1)) (ty := .int) (Cn := RX2) (T := TX2) (N := 11) (ws' := (wG cy g z0 (ps (ps (ps (ps (lnkP P b (A.la b) r) 1 (r * 4) k) 2 (r * 4) v) 3 r (nI 1)) 0 2 (((lnkP P b (A.la b) r) 0 2) + 1)))) dX2_append_98 rfl rfl iX2_append_X2 tyX2 tyX2_ok nmX2 (by decide) mX2_append_f57 rfl rfl (rfl) (rfl) (Nat.le_of_ble_eq_true rfl) (wG_s2 cy g z0 (ps (ps (ps (lnkP P b (A.la b) r) 1 (r * 4) k) 2 (r * 4) v) 3 r (nI 1)) (((lnkP P b (A.la b) r) 0 2) + 1)) ?_
          exact ret (ps (ps (ps (ps (lnkP P b (A.la b) r) 1 (r * 4) k) 2 (r * 4) v) 3 r (nI 1)) 0 2 (((lnkP P b (A.la b) r) 0 2) + 1)) _ _ dX2_append_101 (⟨RC_add2 hr hb hs hf k v _, rfl, rfl, rfl⟩)
    · skip
      exact absurd c2 (by decide)

theorem mX2_unlinkLast_inX3_isPage : Cond.initialized yX3_isPage.cls ∈ wsX2_unlinkLast := List.mem_of_getElem? (i := 6) rfl
theorem mX2_unlinkLast_stX3_isPage : Cond.static yX3_isPage ∈ wsX2_unlinkLast := List.mem_of_getElem? (i := 5) rfl
theorem mX2_unlinkLast_f24 : Cond.fieldLink RX2 24 (TX2 4).1 (TX2 4).2.1 (TX2 4).2.2.1 ∈ wsX2_unlinkLast := List.mem_of_getElem? (i := 1) rfl
theorem iX2_unlinkLast_X2 : ∀ w ∈ wsX20, w ∈ wsX2_unlinkLast := by decide +kernel
theorem mX2_unlinkLast_f21 : Cond.fieldLink RX2 21 (TX2 3).1 (TX2 3).2.1 (TX2 3).2.2.1 ∈ wsX2_unlinkLast := List.mem_of_getElem? (i := 3) rfl
theorem mX2_unlinkLast_k37 : Cond.constant RX2 37 (-2000000005) ∈ wsX2_unlinkLast := List.mem_of_getElem? (i := 2) rfl
theorem mX2_unlinkLast_f30 : Cond.fieldLink RX2 30 (TX2 6).1 (TX2 6).2.1 (TX2 6).2.2.1 ∈ wsX2_unlinkLast := List.mem_of_getElem? (i := 4) rfl
set_option maxHeartbeats 1600000 in
set_option maxRecDepth 20000 in
theorem c_X2_unlinkLast (l : Launch) (D : va_G) (cy cz : ClassId) (g : Nat → Nat) (z0 : Nat) (P : Mem) (b : Nat) (p : Nat) (q : Nat) (hb : b < 64) (hp : p < 128) (hq : q < 128) (he : P 5 p = nI q) : MVd l yX2_unlinkLast wsX2_unlinkLast (rmF 2 72) D (tyL cy cz) [.ref (g 0), .int (nI b), .int (nI p)] (wG cy g z0 P) (wG cy g z0 (clrP (ps (ps P 4 q vNONE) 7 b (nI q)) p)) := by
  refine g_entV (cc := cX2_unlinkLast) (maxL := 4) (own := RX2) (by decide) rfl rfl (Nat.le_of_ble_eq_true rfl) (fun x C ret => ?_)
  show G x l (rmF 2 72) D 4 0 0 (wG cy g z0 P) [(0, .ref (g 0)), (1, .int (nI b)), (2, .int (nI p))] [] 0
  refine g_iload_n C dX2_unlinkLast_0 2 rfl rfl ?_
  refine g_callIN C [] [0, 1, 2, 3, 4, 5, 6, 7] [0, 1, 2, 3, 4, 5, 6, 7] (As := [.int (nI p)]) (rest := []) (wr := (wG cy g z0 P)) (wf := fun _ => (wG cy g z0 P)) dX2_unlinkLast_1 gX2_unlinkLast_X3_isPage_n61 rfl dmX3_isPage ⟨rfl, rfl, Nat.le_of_ble_eq_true rfl, Nat.le_of_ble_eq_true rfl, Nat.zero_le _, Nat.zero_le _⟩ rfl mX2_unlinkLast_inX3_isPage mX2_unlinkLast_stX3_isPage (c_X3_isPage l D cy cz (nI p)) ⟨rfl, rfl, rfl, rfl, by decide, rfl, fun _ => rfl⟩ (Nat.le_of_ble_eq_true rfl) ?_
  rintro _ - rfl
  show G x l (rmF 2 72) D 4 0 0 (wG cy g z0 P) [(0, .ref (g 0)), (1, .int (nI b)), (2, .int (nI p))] [.int (inI 128 (nI p))] 4
  refine g_top (b := 1) (inI_nI (N := 128) hp (by decide)) ?_
  refine g_if_eq C (tgt := 16) dX2_unlinkLast_4 (by decide) (fun c1 => ?_) (fun c1 => ?_)
  · skip
    exact absurd c1 (by decide)
  · skip
    refine g_aload_n C dX2_unlinkLast_7 0 rfl rfl ?_
    refine g_get C 0 (f := 4) (v := .ref (g 5)) (Cn := RX2) (T := TX2) (N := 11) dX2_unlinkLast_8 rfl rfl iX2_unlinkLast_X2 (by decide) mX2_unlinkLast_f24 rfl ?_
    refine g_iload_n C dX2_unlinkLast_11 2 rfl rfl ?_
    refine g_iald C 5 0 (f := P 5) (N := 128) p dX2_unlinkLast_12 rfl rfl (by decide) (rfl) (by omega) ?_
    refine g_top (b := nI q) (he) ?_
    refine g_goto C (tgt := 18) dX2_unlinkLast_13 (by decide) ?_
    refine g_istore_n C (lv' := [(3, .int (nI q)), (0, .ref (g 0)), (1, .int (nI b)), (2, .int (nI p))]) dX2_unlinkLast_18 rfl (by decide) rfl ?_
    refine g_iload_n C dX2_unlinkLast_19 0 rfl rfl ?_
    refine g_callIN C [] [0, 1, 2, 3, 4, 5, 6, 7] [0, 1, 2, 3, 4, 5, 6, 7] (As := [.int (nI q)]) (rest := []) (wr := (wG cy g z0 P)) (wf := fun _ => (wG cy g z0 P)) dX2_unlinkLast_20 gX2_unlinkLast_X3_isPage_n61 rfl dmX3_isPage ⟨rfl, rfl, Nat.le_of_ble_eq_true rfl, Nat.le_of_ble_eq_true rfl, Nat.zero_le _, Nat.zero_le _⟩ rfl mX2_unlinkLast_inX3_isPage mX2_unlinkLast_stX3_isPage (c_X3_isPage l D cy cz (nI q)) ⟨rfl, rfl, rfl, rfl, by decide, rfl, fun _ => rfl⟩ (Nat.le_of_ble_eq_true rfl) ?_
    rintro _ - rfl
    show G x l (rmF 2 72) D 4 0 0 (wG cy g z0 P) [(3, .int (nI q)), (0, .ref (g 0)), (1, .int (nI b)), (2, .int (nI p))] [.int (inI 128 (nI q))] 23
    refine g_top (b := 1) (inI_nI (N := 128) hq (by decide)) ?_
    refine g_if_eq C (tgt := 53) dX2_unlinkLast_23 (by decide) (fun c2 => ?_) (fun c2 => ?_)
    · skip
      exact absurd c2 (by decide)
    · skip
      refine g_iload_n C dX2_unlinkLast_26 2 rfl rfl ?_
      refine g_callIS C [] [0, 1, 2, 3, 4, 5, 6, 7] [0, 1, 2, 3, 4, 5, 6, 7] (As := [.int (nI b)]) (rest := []) (wr := (wG cy g z0 P)) (wf := fun _ => (wG cy g z0 P)) dX2_unlinkLast_27 gX2_unlinkLast_X2_isBucketPlace rfl dmX2_isBucketPlace ⟨rfl, rfl, Nat.le_of_ble_eq_true rfl, Nat.le_of_ble_eq_true rfl, Nat.zero_le _, Nat.zero_le _⟩ (c_X2_isBucketPlace l D cy cz (nI b)) ⟨rfl, rfl, rfl, rfl, by decide, rfl, fun _ => rfl⟩ (Nat.le_of_ble_eq_true rfl) ?_
      rintro _ - rfl
      show G x l (rmF 2 72) D 4 0 0 (wG cy g z0 P) [(3, .int (nI q)), (0, .ref (g 0)), (1, .int (nI b)), (2, .int (nI p))] [.int (inI 64 (nI b))] 30
      refine g_top (b := 1) (inI_nI (N := 64) hb (by decide)) ?_
      refine g_if_eq C (tgt := 53) dX2_unlinkLast_30 (by decide) (fun c3 => ?_) (fun c3 => ?_)
      · skip
        exact absurd c3 (by decide)
      · skip
        refine g_aload_n C dX2_unlinkLast_33 1 rfl rfl ?_
        refine g_get C 0 (f := 3) (v := .ref (g 4)) (Cn := RX2) (T := TX2) (N := 11) dX2_unlinkLast_34 rfl rfl iX2_unlinkLast_X2 (by decide) mX2_unlinkLast_f21 rfl ?_
        refine g_iload_n C dX2_unlinkLast_37 0 rfl rfl ?_
        refine g_ldc C (v := vNONE) mX2_unlinkLast_k37 dX2_unlinkLast_38 ?_
        refine g_iast C 4 0 (f := P 4) (N := 128) (ws' := (wG cy g z0 (ps P 4 q vNONE))) q dX2_unlinkLast_40 rfl rfl (by decide) (rfl) (by omega) (wG_a4 cy g z0 P q vNONE) ?_
        refine g_aload_n C dX2_unlinkLast_41 1 rfl rfl ?_
        refine g_get C 0 (f := 6) (v := .ref (g 7)) (Cn := RX2) (T := TX2) (N := 11) dX2_unlinkLast_42 rfl rfl iX2_unlinkLast_X2 (by decide) mX2_unlinkLast_f30 rfl ?_
        refine g_iload_n C dX2_unlinkLast_45 2 rfl rfl ?_
        refine g_iload_n C dX2_unlinkLast_46 0 rfl rfl ?_
        refine g_iast C 7 0 (f := (ps P 4 q vNONE) 7) (N := 64) (ws' := (wG cy g z0 (ps (ps P 4 q vNONE) 7 b (nI q)))) b dX2_unlinkLast_47 rfl rfl (by decide) (rfl) (by omega) (wG_a7 cy g z0 (ps P 4 q vNONE) b (nI q)) ?_
        refine g_aload_n C dX2_unlinkLast_48 1 rfl rfl ?_
        refine g_iload_n C dX2_unlinkLast_49 3 rfl rfl ?_
        refine g_callVV C [0, 1, 2, 3, 4, 5, 6, 7] [] [0, 1, 2, 3, 4, 5, 6, 7] 0 2 (b := g 0) rfl rfl (As := [.int (nI p)]) (rest := []) (wr := ([] : va_W)) (wf := fun _ => (wG cy g z0 (clrP (ps (ps P 4 q vNONE) 7 b (nI q)) p))) dX2_unlinkLast_50 gX2_unlinkLast_X2_clearPage rfl dmX2_clearPage ⟨rfl, rfl, Nat.le_of_ble_eq_true rfl, Nat.le_of_ble_eq_true rfl, Nat.zero_le _, Nat.zero_le _⟩ (c_X2_clearPage l D cy cz g z0 (ps (ps P 4 q vNONE) 7 b (nI q)) p hp) ⟨rfl, rfl, rfl, rfl, by decide, rfl, fun _ => rfl⟩ (Nat.le_of_ble_eq_true rfl) ?_
        rintro - -
        show G x l (rmF 2 72) D 4 0 0 (wG cy g z0 (clrP (ps (ps P 4 q vNONE) 7 b (nI q)) p)) [(3, .int (nI q)), (0, .ref (g 0)), (1, .int (nI b)), (2, .int (nI p))] [] 53
        exact ret () _ _ dX2_unlinkLast_53 trivial

theorem mX2_takeOut_inX3_isPage : Cond.initialized yX3_isPage.cls ∈ wsX2_takeOut := List.mem_of_getElem? (i := 16) rfl
theorem mX2_takeOut_stX3_isPage : Cond.static yX3_isPage ∈ wsX2_takeOut := List.mem_of_getElem? (i := 15) rfl
theorem mX2_takeOut_f9 : Cond.fieldLink RX2 9 (TX2 0).1 (TX2 0).2.1 (TX2 0).2.2.1 ∈ wsX2_takeOut := List.mem_of_getElem? (i := 1) rfl
theorem iX2_takeOut_X2 : ∀ w ∈ wsX20, w ∈ wsX2_takeOut := by decide +kernel
theorem mX2_takeOut_f18 : Cond.fieldLink RX2 18 (TX2 2).1 (TX2 2).2.1 (TX2 2).2.2.1 ∈ wsX2_takeOut := List.mem_of_getElem? (i := 2) rfl
theorem mX2_takeOut_f15 : Cond.fieldLink RX2 15 (TX2 1).1 (TX2 1).2.1 (TX2 1).2.2.1 ∈ wsX2_takeOut := List.mem_of_getElem? (i := 3) rfl
theorem mX2_takeOut_f57 : Cond.fieldLink RX2 57 (TX2 10).1 (TX2 10).2.1 (TX2 10).2.2.1 ∈ wsX2_takeOut := List.mem_of_getElem? (i := 4) rfl
set_option maxHeartbeats 1600000 in
set_option maxRecDepth 20000 in
theorem c_X2_takeOut (l : Launch) (D : va_G) (cy cz : ClassId) (g : Nat → Nat) (z0 : Nat) (P : Mem) (A : AS) (b : Nat) (c : Nat) (hr : RC A P) (hb : b < 64) (hc : c < 512) (hl : A.live b c) : MV l yX2_takeOut wsX2_takeOut (rmF 3 108) D (tyL cy cz) [.ref (g 0), .int (nI b), .int (nI c)] (wG cy g z0 P) (fun (P1 : Mem) => RC (A.del b c) P1 ∧ P1 0 0 = P 0 0 ∧ P1 0 1 = P 0 1 ∧ P1 0 2 = P 0 2 - 1) (fun P1 => (wG cy g z0 P1)) := by
  refine g_entV (cc := cX2_takeOut) (maxL := 5) (own := RX2) (by decide) rfl rfl (Nat.le_of_ble_eq_true rfl) (fun x C ret => ?_)
  show G x l (rmF 3 108) D 5 0 0 (wG cy g z0 P) [(0, .ref (g 0)), (1, .int (nI b)), (2, .int (nI c))] [] 0
  have hq := hr.la hb
  have hz := hr.sz4 hq
  have h1 := hr.1.la1 hb hl
  refine g_aload_n C dX2_takeOut_0 0 rfl rfl ?_
  refine g_iload_n C dX2_takeOut_1 1 rfl rfl ?_
  refine g_callIV C [0, 1, 2, 3, 4, 5, 6, 7] [] [0, 1, 2, 3, 4, 5, 6, 7] 0 2 (b := g 0) rfl rfl (As := [.int (nI b)]) (rest := []) (wr := ([] : va_W)) (wf := fun _ => (wG cy g z0 P)) dX2_takeOut_2 gX2_takeOut_X2_lastPage rfl dmX2_lastPage ⟨rfl, rfl, Nat.le_of_ble_eq_true rfl, Nat.le_of_ble_eq_true rfl, Nat.zero_le _, Nat.zero_le _⟩ (c_X2_lastPage l D cy cz g z0 P b hb) ⟨rfl, rfl, rfl, rfl, by decide, rfl, fun _ => rfl⟩ (Nat.le_of_ble_eq_true rfl) ?_
  rintro _ - rfl
  show G x l (rmF 3 108) D 5 0 0 (wG cy g z0 P) [(0, .ref (g 0)), (1, .int (nI b)), (2, .int (nI c))] [.int (P 7 b)] 5
  refine g_top (b := nI (A.la b)) (hr.last hb) ?_
  refine g_istore_n C (lv' := [(3, .int (nI (A.la b))), (0, .ref (g 0)), (1, .int (nI b)), (2, .int (nI c))]) dX2_takeOut_5 rfl (by decide) rfl ?_
  refine g_iload_n C dX2_takeOut_6 0 rfl rfl ?_
  refine g_callIN C [] [0, 1, 2, 3, 4, 5, 6, 7] [0, 1, 2, 3, 4, 5, 6, 7] (As := [.int (nI (A.la b))]) (rest := []) (wr := (wG cy g z0 P)) (wf := fun _ => (wG cy g z0 P)) dX2_takeOut_7 gX2_takeOut_X3_isPage_n61 rfl dmX3_isPage ⟨rfl, rfl, Nat.le_of_ble_eq_true rfl, Nat.le_of_ble_eq_true rfl, Nat.zero_le _, Nat.zero_le _⟩ rfl mX2_takeOut_inX3_isPage mX2_takeOut_stX3_isPage (c_X3_isPage l D cy cz (nI (A.la b))) ⟨rfl, rfl, rfl, rfl, by decide, rfl, fun _ => rfl⟩ (Nat.le_of_ble_eq_true rfl) ?_
  rintro _ - rfl
  show G x l (rmF 3 108) D 5 0 0 (wG cy g z0 P) [(3, .int (nI (A.la b))), (0, .ref (g 0)), (1, .int (nI b)), (2, .int (nI c))] [.int (inI 128 (nI (A.la b)))] 10
  refine g_top (b := 1) (inI_nI (N := 128) hq (by decide)) ?_
  refine g_if_eq C (tgt := 26) dX2_takeOut_10 (by decide) (fun c1 => ?_) (fun c1 => ?_)
  · skip
    exact absurd c1 (by decide)
  · skip
    refine g_iload_n C dX2_takeOut_13 3 rfl rfl ?_
    refine g_if_lt C (tgt := 26) dX2_takeOut_14 (by decide) (fun c2 => ?_) (fun c2 => ?_)
    · skip
      exact absurd c2 (nI_pos (by omega))
    · skip
      refine g_iload_n C dX2_takeOut_17 3 rfl rfl ?_
      refine g_aload_n C dX2_takeOut_18 1 rfl rfl ?_
      refine g_get C 0 (f := 0) (v := .ref (g 1)) (Cn := RX2) (T := TX2) (N := 11) dX2_takeOut_19 rfl rfl iX2_takeOut_X2 (by decide) mX2_takeOut_f9 rfl ?_
      refine g_alen C 1 0 (f := P 1) (N := 512) dX2_takeOut_22 rfl rfl ?_
      refine g_icmp_lt C (tgt := 27) dX2_takeOut_23 (by decide) (fun c3 => ?_) (fun c3 => ?_)
      · skip
        refine g_iload_n C dX2_takeOut_27 0 rfl rfl ?_
        refine g_iconst C (v := 4) dX2_takeOut_28 (by decide) ?_
        refine g_imul C dX2_takeOut_29 ?_
        refine g_top (b := nI (A.la b * 4)) (pk_mul _ 4) ?_
        refine g_aload_n C dX2_takeOut_30 1 rfl rfl ?_
        refine g_get C 0 (f := 2) (v := .ref (g 3)) (Cn := RX2) (T := TX2) (N := 11) dX2_takeOut_31 rfl rfl iX2_takeOut_X2 (by decide) mX2_takeOut_f18 rfl ?_
        refine g_iload_n C dX2_takeOut_34 0 rfl rfl ?_
        refine g_iald C 3 0 (f := P 3) (N := 128) (A.la b) dX2_takeOut_35 rfl rfl (by decide) (rfl) (hq) ?_
        refine g_top (b := nI (A.sz (A.la b))) (hr.used hq) ?_
        refine g_iadd C dX2_takeOut_36 ?_
        refine g_top (b := nI (A.la b * 4 + A.sz (A.la b))) (nI_add _ _) ?_
        refine g_iconst C (v := 1) dX2_takeOut_37 (by decide) ?_
        refine g_isub C dX2_takeOut_38 ?_
        refine g_top (b := nI (A.la b * 4 + (A.sz (A.la b) - 1))) ((pk_sub (a := A.la b * 4 + A.sz (A.la b)) (b := 1) (by omega)).trans (congrArg nI (by omega))) ?_
        refine g_istore C (lv' := [(4, .int (nI (A.la b * 4 + (A.sz (A.la b) - 1)))), (3, .int (nI (A.la b))), (0, .ref (g 0)), (1, .int (nI b)), (2, .int (nI c))]) dX2_takeOut_39 (by decide) rfl ?_
        refine g_iload C dX2_takeOut_41 0 rfl ?_
        refine g_if_lt C (tgt := 56) dX2_takeOut_43 (by decide) (fun c4 => ?_) (fun c4 => ?_)
        · skip
          exact absurd c4 (nI_pos (by omega))
        · skip
          refine g_iload C dX2_takeOut_46 0 rfl ?_
          refine g_aload_n C dX2_takeOut_48 2 rfl rfl ?_
          refine g_get C 0 (f := 0) (v := .ref (g 1)) (Cn := RX2) (T := TX2) (N := 11) dX2_takeOut_49 rfl rfl iX2_takeOut_X2 (by decide) mX2_takeOut_f9 rfl ?_
          refine g_alen C 1 0 (f := P 1) (N := 512) dX2_takeOut_52 rfl rfl ?_
          refine g_icmp_lt C (tgt := 57) dX2_takeOut_53 (by decide) (fun c5 => ?_) (fun c5 => ?_)
          · skip
            refine g_aload_n C dX2_takeOut_57 2 rfl rfl ?_
            refine g_get C 0 (f := 0) (v := .ref (g 1)) (Cn := RX2) (T := TX2) (N := 11) dX2_takeOut_58 rfl rfl iX2_takeOut_X2 (by decide) mX2_takeOut_f9 rfl ?_
            refine g_iload_n C dX2_takeOut_61 4 rfl rfl ?_
            refine g_aload_n C dX2_takeOut_62 2 rfl rfl ?_
            refine g_get C 0 (f := 0) (v := .ref (g 1)) (Cn := RX2) (T := TX2) (N := 11) dX2_takeOut_63 rfl rfl iX2_takeOut_X2 (by decide) mX2_takeOut_f9 rfl ?_
            refine g_iload C dX2_takeOut_66 0 rfl ?_
            refine g_iald C 1 0 (f := P 1) (N := 512) (A.la b * 4 + (A.sz (A.la b) - 1)) dX2_takeOut_68 rfl rfl (by decide) (rfl) (by omega) ?_
            refine g_iast C 1 0 (f := P 1) (N := 512) (ws' := (wG cy g z0 (ps P 1 c (P 1 (A.la b * 4 + (A.sz (A.la b) - 1)))))) c dX2_takeOut_69 rfl rfl (by decide) (rfl) (hc) (wG_a1 cy g z0 P c (P 1 (A.la b * 4 + (A.sz (A.la b) - 1)))) ?_
            refine g_aload_n C dX2_takeOut_70 2 rfl rfl ?_
            refine g_get C 0 (f := 1) (v := .ref (g 2)) (Cn := RX2) (T := TX2) (N := 11) dX2_takeOut_71 rfl rfl iX2_takeOut_X2 (by decide) mX2_takeOut_f15 rfl ?_
            refine g_iload_n C dX2_takeOut_74 4 rfl rfl ?_
            refine g_aload_n C dX2_takeOut_75 2 rfl rfl ?_
            refine g_get C 0 (f := 1) (v := .ref (g 2)) (Cn := RX2) (T := TX2) (N := 11) dX2_takeOut_76 rfl rfl iX2_takeOut_X2 (by decide) mX2_takeOut_f15 rfl ?_
            refine g_iload C dX2_takeOut_79 0 rfl ?_
            refine g_iald C 2 0 (f := P 2) (N := 512) (A.la b * 4 + (A.sz (A.la b) - 1)) dX2_takeOut_81 rfl rfl (by decide) (rfl) (by omega) ?_
            refine g_iast C 2 0 (f := (ps P 1 c (P 1 (A.la b * 4 + (A.sz (A.la b) - 1)))) 2) (N := 512) (ws' := (wG cy g z0 (ps (ps P 1 c (P 1 (A.la b * 4 + (A.sz (A.la b) - 1)))) 2 c (P 2 (A.la b * 4 + (A.sz (A.la b) - 1)))))) c dX2_takeOut_82 rfl rfl (by decide) (rfl) (hc) (wG_a2 cy g z0 (ps P 1 c (P 1 (A.la b * 4 + (A.sz (A.la b) - 1)))) c (P 2 (A.la b * 4 + (A.sz (A.la b) - 1)))) ?_
            refine g_aload_n C dX2_takeOut_83 2 rfl rfl ?_
            refine g_get C 0 (f := 2) (v := .ref (g 3)) (Cn := RX2) (T := TX2) (N := 11) dX2_takeOut_84 rfl rfl iX2_takeOut_X2 (by decide) mX2_takeOut_f18 rfl ?_
            refine g_iload_n C dX2_takeOut_87 1 rfl rfl ?_
            refine g_dup2 C dX2_takeOut_88 rfl rfl ?_
            refine g_iald C 3 0 (f := P 3) (N := 128) (A.la b) dX2_takeOut_89 rfl rfl (by decide) (rfl) (hq) ?_
            refine g_top (b := nI (A.sz (A.la b))) (hr.used hq) ?_
            refine g_iconst C (v := 1) dX2_takeOut_90 (by decide) ?_
            refine g_isub C dX2_takeOut_91 ?_
            refine g_top (b := nI (A.sz (A.la b) - 1)) (pk_sub (b := 1) h1) ?_
            refine g_iast C 3 0 (f := (ps (ps P 1 c (P 1 (A.la b * 4 + (A.sz (A.la b) - 1)))) 2 c (P 2 (A.la b * 4 + (A.sz (A.la b) - 1)))) 3) (N := 128) (ws' := (wG cy g z0 (ps (ps (ps P 1 c (P 1 (A.la b * 4 + (A.sz (A.la b) - 1)))) 2 c (P 2 (A.la b * 4 + (A.sz (A.la b) - 1)))) 3 (A.la b) (nI (A.sz (A.la b) - 1))))) (A.la b) dX2_takeOut_92 rfl rfl (by decide) (rfl) (hq) (wG_a3 cy g z0 (ps (ps P 1 c (P 1 (A.la b * 4 + (A.sz (A.la b) - 1)))) 2 c (P 2 (A.la b * 4 + (A.sz (A.la b) - 1)))) (A.la b) (nI (A.sz (A.la b) - 1))) ?_
            refine g_aload_n C dX2_takeOut_93 2 rfl rfl ?_
            refine g_dup C dX2_takeOut_94 rfl ?_
            refine g_get C 0 (f := 10) (v := .int (P 0 2)) (Cn := RX2) (T := TX2) (N := 11) dX2_takeOut_95 rfl rfl iX2_takeOut_X2 (by decide) mX2_takeOut_f57 rfl ?_
            refine g_iconst C (v := 1) dX2_takeOut_98 (by decide) ?_
            refine g_isub C dX2_takeOut_99 ?_
            refine g_put C 0 (f := 10) (v := .int ((P 0 2) - 1)) (ty := .int) (Cn := RX2) (T := TX2) (N := 11) (ws' := (wG cy g z0 (ps (ps (ps (ps P 1 c (P 1 (A.la b * 4 + (A.sz (A.la b) - 1)))) 2 c (P 2 (A.la b * 4 + (A.sz (A.la b) - 1)))) 3 (A.la b) (nI (A.sz (A.la b) - 1))) 0 2 ((P 0 2) - 1)))) dX2_takeOut_100 rfl rfl iX2_takeOut_X2 tyX2 tyX2_ok nmX2 (by decide) mX2_takeOut_f57 rfl rfl (rfl) (rfl) (Nat.le_of_ble_eq_true rfl) (wG_s2 cy g z0 (ps (ps (ps P 1 c (P 1 (A.la b * 4 + (A.sz (A.la b) - 1)))) 2 c (P 2 (A.la b * 4 + (A.sz (A.la b) - 1)))) 3 (A.la b) (nI (A.sz (A.la b) - 1))) ((P 0 2) - 1)) ?_
            refine g_aload_n C dX2_takeOut_103 2 rfl rfl ?_
            refine g_get C 0 (f := 2) (v := .ref (g 3)) (Cn := RX2) (T := TX2) (N := 11) dX2_takeOut_104 rfl rfl iX2_takeOut_X2 (by decide) mX2_takeOut_f18 rfl ?_
            refine g_iload_n C dX2_takeOut_107 1 rfl rfl ?_
            refine g_iald C 3 0 (f := upd (P 3) (A.la b) (nI (A.sz (A.la b) - 1))) (N := 128) (A.la b) dX2_takeOut_108 rfl rfl (by decide) (rfl) (hq) ?_
            refine g_top (b := nI (A.sz (A.la b) - 1)) (pk_us) ?_
            refine g_if_ne C (tgt := 124) dX2_takeOut_109 (by decide) (fun c6 => ?_) (fun c6 => ?_)
            · skip
              have hs : ¬ (A.sz (A.la b) - 1 = 0 ∧ 64 ≤ A.la b) := fun w => c6 (by rw [w.1]; rfl)
              exact ret (ps (ps (ps (ps P 1 c (P 1 (A.la b * 4 + (A.sz (A.la b) - 1)))) 2 c (P 2 (A.la b * 4 + (A.sz (A.la b) - 1)))) 3 (A.la b) (nI (A.sz (A.la b) - 1))) 0 2 ((P 0 2) - 1)) _ _ dX2_takeOut_124 (⟨RC_del1 hr hb h1 hs _, rfl, rfl, rfl⟩)
            · skip
              refine g_iload_n C dX2_takeOut_112 1 rfl rfl ?_
              refine g_bipush C (v := 64) dX2_takeOut_113 (by decide) ?_
              refine g_icmp_lt C (tgt := 124) dX2_takeOut_115 (by decide) (fun c7 => ?_) (fun c7 => ?_)
              · skip
                have hs : ¬ (A.sz (A.la b) - 1 = 0 ∧ 64 ≤ A.la b) := fun w => absurd ((nI_ltI (b := 64) (by omega) (by decide)).mp c7) (by omega)
                exact ret (ps (ps (ps (ps P 1 c (P 1 (A.la b * 4 + (A.sz (A.la b) - 1)))) 2 c (P 2 (A.la b * 4 + (A.sz (A.la b) - 1)))) 3 (A.la b) (nI (A.sz (A.la b) - 1))) 0 2 ((P 0 2) - 1)) _ _ dX2_takeOut_124 (⟨RC_del1 hr hb h1 hs _, rfl, rfl, rfl⟩)
              · skip
                have h64 : 64 ≤ A.la b := Nat.le_of_not_lt (fun w => c7 (nI_lt w (by decide)))
                have hs : A.sz (A.la b) - 1 = 0 ∧ 64 ≤ A.la b := ⟨(nI_eq (b := 0) (by omega) (by decide)).mp c6, h64⟩
                have ha := hr.ahead hb h64
                refine g_aload_n C dX2_takeOut_118 2 rfl rfl ?_
                refine g_iload_n C dX2_takeOut_119 3 rfl rfl ?_
                refine g_iload_n C dX2_takeOut_120 1 rfl rfl ?_
                refine g_callVV C [0, 1, 2, 3, 4, 5, 6, 7] [] [0, 1, 2, 3, 4, 5, 6, 7] 0 2 (b := g 0) rfl rfl (As := [.int (nI b), .int (nI (A.la b))]) (rest := []) (wr := ([] : va_W)) (wf := fun _ => (wG cy g z0 (clrP (ps (ps (ps (ps (ps (ps P 1 c (P 1 (A.la b * 4 + (A.sz (A.la b) - 1)))) 2 c (P 2 (A.la b * 4 + (A.sz (A.la b) - 1)))) 3 (A.la b) (nI (A.sz (A.la b) - 1))) 0 2 ((P 0 2) - 1)) 4 (lst b (A.tl b).dropLast) vNONE) 7 b (nI (lst b (A.tl b).dropLast))) (A.la b)))) dX2_takeOut_121 gX2_takeOut_X2_unlinkLast rfl dmX2_unlinkLast ⟨rfl, rfl, Nat.le_of_ble_eq_true rfl, Nat.le_of_ble_eq_true rfl, Nat.zero_le _, Nat.zero_le _⟩ (c_X2_unlinkLast l D cy cz g z0 (ps (ps (ps (ps P 1 c (P 1 (A.la b * 4 + (A.sz (A.la b) - 1)))) 2 c (P 2 (A.la b * 4 + (A.sz (A.la b) - 1)))) 3 (A.la b) (nI (A.sz (A.la b) - 1))) 0 2 ((P 0 2) - 1)) b (A.la b) (lst b (A.tl b).dropLast) hb hq ha.2 ha.1) ⟨rfl, rfl, rfl, rfl, by decide, rfl, fun _ => rfl⟩ (Nat.le_of_ble_eq_true rfl) ?_
                rintro - -
                show G x l (rmF 3 108) D 5 0 0 (wG cy g z0 (clrP (ps (ps (ps (ps (ps (ps P 1 c (P 1 (A.la b * 4 + (A.sz (A.la b) - 1)))) 2 c (P 2 (A.la b * 4 + (A.sz (A.la b) - 1)))) 3 (A.la b) (nI (A.sz (A.la b) - 1))) 0 2 ((P 0 2) - 1)) 4 (lst b (A.tl b).dropLast) vNONE) 7 b (nI (lst b (A.tl b).dropLast))) (A.la b))) [(4, .int (nI (A.la b * 4 + (A.sz (A.la b) - 1)))), (3, .int (nI (A.la b))), (0, .ref (g 0)), (1, .int (nI b)), (2, .int (nI c))] [] 124
                exact ret (clrP (ps (ps (ps (ps (ps (ps P 1 c (P 1 (A.la b * 4 + (A.sz (A.la b) - 1)))) 2 c (P 2 (A.la b * 4 + (A.sz (A.la b) - 1)))) 3 (A.la b) (nI (A.sz (A.la b) - 1))) 0 2 ((P 0 2) - 1)) 4 (lst b (A.tl b).dropLast) vNONE) 7 b (nI (lst b (A.tl b).dropLast))) (A.la b)) _ _ dX2_takeOut_124 (⟨RC_del2 hr hb h1 hs _, rfl, rfl, rfl⟩)
          · skip
            exact absurd (nI_lt (a := A.la b * 4 + (A.sz (A.la b) - 1)) (b := 512) (by omega) (by decide)) (c5)
      · skip
        exact absurd (nI_lt (a := c) (b := 512) hc (by decide)) (c3)
end
section
/-! emptying a chain; entries that stand aside -/
def AS.clr (A : AS) (b : Nat) : AS := (fun p => if p ∈ A.ch b then 0 else A.sz p, va_up A.tl b [], A.ks, A.vs, fun p => if p ∈ A.tl b then true else A.fr p, A.L, A.S)
abbrev EL : Type := List (Int32 × Int32)
def AS.hp (A : AS) (q n : Nat) : EL := (List.range n).map (fun i => (A.ks (q * 4 + i), A.vs (q * 4 + i)))
def AS.heldL (A : AS) : List Nat → EL
  | [] => []
  | q :: l => A.hp q (A.sz q) ++ A.heldL l
def AS.held (A : AS) (b : Nat) : EL := A.heldL (A.ch b)
theorem hp_len (A : AS) (q n : Nat) : (A.hp q n).length = n := by simp [AS.hp]
theorem hp_succ (A : AS) (q n : Nat) : A.hp q (n + 1) = A.hp q n ++ [(A.ks (q * 4 + n), A.vs (q * 4 + n))] := by simp [AS.hp, List.range_succ]
theorem heldL_app (A : AS) : ∀ (l m : List Nat), A.heldL (l ++ m) = A.heldL l ++ A.heldL m
  | [], _ => rfl
  | q :: l, m => by
    show A.hp q (A.sz q) ++ A.heldL (l ++ m) = A.hp q (A.sz q) ++ A.heldL l ++ A.heldL m
    rw [heldL_app A l m, List.append_assoc]
theorem heldL_len (A : AS) : ∀ (l : List Nat), (A.heldL l).length = sumL A.sz l
  | [] => rfl
  | q :: l => by
    show (A.hp q (A.sz q) ++ A.heldL l).length = A.sz q + sumL A.sz l
    rw [List.length_append, hp_len, heldL_len A l]
theorem sumL_app (f : Nat → Nat) : ∀ (l m : List Nat), sumL f (l ++ m) = sumL f l + sumL f m
  | [], m => (Nat.zero_add _).symm
  | q :: l, m => by
    show f q + sumL f (l ++ m) = f q + sumL f l + sumL f m
    rw [sumL_app f l m, Nat.add_assoc]
/-- Aside holds this list -/
def RZ (Z : Mem) (h : EL) : Prop := Z 0 0 = nI h.length ∧ h.length ≤ 264 ∧ ∀ i, i < h.length → Z 1 i = (h.getD i (0, 0)).1 ∧ Z 2 i = (h.getD i (0, 0)).2
theorem RZ_push {Z : Mem} {h : EL} (hz : RZ Z h) (hl : h.length < 264) (k v : Int32) : RZ (ps (ps (ps Z 1 h.length k) 2 h.length v) 0 0 (nI (h.length + 1))) (h ++ [(k, v)]) := by
  have hlen : (h ++ [(k, v)]).length = h.length + 1 := by simp
  refine ⟨by rw [hlen]; rfl, by omega, fun i hi => ?_⟩
  show upd (Z 1) h.length k i = _ ∧ upd (Z 2) h.length v i = _
  rw [hlen] at hi
  by_cases e : i = h.length
  · subst e
    rw [pk_us, pk_us]; simp
  · rw [pk_un e, pk_un e]
    have hi2 : i < h.length := by omega
    have := hz.2.2 i hi2
    rw [List.getD_eq_getElem?_getD, List.getElem?_append_left hi2, ← List.getD_eq_getElem?_getD]
    exact this
theorem RZ_nil {Z : Mem} : RZ (ps Z 0 0 0) [] := ⟨rfl, by simp, fun i hi => by simp at hi⟩
/-- some pages are cleared, nothing else is changed but the count of entries -/
def CLR (P : Mem) (dn : List Nat) (P1 : Mem) : Prop :=
  (∀ p, P1 3 p = if p ∈ dn then 0 else P 3 p) ∧ (∀ p, P1 4 p = if p ∈ dn then vNONE else P 4 p) ∧ (∀ p, P1 5 p = if p ∈ dn then vNONE else P 5 p) ∧ (∀ p, P1 6 p = if p ∈ dn then vNONE else P 6 p) ∧ P1 1 = P 1 ∧ P1 2 = P 2 ∧ P1 7 = P 7 ∧ P1 0 0 = P 0 0 ∧ P1 0 1 = P 0 1
theorem CLR_nil (P : Mem) : CLR P [] P := ⟨fun _ => by simp, fun _ => by simp, fun _ => by simp, fun _ => by simp, rfl, rfl, rfl, rfl, rfl⟩
theorem upd_dn {f g : Nat → Int32} {dn : List Nat} {q : Nat} {x : Int32} (h : ∀ p, g p = if p ∈ dn then x else f p) (p : Nat) : upd g q x p = if p ∈ dn ++ [q] then x else f p := by
  by_cases e : p = q
  · subst e; rw [pk_us, if_pos (by simp)]
  · rw [pk_un e, h p]
    by_cases e2 : p ∈ dn
    · rw [if_pos e2, if_pos (List.mem_append_left _ e2)]
    · rw [if_neg e2, if_neg (fun w => (List.mem_append.mp w).elim e2 (fun w => e (List.mem_singleton.mp w)))]
theorem CLR_step {P P1 : Mem} {dn : List Nat} {q : Nat} {E : Int32} (h : CLR P dn P1) : CLR P (dn ++ [q]) (clrP (ps P1 0 2 E) q) := by
  obtain ⟨h3, h4, h5, h6, h1, h2, h7, h8, h9⟩ := h
  exact ⟨upd_dn h3, upd_dn h4, upd_dn h5, upd_dn h6, h1, h2, h7, h8, h9⟩
theorem RC_clr {A : AS} {P P1 : Mem} {b : Nat} (hr : RC A P) (hb : b < 64) (hc : CLR P (A.ch b) P1) : RC (A.clr b) (ps P1 7 b (nI b)) := by
  obtain ⟨h, p1, p2, p3, p4, p5, p6, p7, p8⟩ := hr
  obtain ⟨h3, h4, h5, h6, h1, h2, h7, -, -⟩ := hc
  have hout : ∀ c, c < 64 → ¬ c = b → ∀ p, p ∈ A.ch c → ¬ p ∈ A.ch b := fun c hc hcb p hp w => hcb (h.one hc hb hp w)
  have htl : ∀ c p, p ∈ va_up A.tl b [] c → ¬ c = b ∧ p ∈ A.tl c := by
    intro c p hp
    by_cases e : c = b
    · subst e; rw [up_s] at hp; cases hp
    · rw [up_n e] at hp; exact ⟨e, hp⟩
  have hsz : ∀ p, ¬ p ∈ A.ch b → (A.clr b).sz p = A.sz p := fun p hp => if_neg hp
  have hsz0 : ∀ p, p ∈ A.ch b → (A.clr b).sz p = 0 := fun p hp => if_pos hp
  have hfr : ∀ p, ¬ p ∈ A.ch b → (A.clr b).fr p = A.fr p := fun p hp => if_neg (fun w => hp (List.mem_cons_of_mem _ w))
  refine ⟨⟨fun c hc p hp => ?_, fun c hc => ?_, fun c d hc hd p g1 g2 => h.2.2.1 c d hc hd p (htl c p g1).2 (htl d p g2).2, fun p g1 g2 g3 => ?_, fun p hp => ?_, fun p g1 g2 g3 => ?_, fun c hc => ?_⟩, fun p hp => ?_, fun c hc => ?_, fun p g1 g2 g3 => ?_, fun c hc => ?_, fun c hc p hp => ?_, fun p g1 g2 g3 => ?_, fun c hc => ?_, fun p hp i hi => ?_⟩
  · obtain ⟨e, hp⟩ := htl c p hp
    have := hout c hc e p (List.mem_cons_of_mem _ hp)
    rw [hfr p this, hsz p this]; exact h.1 c hc p hp
  · show (va_up A.tl b [] c).Nodup
    by_cases e : c = b
    · subst e; rw [up_s]; exact List.nodup_nil
    · rw [up_n e]; exact h.2.1 c hc
  · have g3 : (if p ∈ A.tl b then true else A.fr p) = false := g3
    have e : ¬ p ∈ A.tl b := fun w => by rw [if_pos w] at g3; cases g3
    rw [if_neg e] at g3
    obtain ⟨c, hc, hp⟩ := h.2.2.2.1 p g1 g2 g3
    refine ⟨c, hc, ?_⟩
    show p ∈ va_up A.tl b [] c
    rw [up_n (fun w => e (by rw [← w]; exact hp))]; exact hp
  · by_cases e : p ∈ A.ch b
    · rw [hsz0 p e]; decide
    · rw [hsz p e]; exact h.sz4 hp
  · by_cases e : p ∈ A.ch b
    · exact hsz0 p e
    · rw [hfr p e] at g3; rw [hsz p e]; exact h.2.2.2.2.2.1 p g1 g2 g3
  · show flB (A.clr b).sz c (va_up A.tl b [] c)
    by_cases e : c = b
    · subst e; rw [up_s]; trivial
    · rw [up_n e]
      exact flB_congr (f := A.sz) (h.nodup hc) (fun p hp hl => hsz p (hout c hc e p hp)) (h.2.2.2.2.2.2 c hc)
  · show P1 3 p = nI ((A.clr b).sz p)
    rw [h3 p]
    by_cases e : p ∈ A.ch b
    · rw [if_pos e, hsz0 p e]; rfl
    · rw [if_neg e, hsz p e]; exact p1 p hp
  · show isCh (P1 4) (c :: va_up A.tl b [] c)
    by_cases e : c = b
    · subst e; rw [up_s]
      exact ⟨by omega, by rw [h4 c, if_pos (show c ∈ A.ch c from List.mem_cons_self)]; rfl, trivial⟩
    · rw [up_n e]
      exact isCh_congr (f := P 4) (fun p hp => by rw [h4 p, if_neg (hout c hc e p hp)]) (p2 c hc)
  · show P1 4 p = vNONE
    rw [h4 p]
    by_cases e : p ∈ A.ch b
    · rw [if_pos e]
    · rw [if_neg e]; rw [hfr p e] at g3; exact p3 p g1 g2 g3
  · show isAh (P1 5) c (va_up A.tl b [] c)
    by_cases e : c = b
    · subst e; rw [up_s]; trivial
    · rw [up_n e]
      exact isAh_congr (f := P 5) (fun p hp => by rw [h5 p, if_neg (hout c hc e p (List.mem_cons_of_mem _ hp))]) (p4 c hc)
  · obtain ⟨e, hp⟩ := htl c p hp
    show P1 6 p = nI c
    rw [h6 p, if_neg (hout c hc e p (List.mem_cons_of_mem _ hp))]; exact p5 c hc p hp
  · show P1 6 p = vNONE
    rw [h6 p]
    by_cases e : p ∈ A.ch b
    · rw [if_pos e]
    · rw [if_neg e]; rw [hfr p e] at g3; exact p6 p g1 g2 g3
  · show upd (P1 7) b (nI b) c = nI (lst c (va_up A.tl b [] c))
    by_cases e : c = b
    · subst e; rw [up_s, pk_us]; rfl
    · rw [up_n e, pk_un e, h7]; exact p7 c hc
  · have e : ¬ p ∈ A.ch b := fun e => by rw [hsz0 p e] at hi; exact absurd hi (Nat.not_lt_zero _)
    rw [hsz p e] at hi
    show P1 1 (p * 4 + i) = A.ks (p * 4 + i) ∧ P1 2 (p * 4 + i) = A.vs (p * 4 + i)
    rw [h1, h2]; exact p8 p hp i hi
/-- pages of a chain but the last are full -/
theorem flB_sum {f : Nat → Nat} : ∀ {b : Nat} {l : List Nat}, flB f b l → sumL f (b :: l) = l.length * 4 + f (lst b l)
  | b, [], _ => by show f b + 0 = 0 * 4 + f b; omega
  | b, q :: l, h => by
    have := flB_sum h.2
    show f b + sumL f (q :: l) = (l.length + 1) * 4 + f (lst q l)
    rw [this, h.1]; omega
def AS.cnt (A : AS) (b : Nat) : Nat := (A.tl b).length * 4 + A.sz (A.la b)
theorem WFc.sum {A : AS} (h : WFc A) {b : Nat} (hb : b < 64) : sumL A.sz (A.ch b) = A.cnt b := flB_sum (h.2.2.2.2.2.2 b hb)
theorem isCh_suf {f : Nat → Int32} : ∀ {l m : List Nat}, isCh f (l ++ m) → isCh f m
  | [], _, h => h
  | _ :: l, _, h => isCh_suf (l := l) h.2.2
def AS.need (A : AS) (s t : Nat) : Nat := (((A.tl s).length + (A.tl t).length) * 4 + A.sz (A.la s) + A.sz (A.la t) + 3) / 4 - 1
abbrev AS.can (A : AS) (s t : Nat) : Prop := A.need s t ≤ A.fc + ((A.tl s).length + (A.tl t).length)
theorem sub_nI (x : Int32) (a b : Nat) : x - nI a - nI b = x - nI (a + b) := by
  rw [← nI_add, Int32.sub_eq_add_neg, Int32.sub_eq_add_neg, Int32.sub_eq_add_neg, Int32.neg_add, Int32.sub_eq_add_neg, Int32.add_assoc]
theorem frcF_le {fr : Nat → Bool} : ∀ (n p : Nat), frcF fr n p ≤ n
  | 0, _ => Nat.le_refl _
  | n + 1, p => by
    have := frcF_le (fr := fr) n (p + 1)
    show (if fr p = true then 1 else 0) + frcF fr n (p + 1) ≤ n + 1
    split <;> omega
theorem mx0 {n : Nat} (h : n < 2 ^ 31) : (if (0 : Int32) < nI n - 1 then nI n - 1 else 0) = nI (n - 1) := by
  cases n with
  | zero => decide
  | succ m =>
    rw [nI_pred]
    cases m with
    | zero => decide
    | succ m => rw [if_pos (show (0 : Int32) < nI (m + 1) from nI_lt (a := 0) (by omega) (by omega))]; rfl
end
section
/-! made by wip/whole/gen.py and m1.py -/
theorem mX0_push_f18 : Cond.fieldLink RX0 18 (TX0 2).1 (TX0 2).2.1 (TX0 2).2.2.1 ∈ wsX0_push := List.mem_of_getElem? (i := 1) rfl
theorem iX0_push_X0 : ∀ w ∈ wsX00, w ∈ wsX0_push := by decide +kernel
theorem mX0_push_f9 : Cond.fieldLink RX0 9 (TX0 0).1 (TX0 0).2.1 (TX0 0).2.2.1 ∈ wsX0_push := List.mem_of_getElem? (i := 2) rfl
theorem mX0_push_f15 : Cond.fieldLink RX0 15 (TX0 1).1 (TX0 1).2.1 (TX0 1).2.2.1 ∈ wsX0_push := List.mem_of_getElem? (i := 3) rfl
set_option maxHeartbeats 1600000 in
set_option maxRecDepth 20000 in
theorem c_X0_push (l : Launch) (D : va_G) (cy cz : ClassId) (z : Nat → Nat) (Z : Mem) (h : EL) (k : Int32) (v : Int32) (hz : RZ Z h) (hl : h.length < 264) : MV l yX0_push wsX0_push (rmF 0 0) D (tyL cy cz) [.ref (z 0), .int k, .int v] (wZ cy z Z) (fun (Z1 : Mem) => RZ Z1 (h ++ [(k, v)])) (fun Z1 => (wZ cy z Z1)) := by
  refine g_entV (cc := cX0_push) (maxL := 3) (own := RX0) (by decide) rfl rfl (Nat.le_of_ble_eq_true rfl) (fun x C ret => ?_)
  show G x l (rmF 0 0) D 3 0 0 (wZ cy z Z) [(0, .ref (z 0)), (1, .int k), (2, .int v)] [] 0
  refine g_aload_n C dX0_push_0 0 rfl rfl ?_
  refine g_get C 0 (f := 2) (v := .int (Z 0 0)) (Cn := RX0) (T := TX0) (N := 3) dX0_push_1 rfl rfl iX0_push_X0 (by decide) mX0_push_f18 rfl ?_
  refine g_top (b := nI h.length) (hz.1) ?_
  refine g_if_lt C (tgt := 47) dX0_push_4 (by decide) (fun c1 => ?_) (fun c1 => ?_)
  · skip
    exact absurd c1 (nI_pos (by omega))
  · skip
    refine g_aload_n C dX0_push_7 0 rfl rfl ?_
    refine g_get C 0 (f := 2) (v := .int (Z 0 0)) (Cn := RX0) (T := TX0) (N := 3) dX0_push_8 rfl rfl iX0_push_X0 (by decide) mX0_push_f18 rfl ?_
    refine g_top (b := nI h.length) (hz.1) ?_
    refine g_sipush C (v := 264) dX0_push_11 (by decide) ?_
    refine g_icmp_ge C (tgt := 47) dX0_push_14 (by decide) (fun c2 => ?_) (fun c2 => ?_)
    · skip
      exact absurd c2 (nI_ge hl (by decide))
    · skip
      refine g_aload_n C dX0_push_17 0 rfl rfl ?_
      refine g_get C 0 (f := 0) (v := .ref (z 1)) (Cn := RX0) (T := TX0) (N := 3) dX0_push_18 rfl rfl iX0_push_X0 (by decide) mX0_push_f9 rfl ?_
      refine g_aload_n C dX0_push_21 0 rfl rfl ?_
      refine g_get C 0 (f := 2) (v := .int (Z 0 0)) (Cn := RX0) (T := TX0) (N := 3) dX0_push_22 rfl rfl iX0_push_X0 (by decide) mX0_push_f18 rfl ?_
      refine g_top (b := nI h.length) (hz.1) ?_
      refine g_iload_n C dX0_push_25 1 rfl rfl ?_
      refine g_iast C 1 0 (f := Z 1) (N := 264) (ws' := (wZ cy z (ps Z 1 h.length k))) h.length dX0_push_26 rfl rfl (by decide) (rfl) (hl) (wZ_a1 cy z Z h.length k) ?_
      refine g_aload_n C dX0_push_27 0 rfl rfl ?_
      refine g_get C 0 (f := 1) (v := .ref (z 2)) (Cn := RX0) (T := TX0) (N := 3) dX0_push_28 rfl rfl iX0_push_X0 (by decide) mX0_push_f15 rfl ?_
      refine g_aload_n C dX0_push_31 0 rfl rfl ?_
      refine g_get C 0 (f := 2) (v := .int (Z 0 0)) (Cn := RX0) (T := TX0) (N := 3) dX0_push_32 rfl rfl iX0_push_X0 (by decide) mX0_push_f18 rfl ?_
      refine g_top (b := nI h.length) (hz.1) ?_
      refine g_iload_n C dX0_push_35 2 rfl rfl ?_
      refine g_iast C 2 0 (f := (ps Z 1 h.length k) 2) (N := 264) (ws' := (wZ cy z (ps (ps Z 1 h.length k) 2 h.length v))) h.length dX0_push_36 rfl rfl (by decide) (rfl) (hl) (wZ_a2 cy z (ps Z 1 h.length k) h.length v) ?_
      refine g_aload_n C dX0_push_37 0 rfl rfl ?_
      refine g_dup C dX0_push_38 rfl ?_
      refine g_get C 0 (f := 2) (v := .int (Z 0 0)) (Cn := RX0) (T := TX0) (N := 3) dX0_push_39 rfl rfl iX0_push_X0 (by decide) mX0_push_f18 rfl ?_
      refine g_top (b := nI h.length) (hz.1) ?_
      refine g_iconst C (v := 1) dX0_push_42 (by decide) ?_
      refine g_iadd C dX0_push_43 ?_
      refine g_top (b := nI (h.length + 1)) (nI_1 _) ?_
      refine g_put C 0 (f := 2) (v := .int (nI (h.length + 1))) (ty := .int) (Cn := RX0) (T := TX0) (N := 3) (ws' := (wZ cy z (ps (ps (ps Z 1 h.length k) 2 h.length v) 0 0 (nI (h.length + 1))))) dX0_push_44 rfl rfl iX0_push_X0 tyX0 tyX0_ok nmX0 (by decide) mX0_push_f18 rfl rfl (rfl) (rfl) (Nat.le_of_ble_eq_true rfl) (wZ_s0 cy z (ps (ps Z 1 h.length k) 2 h.length v) (nI (h.length + 1))) ?_
      exact ret (ps (ps (ps Z 1 h.length k) 2 h.length v) 0 0 (nI (h.length + 1))) _ _ dX0_push_47 (RZ_push hz hl k v)

theorem mX2_setAside_f30 : Cond.fieldLink RX2 30 (TX2 6).1 (TX2 6).2.1 (TX2 6).2.2.1 ∈ wsX2_setAside := List.mem_of_getElem? (i := 7) rfl
theorem iX2_setAside_X2 : ∀ w ∈ wsX20, w ∈ wsX2_setAside := by decide +kernel
theorem mX2_setAside_inX3_isPage : Cond.initialized yX3_isPage.cls ∈ wsX2_setAside := List.mem_of_getElem? (i := 13) rfl
theorem mX2_setAside_stX3_isPage : Cond.static yX3_isPage ∈ wsX2_setAside := List.mem_of_getElem? (i := 12) rfl
theorem mX2_setAside_f57 : Cond.fieldLink RX2 57 (TX2 10).1 (TX2 10).2.1 (TX2 10).2.2.1 ∈ wsX2_setAside := List.mem_of_getElem? (i := 5) rfl
theorem mX2_setAside_f18 : Cond.fieldLink RX2 18 (TX2 2).1 (TX2 2).2.1 (TX2 2).2.2.1 ∈ wsX2_setAside := List.mem_of_getElem? (i := 1) rfl
theorem mX2_setAside_f21 : Cond.fieldLink RX2 21 (TX2 3).1 (TX2 3).2.1 (TX2 3).2.2.1 ∈ wsX2_setAside := List.mem_of_getElem? (i := 6) rfl
theorem mX2_setAside_f33 : Cond.fieldLink RX2 33 (TX2 7).1 (TX2 7).2.1 (TX2 7).2.2.1 ∈ wsX2_setAside := List.mem_of_getElem? (i := 2) rfl
theorem mX2_setAside_f9 : Cond.fieldLink RX2 9 (TX2 0).1 (TX2 0).2.1 (TX2 0).2.2.1 ∈ wsX2_setAside := List.mem_of_getElem? (i := 3) rfl
theorem mX2_setAside_f15 : Cond.fieldLink RX2 15 (TX2 1).1 (TX2 1).2.1 (TX2 1).2.2.1 ∈ wsX2_setAside := List.mem_of_getElem? (i := 4) rfl
set_option maxHeartbeats 1600000 in
set_option maxRecDepth 20000 in
theorem c_X2_setAside (l : Launch) (D : va_G) (cy cz : ClassId) (g : Nat → Nat) (z : Nat → Nat) (P : Mem) (Z : Mem) (A : AS) (h : EL) (b : Nat) (hr : RC A P) (hz : RZ Z h) (hb : b < 64) (hlen : h.length + sumL A.sz (A.ch b) ≤ 264) : MV l yX2_setAside wsX2_setAside (rmF 2 72) D (tyL cy cz) [.ref (g 0), .int (nI b)] (wG cy g (z 0) P ++ (wZ cy z Z)) (fun (u : Mem × Mem) => RC (A.clr b) u.1 ∧ u.1 0 0 = P 0 0 ∧ u.1 0 1 = P 0 1 ∧ u.1 0 2 = P 0 2 - nI (sumL A.sz (A.ch b)) ∧ RZ u.2 (h ++ A.held b)) (fun u => (wG cy g (z 0) u.1 ++ (wZ cy z u.2))) := by
  refine g_entV (cc := cX2_setAside) (maxL := 5) (own := RX2) (by decide) rfl rfl (Nat.le_of_ble_eq_true rfl) (fun x C ret => ?_)
  show G x l (rmF 2 72) D 5 0 0 (wG cy g (z 0) P ++ (wZ cy z Z)) [(0, .ref (g 0)), (1, .int (nI b))] [] 0
  refine g_iload_n C dX2_setAside_0 1 rfl rfl ?_
  refine g_callIS C [] [0, 1, 2, 3, 4, 5, 6, 7, 8, 9, 10] [0, 1, 2, 3, 4, 5, 6, 7, 8, 9, 10] (As := [.int (nI b)]) (rest := []) (wr := (wG cy g (z 0) P ++ (wZ cy z Z))) (wf := fun _ => (wG cy g (z 0) P ++ (wZ cy z Z))) dX2_setAside_1 gX2_setAside_X2_isBucketPlace rfl dmX2_isBucketPlace ⟨rfl, rfl, Nat.le_of_ble_eq_true rfl, Nat.le_of_ble_eq_true rfl, Nat.zero_le _, Nat.zero_le _⟩ (c_X2_isBucketPlace l D cy cz (nI b)) ⟨rfl, rfl, rfl, rfl, by decide, rfl, fun _ => rfl⟩ (Nat.le_of_ble_eq_true rfl) ?_
  rintro _ - rfl
  show G x l (rmF 2 72) D 5 0 0 (wG cy g (z 0) P ++ (wZ cy z Z)) [(0, .ref (g 0)), (1, .int (nI b))] [.int (inI 64 (nI b))] 4
  refine g_top (b := 1) (inI_nI (N := 64) hb (by decide)) ?_
  refine g_if_ne C (tgt := 8) dX2_setAside_4 (by decide) (fun c0 => ?_) (fun c0 => ?_)
  · skip
    refine g_iload_n C dX2_setAside_8 1 rfl rfl ?_
    refine g_istore_n C (lv' := [(2, .int (nI b)), (0, .ref (g 0)), (1, .int (nI b))]) dX2_setAside_9 rfl (by decide) rfl ?_
    refine g_iconst C (v := 0) dX2_setAside_10 (by decide) ?_
    refine g_istore_n C (lv' := [(3, .int 0), (2, .int (nI b)), (0, .ref (g 0)), (1, .int (nI b))]) dX2_setAside_11 rfl (by decide) rfl ?_
    refine g_lv (lv' := [(2, .int (nI b)), (3, .int 0), (0, .ref (g 0)), (1, .int (nI b))]) [1, 0, 2, 3] rfl ?_
    refine g_loop (σ := List Nat × List Nat × Mem × Mem) (fun (a : List Nat × List Nat × Mem × Mem) => match a with | (dn, r, P1, Z1) => (wG cy g (z 0) P1 ++ (wZ cy z Z1))) (fun (a : List Nat × List Nat × Mem × Mem) => match a with | (dn, r, P1, Z1) => [(2, .int (hdI r)), (3, .int (nI dn.length)), (0, .ref (g 0)), (1, .int (nI b))]) (fun (a : List Nat × List Nat × Mem × Mem) => match a with | (dn, r, P1, Z1) => (A.ch b = dn ++ r) ∧ (CLR P dn P1) ∧ (P1 0 2 = P 0 2 - nI (sumL A.sz dn)) ∧ (RZ Z1 (h ++ A.heldL dn)) ∧ (isCh (P 4) r)) (fun (a : List Nat × List Nat × Mem × Mem) => match a with | (dn, r, P1, Z1) => r.length) ?_ ([], A.ch b, P, Z) (⟨rfl, CLR_nil P, (Int32.sub_zero _).symm, by rw [show A.heldL [] = [] from rfl, List.append_nil]; exact hz, hr.chain hb⟩)
    intro a hI ih
    obtain ⟨dn, r, P1, Z1⟩ := a
    obtain ⟨i1, i2, i3, i4, i5⟩ : (A.ch b = dn ++ r) ∧ (CLR P dn P1) ∧ (P1 0 2 = P 0 2 - nI (sumL A.sz dn)) ∧ (RZ Z1 (h ++ A.heldL dn)) ∧ (isCh (P 4) r) := hI
    show G x l (rmF 2 72) D 5 0 0 (wG cy g (z 0) P1 ++ (wZ cy z Z1)) [(2, .int (hdI r)), (3, .int (nI dn.length)), (0, .ref (g 0)), (1, .int (nI b))] [] 12
    have hlt : dn.length + r.length ≤ 65 := by have := hr.len hb; rw [i1, List.length_append] at this; exact this
    have hnd := hr.1.nodup hb
    rcases r with _ | ⟨q, r⟩
    · skip
      rw [List.append_nil] at i1
      show G x l (rmF 2 72) D 5 0 0 (wG cy g (z 0) P1 ++ (wZ cy z Z1)) [(2, .int vNONE), (3, .int (nI dn.length)), (0, .ref (g 0)), (1, .int (nI b))] [] 12
      refine g_iload_n C dX2_setAside_12 1 rfl rfl ?_
      refine g_sipush C (v := 128) dX2_setAside_13 (by decide) ?_
      refine g_icmp_ge C (tgt := 118) dX2_setAside_16 (by decide) (fun c1 => ?_) (fun c1 => ?_)
      · skip
        refine g_aload_n C dX2_setAside_118 2 rfl rfl ?_
        refine g_get C 0 (f := 6) (v := .ref (g 7)) (Cn := RX2) (T := TX2) (N := 11) dX2_setAside_119 rfl rfl iX2_setAside_X2 (by decide) mX2_setAside_f30 rfl ?_
        refine g_iload_n C dX2_setAside_122 3 rfl rfl ?_
        refine g_iload_n C dX2_setAside_123 3 rfl rfl ?_
        refine g_iast C 7 0 (f := P1 7) (N := 64) (ws' := (wG cy g (z 0) (ps P1 7 b (nI b)) ++ (wZ cy z Z1))) b dX2_setAside_124 rfl rfl (by decide) (rfl) (by omega) (set_l (Nat.le_of_ble_eq_true rfl) (wG_a7 cy g (z 0) P1 b (nI b))) ?_
        exact ret ((ps P1 7 b (nI b)), Z1) _ _ dX2_setAside_125 (⟨RC_clr hr hb (by rw [i1]; exact i2), i2.2.2.2.2.2.2.2.1, i2.2.2.2.2.2.2.2.2, by rw [i1]; exact i3, by unfold AS.held; rw [i1]; exact i4⟩)
      · skip
        refine g_iload_n C dX2_setAside_19 0 rfl rfl ?_
        refine g_callIN C [] [0, 1, 2, 3, 4, 5, 6, 7, 8, 9, 10] [0, 1, 2, 3, 4, 5, 6, 7, 8, 9, 10] (As := [.int vNONE]) (rest := []) (wr := (wG cy g (z 0) P1 ++ (wZ cy z Z1))) (wf := fun _ => (wG cy g (z 0) P1 ++ (wZ cy z Z1))) dX2_setAside_20 gX2_setAside_X3_isPage_n61 rfl dmX3_isPage ⟨rfl, rfl, Nat.le_of_ble_eq_true rfl, Nat.le_of_ble_eq_true rfl, Nat.zero_le _, Nat.zero_le _⟩ rfl mX2_setAside_inX3_isPage mX2_setAside_stX3_isPage (c_X3_isPage l D cy cz vNONE) ⟨rfl, rfl, rfl, rfl, by decide, rfl, fun _ => rfl⟩ (Nat.le_of_ble_eq_true rfl) ?_
        rintro _ - rfl
        show G x l (rmF 2 72) D 5 0 0 (wG cy g (z 0) P1 ++ (wZ cy z Z1)) [(2, .int vNONE), (3, .int (nI dn.length)), (0, .ref (g 0)), (1, .int (nI b))] [.int (inI 128 vNONE)] 23
        refine g_top (b := 0) (inI_NONE _) ?_
        refine g_if_eq C (tgt := 118) dX2_setAside_23 (by decide) (fun c1 => ?_) (fun c1 => ?_)
        · skip
          refine g_aload_n C dX2_setAside_118 2 rfl rfl ?_
          refine g_get C 0 (f := 6) (v := .ref (g 7)) (Cn := RX2) (T := TX2) (N := 11) dX2_setAside_119 rfl rfl iX2_setAside_X2 (by decide) mX2_setAside_f30 rfl ?_
          refine g_iload_n C dX2_setAside_122 3 rfl rfl ?_
          refine g_iload_n C dX2_setAside_123 3 rfl rfl ?_
          refine g_iast C 7 0 (f := P1 7) (N := 64) (ws' := (wG cy g (z 0) (ps P1 7 b (nI b)) ++ (wZ cy z Z1))) b dX2_setAside_124 rfl rfl (by decide) (rfl) (by omega) (set_l (Nat.le_of_ble_eq_true rfl) (wG_a7 cy g (z 0) P1 b (nI b))) ?_
          exact ret ((ps P1 7 b (nI b)), Z1) _ _ dX2_setAside_125 (⟨RC_clr hr hb (by rw [i1]; exact i2), i2.2.2.2.2.2.2.2.1, i2.2.2.2.2.2.2.2.2, by rw [i1]; exact i3, by unfold AS.held; rw [i1]; exact i4⟩)
        · skip
          exact absurd rfl (c1)
    · skip
      obtain ⟨hq, hn, i5⟩ := i5
      have hlt : dn.length + (r.length + 1) ≤ 65 := hlt
      rw [i1] at hnd
      have hqd : ¬ q ∈ dn := fun w => (List.nodup_append.mp hnd).2.2 q w q List.mem_cons_self rfl
      have hz4 := hr.sz4 hq
      have hsum : sumL A.sz (A.ch b) = sumL A.sz dn + (A.sz q + sumL A.sz r) := by rw [i1, sumL_app]; rfl
      have hu : P1 3 q = nI (A.sz q) := by rw [i2.1 q, if_neg hqd]; exact hr.used hq
      have hbh : P1 4 q = hdI r := by rw [i2.2.1 q, if_neg hqd]; exact hn
      obtain ⟨-, -, -, -, e1, e2, -⟩ := id i2
      show G x l (rmF 2 72) D 5 0 0 (wG cy g (z 0) P1 ++ (wZ cy z Z1)) [(2, .int (nI q)), (3, .int (nI dn.length)), (0, .ref (g 0)), (1, .int (nI b))] [] 12
      refine g_iload_n C dX2_setAside_12 1 rfl rfl ?_
      refine g_sipush C (v := 128) dX2_setAside_13 (by decide) ?_
      refine g_icmp_ge C (tgt := 118) dX2_setAside_16 (by decide) (fun c2 => ?_) (fun c2 => ?_)
      · skip
        exact absurd c2 (nI_ge (a := dn.length) (b := 128) (by omega) (by decide))
      · skip
        refine g_iload_n C dX2_setAside_19 0 rfl rfl ?_
        refine g_callIN C [] [0, 1, 2, 3, 4, 5, 6, 7, 8, 9, 10] [0, 1, 2, 3, 4, 5, 6, 7, 8, 9, 10] (As := [.int (nI q)]) (rest := []) (wr := (wG cy g (z 0) P1 ++ (wZ cy z Z1))) (wf := fun _ => (wG cy g (z 0) P1 ++ (wZ cy z Z1))) dX2_setAside_20 gX2_setAside_X3_isPage_n61 rfl dmX3_isPage ⟨rfl, rfl, Nat.le_of_ble_eq_true rfl, Nat.le_of_ble_eq_true rfl, Nat.zero_le _, Nat.zero_le _⟩ rfl mX2_setAside_inX3_isPage mX2_setAside_stX3_isPage (c_X3_isPage l D cy cz (nI q)) ⟨rfl, rfl, rfl, rfl, by decide, rfl, fun _ => rfl⟩ (Nat.le_of_ble_eq_true rfl) ?_
        rintro _ - rfl
        show G x l (rmF 2 72) D 5 0 0 (wG cy g (z 0) P1 ++ (wZ cy z Z1)) [(2, .int (nI q)), (3, .int (nI dn.length)), (0, .ref (g 0)), (1, .int (nI b))] [.int (inI 128 (nI q))] 23
        refine g_top (b := 1) (inI_nI (N := 128) hq (by decide)) ?_
        refine g_if_eq C (tgt := 118) dX2_setAside_23 (by decide) (fun c1 => ?_) (fun c1 => ?_)
        · skip
          exact absurd c1 (by decide)
        · skip
          refine g_iconst C (v := 0) dX2_setAside_26 (by decide) ?_
          refine g_istore C (lv' := [(4, .int 0), (2, .int (nI q)), (3, .int (nI dn.length)), (0, .ref (g 0)), (1, .int (nI b))]) dX2_setAside_27 (by decide) rfl ?_
          refine g_loop (σ := Nat × Mem) (fun (a : Nat × Mem) => match a with | (i, Z2) => (wG cy g (z 0) P1 ++ (wZ cy z Z2))) (fun (a : Nat × Mem) => match a with | (i, Z2) => [(4, .int (nI i)), (2, .int (nI q)), (3, .int (nI dn.length)), (0, .ref (g 0)), (1, .int (nI b))]) (fun (a : Nat × Mem) => match a with | (i, Z2) => (i ≤ A.sz q) ∧ (RZ Z2 (h ++ A.heldL dn ++ A.hp q i))) (fun (a : Nat × Mem) => match a with | (i, Z2) => A.sz q - i) ?_ (0, Z1) (⟨Nat.zero_le _, by rw [show A.hp q 0 = [] from rfl, List.append_nil]; exact i4⟩)
          intro a hI ih2
          obtain ⟨i, Z2⟩ := a
          obtain ⟨k1, k2⟩ : (i ≤ A.sz q) ∧ (RZ Z2 (h ++ A.heldL dn ++ A.hp q i)) := hI
          show G x l (rmF 2 72) D 5 0 0 (wG cy g (z 0) P1 ++ (wZ cy z Z2)) [(4, .int (nI i)), (2, .int (nI q)), (3, .int (nI dn.length)), (0, .ref (g 0)), (1, .int (nI b))] [] 29
          refine g_iload C dX2_setAside_29 0 rfl ?_
          refine g_iconst C (v := 4) dX2_setAside_31 (by decide) ?_
          refine g_icmp_ge C (tgt := 81) dX2_setAside_32 (by decide) (fun c3 => ?_) (fun c3 => ?_)
          · skip
            have h3 : 4 ≤ i := (nI_leI (a := 4) (b := i) (by decide) (by omega)).mp c3
            have k3 : RZ Z2 (h ++ A.heldL (dn ++ [q])) := by rw [show i = A.sz q by omega] at k2; rw [heldL_app, show A.heldL [q] = A.hp q (A.sz q) ++ [] from rfl, List.append_nil, ← List.append_assoc]; exact k2
            refine g_aload_n C dX2_setAside_81 3 rfl rfl ?_
            refine g_dup C dX2_setAside_82 rfl ?_
            refine g_get C 0 (f := 10) (v := .int (P1 0 2)) (Cn := RX2) (T := TX2) (N := 11) dX2_setAside_83 rfl rfl iX2_setAside_X2 (by decide) mX2_setAside_f57 rfl ?_
            refine g_top (b := P 0 2 - nI (sumL A.sz dn)) (i3) ?_
            refine g_aload_n C dX2_setAside_86 3 rfl rfl ?_
            refine g_get C 0 (f := 2) (v := .ref (g 3)) (Cn := RX2) (T := TX2) (N := 11) dX2_setAside_87 rfl rfl iX2_setAside_X2 (by decide) mX2_setAside_f18 rfl ?_
            refine g_iload_n C dX2_setAside_90 1 rfl rfl ?_
            refine g_iald C 3 0 (f := P1 3) (N := 128) q dX2_setAside_91 rfl rfl (by decide) (rfl) (by omega) ?_
            refine g_top (b := nI (A.sz q)) (hu) ?_
            refine g_isub C dX2_setAside_92 ?_
            refine g_top (b := P 0 2 - nI (sumL A.sz (dn ++ [q]))) (by rw [sub_nI, sumL_app]; rfl) ?_
            refine g_put C 0 (f := 10) (v := .int (P 0 2 - nI (sumL A.sz (dn ++ [q])))) (ty := .int) (Cn := RX2) (T := TX2) (N := 11) (ws' := (wG cy g (z 0) (ps P1 0 2 (P 0 2 - nI (sumL A.sz (dn ++ [q])))) ++ (wZ cy z Z2))) dX2_setAside_93 rfl rfl iX2_setAside_X2 tyX2 tyX2_ok nmX2 (by decide) mX2_setAside_f57 rfl rfl (rfl) (rfl) (Nat.le_of_ble_eq_true rfl) (set_l (Nat.le_of_ble_eq_true rfl) (wG_s2 cy g (z 0) P1 (P 0 2 - nI (sumL A.sz (dn ++ [q]))))) ?_
            refine g_aload_n C dX2_setAside_96 3 rfl rfl ?_
            refine g_get C 0 (f := 3) (v := .ref (g 4)) (Cn := RX2) (T := TX2) (N := 11) dX2_setAside_97 rfl rfl iX2_setAside_X2 (by decide) mX2_setAside_f21 rfl ?_
            refine g_iload_n C dX2_setAside_100 1 rfl rfl ?_
            refine g_iald C 4 0 (f := P1 4) (N := 128) q dX2_setAside_101 rfl rfl (by decide) (rfl) (by omega) ?_
            refine g_top (b := hdI r) (hbh) ?_
            refine g_istore C (lv' := [(4, .int (hdI r)), (2, .int (nI q)), (3, .int (nI dn.length)), (0, .ref (g 0)), (1, .int (nI b))]) dX2_setAside_102 (by decide) rfl ?_
            refine g_aload_n C dX2_setAside_104 3 rfl rfl ?_
            refine g_iload_n C dX2_setAside_105 1 rfl rfl ?_
            refine g_callVV C [0, 1, 2, 3, 4, 5, 6, 7] [8, 9, 10] [3, 4, 5, 6, 7, 8, 9, 10, 0, 1, 2] 0 2 (b := g 0) rfl rfl (As := [.int (nI q)]) (rest := []) (wr := (wZ cy z Z2)) (wf := fun _ => (wG cy g (z 0) (clrP (ps P1 0 2 (P 0 2 - nI (sumL A.sz (dn ++ [q])))) q) ++ (wZ cy z Z2))) dX2_setAside_106 gX2_setAside_X2_clearPage rfl dmX2_clearPage ⟨rfl, rfl, Nat.le_of_ble_eq_true rfl, Nat.le_of_ble_eq_true rfl, Nat.zero_le _, Nat.zero_le _⟩ (c_X2_clearPage l D cy cz g (z 0) (ps P1 0 2 (P 0 2 - nI (sumL A.sz (dn ++ [q])))) q hq) ⟨rfl, rfl, rfl, rfl, by decide, rfl, fun _ => rfl⟩ (Nat.le_of_ble_eq_true rfl) ?_
            rintro - -
            show G x l (rmF 2 72) D 5 0 0 (wG cy g (z 0) (clrP (ps P1 0 2 (P 0 2 - nI (sumL A.sz (dn ++ [q])))) q) ++ (wZ cy z Z2)) [(4, .int (hdI r)), (2, .int (nI q)), (3, .int (nI dn.length)), (0, .ref (g 0)), (1, .int (nI b))] [] 109
            refine g_iload C dX2_setAside_109 0 rfl ?_
            refine g_istore_n C (lv' := [(2, .int (hdI r)), (4, .int (hdI r)), (3, .int (nI dn.length)), (0, .ref (g 0)), (1, .int (nI b))]) dX2_setAside_111 rfl (by decide) rfl ?_
            refine g_iinc C (q := 2) (v := nI (dn ++ [q]).length) (lv' := [(3, .int (nI (dn ++ [q]).length)), (2, .int (hdI r)), (4, .int (hdI r)), (0, .ref (g 0)), (1, .int (nI b))]) dX2_setAside_112 rfl (by rw [List.length_append]; exact nI_1 _) (by decide) rfl ?_
            refine g_goto C (tgt := 12) dX2_setAside_115 (by decide) ?_
            refine g_lv (lv' := [(2, .int (hdI r)), (3, .int (nI (dn ++ [q]).length)), (0, .ref (g 0)), (1, .int (nI b))]) [1, 0, 3, 4] rfl ?_
            exact ih (dn ++ [q], r, clrP (ps P1 0 2 (P 0 2 - nI (sumL A.sz (dn ++ [q])))) q, Z2) ⟨by rw [i1, List.append_assoc]; rfl, CLR_step i2, rfl, k3, i5⟩ (Nat.lt_succ_self _)
          · skip
            refine g_iload C dX2_setAside_35 0 rfl ?_
            refine g_aload_n C dX2_setAside_37 3 rfl rfl ?_
            refine g_get C 0 (f := 2) (v := .ref (g 3)) (Cn := RX2) (T := TX2) (N := 11) dX2_setAside_38 rfl rfl iX2_setAside_X2 (by decide) mX2_setAside_f18 rfl ?_
            refine g_iload_n C dX2_setAside_41 1 rfl rfl ?_
            refine g_iald C 3 0 (f := P1 3) (N := 128) q dX2_setAside_42 rfl rfl (by decide) (rfl) (by omega) ?_
            refine g_top (b := nI (A.sz q)) (hu) ?_
            refine g_icmp_ge C (tgt := 81) dX2_setAside_43 (by decide) (fun c4 => ?_) (fun c4 => ?_)
            · skip
              have h3 : A.sz q ≤ i := (nI_leI (by omega) (by omega)).mp c4
              have k3 : RZ Z2 (h ++ A.heldL (dn ++ [q])) := by rw [show i = A.sz q by omega] at k2; rw [heldL_app, show A.heldL [q] = A.hp q (A.sz q) ++ [] from rfl, List.append_nil, ← List.append_assoc]; exact k2
              refine g_aload_n C dX2_setAside_81 3 rfl rfl ?_
              refine g_dup C dX2_setAside_82 rfl ?_
              refine g_get C 0 (f := 10) (v := .int (P1 0 2)) (Cn := RX2) (T := TX2) (N := 11) dX2_setAside_83 rfl rfl iX2_setAside_X2 (by decide) mX2_setAside_f57 rfl ?_
              refine g_top (b := P 0 2 - nI (sumL A.sz dn)) (i3) ?_
              refine g_aload_n C dX2_setAside_86 3 rfl rfl ?_
              refine g_get C 0 (f := 2) (v := .ref (g 3)) (Cn := RX2) (T := TX2) (N := 11) dX2_setAside_87 rfl rfl iX2_setAside_X2 (by decide) mX2_setAside_f18 rfl ?_
              refine g_iload_n C dX2_setAside_90 1 rfl rfl ?_
              refine g_iald C 3 0 (f := P1 3) (N := 128) q dX2_setAside_91 rfl rfl (by decide) (rfl) (by omega) ?_
              refine g_top (b := nI (A.sz q)) (hu) ?_
              refine g_isub C dX2_setAside_92 ?_
              refine g_top (b := P 0 2 - nI (sumL A.sz (dn ++ [q]))) (by rw [sub_nI, sumL_app]; rfl) ?_
              refine g_put C 0 (f := 10) (v := .int (P 0 2 - nI (sumL A.sz (dn ++ [q])))) (ty := .int) (Cn := RX2) (T := TX2) (N := 11) (ws' := (wG cy g (z 0) (ps P1 0 2 (P 0 2 - nI (sumL A.sz (dn ++ [q])))) ++ (wZ cy z Z2))) dX2_setAside_93 rfl rfl iX2_setAside_X2 tyX2 tyX2_ok nmX2 (by decide) mX2_setAside_f57 rfl rfl (rfl) (rfl) (Nat.le_of_ble_eq_true rfl) (set_l (Nat.le_of_ble_eq_true rfl) (wG_s2 cy g (z 0) P1 (P 0 2 - nI (sumL A.sz (dn ++ [q]))))) ?_
              refine g_aload_n C dX2_setAside_96 3 rfl rfl ?_
              refine g_get C 0 (f := 3) (v := .ref (g 4)) (Cn := RX2) (T := TX2) (N := 11) dX2_setAside_97 rfl rfl iX2_setAside_X2 (by decide) mX2_setAside_f21 rfl ?_
              refine g_iload_n C dX2_setAside_100 1 rfl rfl ?_
              refine g_iald C 4 0 (f := P1 4) (N := 128) q dX2_setAside_101 rfl rfl (by decide) (rfl) (by omega) ?_
              refine g_top (b := hdI r) (hbh) ?_
              refine g_istore C (lv' := [(4, .int (hdI r)), (2, .int (nI q)), (3, .int (nI dn.length)), (0, .ref (g 0)), (1, .int (nI b))]) dX2_setAside_102 (by decide) rfl ?_
              refine g_aload_n C dX2_setAside_104 3 rfl rfl ?_
              refine g_iload_n C dX2_setAside_105 1 rfl rfl ?_
              refine g_callVV C [0, 1, 2, 3, 4, 5, 6, 7] [8, 9, 10] [3, 4, 5, 6, 7, 8, 9, 10, 0, 1, 2] 0 2 (b := g 0) rfl rfl (As := [.int (nI q)]) (rest := []) (wr := (wZ cy z Z2)) (wf := fun _ => (wG cy g (z 0) (clrP (ps P1 0 2 (P 0 2 - nI (sumL A.sz (dn ++ [q])))) q) ++ (wZ cy z Z2))) dX2_setAside_106 gX2_setAside_X2_clearPage rfl dmX2_clearPage ⟨rfl, rfl, Nat.le_of_ble_eq_true rfl, Nat.le_of_ble_eq_true rfl, Nat.zero_le _, Nat.zero_le _⟩ (c_X2_clearPage l D cy cz g (z 0) (ps P1 0 2 (P 0 2 - nI (sumL A.sz (dn ++ [q])))) q hq) ⟨rfl, rfl, rfl, rfl, by decide, rfl, fun _ => rfl⟩ (Nat.le_of_ble_eq_true rfl) ?_
              rintro - -
              show G x l (rmF 2 72) D 5 0 0 (wG cy g (z 0) (clrP (ps P1 0 2 (P 0 2 - nI (sumL A.sz (dn ++ [q])))) q) ++ (wZ cy z Z2)) [(4, .int (hdI r)), (2, .int (nI q)), (3, .int (nI dn.length)), (0, .ref (g 0)), (1, .int (nI b))] [] 109
              refine g_iload C dX2_setAside_109 0 rfl ?_
              refine g_istore_n C (lv' := [(2, .int (hdI r)), (4, .int (hdI r)), (3, .int (nI dn.length)), (0, .ref (g 0)), (1, .int (nI b))]) dX2_setAside_111 rfl (by decide) rfl ?_
              refine g_iinc C (q := 2) (v := nI (dn ++ [q]).length) (lv' := [(3, .int (nI (dn ++ [q]).length)), (2, .int (hdI r)), (4, .int (hdI r)), (0, .ref (g 0)), (1, .int (nI b))]) dX2_setAside_112 rfl (by rw [List.length_append]; exact nI_1 _) (by decide) rfl ?_
              refine g_goto C (tgt := 12) dX2_setAside_115 (by decide) ?_
              refine g_lv (lv' := [(2, .int (hdI r)), (3, .int (nI (dn ++ [q]).length)), (0, .ref (g 0)), (1, .int (nI b))]) [1, 0, 3, 4] rfl ?_
              exact ih (dn ++ [q], r, clrP (ps P1 0 2 (P 0 2 - nI (sumL A.sz (dn ++ [q])))) q, Z2) ⟨by rw [i1, List.append_assoc]; rfl, CLR_step i2, rfl, k3, i5⟩ (Nat.lt_succ_self _)
            · skip
              have h3 : i < A.sz q := Nat.lt_of_not_le (fun w => c4 (nI_le w (by omega)))
              refine g_aload_n C dX2_setAside_46 3 rfl rfl ?_
              refine g_get C 0 (f := 7) (v := .ref (z 0)) (Cn := RX2) (T := TX2) (N := 11) dX2_setAside_47 rfl rfl iX2_setAside_X2 (by decide) mX2_setAside_f33 rfl ?_
              refine g_aload_n C dX2_setAside_50 3 rfl rfl ?_
              refine g_get C 0 (f := 0) (v := .ref (g 1)) (Cn := RX2) (T := TX2) (N := 11) dX2_setAside_51 rfl rfl iX2_setAside_X2 (by decide) mX2_setAside_f9 rfl ?_
              refine g_iload_n C dX2_setAside_54 1 rfl rfl ?_
              refine g_iconst C (v := 4) dX2_setAside_55 (by decide) ?_
              refine g_imul C dX2_setAside_56 ?_
              refine g_top (b := nI (q * 4)) (pk_mul q 4) ?_
              refine g_iload C dX2_setAside_57 0 rfl ?_
              refine g_iadd C dX2_setAside_59 ?_
              refine g_top (b := nI (q * 4 + i)) (nI_add _ _) ?_
              refine g_iald C 1 0 (f := P1 1) (N := 512) (q * 4 + i) dX2_setAside_60 rfl rfl (by decide) (rfl) (by omega) ?_
              refine g_top (b := A.ks (q * 4 + i)) (by rw [e1]; exact hr.key hq h3) ?_
              refine g_aload_n C dX2_setAside_61 3 rfl rfl ?_
              refine g_get C 0 (f := 1) (v := .ref (g 2)) (Cn := RX2) (T := TX2) (N := 11) dX2_setAside_62 rfl rfl iX2_setAside_X2 (by decide) mX2_setAside_f15 rfl ?_
              refine g_iload_n C dX2_setAside_65 1 rfl rfl ?_
              refine g_iconst C (v := 4) dX2_setAside_66 (by decide) ?_
              refine g_imul C dX2_setAside_67 ?_
              refine g_top (b := nI (q * 4)) (pk_mul q 4) ?_
              refine g_iload C dX2_setAside_68 0 rfl ?_
              refine g_iadd C dX2_setAside_70 ?_
              refine g_top (b := nI (q * 4 + i)) (nI_add _ _) ?_
              refine g_iald C 2 0 (f := P1 2) (N := 512) (q * 4 + i) dX2_setAside_71 rfl rfl (by decide) (rfl) (by omega) ?_
              refine g_top (b := A.vs (q * 4 + i)) (by rw [e2]; exact hr.val hq h3) ?_
              refine g_callVV C [8, 9, 10] [0, 1, 2, 3, 4, 5, 6, 7] [0, 1, 2, 3, 4, 5, 6, 7, 8, 9, 10] 0 0 (b := z 0) rfl rfl (As := [.int (A.ks (q * 4 + i)), .int (A.vs (q * 4 + i))]) (rest := []) (wr := (wG cy g (z 0) P1)) (wf := fun Z3 => (wG cy g (z 0) P1 ++ (wZ cy z Z3))) dX2_setAside_72 gX2_setAside_X0_push rfl dmX0_push ⟨rfl, rfl, Nat.le_of_ble_eq_true rfl, Nat.le_of_ble_eq_true rfl, Nat.zero_le _, Nat.zero_le _⟩ (c_X0_push l D cy cz z Z2 (h ++ A.heldL dn ++ A.hp q i) (A.ks (q * 4 + i)) (A.vs (q * 4 + i)) k2 (by rw [List.length_append, List.length_append, heldL_len, hp_len]; omega)) ⟨rfl, rfl, rfl, rfl, by decide, rfl, fun _ => rfl⟩ (Nat.le_of_ble_eq_true rfl) ?_
              intro Z3 hp3
              show G x l (rmF 2 72) D 5 0 0 (wG cy g (z 0) P1 ++ (wZ cy z Z3)) [(4, .int (nI i)), (2, .int (nI q)), (3, .int (nI dn.length)), (0, .ref (g 0)), (1, .int (nI b))] [] 75
              refine g_iinc C (q := 0) (v := nI (i + 1)) (lv' := [(4, .int (nI (i + 1))), (2, .int (nI q)), (3, .int (nI dn.length)), (0, .ref (g 0)), (1, .int (nI b))]) dX2_setAside_75 rfl (nI_1 i) (by decide) rfl ?_
              refine g_goto C (tgt := 29) dX2_setAside_78 (by decide) ?_
              exact ih2 (i + 1, Z3) ⟨by omega, by rw [hp_succ, ← List.append_assoc]; exact hp3⟩ (by show A.sz q - (i + 1) < A.sz q - i; omega)
  · skip
    exact absurd c0 (by decide)
end
section
/-! growing and shrinking, abstractly -/
def AS.setLS (A : AS) (L S : Nat) : AS := (A.sz, A.tl, A.ks, A.vs, A.fr, L, S)
def AS.lay (A : AS) (h : EL) : AS := h.foldl (fun B kv => B.add (B.ad kv.1) kv.1 kv.2) A
def AS.layTo (A : AS) (b : Nat) (h : EL) : AS := h.foldl (fun B kv => B.add b kv.1 kv.2) A
def nxL (L S : Nat) : Nat := if S + 1 = 4 * 2 ^ L then L + 1 else L
def nxS (L S : Nat) : Nat := if S + 1 = 4 * 2 ^ L then 0 else S + 1
def pvL (L S : Nat) : Nat := if S = 0 then L - 1 else L
def pvS (L S : Nat) : Nat := if S = 0 then 4 * 2 ^ (L - 1) - 1 else S - 1
def AS.grow (A : AS) : AS := ((A.clr A.S).setLS (nxL A.L A.S) (nxS A.L A.S)).lay (A.held A.S)
/-- the bucket that goes -/
def AS.go (A : AS) : Nat := A.nb - 1
def AS.st (A : AS) : Nat := pvS A.L A.S
def AS.shrink (A : AS) : AS :=
  if A.can A.st A.go then (((A.clr A.st).clr A.go).setLS (pvL A.L A.S) (pvS A.L A.S)).lay (A.held A.st ++ A.held A.go) else A
theorem p2 (L : Nat) : 2 ^ (L + 2) = 4 * 2 ^ L := by rw [Nat.pow_add]; omega
theorem p3 (L : Nat) : 2 ^ (L + 3) = 2 * (4 * 2 ^ L) := by rw [Nat.pow_succ, p2]; omega
theorem mod2 (n m : Nat) (h : 0 < m) : n % (2 * m) = n % m ∨ n % (2 * m) = n % m + m := by
  have h1 : n % (m * 2) = n % m + m * (n / m % 2) := Nat.mod_mul
  have h2 : n / m % 2 < 2 := Nat.mod_lt _ (by decide)
  rw [Nat.mul_comm 2 m, h1]
  rcases (show n / m % 2 = 0 ∨ n / m % 2 = 1 by omega) with e | e <;> rw [e] <;> omega
theorem mod2m (n m : Nat) : n % (2 * m) % m = n % m := by rw [Nat.mul_comm 2 m]; exact Nat.mod_mul_right_mod n m 2
theorem adr_next {L S : Nat} (hS : S < 4 * 2 ^ L) (key : Int32) : (¬ adr L S key = S → adr (nxL L S) (nxS L S) key = adr L S key) ∧ (adr L S key = S → adr (nxL L S) (nxS L S) key = S ∨ adr (nxL L S) (nxS L S) key = S + 4 * 2 ^ L) := by
  have hpos : 0 < 4 * 2 ^ L := by omega
  have ha : hN key % 2 ^ (L + 2) < 4 * 2 ^ L := by rw [p2]; exact Nat.mod_lt _ hpos
  have h3 := mod2 (hN key) (4 * 2 ^ L) hpos
  have h4 := mod2m (hN key) (4 * 2 ^ L)
  have e0 : adr L S key = if hN key % (4 * 2 ^ L) < S then hN key % (2 * (4 * 2 ^ L)) else hN key % (4 * 2 ^ L) := by unfold adr; rw [p2, p3]
  rw [p2] at ha
  rw [e0]
  by_cases e : S + 1 = 4 * 2 ^ L
  · have e1 : adr (nxL L S) (nxS L S) key = hN key % (2 * (4 * 2 ^ L)) := by
      unfold adr nxL nxS
      rw [if_pos e, if_pos e, if_neg (Nat.not_lt_zero _), show 2 ^ (L + 1 + 2) = 2 * (4 * 2 ^ L) from p3 L]
    rw [e1]
    generalize hN key % (2 * (4 * 2 ^ L)) = c at *
    generalize hN key % (4 * 2 ^ L) = a at *
    constructor
    · intro h
      by_cases h5 : a < S
      · rw [if_pos h5]
      · rw [if_neg h5] at h; omega
    · intro h
      by_cases h5 : a < S
      · rw [if_pos h5] at h; exact Or.inl h
      · rw [if_neg h5] at h
        rcases h3 with h3 | h3
        · exact Or.inl (by omega)
        · exact Or.inr (by omega)
  · have e1 : adr (nxL L S) (nxS L S) key = if hN key % (4 * 2 ^ L) < S + 1 then hN key % (2 * (4 * 2 ^ L)) else hN key % (4 * 2 ^ L) := by
      unfold adr nxL nxS
      rw [if_neg e, if_neg e, p2, p3]
    rw [e1]
    generalize hN key % (2 * (4 * 2 ^ L)) = c at *
    generalize hN key % (4 * 2 ^ L) = a at *
    constructor
    · intro h
      by_cases h5 : a < S
      · rw [if_pos h5, if_pos (by omega)]
      · rw [if_neg h5] at h ⊢
        rw [if_neg (by omega)]
    · intro h
      by_cases h5 : a < S
      · rw [if_pos h5] at h
        rw [if_pos (by omega)]
        exact Or.inl h
      · rw [if_neg h5] at h
        rw [if_pos (by omega)]
        rcases h3 with h3 | h3
        · exact Or.inl (by omega)
        · exact Or.inr (by omega)
theorem nb_next (L S : Nat) : nbN (nxL L S) (nxS L S) = nbN L S + 1 := by
  unfold nbN nxL nxS
  by_cases e : S + 1 = 4 * 2 ^ L
  · rw [if_pos e, if_pos e, Nat.pow_succ]; omega
  · rw [if_neg e, if_neg e]; omega
theorem nx_ok {L S : Nat} (h4 : L ≤ 4) (hS : S < 4 * 2 ^ L) (hn : nbN L S < 64) : nxL L S ≤ 4 ∧ nxS L S < 4 * 2 ^ nxL L S := by
  unfold nbN at hn
  unfold nxL nxS
  rcases L5 h4 with rfl | rfl | rfl | rfl | rfl <;> (split <;> (refine ⟨by omega, ?_⟩ <;> omega))
theorem pv_ok {L S : Nat} (h4 : L ≤ 4) (hS : S < 4 * 2 ^ L) (hn : 4 < nbN L S) : pvL L S ≤ 4 ∧ pvS L S < 4 * 2 ^ pvL L S ∧ nxL (pvL L S) (pvS L S) = L ∧ nxS (pvL L S) (pvS L S) = S ∧ nbN (pvL L S) (pvS L S) + 1 = nbN L S ∧ pvS L S + 4 * 2 ^ pvL L S + 1 = nbN L S := by
  unfold nbN at *
  unfold pvL pvS nxL nxS
  by_cases e : S = 0
  · subst e
    rcases L5 h4 with rfl | rfl | rfl | rfl | rfl
    · omega
    all_goals decide
  · rw [if_neg e, if_neg e, if_neg (by omega), if_neg (by omega)]
    exact ⟨h4, by omega, rfl, by omega, by omega, by omega⟩
/-! what adding does to the count of free pages -/
theorem frcF_up {fr : Nat → Bool} {r : Nat} {x : Bool} : ∀ (n p : Nat), ¬ (p ≤ r ∧ r < p + n) → frcF (va_up fr r x) n p = frcF fr n p
  | 0, _, _ => rfl
  | n + 1, p, h => by
    show (if va_up fr r x p = true then 1 else 0) + frcF (va_up fr r x) n (p + 1) = (if fr p = true then 1 else 0) + frcF fr n (p + 1)
    rw [up_n (by omega), frcF_up n (p + 1) (by omega)]
theorem frcF_take {fr : Nat → Bool} {r : Nat} : ∀ (n p : Nat), p ≤ r → r < p + n → fr r = true → frcF (va_up fr r false) n p + 1 = frcF fr n p
  | 0, _, _, _, _ => by omega
  | n + 1, p, h1, h2, h3 => by
    show (if va_up fr r false p = true then 1 else 0) + frcF (va_up fr r false) n (p + 1) + 1 = (if fr p = true then 1 else 0) + frcF fr n (p + 1)
    by_cases e : p = r
    · subst e
      rw [up_s, frcF_up n (p + 1) (by omega), if_pos h3, if_neg (by simp)]; omega
    · rw [up_n (fun w => e w), Nat.add_assoc, frcF_take n (p + 1) (by omega) (by omega) h3]
theorem frcF_pos {fr : Nat → Bool} : ∀ (n p : Nat), 0 < frcF fr n p → ¬ lfrF fr n p = none
  | 0, _, h => absurd h (Nat.lt_irrefl _)
  | n + 1, p, h => by
    have h : 0 < (if fr p = true then 1 else 0) + frcF fr n (p + 1) := h
    show ¬ (if fr p = true then some p else lfrF fr n (p + 1)) = none
    by_cases e : fr p = true
    · rw [if_pos e]; simp
    · rw [if_neg e] at h ⊢; exact frcF_pos n (p + 1) (by omega)
theorem frcF_zero {fr : Nat → Bool} : ∀ (n p : Nat), frcF fr n p = 0 → lfrF fr n p = none
  | 0, _, _ => rfl
  | n + 1, p, h => by
    have h : (if fr p = true then 1 else 0) + frcF fr n (p + 1) = 0 := h
    show (if fr p = true then some p else lfrF fr n (p + 1)) = none
    by_cases e : fr p = true
    · rw [if_pos e] at h; omega
    · rw [if_neg e] at h ⊢; exact frcF_zero n (p + 1) (by omega)
/-- one more entry at a bucket with room -/
def AS.rm (A : AS) (b : Nat) : Prop := A.sz (A.la b) < 4 ∨ ¬ A.lf = none
theorem rm_some {A : AS} {b : Nat} (h : A.rm b) (hs : ¬ A.sz (A.la b) < 4) : ∃ r, A.lf = some r := by
  cases e : A.lf with
  | none => exact absurd e (h.resolve_left hs)
  | some r => exact ⟨r, rfl⟩
theorem WFc_add {A : AS} {b : Nat} (h : WFc A) (hb : b < 64) (hr : A.rm b) (k v : Int32) : WFc (A.add b k v) := by
  by_cases hs : A.sz (A.la b) < 4
  · exact WFc_add1 h hb hs k v
  · obtain ⟨r, hf⟩ := rm_some hr hs
    exact WFc_add2 h hb hs hf k v
theorem add_LS (A : AS) (b : Nat) (k v : Int32) : (A.add b k v).L = A.L ∧ (A.add b k v).S = A.S := by
  unfold AS.add
  split
  · exact ⟨rfl, rfl⟩
  · split <;> exact ⟨rfl, rfl⟩
theorem add_cnt {A : AS} {b : Nat} (h : WFc A) (hb : b < 64) (hr : A.rm b) (k v : Int32) : (A.add b k v).cnt b = A.cnt b + 1 ∧ (A.add b k v).fc + ((A.add b k v).tl b).length = A.fc + (A.tl b).length ∧ ∀ c, c < 64 → ¬ c = b → (A.add b k v).cnt c = A.cnt c ∧ (A.add b k v).tl c = A.tl c := by
  by_cases hs : A.sz (A.la b) < 4
  · have e : A.add b k v = (va_up A.sz (A.la b) (A.sz (A.la b) + 1), A.tl, va_up A.ks (A.la b * 4 + A.sz (A.la b)) k, va_up A.vs (A.la b * 4 + A.sz (A.la b)) v, A.fr, A.L, A.S) := by unfold AS.add; rw [if_pos hs]
    rw [e]
    refine ⟨?_, rfl, fun c hc hcb => ⟨?_, rfl⟩⟩
    · show (A.tl b).length * 4 + va_up A.sz (A.la b) (A.sz (A.la b) + 1) (A.la b) = A.cnt b + 1
      rw [up_s]; rfl
    · show (A.tl c).length * 4 + va_up A.sz (A.la b) (A.sz (A.la b) + 1) (A.la c) = A.cnt c
      rw [up_n (fun w => hcb (h.one hc hb (lst_in _ _) (show lst c (A.tl c) ∈ A.ch b from by show A.la c ∈ A.ch b; rw [w]; exact lst_in _ _)))]; rfl
  · obtain ⟨r, hf⟩ := rm_some hr hs
    obtain ⟨r1, r2, r3⟩ := WFc.lf hf
    have hs4 : A.sz (A.la b) = 4 := by have := h.sz4 (h.la hb); omega
    have hrn : ∀ c, c < 64 → ¬ r ∈ A.ch c := fun c hc w => by have := h.nfree hc w r1; rw [r3] at this; cases this
    have e : A.add b k v = (va_up A.sz r 1, va_up A.tl b (A.tl b ++ [r]), va_up A.ks (r * 4) k, va_up A.vs (r * 4) v, va_up A.fr r false, A.L, A.S) := by unfold AS.add; rw [if_neg hs, hf]
    rw [e]
    refine ⟨?_, ?_, fun c hc hcb => ⟨?_, up_n hcb⟩⟩
    · show (va_up A.tl b (A.tl b ++ [r]) b).length * 4 + va_up A.sz r 1 (lst b (va_up A.tl b (A.tl b ++ [r]) b)) = A.cnt b + 1
      rw [up_s, lst_snoc, up_s, List.length_append]
      unfold AS.cnt
      rw [hs4]
      simp; omega
    · show frcF (va_up A.fr r false) 64 64 + (va_up A.tl b (A.tl b ++ [r]) b).length = A.fc + (A.tl b).length
      rw [up_s, List.length_append]
      have := frcF_take (fr := A.fr) (r := r) 64 64 r1 (by omega) r3
      unfold AS.fc
      simp; omega
    · show (va_up A.tl b (A.tl b ++ [r]) c).length * 4 + va_up A.sz r 1 (lst c (va_up A.tl b (A.tl b ++ [r]) c)) = A.cnt c
      rw [up_n hcb, up_n (fun w => hrn c hc (by rw [← w]; exact lst_in _ _))]; rfl
/-- laying entries at two buckets: how many there are, how many pages are left -/
def LI (A : AS) (F s t i : Nat) : Prop := WFc A ∧ s < 64 ∧ t < 64 ∧ ¬ s = t ∧ A.fc + (A.tl s).length + (A.tl t).length = F ∧ A.cnt s + A.cnt t = i
theorem LI_room {A : AS} {F s t i n b : Nat} (h : LI A F s t i) (hi : i < n) (hF : (n + 3) / 4 - 1 ≤ F) (hb : b = s ∨ b = t) : A.rm b := by
  obtain ⟨h1, h2, h3, h4, h5, h6⟩ := h
  by_cases hs : A.sz (A.la b) < 4
  · exact Or.inl hs
  · refine Or.inr (frcF_pos 64 64 ?_)
    have h7 : A.cnt b = (A.tl b).length * 4 + A.sz (A.la b) := rfl
    have h8 : (A.tl s).length * 4 ≤ A.cnt s := Nat.le_add_right _ _
    have h9 : (A.tl t).length * 4 ≤ A.cnt t := Nat.le_add_right _ _
    show 0 < A.fc
    rcases hb with rfl | rfl <;> omega
theorem LI_step {A : AS} {F s t i b : Nat} (h : LI A F s t i) (hb : b = s ∨ b = t) (hr : A.rm b) (k v : Int32) : LI (A.add b k v) F s t (i + 1) := by
  obtain ⟨h1, h2, h3, h4, h5, h6⟩ := h
  have hb64 : b < 64 := by rcases hb with rfl | rfl <;> assumption
  obtain ⟨a1, a2, a3⟩ := add_cnt h1 hb64 hr k v
  refine ⟨WFc_add h1 hb64 hr k v, h2, h3, h4, ?_, ?_⟩
  · rcases hb with rfl | rfl
    · rw [(a3 t h3 (fun w => h4 w.symm)).2]; omega
    · rw [(a3 s h2 h4).2]; omega
  · rcases hb with rfl | rfl
    · rw [a1, (a3 t h3 (fun w => h4 w.symm)).1]; omega
    · rw [a1, (a3 s h2 h4).1]; omega
/-- keys stand where their addresses say -/
theorem WFa_add {A : AS} {b : Nat} {k v : Int32} (h : WFc A) (ha : WFa A) (hb : A.ad k = b) (hr : A.rm b) : WFa (A.add b k v) := by
  have hbn : b < A.nb := by rw [← hb]; exact adr_lt A.L A.S k
  have hb64 : b < 64 := Nat.lt_of_lt_of_le hbn ha.2.2.1
  obtain ⟨l1, l2⟩ := add_LS A b k v
  have hnb : (A.add b k v).nb = A.nb := by unfold AS.nb; rw [l1, l2]
  have had : ∀ key, (A.add b k v).ad key = A.ad key := fun key => by unfold AS.ad; rw [l1, l2]
  refine ⟨by rw [l1]; exact ha.1, by rw [l1, l2]; exact ha.2.1, by rw [hnb]; exact ha.2.2.1, fun c hc hc64 => ?_, fun c hc p hp i hi => ?_⟩
  · rw [hnb] at hc
    obtain ⟨g1, g2⟩ := ha.2.2.2.1 c hc hc64
    have hcb : ¬ c = b := by omega
    by_cases hs : A.sz (A.la b) < 4
    · unfold AS.add; rw [if_pos hs]
      refine ⟨g1, ?_⟩
      show va_up A.sz (A.la b) (A.sz (A.la b) + 1) c = 0
      rw [up_n (fun w => hcb (h.one hc64 hb64 (show c ∈ A.ch c from List.mem_cons_self) (by rw [w]; exact lst_in _ _)))]; exact g2
    · obtain ⟨r, hf⟩ := rm_some hr hs
      obtain ⟨r1, r2, r3⟩ := WFc.lf hf
      unfold AS.add; rw [if_neg hs, hf]
      refine ⟨(up_n hcb).trans g1, ?_⟩
      show va_up A.sz r 1 c = 0
      rw [up_n (by omega)]; exact g2
  · rw [hnb] at hc
    have hc64 : c < 64 := Nat.lt_of_lt_of_le hc ha.2.2.1
    rw [had]
    by_cases hs : A.sz (A.la b) < 4
    · have e : A.add b k v = (va_up A.sz (A.la b) (A.sz (A.la b) + 1), A.tl, va_up A.ks (A.la b * 4 + A.sz (A.la b)) k, va_up A.vs (A.la b * 4 + A.sz (A.la b)) v, A.fr, A.L, A.S) := by unfold AS.add; rw [if_pos hs]
      rw [e] at hp hi ⊢
      have hp : p ∈ A.ch c := hp
      have hi : i < va_up A.sz (A.la b) (A.sz (A.la b) + 1) p := hi
      show A.ad (va_up A.ks (A.la b * 4 + A.sz (A.la b)) k (p * 4 + i)) = c
      have hz := h.sz4 (h.page hc64 hp)
      by_cases e3 : p = A.la b
      · have hcb : c = b := h.one hc64 hb64 hp (by rw [e3]; exact lst_in _ _)
        rw [e3, up_s] at hi
        by_cases e4 : i = A.sz (A.la b)
        · rw [e3, e4, up_s, hb, hcb]
        · rw [e3, up_n (by omega)]
          exact ha.2.2.2.2 c hc _ (by rw [← e3]; exact hp) i (by omega)
      · rw [up_n e3] at hi
        rw [up_n (by omega)]
        exact ha.2.2.2.2 c hc p hp i hi
    · obtain ⟨r, hf⟩ := rm_some hr hs
      obtain ⟨r1, r2, r3⟩ := WFc.lf hf
      have hrn : ∀ c, c < 64 → ¬ r ∈ A.ch c := fun c hc w => by have := h.nfree hc w r1; rw [r3] at this; cases this
      have e : A.add b k v = (va_up A.sz r 1, va_up A.tl b (A.tl b ++ [r]), va_up A.ks (r * 4) k, va_up A.vs (r * 4) v, va_up A.fr r false, A.L, A.S) := by unfold AS.add; rw [if_neg hs, hf]
      rw [e] at hp hi ⊢
      have hp : p ∈ c :: va_up A.tl b (A.tl b ++ [r]) c := hp
      have hi : i < va_up A.sz r 1 p := hi
      show A.ad (va_up A.ks (r * 4) k (p * 4 + i)) = c
      by_cases e3 : p = r
      · subst e3
        rw [up_s] at hi
        have hi0 : i = 0 := by omega
        have hcb : c = b := by
          by_cases e5 : c = b
          · exact e5
          · rw [up_n e5] at hp; exact absurd hp (hrn c hc64)
        rw [hi0, Nat.add_zero, up_s, hb, hcb]
      · rw [up_n e3] at hi
        have hp2 : p ∈ A.ch c := by
          by_cases e5 : c = b
          · subst e5; rw [up_s] at hp
            rcases List.mem_cons.mp hp with w | w
            · rw [w]; exact List.mem_cons_self
            · rcases List.mem_append.mp w with w | w
              · exact List.mem_cons_of_mem _ w
              · exact absurd (List.mem_singleton.mp w) e3
          · rw [up_n e5] at hp; exact hp
        have hz := h.sz4 (h.page hc64 hp2)
        rw [up_n (by omega)]
        exact ha.2.2.2.2 c hc p hp2 i hi
end
section
/-! the starts of growing and shrinking; put and remove -/
theorem frcF_give {fr : Nat → Bool} {r : Nat} : ∀ (n p : Nat), p ≤ r → r < p + n → fr r = false → frcF (va_up fr r true) n p = frcF fr n p + 1
  | 0, _, _, _, _ => by omega
  | n + 1, p, h1, h2, h3 => by
    show (if va_up fr r true p = true then 1 else 0) + frcF (va_up fr r true) n (p + 1) = (if fr p = true then 1 else 0) + frcF fr n (p + 1) + 1
    by_cases e : p = r
    · subst e
      rw [up_s, frcF_up n (p + 1) (by omega), if_pos rfl, if_neg (by rw [h3]; simp)]; omega
    · rw [up_n (fun w => e w), frcF_give n (p + 1) (by omega) (by omega) h3]; omega
theorem frcF_clr {fr : Nat → Bool} : ∀ (l : List Nat), l.Nodup → (∀ p, p ∈ l → 64 ≤ p ∧ p < 128 ∧ fr p = false) → frcF (fun p => if p ∈ l then true else fr p) 64 64 = frcF fr 64 64 + l.length
  | [], _, _ => by
    rw [show (fun p => if p ∈ ([] : List Nat) then true else fr p) = fr from funext (fun p => by simp)]; exact (Nat.add_zero _).symm
  | q :: l, hn, h => by
    have hn1 := List.nodup_cons.mp hn
    have ih := frcF_clr l hn1.2 (fun p hp => h p (List.mem_cons_of_mem _ hp))
    have hq := h q List.mem_cons_self
    have e : (fun p => if p ∈ q :: l then true else fr p) = va_up (fun p => if p ∈ l then true else fr p) q true := by
      funext p
      by_cases e : p = q
      · subst e; rw [up_s, if_pos List.mem_cons_self]
      · rw [up_n e]
        by_cases e2 : p ∈ l
        · rw [if_pos e2, if_pos (List.mem_cons_of_mem _ e2)]
        · rw [if_neg e2, if_neg (fun w => (List.mem_cons.mp w).elim e e2)]
    rw [e, frcF_give 64 64 hq.1 (by omega) (by show (if q ∈ l then true else fr q) = false; rw [if_neg hn1.1]; exact hq.2.2), ih, List.length_cons, Nat.add_assoc]
theorem clr_fc {A : AS} {b : Nat} (h : WFc A) (hb : b < 64) : (A.clr b).fc = A.fc + (A.tl b).length := frcF_clr (A.tl b) (h.2.1 b hb) (fun p hp => ⟨(h.1 b hb p hp).1, (h.1 b hb p hp).2.1, (h.1 b hb p hp).2.2.1⟩)
theorem clr_self (A : AS) (b : Nat) : (A.clr b).tl b = [] ∧ (A.clr b).cnt b = 0 := by
  have e : (A.clr b).tl b = [] := up_s
  refine ⟨e, ?_⟩
  unfold AS.cnt AS.la
  rw [e]
  show 0 * 4 + (A.clr b).sz b = 0
  rw [show (A.clr b).sz b = 0 from if_pos (show b ∈ A.ch b from List.mem_cons_self)]
theorem clr_other {A : AS} {b c : Nat} (h : WFc A) (hb : b < 64) (hc : c < 64) (hcb : ¬ c = b) : (A.clr b).tl c = A.tl c ∧ (∀ p, p ∈ A.ch c → (A.clr b).sz p = A.sz p) ∧ (A.clr b).cnt c = A.cnt c ∧ (A.clr b).held c = A.held c := by
  have e : (A.clr b).tl c = A.tl c := up_n hcb
  have e2 : ∀ p, p ∈ A.ch c → (A.clr b).sz p = A.sz p := fun p hp => if_neg (fun w => hcb (h.one hc hb hp w))
  have hl : ∀ l : List Nat, (∀ p, p ∈ l → p ∈ A.ch c) → (A.clr b).heldL l = A.heldL l := by
    intro l
    induction l with
    | nil => intro _; rfl
    | cons q l ih =>
      intro hl
      show (A.clr b).hp q ((A.clr b).sz q) ++ (A.clr b).heldL l = A.hp q (A.sz q) ++ A.heldL l
      rw [ih (fun p hp => hl p (List.mem_cons_of_mem _ hp)), e2 q (hl q List.mem_cons_self)]; rfl
  refine ⟨e, e2, ?_, ?_⟩
  · unfold AS.cnt AS.la
    rw [e, e2 _ (lst_in _ _)]
  · unfold AS.held AS.ch
    rw [e]; exact hl _ (fun p hp => hp)
theorem WFc_clr {A : AS} {b : Nat} (h : WFc A) (hb : b < 64) : WFc (A.clr b) := by
  -- a picture of A serves
  have hout : ∀ c, c < 64 → ¬ c = b → ∀ p, p ∈ A.ch c → ¬ p ∈ A.ch b := fun c hc hcb p hp w => hcb (h.one hc hb hp w)
  have htl : ∀ c p, p ∈ va_up A.tl b [] c → ¬ c = b ∧ p ∈ A.tl c := by
    intro c p hp
    by_cases e : c = b
    · subst e; rw [up_s] at hp; cases hp
    · rw [up_n e] at hp; exact ⟨e, hp⟩
  have hsz : ∀ p, ¬ p ∈ A.ch b → (A.clr b).sz p = A.sz p := fun p hp => if_neg hp
  have hsz0 : ∀ p, p ∈ A.ch b → (A.clr b).sz p = 0 := fun p hp => if_pos hp
  have hfr : ∀ p, ¬ p ∈ A.ch b → (A.clr b).fr p = A.fr p := fun p hp => if_neg (fun w => hp (List.mem_cons_of_mem _ w))
  refine ⟨fun c hc p hp => ?_, fun c hc => ?_, fun c d hc hd p g1 g2 => h.2.2.1 c d hc hd p (htl c p g1).2 (htl d p g2).2, fun p g1 g2 g3 => ?_, fun p hp => ?_, fun p g1 g2 g3 => ?_, fun c hc => ?_⟩
  · obtain ⟨e, hp⟩ := htl c p hp
    have := hout c hc e p (List.mem_cons_of_mem _ hp)
    rw [hfr p this, hsz p this]; exact h.1 c hc p hp
  · show (va_up A.tl b [] c).Nodup
    by_cases e : c = b
    · subst e; rw [up_s]; exact List.nodup_nil
    · rw [up_n e]; exact h.2.1 c hc
  · have g3 : (if p ∈ A.tl b then true else A.fr p) = false := g3
    have e : ¬ p ∈ A.tl b := fun w => by rw [if_pos w] at g3; cases g3
    rw [if_neg e] at g3
    obtain ⟨c, hc, hp⟩ := h.2.2.2.1 p g1 g2 g3
    refine ⟨c, hc, ?_⟩
    show p ∈ va_up A.tl b [] c
    rw [up_n (fun w => e (by rw [← w]; exact hp))]; exact hp
  · by_cases e : p ∈ A.ch b
    · rw [hsz0 p e]; decide
    · rw [hsz p e]; exact h.sz4 hp
  · by_cases e : p ∈ A.ch b
    · exact hsz0 p e
    · rw [hfr p e] at g3; rw [hsz p e]; exact h.2.2.2.2.2.1 p g1 g2 g3
  · show flB (A.clr b).sz c (va_up A.tl b [] c)
    by_cases e : c = b
    · subst e; rw [up_s]; trivial
    · rw [up_n e]
      exact flB_congr (f := A.sz) (h.nodup hc) (fun p hp hl => hsz p (hout c hc e p hp)) (h.2.2.2.2.2.2 c hc)
theorem heldL_key {A : AS} {Q : Int32 → Prop} : ∀ (l : List Nat), (∀ p, p ∈ l → ∀ i, i < A.sz p → Q (A.ks (p * 4 + i))) → ∀ kv, kv ∈ A.heldL l → Q kv.1
  | [], _, _, h => by cases h
  | q :: l, hq, kv, h => by
    rcases List.mem_append.mp h with w | w
    · obtain ⟨i, hi, e⟩ := List.mem_map.mp w
      rw [← e]; exact hq q List.mem_cons_self i (List.mem_range.mp hi)
    · exact heldL_key l (fun p hp => hq p (List.mem_cons_of_mem _ hp)) kv w
theorem held_key {A : AS} {b : Nat} (ha : WFa A) (hb : b < A.nb) : ∀ kv, kv ∈ A.held b → A.ad kv.1 = b := heldL_key (Q := fun k => A.ad k = b) (A.ch b) (fun p hp i hi => ha.2.2.2.2 b hb p hp i hi)
theorem lay_snoc (A : AS) (h : EL) (kv : Int32 × Int32) : A.lay (h ++ [kv]) = (A.lay h).add ((A.lay h).ad kv.1) kv.1 kv.2 := by unfold AS.lay; rw [List.foldl_append]; rfl
theorem lay_LS (A : AS) (h : EL) : (A.lay h).L = A.L ∧ (A.lay h).S = A.S := by
  unfold AS.lay
  induction h generalizing A with
  | nil => exact ⟨rfl, rfl⟩
  | cons kv h ih =>
    have := ih (A.add (A.ad kv.1) kv.1 kv.2)
    rw [(add_LS _ _ _ _).1, (add_LS _ _ _ _).2] at this
    exact this
theorem lay_ad (A : AS) (h : EL) (key : Int32) : (A.lay h).ad key = A.ad key := by unfold AS.ad; rw [(lay_LS A h).1, (lay_LS A h).2]
theorem take_succ' {h : EL} {i : Nat} (hi : i < h.length) : h.take (i + 1) = h.take i ++ [h.getD i (0, 0)] := by
  rw [List.take_succ, List.getD_eq_getElem?_getD, List.getElem?_eq_getElem hi]; rfl
theorem getD_mem {h : EL} {i : Nat} (hi : i < h.length) : h.getD i (0, 0) ∈ h := by
  rw [List.getD_eq_getElem?_getD, List.getElem?_eq_getElem hi]; exact List.getElem_mem hi
/-- the state from which growing lays -/
def AS.g0 (A : AS) : AS := (A.clr A.S).setLS (nxL A.L A.S) (nxS A.L A.S)
theorem WFa.S_lt {A : AS} (ha : WFa A) : A.S < A.nb := by
  have := ha.2.1
  unfold AS.nb nbN
  omega
theorem grow_LI {A : AS} (h : WFc A) (ha : WFa A) (hn : A.nb < 64) : LI A.g0 (A.fc + (A.tl A.S).length) A.S A.nb 0 := by
  have hS := ha.S_lt
  have hS64 : A.S < 64 := by omega
  have hne : ¬ A.nb = A.S := by omega
  obtain ⟨c1, c2⟩ := clr_self A A.S
  obtain ⟨d1, d2, d3, -⟩ := clr_other h hS64 hn hne
  obtain ⟨e1, e2⟩ := ha.2.2.2.1 A.nb (Nat.le_refl _) hn
  have e3 : A.cnt A.nb = 0 := by unfold AS.cnt AS.la; rw [e1]; show 0 * 4 + A.sz A.nb = 0; rw [e2]
  refine ⟨WFc_clr h hS64, hS64, hn, fun w => hne w.symm, ?_, ?_⟩
  · show (A.clr A.S).fc + ((A.clr A.S).tl A.S).length + ((A.clr A.S).tl A.nb).length = _
    rw [clr_fc h hS64, c1, d1, e1, List.length_nil, Nat.add_zero]
  · show (A.clr A.S).cnt A.S + (A.clr A.S).cnt A.nb = 0
    rw [c2, d3, e3]
theorem grow_WFa {A : AS} (h : WFc A) (ha : WFa A) (hn : A.nb < 64) : WFa A.g0 := by
  have hS := ha.S_lt
  have hS64 : A.S < 64 := by omega
  obtain ⟨n1, n2⟩ := nx_ok ha.1 ha.2.1 hn
  have hnb : A.g0.nb = A.nb + 1 := nb_next A.L A.S
  refine ⟨n1, n2, by omega, fun b hb hb64 => ?_, fun b hb p hp i hi => ?_⟩
  · have hbS : ¬ b = A.S := by omega
    obtain ⟨d1, d2, -⟩ := clr_other h hS64 hb64 hbS
    obtain ⟨e1, e2⟩ := ha.2.2.2.1 b (by omega) hb64
    exact ⟨d1.trans e1, (d2 b List.mem_cons_self).trans e2⟩
  · have hb64 : b < 64 := by omega
    have hp : p ∈ b :: (A.clr A.S).tl b := hp
    have hi : i < (A.clr A.S).sz p := hi
    have hpS : ¬ p ∈ A.ch A.S := fun w => by rw [show (A.clr A.S).sz p = 0 from if_pos w] at hi; exact absurd hi (Nat.not_lt_zero _)
    have hbS : ¬ b = A.S := fun e => by
      rw [e, (clr_self A A.S).1] at hp
      exact hpS (by rw [List.mem_singleton.mp hp]; exact List.mem_cons_self)
    obtain ⟨d1, d2, -⟩ := clr_other h hS64 hb64 hbS
    rw [d1] at hp
    rw [d2 p hp] at hi
    have hbn : b < A.nb := by
      rcases Nat.lt_or_ge b A.nb with w | w
      · exact w
      · obtain ⟨e1, e2⟩ := ha.2.2.2.1 b w hb64
        rw [e1] at hp
        rw [List.mem_singleton.mp hp, e2] at hi
        exact absurd hi (Nat.not_lt_zero _)
    have h5 := ha.2.2.2.2 b hbn p hp i hi
    show adr (nxL A.L A.S) (nxS A.L A.S) (A.ks (p * 4 + i)) = b
    rw [(adr_next ha.2.1 _).1 (by rw [show adr A.L A.S (A.ks (p * 4 + i)) = b from h5]; exact hbS)]; exact h5
theorem grow_ad {A : AS} (ha : WFa A) : ∀ kv, kv ∈ A.held A.S → A.g0.ad kv.1 = A.S ∨ A.g0.ad kv.1 = A.nb := fun kv hk => by
  rcases (adr_next ha.2.1 kv.1).2 (held_key ha ha.S_lt kv hk) with w | w
  · exact Or.inl w
  · refine Or.inr ?_
    show adr (nxL A.L A.S) (nxS A.L A.S) kv.1 = nbN A.L A.S
    rw [w]; unfold nbN; omega
theorem held_len {A : AS} {b : Nat} (h : WFc A) (hb : b < 64) : (A.held b).length = A.cnt b := by unfold AS.held; rw [heldL_len, h.sum hb]
theorem cnt_le {A : AS} {b : Nat} (h : WFc A) (hb : b < 64) : A.cnt b ≤ 260 := by
  have := h.len hb
  have := h.sz4 (h.la hb)
  unfold AS.cnt; omega
/-- there are pages enough to grow -/
theorem grow_room {A : AS} (h : WFc A) (hb : A.S < 64) : ((A.held A.S).length + 3) / 4 - 1 ≤ A.fc + (A.tl A.S).length := by
  rw [held_len h hb]
  have := h.sz4 (h.la hb)
  unfold AS.cnt; omega
/-- the state from which shrinking lays -/
def AS.s0 (A : AS) : AS := ((A.clr A.st).clr A.go).setLS (pvL A.L A.S) (pvS A.L A.S)
theorem st_go {A : AS} (ha : WFa A) (hn : 4 < A.nb) : A.st < A.go ∧ A.go < A.nb ∧ A.st < 64 ∧ A.go < 64 := by
  obtain ⟨-, p2, -, -, p5, p6⟩ := pv_ok ha.1 ha.2.1 hn
  have := ha.2.2.1
  have hp : 0 < 2 ^ pvL A.L A.S := Nat.pow_pos (by decide)
  unfold AS.st AS.go AS.nb at *
  omega
theorem two_len {A : AS} {s t : Nat} (h : WFc A) (hs : s < 64) (ht : t < 64) (hst : ¬ s = t) : (A.tl s).length + (A.tl t).length ≤ 64 := by
  have h1 : (A.tl s ++ A.tl t).Nodup := List.nodup_append.mpr ⟨h.2.1 s hs, h.2.1 t ht, fun x hx y hy e => hst (h.2.2.1 s t hs ht x hx (by rw [e]; exact hy))⟩
  have h2 := nodup_le h1 64 64 (fun p hp => by
    rcases List.mem_append.mp hp with w | w
    · exact ⟨(h.1 s hs p w).1, (h.1 s hs p w).2.1⟩
    · exact ⟨(h.1 t ht p w).1, (h.1 t ht p w).2.1⟩)
  rw [List.length_append] at h2
  exact h2
theorem shrink_LI {A : AS} (h : WFc A) (ha : WFa A) (hn : 4 < A.nb) : LI A.s0 (A.fc + ((A.tl A.st).length + (A.tl A.go).length)) A.st A.go 0 := by
  obtain ⟨g1, g2, g3, g4⟩ := st_go ha hn
  have hne : ¬ A.go = A.st := by omega
  have h1 := WFc_clr h g3
  obtain ⟨c1, c2⟩ := clr_self A A.st
  obtain ⟨d1, d2, d3, -⟩ := clr_other h g3 g4 hne
  obtain ⟨k1, k2⟩ := clr_self (A.clr A.st) A.go
  obtain ⟨m1, m2, m3, -⟩ := clr_other h1 g4 g3 (fun w => hne w.symm)
  refine ⟨WFc_clr h1 g4, g3, g4, fun w => hne w.symm, ?_, ?_⟩
  · show ((A.clr A.st).clr A.go).fc + (((A.clr A.st).clr A.go).tl A.st).length + (((A.clr A.st).clr A.go).tl A.go).length = _
    rw [clr_fc h1 g4, clr_fc h g3, k1, m1, c1, d1, List.length_nil]
    omega
  · show ((A.clr A.st).clr A.go).cnt A.st + ((A.clr A.st).clr A.go).cnt A.go = 0
    rw [k2, m3, c2]
theorem shrink_ad {A : AS} (ha : WFa A) (hn : 4 < A.nb) {key : Int32} {b : Nat} (hk : A.ad key = b) : (b = A.st ∨ b = A.go → A.s0.ad key = A.st) ∧ (¬ b = A.st → ¬ b = A.go → A.s0.ad key = b) := by
  obtain ⟨p1, p2, p3, p4, p5, p6⟩ := pv_ok ha.1 ha.2.1 hn
  have hx := adr_next p2 key
  rw [p3, p4] at hx
  have hk : adr A.L A.S key = b := hk
  have hlt := adr_lt (pvL A.L A.S) (pvS A.L A.S) key
  show (_ → adr (pvL A.L A.S) (pvS A.L A.S) key = A.st) ∧ (_ → _ → adr (pvL A.L A.S) (pvS A.L A.S) key = b)
  unfold AS.st AS.go AS.nb
  rw [hk] at hx
  constructor
  · intro hb
    by_cases e : adr (pvL A.L A.S) (pvS A.L A.S) key = pvS A.L A.S
    · exact e
    · have := hx.1 e
      rcases hb with hb | hb
      · omega
      · omega
  · intro h1 h2
    by_cases e : adr (pvL A.L A.S) (pvS A.L A.S) key = pvS A.L A.S
    · rcases hx.2 e with w | w
      · exact absurd w h1
      · omega
    · exact (hx.1 e).symm
theorem shrink_WFa {A : AS} (h : WFc A) (ha : WFa A) (hn : 4 < A.nb) : WFa A.s0 := by
  obtain ⟨g1, g2, g3, g4⟩ := st_go ha hn
  obtain ⟨p1, p2, p3, p4, p5, p6⟩ := pv_ok ha.1 ha.2.1 hn
  have hne : ¬ A.go = A.st := by omega
  have h1 := WFc_clr h g3
  have hnb : A.s0.nb + 1 = A.nb := p5
  have hgo : A.go + 1 = A.nb := by unfold AS.go; omega
  have n64 := ha.2.2.1
  refine ⟨p1, p2, by omega, fun b hb hb64 => ?_, fun b hb p hp i hi => ?_⟩
  · by_cases e : b = A.go
    · subst e
      obtain ⟨k1, -⟩ := clr_self (A.clr A.st) A.go
      exact ⟨k1, if_pos (show A.go ∈ (A.clr A.st).ch A.go from List.mem_cons_self)⟩
    · have hbs : ¬ b = A.st := by omega
      obtain ⟨d1, d2, -⟩ := clr_other h g3 hb64 hbs
      obtain ⟨m1, m2, -⟩ := clr_other h1 g4 hb64 e
      obtain ⟨e1, e2⟩ := ha.2.2.2.1 b (by omega) hb64
      exact ⟨m1.trans (d1.trans e1), ((m2 b List.mem_cons_self).trans (d2 b List.mem_cons_self)).trans e2⟩
  · have hb64 : b < 64 := by omega
    have hp : p ∈ b :: ((A.clr A.st).clr A.go).tl b := hp
    have hi : i < ((A.clr A.st).clr A.go).sz p := hi
    have hbg : ¬ b = A.go := by omega
    obtain ⟨m1, m2, -⟩ := clr_other h1 g4 hb64 hbg
    rw [m1] at hp
    rw [m2 p hp] at hi
    have hpS : ¬ p ∈ A.ch A.st := fun w => by rw [show (A.clr A.st).sz p = 0 from if_pos w] at hi; exact absurd hi (Nat.not_lt_zero _)
    have hbS : ¬ b = A.st := fun e => by
      rw [e, (clr_self A A.st).1] at hp
      exact hpS (by rw [List.mem_singleton.mp hp]; exact List.mem_cons_self)
    obtain ⟨d1, d2, -⟩ := clr_other h g3 hb64 hbS
    rw [d1] at hp
    rw [d2 p hp] at hi
    have h5 := ha.2.2.2.2 b (by omega) p hp i hi
    show A.s0.ad (A.ks (p * 4 + i)) = b
    exact (shrink_ad ha hn h5).2 hbS hbg
theorem shrink_key {A : AS} (ha : WFa A) (hn : 4 < A.nb) : ∀ kv, kv ∈ A.held A.st ++ A.held A.go → A.s0.ad kv.1 = A.st := fun kv hk => by
  obtain ⟨g1, g2, g3, g4⟩ := st_go ha hn
  rcases List.mem_append.mp hk with w | w
  · exact (shrink_ad ha hn (held_key ha (by omega) kv w)).1 (Or.inl rfl)
  · exact (shrink_ad ha hn (held_key ha g2 kv w)).1 (Or.inr rfl)
theorem shrink_len {A : AS} (h : WFc A) (ha : WFa A) (hn : 4 < A.nb) : (A.held A.st ++ A.held A.go).length = A.cnt A.st + A.cnt A.go ∧ A.cnt A.st + A.cnt A.go ≤ 264 := by
  obtain ⟨g1, g2, g3, g4⟩ := st_go ha hn
  have := two_len h g3 g4 (by omega)
  have := h.sz4 (h.la g3)
  have := h.sz4 (h.la g4)
  refine ⟨by rw [List.length_append, held_len h g3, held_len h g4], ?_⟩
  unfold AS.cnt; omega
theorem shrink_room {A : AS} (h : WFc A) (ha : WFa A) (hn : 4 < A.nb) (hc : A.can A.st A.go) : ((A.held A.st ++ A.held A.go).length + 3) / 4 - 1 ≤ A.fc + ((A.tl A.st).length + (A.tl A.go).length) := by
  rw [(shrink_len h ha hn).1]
  have e : (A.cnt A.st + A.cnt A.go + 3) / 4 - 1 = A.need A.st A.go := by unfold AS.cnt AS.need; congr 2; omega
  rw [e]; exact hc
/-- one entry is laid -/
theorem RP_add {A : AS} {P P1 : Mem} {k v : Int32} (hr : RP A P) (hm : A.rm (A.ad k)) (h : RC (A.add (A.ad k) k v) P1) (h0 : P1 0 0 = P 0 0) (h1 : P1 0 1 = P 0 1) : RP (A.add (A.ad k) k v) P1 := by
  obtain ⟨l1, l2⟩ := add_LS A (A.ad k) k v
  exact ⟨h, WFa_add hr.1.1 hr.2.1 rfl hm, by rw [h0, l1]; exact hr.2.2.1, by rw [h1, l2]; exact hr.2.2.2⟩
/-! find, set, put, remove -/
theorem fndI_some {ks : Nat → Int32} {key : Int32} {q : Nat} : ∀ (n i c : Nat), fndI ks key q n i = some c → ∃ j, i ≤ j ∧ j < i + n ∧ c = q * 4 + j ∧ ks c = key
  | 0, _, _, h => by cases h
  | n + 1, i, c, h => by
    have h : (if ks (q * 4 + i) = key then some (q * 4 + i) else fndI ks key q n (i + 1)) = some c := h
    by_cases e : ks (q * 4 + i) = key
    · rw [if_pos e] at h
      cases h
      exact ⟨i, Nat.le_refl _, by omega, rfl, e⟩
    · rw [if_neg e] at h
      obtain ⟨j, h1, h2, h3, h4⟩ := fndI_some n (i + 1) c h
      exact ⟨j, by omega, by omega, h3, h4⟩
theorem fndL_some {sz : Nat → Nat} {ks : Nat → Int32} {key : Int32} : ∀ (l : List Nat) (c : Nat), fndL sz ks key l = some c → ∃ p i, p ∈ l ∧ i < sz p ∧ c = p * 4 + i ∧ ks c = key
  | [], _, h => by cases h
  | q :: l, c, h => by
    have h : (match fndI ks key q (sz q) 0 with | some c => some c | none => fndL sz ks key l) = some c := h
    cases e : fndI ks key q (sz q) 0 with
    | some d =>
      rw [e] at h
      cases h
      obtain ⟨j, -, h2, h3, h4⟩ := fndI_some _ _ _ e
      exact ⟨q, j, List.mem_cons_self, by omega, h3, h4⟩
    | none =>
      rw [e] at h
      obtain ⟨p, i, h1, h2, h3, h4⟩ := fndL_some l c h
      exact ⟨p, i, List.mem_cons_of_mem _ h1, h2, h3, h4⟩
theorem fnd_live {A : AS} {key : Int32} {c : Nat} (h : A.fnd key = some c) : A.live (A.ad key) c ∧ A.ks c = key := by
  obtain ⟨p, i, h1, h2, h3, h4⟩ := fndL_some _ _ h
  exact ⟨⟨p, i, h1, h2, h3⟩, h4⟩
theorem live_lt {A : AS} {b c : Nat} (h : WFc A) (hb : b < 64) (hl : A.live b c) : c < 512 := by
  obtain ⟨p, i, h1, h2, h3⟩ := hl
  have := h.page hb h1
  have := h.sz4 this
  omega
theorem fnd_lt {A : AS} {key : Int32} {c : Nat} (h : WFc A) (ha : WFa A) (hf : A.fnd key = some c) : c < 512 := live_lt h (ha.lt key) (fnd_live hf).1
def AS.setV (A : AS) (c : Nat) (v : Int32) : AS := (A.sz, A.tl, A.ks, va_up A.vs c v, A.fr, A.L, A.S)
theorem RP_setV {A : AS} {P : Mem} (hr : RP A P) (c : Nat) (v : Int32) : RP (A.setV c v) (ps P 2 c v) := by
  obtain ⟨⟨h, p1, p2, p3, p4, p5, p6, p7, p8⟩, ha, h0, h1⟩ := hr
  refine ⟨⟨h, p1, p2, p3, p4, p5, p6, p7, fun p hp i hi => ⟨(p8 p hp i hi).1, ?_⟩⟩, ha, h0, h1⟩
  show upd (P 2) c v (p * 4 + i) = va_up A.vs c v (p * 4 + i)
  by_cases e : p * 4 + i = c
  · rw [e, pk_us, up_s]
  · rw [pk_un e, up_n e]; exact (p8 p hp i hi).2
def AS.put (A : AS) (E : Int32) (k v : Int32) : AS × Int32 := match A.fnd k with
  | some c => (A.setV c v, E)
  | none => if 3 * nI A.nb < E + 1 ∧ A.nb < 64 then ((A.add (A.ad k) k v).grow, E + 1) else (A.add (A.ad k) k v, E + 1)
def AS.rem (A : AS) (E : Int32) (k : Int32) : AS × Int32 := match A.fnd k with
  | none => (A, E)
  | some c => if 4 < A.nb ∧ 2 * (E - 1) < 3 * nI A.nb then ((A.del (A.ad k) c).shrink, E - 1) else (A.del (A.ad k) c, E - 1)
theorem del_LS (A : AS) (b c : Nat) : (A.del b c).L = A.L ∧ (A.del b c).S = A.S := by
  unfold AS.del
  split <;> exact ⟨rfl, rfl⟩
theorem WFa_del {A : AS} {b c : Nat} (h : WFc A) (ha : WFa A) (hb : b < A.nb) (hl : A.live b c) : WFa (A.del b c) := by
  have hb64 : b < 64 := Nat.lt_of_lt_of_le hb ha.2.2.1
  have h1 := h.la1 hb64 hl
  obtain ⟨p0, i0, l1, l2, l3⟩ := hl
  obtain ⟨e1, e2⟩ := del_LS A b c
  have hnb : (A.del b c).nb = A.nb := by unfold AS.nb; rw [e1, e2]
  have had : ∀ key, (A.del b c).ad key = A.ad key := fun key => by unfold AS.ad; rw [e1, e2]
  have hq : A.la b ∈ A.ch b := lst_in _ _
  -- what the new state's parts are at most
  have htl : ∀ d, ∀ p, p ∈ (A.del b c).tl d → p ∈ A.tl d := by
    intro d p hp
    unfold AS.del at hp
    by_cases hs : A.sz (A.la b) - 1 = 0 ∧ 64 ≤ A.la b
    · rw [if_pos hs] at hp
      have hp : p ∈ va_up A.tl b (A.tl b).dropLast d := hp
      by_cases e : d = b
      · subst e; rw [up_s] at hp; exact List.dropLast_subset _ hp
      · rw [up_n e] at hp; exact hp
    · rw [if_neg hs] at hp; exact hp
  have hsz : ∀ p, (A.del b c).sz p ≤ A.sz p := by
    intro p
    unfold AS.del
    by_cases hs : A.sz (A.la b) - 1 = 0 ∧ 64 ≤ A.la b
    · rw [if_pos hs]
      show va_up A.sz (A.la b) 0 p ≤ A.sz p
      by_cases e : p = A.la b
      · rw [e, up_s]; omega
      · rw [up_n e]; exact Nat.le_refl _
    · rw [if_neg hs]
      show va_up A.sz (A.la b) (A.sz (A.la b) - 1) p ≤ A.sz p
      by_cases e : p = A.la b
      · rw [e, up_s]; omega
      · rw [up_n e]; exact Nat.le_refl _
  have hks : (A.del b c).ks = va_up A.ks c (A.ks (A.la b * 4 + (A.sz (A.la b) - 1))) := by
    unfold AS.del
    split <;> rfl
  refine ⟨by rw [e1]; exact ha.1, by rw [e1, e2]; exact ha.2.1, by rw [hnb]; exact ha.2.2.1, fun d hd hd64 => ?_, fun d hd p hp i hi => ?_⟩
  · rw [hnb] at hd
    obtain ⟨g1, g2⟩ := ha.2.2.2.1 d hd hd64
    refine ⟨?_, by have := hsz d; omega⟩
    have h3 := htl d
    rw [g1] at h3
    exact List.eq_nil_iff_forall_not_mem.mpr (fun p hp => by cases h3 p hp)
  · rw [hnb] at hd
    rw [had, hks]
    have hp : p ∈ A.ch d := by
      rcases List.mem_cons.mp hp with w | w
      · rw [w]; exact List.mem_cons_self
      · exact List.mem_cons_of_mem _ (htl d p w)
    have hi : i < A.sz p := Nat.lt_of_lt_of_le hi (hsz p)
    by_cases e : p * 4 + i = c
    · rw [e, up_s]
      have hd64 : d < 64 := Nat.lt_of_lt_of_le hd ha.2.2.1
      have hz1 := h.sz4 (h.page hd64 hp)
      have hz2 := h.sz4 (h.page hb64 l1)
      have hpp : p = p0 := by omega
      have hdb : d = b := h.one hd64 hb64 hp (by rw [hpp]; exact l1)
      rw [hdb]
      exact ha.2.2.2.2 b hb _ hq _ (by omega)
    · rw [up_n e]; exact ha.2.2.2.2 d hd p hp i hi
theorem RP_del {A : AS} {P P1 : Mem} {b c : Nat} (hr : RP A P) (hb : b < A.nb) (hl : A.live b c) (h : RC (A.del b c) P1) (h0 : P1 0 0 = P 0 0) (h1 : P1 0 1 = P 0 1) : RP (A.del b c) P1 := by
  obtain ⟨l1, l2⟩ := del_LS A b c
  exact ⟨h, WFa_del hr.1.1 hr.2.1 hb hl, by rw [h0, l1]; exact hr.2.2.1, by rw [h1, l2]; exact hr.2.2.2⟩
end
section
/-! made by wip/whole/gen.py and m1.py -/
theorem sub_add_nI (x : Int32) (n : Nat) : x - nI n + nI n = x := Int32.sub_add_cancel x (nI n)
theorem mX2_canJoin_l82 : Cond.methodLink RX2 82 Lib.Math.max.name ∈ wsX2_canJoin := List.mem_of_getElem? (i := 1) rfl
theorem mX2_canJoin_s82 : Cond.static Lib.Math.max.name ∈ wsX2_canJoin := List.mem_of_getElem? (i := 2) rfl
theorem mX2_canJoin_i82 : Cond.initialized "java/lang/Math" ∈ wsX2_canJoin := List.mem_of_getElem? (i := 3) rfl
theorem mX2_canJoin_c82 : Cond.code Lib.Math.max.name Lib.Math.max.code 2 (some .int) ∈ wsX2_canJoin := List.mem_of_getElem? (i := 4) rfl
set_option maxHeartbeats 1600000 in
set_option maxRecDepth 20000 in
theorem c_X2_canJoin (l : Launch) (D : va_G) (cy cz : ClassId) (g : Nat → Nat) (z0 : Nat) (P : Mem) (A : AS) (s : Nat) (t : Nat) (hr : RC A P) (hs : s < 64) (ht : t < 64) : MId l yX2_canJoin wsX2_canJoin (rmF 2 72) D (tyL cy cz) [.ref (g 0), .int (nI s), .int (nI t)] (wG cy g z0 P) (if A.can s t then 1 else 0) (wG cy g z0 P) := by
  refine g_entZ (cc := cX2_canJoin) (maxL := 6) (own := RX2) (by decide) rfl rfl (Nat.le_of_ble_eq_true rfl) (fun x C ret => ?_)
  show G x l (rmF 2 72) D 6 0 0 (wG cy g z0 P) [(0, .ref (g 0)), (1, .int (nI s)), (2, .int (nI t))] [] 0
  have l1 := hr.1.len hs
  have l2 := hr.1.len ht
  have z1 := hr.sz4 (hr.la hs)
  have z2 := hr.sz4 (hr.la ht)
  have hfc : A.fc ≤ 64 := frcF_le 64 64
  refine g_aload_n C dX2_canJoin_0 0 rfl rfl ?_
  refine g_iload_n C dX2_canJoin_1 1 rfl rfl ?_
  refine g_callIV C [0, 1, 2, 3, 4, 5, 6, 7] [] [0, 1, 2, 3, 4, 5, 6, 7] 0 2 (b := g 0) rfl rfl (As := [.int (nI s)]) (rest := []) (wr := ([] : va_W)) (wf := fun _ => (wG cy g z0 P)) dX2_canJoin_2 gX2_canJoin_X2_pagesInChain rfl dmX2_pagesInChain ⟨rfl, rfl, Nat.le_of_ble_eq_true rfl, Nat.le_of_ble_eq_true rfl, Nat.zero_le _, Nat.zero_le _⟩ (c_X2_pagesInChain l D cy cz g z0 P s (A.tl s) (hr.chain hs) (by omega)) ⟨rfl, rfl, rfl, rfl, by decide, rfl, fun _ => rfl⟩ (Nat.le_of_ble_eq_true rfl) ?_
  rintro _ - rfl
  show G x l (rmF 2 72) D 6 0 0 (wG cy g z0 P) [(0, .ref (g 0)), (1, .int (nI s)), (2, .int (nI t))] [.int (nI ((A.tl s).length + 1))] 5
  refine g_aload_n C dX2_canJoin_5 0 rfl rfl ?_
  refine g_iload_n C dX2_canJoin_6 2 rfl rfl ?_
  refine g_callIV C [0, 1, 2, 3, 4, 5, 6, 7] [] [0, 1, 2, 3, 4, 5, 6, 7] 0 2 (b := g 0) rfl rfl (As := [.int (nI t)]) (rest := [.int (nI ((A.tl s).length + 1))]) (wr := ([] : va_W)) (wf := fun _ => (wG cy g z0 P)) dX2_canJoin_7 gX2_canJoin_X2_pagesInChain rfl dmX2_pagesInChain ⟨rfl, rfl, Nat.le_of_ble_eq_true rfl, Nat.le_of_ble_eq_true rfl, Nat.zero_le _, Nat.zero_le _⟩ (c_X2_pagesInChain l D cy cz g z0 P t (A.tl t) (hr.chain ht) (by omega)) ⟨rfl, rfl, rfl, rfl, by decide, rfl, fun _ => rfl⟩ (Nat.le_of_ble_eq_true rfl) ?_
  rintro _ - rfl
  show G x l (rmF 2 72) D 6 0 0 (wG cy g z0 P) [(0, .ref (g 0)), (1, .int (nI s)), (2, .int (nI t))] [.int (nI ((A.tl t).length + 1)), .int (nI ((A.tl s).length + 1))] 10
  refine g_iadd C dX2_canJoin_10 ?_
  refine g_top (b := nI ((A.tl s).length + 1 + ((A.tl t).length + 1))) (nI_add _ _) ?_
  refine g_iconst C (v := 2) dX2_canJoin_11 (by decide) ?_
  refine g_isub C dX2_canJoin_12 ?_
  refine g_top (b := nI ((A.tl s).length + (A.tl t).length)) ((pk_sub (b := 2) (by omega)).trans (congrArg nI (by omega))) ?_
  refine g_istore_n C (lv' := [(3, .int (nI ((A.tl s).length + (A.tl t).length))), (0, .ref (g 0)), (1, .int (nI s)), (2, .int (nI t))]) dX2_canJoin_13 rfl (by decide) rfl ?_
  refine g_iload_n C dX2_canJoin_14 0 rfl rfl ?_
  refine g_iconst C (v := 4) dX2_canJoin_15 (by decide) ?_
  refine g_imul C dX2_canJoin_16 ?_
  refine g_top (b := nI (((A.tl s).length + (A.tl t).length) * 4)) (pk_mul _ 4) ?_
  refine g_aload_n C dX2_canJoin_17 1 rfl rfl ?_
  refine g_aload_n C dX2_canJoin_18 1 rfl rfl ?_
  refine g_iload_n C dX2_canJoin_19 2 rfl rfl ?_
  refine g_callIV C [0, 1, 2, 3, 4, 5, 6, 7] [] [0, 1, 2, 3, 4, 5, 6, 7] 0 2 (b := g 0) rfl rfl (As := [.int (nI s)]) (rest := [.ref (g 0), .int (nI (((A.tl s).length + (A.tl t).length) * 4))]) (wr := ([] : va_W)) (wf := fun _ => (wG cy g z0 P)) dX2_canJoin_20 gX2_canJoin_X2_lastPage rfl dmX2_lastPage ⟨rfl, rfl, Nat.le_of_ble_eq_true rfl, Nat.le_of_ble_eq_true rfl, Nat.zero_le _, Nat.zero_le _⟩ (c_X2_lastPage l D cy cz g z0 P s hs) ⟨rfl, rfl, rfl, rfl, by decide, rfl, fun _ => rfl⟩ (Nat.le_of_ble_eq_true rfl) ?_
  rintro _ - rfl
  show G x l (rmF 2 72) D 6 0 0 (wG cy g z0 P) [(3, .int (nI ((A.tl s).length + (A.tl t).length))), (0, .ref (g 0)), (1, .int (nI s)), (2, .int (nI t))] [.int (P 7 s), .ref (g 0), .int (nI (((A.tl s).length + (A.tl t).length) * 4))] 23
  refine g_top (b := nI (A.la s)) (hr.last hs) ?_
  refine g_callIV C [0, 1, 2, 3, 4, 5, 6, 7] [] [0, 1, 2, 3, 4, 5, 6, 7] 0 2 (b := g 0) rfl rfl (As := [.int (nI (A.la s))]) (rest := [.int (nI (((A.tl s).length + (A.tl t).length) * 4))]) (wr := ([] : va_W)) (wf := fun _ => (wG cy g z0 P)) dX2_canJoin_23 gX2_canJoin_X2_entriesOnPage rfl dmX2_entriesOnPage ⟨rfl, rfl, Nat.le_of_ble_eq_true rfl, Nat.le_of_ble_eq_true rfl, Nat.zero_le _, Nat.zero_le _⟩ (c_X2_entriesOnPage l D cy cz g z0 P (A.la s) (hr.la hs)) ⟨rfl, rfl, rfl, rfl, by decide, rfl, fun _ => rfl⟩ (Nat.le_of_ble_eq_true rfl) ?_
  rintro _ - rfl
  show G x l (rmF 2 72) D 6 0 0 (wG cy g z0 P) [(3, .int (nI ((A.tl s).length + (A.tl t).length))), (0, .ref (g 0)), (1, .int (nI s)), (2, .int (nI t))] [.int (P 3 (A.la s)), .int (nI (((A.tl s).length + (A.tl t).length) * 4))] 26
  refine g_top (b := nI (A.sz (A.la s))) (hr.used (hr.la hs)) ?_
  refine g_iadd C dX2_canJoin_26 ?_
  refine g_top (b := nI (((A.tl s).length + (A.tl t).length) * 4 + A.sz (A.la s))) (nI_add _ _) ?_
  refine g_aload_n C dX2_canJoin_27 1 rfl rfl ?_
  refine g_aload_n C dX2_canJoin_28 1 rfl rfl ?_
  refine g_iload_n C dX2_canJoin_29 3 rfl rfl ?_
  refine g_callIV C [0, 1, 2, 3, 4, 5, 6, 7] [] [0, 1, 2, 3, 4, 5, 6, 7] 0 2 (b := g 0) rfl rfl (As := [.int (nI t)]) (rest := [.ref (g 0), .int (nI (((A.tl s).length + (A.tl t).length) * 4 + A.sz (A.la s)))]) (wr := ([] : va_W)) (wf := fun _ => (wG cy g z0 P)) dX2_canJoin_30 gX2_canJoin_X2_lastPage rfl dmX2_lastPage ⟨rfl, rfl, Nat.le_of_ble_eq_true rfl, Nat.le_of_ble_eq_true rfl, Nat.zero_le _, Nat.zero_le _⟩ (c_X2_lastPage l D cy cz g z0 P t ht) ⟨rfl, rfl, rfl, rfl, by decide, rfl, fun _ => rfl⟩ (Nat.le_of_ble_eq_true rfl) ?_
  rintro _ - rfl
  show G x l (rmF 2 72) D 6 0 0 (wG cy g z0 P) [(3, .int (nI ((A.tl s).length + (A.tl t).length))), (0, .ref (g 0)), (1, .int (nI s)), (2, .int (nI t))] [.int (P 7 t), .ref (g 0), .int (nI (((A.tl s).length + (A.tl t).length) * 4 + A.sz (A.la s)))] 33
  refine g_top (b := nI (A.la t)) (hr.last ht) ?_
  refine g_callIV C [0, 1, 2, 3, 4, 5, 6, 7] [] [0, 1, 2, 3, 4, 5, 6, 7] 0 2 (b := g 0) rfl rfl (As := [.int (nI (A.la t))]) (rest := [.int (nI (((A.tl s).length + (A.tl t).length) * 4 + A.sz (A.la s)))]) (wr := ([] : va_W)) (wf := fun _ => (wG cy g z0 P)) dX2_canJoin_33 gX2_canJoin_X2_entriesOnPage rfl dmX2_entriesOnPage ⟨rfl, rfl, Nat.le_of_ble_eq_true rfl, Nat.le_of_ble_eq_true rfl, Nat.zero_le _, Nat.zero_le _⟩ (c_X2_entriesOnPage l D cy cz g z0 P (A.la t) (hr.la ht)) ⟨rfl, rfl, rfl, rfl, by decide, rfl, fun _ => rfl⟩ (Nat.le_of_ble_eq_true rfl) ?_
  rintro _ - rfl
  show G x l (rmF 2 72) D 6 0 0 (wG cy g z0 P) [(3, .int (nI ((A.tl s).length + (A.tl t).length))), (0, .ref (g 0)), (1, .int (nI s)), (2, .int (nI t))] [.int (P 3 (A.la t)), .int (nI (((A.tl s).length + (A.tl t).length) * 4 + A.sz (A.la s)))] 36
  refine g_top (b := nI (A.sz (A.la t))) (hr.used (hr.la ht)) ?_
  refine g_iadd C dX2_canJoin_36 ?_
  refine g_top (b := nI (((A.tl s).length + (A.tl t).length) * 4 + A.sz (A.la s) + A.sz (A.la t))) (nI_add _ _) ?_
  refine g_istore C (lv' := [(4, .int (nI (((A.tl s).length + (A.tl t).length) * 4 + A.sz (A.la s) + A.sz (A.la t)))), (3, .int (nI ((A.tl s).length + (A.tl t).length))), (0, .ref (g 0)), (1, .int (nI s)), (2, .int (nI t))]) dX2_canJoin_37 (by decide) rfl ?_
  refine g_iconst C (v := 0) dX2_canJoin_39 (by decide) ?_
  refine g_iload C dX2_canJoin_40 0 rfl ?_
  refine g_iconst C (v := 4) dX2_canJoin_42 (by decide) ?_
  refine g_iadd C dX2_canJoin_43 ?_
  refine g_top (b := nI (((A.tl s).length + (A.tl t).length) * 4 + A.sz (A.la s) + A.sz (A.la t) + 4)) (nI_add _ 4) ?_
  refine g_iconst C (v := 1) dX2_canJoin_44 (by decide) ?_
  refine g_isub C dX2_canJoin_45 ?_
  refine g_top (b := nI (((A.tl s).length + (A.tl t).length) * 4 + A.sz (A.la s) + A.sz (A.la t) + 3)) ((pk_sub (b := 1) (by omega)).trans (congrArg nI (by omega))) ?_
  refine g_iconst C (v := 4) dX2_canJoin_46 (by decide) ?_
  refine g_idiv C dX2_canJoin_47 (by decide) ?_
  refine g_top (b := nI ((((A.tl s).length + (A.tl t).length) * 4 + A.sz (A.la s) + A.sz (A.la t) + 3) / 4)) (pk_div (d := 4) (by omega) (by decide) (by decide)) ?_
  refine g_iconst C (v := 1) dX2_canJoin_48 (by decide) ?_
  refine g_isub C dX2_canJoin_49 ?_
  refine g_max C dX2_canJoin_50 mX2_canJoin_l82 mX2_canJoin_s82 mX2_canJoin_i82 mX2_canJoin_c82 (Nat.le_of_ble_eq_true rfl) (Nat.le_of_ble_eq_true rfl) (Nat.zero_le _) (Nat.zero_le _) ?_
  refine g_top (b := nI (A.need s t)) (mx0 (by omega)) ?_
  refine g_istore C (lv' := [(5, .int (nI (A.need s t))), (4, .int (nI (((A.tl s).length + (A.tl t).length) * 4 + A.sz (A.la s) + A.sz (A.la t)))), (3, .int (nI ((A.tl s).length + (A.tl t).length))), (0, .ref (g 0)), (1, .int (nI s)), (2, .int (nI t))]) dX2_canJoin_53 (by decide) rfl ?_
  refine g_iload C dX2_canJoin_55 0 rfl ?_
  refine g_aload_n C dX2_canJoin_57 3 rfl rfl ?_
  refine g_callIV C [0, 1, 2, 3, 4, 5, 6, 7] [] [0, 1, 2, 3, 4, 5, 6, 7] 0 2 (b := g 0) rfl rfl (As := []) (rest := [.int (nI (A.need s t))]) (wr := ([] : va_W)) (wf := fun _ => (wG cy g z0 P)) dX2_canJoin_58 gX2_canJoin_X2_freePages rfl dmX2_freePages ⟨rfl, rfl, Nat.le_of_ble_eq_true rfl, Nat.le_of_ble_eq_true rfl, Nat.zero_le _, Nat.zero_le _⟩ (c_X2_freePages l D cy cz g z0 P A hr) ⟨rfl, rfl, rfl, rfl, by decide, rfl, fun _ => rfl⟩ (Nat.le_of_ble_eq_true rfl) ?_
  rintro _ - rfl
  show G x l (rmF 2 72) D 6 0 0 (wG cy g z0 P) [(5, .int (nI (A.need s t))), (4, .int (nI (((A.tl s).length + (A.tl t).length) * 4 + A.sz (A.la s) + A.sz (A.la t)))), (3, .int (nI ((A.tl s).length + (A.tl t).length))), (0, .ref (g 0)), (1, .int (nI s)), (2, .int (nI t))] [.int (nI A.fc), .int (nI (A.need s t))] 61
  refine g_iload_n C dX2_canJoin_61 2 rfl rfl ?_
  refine g_iadd C dX2_canJoin_62 ?_
  refine g_top (b := nI (A.fc + ((A.tl s).length + (A.tl t).length))) (nI_add _ _) ?_
  refine g_icmp_gt C (tgt := 70) dX2_canJoin_63 (by decide) (fun c1 => ?_) (fun c1 => ?_)
  · skip
    have hn : A.need s t ≤ 1000 := by unfold AS.need; omega
    have h1 : ¬ A.can s t := fun w => absurd ((nI_ltI (by omega) (by omega)).mp c1) (Nat.not_lt.mpr w)
    refine g_iconst C (v := 0) dX2_canJoin_70 (by decide) ?_
    exact ret _ () _ _ dX2_canJoin_71 (by decide) (by rw [if_neg h1])
  · skip
    have hn : A.need s t ≤ 1000 := by unfold AS.need; omega
    have h1 : A.can s t := Nat.le_of_not_lt (fun w => c1 (nI_lt w (by omega)))
    refine g_iconst C (v := 1) dX2_canJoin_66 (by decide) ?_
    refine g_goto C (tgt := 71) dX2_canJoin_67 (by decide) ?_
    exact ret _ () _ _ dX2_canJoin_71 (by decide) (by rw [if_pos h1])

theorem mX2_grow_f33 : Cond.fieldLink RX2 33 (TX2 7).1 (TX2 7).2.1 (TX2 7).2.2.1 ∈ wsX2_grow := List.mem_of_getElem? (i := 1) rfl
theorem iX2_grow_X2 : ∀ w ∈ wsX20, w ∈ wsX2_grow := by decide +kernel
theorem mX2_grow_f114 : Cond.fieldLink RX2 114 (TX0 2).1 (TX0 2).2.1 (TX0 2).2.2.1 ∈ wsX2_grow := List.mem_of_getElem? (i := 2) rfl
theorem iX2_grow_X0 : ∀ w ∈ wsX00, w ∈ wsX2_grow := by decide +kernel
theorem mX2_grow_f54 : Cond.fieldLink RX2 54 (TX2 9).1 (TX2 9).2.1 (TX2 9).2.2.1 ∈ wsX2_grow := List.mem_of_getElem? (i := 3) rfl
theorem mX2_grow_f50 : Cond.fieldLink RX2 50 (TX2 8).1 (TX2 8).2.1 (TX2 8).2.2.1 ∈ wsX2_grow := List.mem_of_getElem? (i := 4) rfl
theorem mX2_grow_f123 : Cond.fieldLink RX2 123 (TX0 0).1 (TX0 0).2.1 (TX0 0).2.2.1 ∈ wsX2_grow := List.mem_of_getElem? (i := 5) rfl
theorem mX2_grow_f124 : Cond.fieldLink RX2 124 (TX0 1).1 (TX0 1).2.1 (TX0 1).2.2.1 ∈ wsX2_grow := List.mem_of_getElem? (i := 6) rfl
set_option maxHeartbeats 1600000 in
set_option maxRecDepth 20000 in
theorem c_X2_grow (l : Launch) (D : va_G) (cy cz : ClassId) (g : Nat → Nat) (z : Nat → Nat) (P : Mem) (Z : Mem) (A : AS) (hr : RP A P) (hn : A.nb < 64) : MV l yX2_grow wsX2_grow (rmF 3 108) D (tyL cy cz) [.ref (g 0)] (wG cy g (z 0) P ++ (wZ cy z Z)) (fun (u : Mem × Mem) => RP A.grow u.1 ∧ u.1 0 2 = P 0 2) (fun u => (wG cy g (z 0) u.1 ++ (wZ cy z u.2))) := by
  refine g_entV (cc := cX2_grow) (maxL := 2) (own := RX2) (by decide) rfl rfl (Nat.le_of_ble_eq_true rfl) (fun x C ret => ?_)
  show G x l (rmF 3 108) D 2 0 0 (wG cy g (z 0) P ++ (wZ cy z Z)) [(0, .ref (g 0))] [] 0
  have hS64 : A.S < 64 := by have := hr.2.1.S_lt; omega
  have hlen := held_len hr.1.1 hS64
  have hcl := cnt_le hr.1.1 hS64
  refine g_aload_n C dX2_grow_0 0 rfl rfl ?_
  refine g_get C 0 (f := 7) (v := .ref (z 0)) (Cn := RX2) (T := TX2) (N := 11) dX2_grow_1 rfl rfl iX2_grow_X2 (by decide) mX2_grow_f33 rfl ?_
  refine g_iconst C (v := 0) dX2_grow_4 (by decide) ?_
  refine g_put C 8 (f := 2) (v := .int 0) (ty := .int) (Cn := RX0) (T := TX0) (N := 3) (ws' := (wG cy g (z 0) P ++ (wZ cy z (ps Z 0 0 0)))) dX2_grow_5 rfl rfl iX2_grow_X0 tyX0 tyX0_ok nmX0 (by decide) mX2_grow_f114 rfl rfl (rfl) (rfl) (Nat.le_of_ble_eq_true rfl) (set_r rfl (wZ_s0 cy z Z 0)) ?_
  refine g_aload_n C dX2_grow_8 0 rfl rfl ?_
  refine g_aload_n C dX2_grow_9 0 rfl rfl ?_
  refine g_get C 0 (f := 9) (v := .int (P 0 1)) (Cn := RX2) (T := TX2) (N := 11) dX2_grow_10 rfl rfl iX2_grow_X2 (by decide) mX2_grow_f54 rfl ?_
  refine g_top (b := nI A.S) (hr.2.2.2) ?_
  refine g_callVV C [0, 1, 2, 3, 4, 5, 6, 7, 8, 9, 10] [] [0, 1, 2, 3, 4, 5, 6, 7, 8, 9, 10] 0 2 (b := g 0) rfl rfl (As := [.int (nI A.S)]) (rest := []) (wr := ([] : va_W)) (wf := fun u1 => (wG cy g (z 0) u1.1 ++ (wZ cy z u1.2))) dX2_grow_13 gX2_grow_X2_setAside rfl dmX2_setAside ⟨rfl, rfl, Nat.le_of_ble_eq_true rfl, Nat.le_of_ble_eq_true rfl, Nat.zero_le _, Nat.zero_le _⟩ (c_X2_setAside l D cy cz g z P (ps Z 0 0 0) A ([]) A.S hr.1 RZ_nil hS64 (by rw [hr.1.1.sum hS64]; show 0 + _ ≤ 264; omega)) ⟨rfl, rfl, rfl, rfl, by decide, rfl, fun _ => rfl⟩ (Nat.le_of_ble_eq_true rfl) ?_
  intro u1 hp1
  show G x l (rmF 3 108) D 2 0 0 (wG cy g (z 0) u1.1 ++ (wZ cy z u1.2)) [(0, .ref (g 0))] [] 16
  obtain ⟨q1, q2, q3, q4, q5⟩ := hp1
  have q5 : RZ u1.2 (A.held A.S) := q5
  refine g_aload_n C dX2_grow_16 0 rfl rfl ?_
  refine g_dup C dX2_grow_17 rfl ?_
  refine g_get C 0 (f := 9) (v := .int (u1.1 0 1)) (Cn := RX2) (T := TX2) (N := 11) dX2_grow_18 rfl rfl iX2_grow_X2 (by decide) mX2_grow_f54 rfl ?_
  refine g_top (b := nI A.S) (q3.trans hr.2.2.2) ?_
  refine g_iconst C (v := 1) dX2_grow_21 (by decide) ?_
  refine g_iadd C dX2_grow_22 ?_
  refine g_top (b := nI (A.S + 1)) (nI_1 _) ?_
  refine g_put C 0 (f := 9) (v := .int (nI (A.S + 1))) (ty := .int) (Cn := RX2) (T := TX2) (N := 11) (ws' := (wG cy g (z 0) (ps u1.1 0 1 (nI (A.S + 1))) ++ (wZ cy z u1.2))) dX2_grow_23 rfl rfl iX2_grow_X2 tyX2 tyX2_ok nmX2 (by decide) mX2_grow_f54 rfl rfl (rfl) (rfl) (Nat.le_of_ble_eq_true rfl) (set_l (Nat.le_of_ble_eq_true rfl) (wG_s1 cy g (z 0) u1.1 (nI (A.S + 1)))) ?_
  refine g_aload_n C dX2_grow_26 0 rfl rfl ?_
  refine g_get C 0 (f := 9) (v := .int (nI (A.S + 1))) (Cn := RX2) (T := TX2) (N := 11) dX2_grow_27 rfl rfl iX2_grow_X2 (by decide) mX2_grow_f54 rfl ?_
  refine g_iconst C (v := 4) dX2_grow_30 (by decide) ?_
  refine g_aload_n C dX2_grow_31 0 rfl rfl ?_
  refine g_get C 0 (f := 8) (v := .int (u1.1 0 0)) (Cn := RX2) (T := TX2) (N := 11) dX2_grow_32 rfl rfl iX2_grow_X2 (by decide) mX2_grow_f50 rfl ?_
  refine g_top (b := nI A.L) (q2.trans hr.2.2.1) ?_
  refine g_ishl C dX2_grow_35 ?_
  refine g_top (b := nI (4 * 2 ^ A.L)) (base_eq hr.2.1.1) ?_
  refine g_icmp_ne C (tgt := 54) dX2_grow_36 (by decide) (fun c1 => ?_) (fun c1 => ?_)
  · skip
    have hx : ¬ A.S + 1 = 4 * 2 ^ A.L := fun w => c1 (by rw [w])
    have hA : RP A.g0 ((ps u1.1 0 1 (nI (A.S + 1)))) := ⟨⟨(grow_LI hr.1.1 hr.2.1 hn).1, q1.2⟩, grow_WFa hr.1.1 hr.2.1 hn, (q2.trans hr.2.2.1).trans (congrArg nI (by show A.L = nxL A.L A.S; unfold nxL; rw [if_neg hx])), congrArg nI (by show A.S + 1 = nxS A.L A.S; unfold nxS; rw [if_neg hx])⟩
    have hE : ((ps u1.1 0 1 (nI (A.S + 1)))) 0 2 = P 0 2 - nI (A.held A.S).length := by rw [hlen, ← hr.1.1.sum hS64]; exact q4
    refine g_iconst C (v := 0) dX2_grow_54 (by decide) ?_
    refine g_istore_n C (lv' := [(1, .int 0), (0, .ref (g 0))]) dX2_grow_55 rfl (by decide) rfl ?_
    refine g_loop (σ := Nat × Mem) (fun (a : Nat × Mem) => match a with | (i, Pi) => (wG cy g (z 0) Pi ++ (wZ cy z u1.2))) (fun (a : Nat × Mem) => match a with | (i, Pi) => [(1, .int (nI i)), (0, .ref (g 0))]) (fun (a : Nat × Mem) => match a with | (i, Pi) => (i ≤ (A.held A.S).length) ∧ (RP (A.g0.lay ((A.held A.S).take i)) Pi) ∧ (Pi 0 2 = P 0 2 - nI (A.held A.S).length + nI i) ∧ (LI (A.g0.lay ((A.held A.S).take i)) (A.fc + (A.tl A.S).length) A.S A.nb i)) (fun (a : Nat × Mem) => match a with | (i, Pi) => (A.held A.S).length - i) ?_ (0, (ps u1.1 0 1 (nI (A.S + 1)))) (⟨Nat.zero_le _, hA, hE.trans (Int32.add_zero _).symm, grow_LI hr.1.1 hr.2.1 hn⟩)
    intro a hI ih
    obtain ⟨i, Pi⟩ := a
    obtain ⟨i1, i2, i3, i4⟩ : (i ≤ (A.held A.S).length) ∧ (RP (A.g0.lay ((A.held A.S).take i)) Pi) ∧ (Pi 0 2 = P 0 2 - nI (A.held A.S).length + nI i) ∧ (LI (A.g0.lay ((A.held A.S).take i)) (A.fc + (A.tl A.S).length) A.S A.nb i) := hI
    show G x l (rmF 3 108) D 2 0 0 (wG cy g (z 0) Pi ++ (wZ cy z u1.2)) [(1, .int (nI i)), (0, .ref (g 0))] [] 56
    refine g_iload_n C dX2_grow_56 0 rfl rfl ?_
    refine g_aload_n C dX2_grow_57 1 rfl rfl ?_
    refine g_get C 0 (f := 7) (v := .ref (z 0)) (Cn := RX2) (T := TX2) (N := 11) dX2_grow_58 rfl rfl iX2_grow_X2 (by decide) mX2_grow_f33 rfl ?_
    refine g_get C 8 (f := 2) (v := .int (u1.2 0 0)) (Cn := RX0) (T := TX0) (N := 3) dX2_grow_61 rfl rfl iX2_grow_X0 (by decide) mX2_grow_f114 rfl ?_
    refine g_top (b := nI (A.held A.S).length) (q5.1) ?_
    refine g_icmp_ge C (tgt := 115) dX2_grow_64 (by decide) (fun c2 => ?_) (fun c2 => ?_)
    · skip
      have hi : i = (A.held A.S).length := by have := (nI_leI (by omega) (by omega)).mp c2; omega
      exact ret (Pi, u1.2) _ _ dX2_grow_115 (⟨by rw [hi, List.take_length] at i2; exact i2, by rw [hi] at i3; exact i3.trans (sub_add_nI _ _)⟩)
    · skip
      have hi : i < (A.held A.S).length := Nat.lt_of_not_le (fun w => c2 (nI_le w (by omega)))
      have hz := q5.2.2 i hi
      have hbt : (A.g0.lay ((A.held A.S).take i)).ad ((A.held A.S).getD i (0, 0)).1 = A.S ∨ (A.g0.lay ((A.held A.S).take i)).ad ((A.held A.S).getD i (0, 0)).1 = A.nb := by rw [lay_ad]; exact grow_ad hr.2.1 _ (getD_mem hi)
      have hm := LI_room i4 hi (grow_room hr.1.1 hS64) hbt
      refine g_iload_n C dX2_grow_67 0 rfl rfl ?_
      refine g_sipush C (v := 264) dX2_grow_68 (by decide) ?_
      refine g_icmp_ge C (tgt := 115) dX2_grow_71 (by decide) (fun c3 => ?_) (fun c3 => ?_)
      · skip
        exact absurd c3 (nI_ge (a := i) (b := 264) (by omega) (by decide))
      · skip
        refine g_aload_n C dX2_grow_74 1 rfl rfl ?_
        refine g_aload_n C dX2_grow_75 1 rfl rfl ?_
        refine g_aload_n C dX2_grow_76 1 rfl rfl ?_
        refine g_get C 0 (f := 7) (v := .ref (z 0)) (Cn := RX2) (T := TX2) (N := 11) dX2_grow_77 rfl rfl iX2_grow_X2 (by decide) mX2_grow_f33 rfl ?_
        refine g_get C 8 (f := 0) (v := .ref (z 1)) (Cn := RX0) (T := TX0) (N := 3) dX2_grow_80 rfl rfl iX2_grow_X0 (by decide) mX2_grow_f123 rfl ?_
        refine g_iload_n C dX2_grow_83 0 rfl rfl ?_
        refine g_iald C 9 0 (f := u1.2 1) (N := 264) i dX2_grow_84 rfl rfl (by decide) (rfl) (by omega) ?_
        refine g_top (b := ((A.held A.S).getD i (0, 0)).1) (hz.1) ?_
        refine g_callIV C [0, 1, 2, 3, 4, 5, 6, 7] [8, 9, 10] [3, 4, 5, 6, 7, 8, 9, 10, 0, 1, 2] 0 2 (b := g 0) rfl rfl (As := [.int (((A.held A.S).getD i (0, 0)).1)]) (rest := [.ref (g 0)]) (wr := (wZ cy z u1.2)) (wf := fun _ => (wG cy g (z 0) Pi ++ (wZ cy z u1.2))) dX2_grow_85 gX2_grow_X2_addressOf rfl dmX2_addressOf ⟨rfl, rfl, Nat.le_of_ble_eq_true rfl, Nat.le_of_ble_eq_true rfl, Nat.zero_le _, Nat.zero_le _⟩ (c_X2_addressOf l D cy cz g (z 0) Pi ((A.g0.lay ((A.held A.S).take i)).L) ((A.g0.lay ((A.held A.S).take i)).S) (((A.held A.S).getD i (0, 0)).1) i2.2.2.1 i2.2.2.2 i2.2.1.1 i2.S64) ⟨rfl, rfl, rfl, rfl, by decide, rfl, fun _ => rfl⟩ (Nat.le_of_ble_eq_true rfl) ?_
        rintro _ - rfl
        show G x l (rmF 3 108) D 2 0 0 (wG cy g (z 0) Pi ++ (wZ cy z u1.2)) [(1, .int (nI i)), (0, .ref (g 0))] [.int (nI (adr ((A.g0.lay ((A.held A.S).take i)).L) ((A.g0.lay ((A.held A.S).take i)).S) (((A.held A.S).getD i (0, 0)).1))), .ref (g 0)] 88
        refine g_top (b := nI ((A.g0.lay ((A.held A.S).take i)).ad ((A.held A.S).getD i (0, 0)).1)) (rfl) ?_
        refine g_aload_n C dX2_grow_88 1 rfl rfl ?_
        refine g_get C 0 (f := 7) (v := .ref (z 0)) (Cn := RX2) (T := TX2) (N := 11) dX2_grow_89 rfl rfl iX2_grow_X2 (by decide) mX2_grow_f33 rfl ?_
        refine g_get C 8 (f := 0) (v := .ref (z 1)) (Cn := RX0) (T := TX0) (N := 3) dX2_grow_92 rfl rfl iX2_grow_X0 (by decide) mX2_grow_f123 rfl ?_
        refine g_iload_n C dX2_grow_95 0 rfl rfl ?_
        refine g_iald C 9 0 (f := u1.2 1) (N := 264) i dX2_grow_96 rfl rfl (by decide) (rfl) (by omega) ?_
        refine g_top (b := ((A.held A.S).getD i (0, 0)).1) (hz.1) ?_
        refine g_aload_n C dX2_grow_97 1 rfl rfl ?_
        refine g_get C 0 (f := 7) (v := .ref (z 0)) (Cn := RX2) (T := TX2) (N := 11) dX2_grow_98 rfl rfl iX2_grow_X2 (by decide) mX2_grow_f33 rfl ?_
        refine g_get C 8 (f := 1) (v := .ref (z 2)) (Cn := RX0) (T := TX0) (N := 3) dX2_grow_101 rfl rfl iX2_grow_X0 (by decide) mX2_grow_f124 rfl ?_
        refine g_iload_n C dX2_grow_104 0 rfl rfl ?_
        refine g_iald C 10 0 (f := u1.2 2) (N := 264) i dX2_grow_105 rfl rfl (by decide) (rfl) (by omega) ?_
        refine g_top (b := ((A.held A.S).getD i (0, 0)).2) (hz.2) ?_
        refine g_callVV C [0, 1, 2, 3, 4, 5, 6, 7] [8, 9, 10] [3, 4, 5, 6, 7, 8, 9, 10, 0, 1, 2] 0 2 (b := g 0) rfl rfl (As := [.int (nI ((A.g0.lay ((A.held A.S).take i)).ad ((A.held A.S).getD i (0, 0)).1)), .int (((A.held A.S).getD i (0, 0)).1), .int (((A.held A.S).getD i (0, 0)).2)]) (rest := []) (wr := (wZ cy z u1.2)) (wf := fun P3 => (wG cy g (z 0) P3 ++ (wZ cy z u1.2))) dX2_grow_106 gX2_grow_X2_append rfl dmX2_append ⟨rfl, rfl, Nat.le_of_ble_eq_true rfl, Nat.le_of_ble_eq_true rfl, Nat.zero_le _, Nat.zero_le _⟩ (c_X2_append l D cy cz g (z 0) Pi (A.g0.lay ((A.held A.S).take i)) ((A.g0.lay ((A.held A.S).take i)).ad ((A.held A.S).getD i (0, 0)).1) (((A.held A.S).getD i (0, 0)).1) (((A.held A.S).getD i (0, 0)).2) i2.1 (i2.adlt _) hm) ⟨rfl, rfl, rfl, rfl, by decide, rfl, fun _ => rfl⟩ (Nat.le_of_ble_eq_true rfl) ?_
        intro P3 hp3
        show G x l (rmF 3 108) D 2 0 0 (wG cy g (z 0) P3 ++ (wZ cy z u1.2)) [(1, .int (nI i)), (0, .ref (g 0))] [] 109
        refine g_iinc C (q := 0) (v := nI (i + 1)) (lv' := [(1, .int (nI (i + 1))), (0, .ref (g 0))]) dX2_grow_109 rfl (nI_1 i) (by decide) rfl ?_
        refine g_goto C (tgt := 56) dX2_grow_112 (by decide) ?_
        have hmem := getD_mem hi
        have hls := lay_LS A.g0 ((A.held A.S).take i)
        exact ih (i + 1, P3) ⟨hi, by rw [take_succ' hi, lay_snoc]; exact RP_add i2 hm hp3.1 hp3.2.1 hp3.2.2.1, by rw [hp3.2.2.2, i3, Int32.add_assoc, nI_1], by rw [take_succ' hi, lay_snoc]; exact LI_step i4 hbt hm _ _⟩ (by show (A.held A.S).length - (i + 1) < (A.held A.S).length - i; omega)
  · skip
    have h16 : 4 * 2 ^ A.L ≤ 64 := by have h4 := hr.2.1.1; have := Nat.pow_le_pow_right (n := 2) (by decide) h4; omega
    have hx : A.S + 1 = 4 * 2 ^ A.L := (nI_eq (by omega) (by omega)).mp c1
    refine g_aload_n C dX2_grow_39 0 rfl rfl ?_
    refine g_iconst C (v := 0) dX2_grow_40 (by decide) ?_
    refine g_put C 0 (f := 9) (v := .int 0) (ty := .int) (Cn := RX2) (T := TX2) (N := 11) (ws' := (wG cy g (z 0) (ps (ps u1.1 0 1 (nI (A.S + 1))) 0 1 0) ++ (wZ cy z u1.2))) dX2_grow_41 rfl rfl iX2_grow_X2 tyX2 tyX2_ok nmX2 (by decide) mX2_grow_f54 rfl rfl (rfl) (rfl) (Nat.le_of_ble_eq_true rfl) (set_l (Nat.le_of_ble_eq_true rfl) (wG_s1 cy g (z 0) (ps u1.1 0 1 (nI (A.S + 1))) 0)) ?_
    refine g_aload_n C dX2_grow_44 0 rfl rfl ?_
    refine g_dup C dX2_grow_45 rfl ?_
    refine g_get C 0 (f := 8) (v := .int (u1.1 0 0)) (Cn := RX2) (T := TX2) (N := 11) dX2_grow_46 rfl rfl iX2_grow_X2 (by decide) mX2_grow_f50 rfl ?_
    refine g_top (b := nI A.L) (q2.trans hr.2.2.1) ?_
    refine g_iconst C (v := 1) dX2_grow_49 (by decide) ?_
    refine g_iadd C dX2_grow_50 ?_
    refine g_top (b := nI (A.L + 1)) (nI_1 _) ?_
    refine g_put C 0 (f := 8) (v := .int (nI (A.L + 1))) (ty := .int) (Cn := RX2) (T := TX2) (N := 11) (ws' := (wG cy g (z 0) (ps (ps (ps u1.1 0 1 (nI (A.S + 1))) 0 1 0) 0 0 (nI (A.L + 1))) ++ (wZ cy z u1.2))) dX2_grow_51 rfl rfl iX2_grow_X2 tyX2 tyX2_ok nmX2 (by decide) mX2_grow_f50 rfl rfl (rfl) (rfl) (Nat.le_of_ble_eq_true rfl) (set_l (Nat.le_of_ble_eq_true rfl) (wG_s0 cy g (z 0) (ps (ps u1.1 0 1 (nI (A.S + 1))) 0 1 0) (nI (A.L + 1)))) ?_
    have hA : RP A.g0 ((ps (ps (ps u1.1 0 1 (nI (A.S + 1))) 0 1 0) 0 0 (nI (A.L + 1)))) := ⟨⟨(grow_LI hr.1.1 hr.2.1 hn).1, q1.2⟩, grow_WFa hr.1.1 hr.2.1 hn, congrArg nI (by show A.L + 1 = nxL A.L A.S; unfold nxL; rw [if_pos hx]), congrArg nI (by show 0 = nxS A.L A.S; unfold nxS; rw [if_pos hx])⟩
    have hE : ((ps (ps (ps u1.1 0 1 (nI (A.S + 1))) 0 1 0) 0 0 (nI (A.L + 1)))) 0 2 = P 0 2 - nI (A.held A.S).length := by rw [hlen, ← hr.1.1.sum hS64]; exact q4
    refine g_iconst C (v := 0) dX2_grow_54 (by decide) ?_
    refine g_istore_n C (lv' := [(1, .int 0), (0, .ref (g 0))]) dX2_grow_55 rfl (by decide) rfl ?_
    refine g_loop (σ := Nat × Mem) (fun (a : Nat × Mem) => match a with | (i, Pi) => (wG cy g (z 0) Pi ++ (wZ cy z u1.2))) (fun (a : Nat × Mem) => match a with | (i, Pi) => [(1, .int (nI i)), (0, .ref (g 0))]) (fun (a : Nat × Mem) => match a with | (i, Pi) => (i ≤ (A.held A.S).length) ∧ (RP (A.g0.lay ((A.held A.S).take i)) Pi) ∧ (Pi 0 2 = P 0 2 - nI (A.held A.S).length + nI i) ∧ (LI (A.g0.lay ((A.held A.S).take i)) (A.fc + (A.tl A.S).length) A.S A.nb i)) (fun (a : Nat × Mem) => match a with | (i, Pi) => (A.held A.S).length - i) ?_ (0, (ps (ps (ps u1.1 0 1 (nI (A.S + 1))) 0 1 0) 0 0 (nI (A.L + 1)))) (⟨Nat.zero_le _, hA, hE.trans (Int32.add_zero _).symm, grow_LI hr.1.1 hr.2.1 hn⟩)
    intro a hI ih
    obtain ⟨i, Pi⟩ := a
    obtain ⟨i1, i2, i3, i4⟩ : (i ≤ (A.held A.S).length) ∧ (RP (A.g0.lay ((A.held A.S).take i)) Pi) ∧ (Pi 0 2 = P 0 2 - nI (A.held A.S).length + nI i) ∧ (LI (A.g0.lay ((A.held A.S).take i)) (A.fc + (A.tl A.S).length) A.S A.nb i) := hI
    show G x l (rmF 3 108) D 2 0 0 (wG cy g (z 0) Pi ++ (wZ cy z u1.2)) [(1, .int (nI i)), (0, .ref (g 0))] [] 56
    refine g_iload_n C dX2_grow_56 0 rfl rfl ?_
    refine g_aload_n C dX2_grow_57 1 rfl rfl ?_
    refine g_get C 0 (f := 7) (v := .ref (z 0)) (Cn := RX2) (T := TX2) (N := 11) dX2_grow_58 rfl rfl iX2_grow_X2 (by decide) mX2_grow_f33 rfl ?_
    refine g_get C 8 (f := 2) (v := .int (u1.2 0 0)) (Cn := RX0) (T := TX0) (N := 3) dX2_grow_61 rfl rfl iX2_grow_X0 (by decide) mX2_grow_f114 rfl ?_
    refine g_top (b := nI (A.held A.S).length) (q5.1) ?_
    refine g_icmp_ge C (tgt := 115) dX2_grow_64 (by decide) (fun c2 => ?_) (fun c2 => ?_)
    · skip
      have hi : i = (A.held A.S).length := by have := (nI_leI (by omega) (by omega)).mp c2; omega
      exact ret (Pi, u1.2) _ _ dX2_grow_115 (⟨by rw [hi, List.take_length] at i2; exact i2, by rw [hi] at i3; exact i3.trans (sub_add_nI _ _)⟩)
    · skip
      have hi : i < (A.held A.S).length := Nat.lt_of_not_le (fun w => c2 (nI_le w (by omega)))
      have hz := q5.2.2 i hi
      have hbt : (A.g0.lay ((A.held A.S).take i)).ad ((A.held A.S).getD i (0, 0)).1 = A.S ∨ (A.g0.lay ((A.held A.S).take i)).ad ((A.held A.S).getD i (0, 0)).1 = A.nb := by rw [lay_ad]; exact grow_ad hr.2.1 _ (getD_mem hi)
      have hm := LI_room i4 hi (grow_room hr.1.1 hS64) hbt
      refine g_iload_n C dX2_grow_67 0 rfl rfl ?_
      refine g_sipush C (v := 264) dX2_grow_68 (by decide) ?_
      refine g_icmp_ge C (tgt := 115) dX2_grow_71 (by decide) (fun c3 => ?_) (fun c3 => ?_)
      · skip
        exact absurd c3 (nI_ge (a := i) (b := 264) (by omega) (by decide))
      · skip
        refine g_aload_n C dX2_grow_74 1 rfl rfl ?_
        refine g_aload_n C dX2_grow_75 1 rfl rfl ?_
        refine g_aload_n C dX2_grow_76 1 rfl rfl ?_
        refine g_get C 0 (f := 7) (v := .ref (z 0)) (Cn := RX2) (T := TX2) (N := 11) dX2_grow_77 rfl rfl iX2_grow_X2 (by decide) mX2_grow_f33 rfl ?_
        refine g_get C 8 (f := 0) (v := .ref (z 1)) (Cn := RX0) (T := TX0) (N := 3) dX2_grow_80 rfl rfl iX2_grow_X0 (by decide) mX2_grow_f123 rfl ?_
        refine g_iload_n C dX2_grow_83 0 rfl rfl ?_
        refine g_iald C 9 0 (f := u1.2 1) (N := 264) i dX2_grow_84 rfl rfl (by decide) (rfl) (by omega) ?_
        refine g_top (b := ((A.held A.S).getD i (0, 0)).1) (hz.1) ?_
        refine g_callIV C [0, 1, 2, 3, 4, 5, 6, 7] [8, 9, 10] [3, 4, 5, 6, 7, 8, 9, 10, 0, 1, 2] 0 2 (b := g 0) rfl rfl (As := [.int (((A.held A.S).getD i (0, 0)).1)]) (rest := [.ref (g 0)]) (wr := (wZ cy z u1.2)) (wf := fun _ => (wG cy g (z 0) Pi ++ (wZ cy z u1.2))) dX2_grow_85 gX2_grow_X2_addressOf rfl dmX2_addressOf ⟨rfl, rfl, Nat.le_of_ble_eq_true rfl, Nat.le_of_ble_eq_true rfl, Nat.zero_le _, Nat.zero_le _⟩ (c_X2_addressOf l D cy cz g (z 0) Pi ((A.g0.lay ((A.held A.S).take i)).L) ((A.g0.lay ((A.held A.S).take i)).S) (((A.held A.S).getD i (0, 0)).1) i2.2.2.1 i2.2.2.2 i2.2.1.1 i2.S64) ⟨rfl, rfl, rfl, rfl, by decide, rfl, fun _ => rfl⟩ (Nat.le_of_ble_eq_true rfl) ?_
        rintro _ - rfl
        show G x l (rmF 3 108) D 2 0 0 (wG cy g (z 0) Pi ++ (wZ cy z u1.2)) [(1, .int (nI i)), (0, .ref (g 0))] [.int (nI (adr ((A.g0.lay ((A.held A.S).take i)).L) ((A.g0.lay ((A.held A.S).take i)).S) (((A.held A.S).getD i (0, 0)).1))), .ref (g 0)] 88
        refine g_top (b := nI ((A.g0.lay ((A.held A.S).take i)).ad ((A.held A.S).getD i (0, 0)).1)) (rfl) ?_
        refine g_aload_n C dX2_grow_88 1 rfl rfl ?_
        refine g_get C 0 (f := 7) (v := .ref (z 0)) (Cn := RX2) (T := TX2) (N := 11) dX2_grow_89 rfl rfl iX2_grow_X2 (by decide) mX2_grow_f33 rfl ?_
        refine g_get C 8 (f := 0) (v := .ref (z 1)) (Cn := RX0) (T := TX0) (N := 3) dX2_grow_92 rfl rfl iX2_grow_X0 (by decide) mX2_grow_f123 rfl ?_
        refine g_iload_n C dX2_grow_95 0 rfl rfl ?_
        refine g_iald C 9 0 (f := u1.2 1) (N := 264) i dX2_grow_96 rfl rfl (by decide) (rfl) (by omega) ?_
        refine g_top (b := ((A.held A.S).getD i (0, 0)).1) (hz.1) ?_
        refine g_aload_n C dX2_grow_97 1 rfl rfl ?_
        refine g_get C 0 (f := 7) (v := .ref (z 0)) (Cn := RX2) (T := TX2) (N := 11) dX2_grow_98 rfl rfl iX2_grow_X2 (by decide) mX2_grow_f33 rfl ?_
        refine g_get C 8 (f := 1) (v := .ref (z 2)) (Cn := RX0) (T := TX0) (N := 3) dX2_grow_101 rfl rfl iX2_grow_X0 (by decide) mX2_grow_f124 rfl ?_
        refine g_iload_n C dX2_grow_104 0 rfl rfl ?_
        refine g_iald C 10 0 (f := u1.2 2) (N := 264) i dX2_grow_105 rfl rfl (by decide) (rfl) (by omega) ?_
        refine g_top (b := ((A.held A.S).getD i (0, 0)).2) (hz.2) ?_
        refine g_callVV C [0, 1, 2, 3, 4, 5, 6, 7] [8, 9, 10] [3, 4, 5, 6, 7, 8, 9, 10, 0, 1, 2] 0 2 (b := g 0) rfl rfl (As := [.int (nI ((A.g0.lay ((A.held A.S).take i)).ad ((A.held A.S).getD i (0, 0)).1)), .int (((A.held A.S).getD i (0, 0)).1), .int (((A.held A.S).getD i (0, 0)).2)]) (rest := []) (wr := (wZ cy z u1.2)) (wf := fun P3 => (wG cy g (z 0) P3 ++ (wZ cy z u1.2))) dX2_grow_106 gX2_grow_X2_append rfl dmX2_append ⟨rfl, rfl, Nat.le_of_ble_eq_true rfl, Nat.le_of_ble_eq_true rfl, Nat.zero_le _, Nat.zero_le _⟩ (c_X2_append l D cy cz g (z 0) Pi (A.g0.lay ((A.held A.S).take i)) ((A.g0.lay ((A.held A.S).take i)).ad ((A.held A.S).getD i (0, 0)).1) (((A.held A.S).getD i (0, 0)).1) (((A.held A.S).getD i (0, 0)).2) i2.1 (i2.adlt _) hm) ⟨rfl, rfl, rfl, rfl, by decide, rfl, fun _ => rfl⟩ (Nat.le_of_ble_eq_true rfl) ?_
        intro P3 hp3
        show G x l (rmF 3 108) D 2 0 0 (wG cy g (z 0) P3 ++ (wZ cy z u1.2)) [(1, .int (nI i)), (0, .ref (g 0))] [] 109
        refine g_iinc C (q := 0) (v := nI (i + 1)) (lv' := [(1, .int (nI (i + 1))), (0, .ref (g 0))]) dX2_grow_109 rfl (nI_1 i) (by decide) rfl ?_
        refine g_goto C (tgt := 56) dX2_grow_112 (by decide) ?_
        have hmem := getD_mem hi
        have hls := lay_LS A.g0 ((A.held A.S).take i)
        exact ih (i + 1, P3) ⟨hi, by rw [take_succ' hi, lay_snoc]; exact RP_add i2 hm hp3.1 hp3.2.1 hp3.2.2.1, by rw [hp3.2.2.2, i3, Int32.add_assoc, nI_1], by rw [take_succ' hi, lay_snoc]; exact LI_step i4 hbt hm _ _⟩ (by show (A.held A.S).length - (i + 1) < (A.held A.S).length - i; omega)

theorem mX2_shrink_f54 : Cond.fieldLink RX2 54 (TX2 9).1 (TX2 9).2.1 (TX2 9).2.2.1 ∈ wsX2_shrink := List.mem_of_getElem? (i := 1) rfl
theorem iX2_shrink_X2 : ∀ w ∈ wsX20, w ∈ wsX2_shrink := by decide +kernel
theorem mX2_shrink_f50 : Cond.fieldLink RX2 50 (TX2 8).1 (TX2 8).2.1 (TX2 8).2.2.1 ∈ wsX2_shrink := List.mem_of_getElem? (i := 2) rfl
theorem mX2_shrink_f33 : Cond.fieldLink RX2 33 (TX2 7).1 (TX2 7).2.1 (TX2 7).2.2.1 ∈ wsX2_shrink := List.mem_of_getElem? (i := 3) rfl
theorem mX2_shrink_f114 : Cond.fieldLink RX2 114 (TX0 2).1 (TX0 2).2.1 (TX0 2).2.2.1 ∈ wsX2_shrink := List.mem_of_getElem? (i := 4) rfl
theorem iX2_shrink_X0 : ∀ w ∈ wsX00, w ∈ wsX2_shrink := by decide +kernel
theorem mX2_shrink_f123 : Cond.fieldLink RX2 123 (TX0 0).1 (TX0 0).2.1 (TX0 0).2.2.1 ∈ wsX2_shrink := List.mem_of_getElem? (i := 5) rfl
theorem mX2_shrink_f124 : Cond.fieldLink RX2 124 (TX0 1).1 (TX0 1).2.1 (TX0 1).2.2.1 ∈ wsX2_shrink := List.mem_of_getElem? (i := 6) rfl
set_option maxHeartbeats 1600000 in
set_option maxRecDepth 20000 in
theorem c_X2_shrink (l : Launch) (D : va_G) (cy cz : ClassId) (g : Nat → Nat) (z : Nat → Nat) (P : Mem) (Z : Mem) (A : AS) (hr : RP A P) (hn : 4 < A.nb) : MV l yX2_shrink wsX2_shrink (rmF 3 108) D (tyL cy cz) [.ref (g 0)] (wG cy g (z 0) P ++ (wZ cy z Z)) (fun (u : Mem × Mem) => RP A.shrink u.1 ∧ u.1 0 2 = P 0 2) (fun u => (wG cy g (z 0) u.1 ++ (wZ cy z u.2))) := by
  refine g_entV (cc := cX2_shrink) (maxL := 5) (own := RX2) (by decide) rfl rfl (Nat.le_of_ble_eq_true rfl) (fun x C ret => ?_)
  show G x l (rmF 3 108) D 5 0 0 (wG cy g (z 0) P ++ (wZ cy z Z)) [(0, .ref (g 0))] [] 0
  obtain ⟨g1, g2, g3, g4⟩ := st_go hr.2.1 hn
  obtain ⟨w1, w2, w3, w4, w5, w6⟩ := pv_ok hr.2.1.1 hr.2.1.2.1 hn
  obtain ⟨hlen, hcl⟩ := shrink_len hr.1.1 hr.2.1 hn
  have n64 := hr.nb64
  have h4 := hr.2.1.1
  have hS6 := hr.S64
  refine g_aload_n C dX2_shrink_0 0 rfl rfl ?_
  refine g_callIV C [0, 1, 2, 3, 4, 5, 6, 7] [8, 9, 10] [3, 4, 5, 6, 7, 8, 9, 10, 0, 1, 2] 0 2 (b := g 0) rfl rfl (As := []) (rest := []) (wr := (wZ cy z Z)) (wf := fun _ => (wG cy g (z 0) P ++ (wZ cy z Z))) dX2_shrink_1 gX2_shrink_X2_bucketCount rfl dmX2_bucketCount ⟨rfl, rfl, Nat.le_of_ble_eq_true rfl, Nat.le_of_ble_eq_true rfl, Nat.zero_le _, Nat.zero_le _⟩ (c_X2_bucketCount l D cy cz g (z 0) P) ⟨rfl, rfl, rfl, rfl, by decide, rfl, fun _ => rfl⟩ (Nat.le_of_ble_eq_true rfl) ?_
  rintro _ - rfl
  show G x l (rmF 3 108) D 5 0 0 (wG cy g (z 0) P ++ (wZ cy z Z)) [(0, .ref (g 0))] [.int ((4 <<< (P 0 0 &&& 31)) + P 0 1)] 4
  refine g_top (b := nI A.nb) (hr.nb) ?_
  refine g_iconst C (v := 1) dX2_shrink_4 (by decide) ?_
  refine g_isub C dX2_shrink_5 ?_
  refine g_top (b := nI A.go) (pk_sub (b := 1) (by omega)) ?_
  refine g_istore_n C (lv' := [(1, .int (nI A.go)), (0, .ref (g 0))]) dX2_shrink_6 rfl (by decide) rfl ?_
  refine g_aload_n C dX2_shrink_7 1 rfl rfl ?_
  refine g_get C 0 (f := 9) (v := .int (P 0 1)) (Cn := RX2) (T := TX2) (N := 11) dX2_shrink_8 rfl rfl iX2_shrink_X2 (by decide) mX2_shrink_f54 rfl ?_
  refine g_top (b := nI A.S) (hr.2.2.2) ?_
  refine g_if_ne C (tgt := 23) dX2_shrink_11 (by decide) (fun c1 => ?_) (fun c1 => ?_)
  · skip
    have hS : ¬ A.S = 0 := fun w => c1 (by rw [w]; rfl)
    refine g_aload_n C dX2_shrink_23 1 rfl rfl ?_
    refine g_get C 0 (f := 8) (v := .int (P 0 0)) (Cn := RX2) (T := TX2) (N := 11) dX2_shrink_24 rfl rfl iX2_shrink_X2 (by decide) mX2_shrink_f50 rfl ?_
    refine g_top (b := nI (pvL A.L A.S)) (hr.2.2.1.trans (congrArg nI (by unfold pvL; rw [if_neg hS]))) ?_
    refine g_istore_n C (lv' := [(2, .int (nI (pvL A.L A.S))), (1, .int (nI A.go)), (0, .ref (g 0))]) dX2_shrink_27 rfl (by decide) rfl ?_
    refine g_iload_n C dX2_shrink_28 1 rfl rfl ?_
    refine g_iconst C (v := 4) dX2_shrink_29 (by decide) ?_
    refine g_iload_n C dX2_shrink_30 0 rfl rfl ?_
    refine g_ishl C dX2_shrink_31 ?_
    refine g_top (b := nI (4 * 2 ^ pvL A.L A.S)) (base_eq w1) ?_
    refine g_isub C dX2_shrink_32 ?_
    refine g_top (b := nI A.st) ((pk_sub (by unfold AS.go AS.nb; omega)).trans (congrArg nI (by unfold AS.go AS.st AS.nb; omega))) ?_
    refine g_istore_n C (lv' := [(3, .int (nI A.st)), (2, .int (nI (pvL A.L A.S))), (1, .int (nI A.go)), (0, .ref (g 0))]) dX2_shrink_33 rfl (by decide) rfl ?_
    refine g_aload_n C dX2_shrink_34 3 rfl rfl ?_
    refine g_iload_n C dX2_shrink_35 0 rfl rfl ?_
    refine g_iload_n C dX2_shrink_36 2 rfl rfl ?_
    refine g_callIV C [0, 1, 2, 3, 4, 5, 6, 7] [8, 9, 10] [3, 4, 5, 6, 7, 8, 9, 10, 0, 1, 2] 0 2 (b := g 0) rfl rfl (As := [.int (nI A.st), .int (nI A.go)]) (rest := []) (wr := (wZ cy z Z)) (wf := fun _ => (wG cy g (z 0) P ++ (wZ cy z Z))) dX2_shrink_37 gX2_shrink_X2_canJoin rfl dmX2_canJoin ⟨rfl, rfl, Nat.le_of_ble_eq_true rfl, Nat.le_of_ble_eq_true rfl, Nat.zero_le _, Nat.zero_le _⟩ (c_X2_canJoin l D cy cz g (z 0) P A A.st A.go hr.1 g3 g4) ⟨rfl, rfl, rfl, rfl, by decide, rfl, fun _ => rfl⟩ (Nat.le_of_ble_eq_true rfl) ?_
    rintro _ - rfl
    show G x l (rmF 3 108) D 5 0 0 (wG cy g (z 0) P ++ (wZ cy z Z)) [(3, .int (nI A.st)), (2, .int (nI (pvL A.L A.S))), (1, .int (nI A.go)), (0, .ref (g 0))] [.int (if A.can A.st A.go then 1 else 0)] 40
    refine g_if_ne C (tgt := 44) dX2_shrink_40 (by decide) (fun c2 => ?_) (fun c2 => ?_)
    · skip
      have hc : A.can A.st A.go := Decidable.byContradiction (fun w => c2 (if_neg w))
      refine g_aload_n C dX2_shrink_44 3 rfl rfl ?_
      refine g_iload_n C dX2_shrink_45 1 rfl rfl ?_
      refine g_put C 0 (f := 8) (v := .int (nI (pvL A.L A.S))) (ty := .int) (Cn := RX2) (T := TX2) (N := 11) (ws' := (wG cy g (z 0) (ps P 0 0 (nI (pvL A.L A.S))) ++ (wZ cy z Z))) dX2_shrink_46 rfl rfl iX2_shrink_X2 tyX2 tyX2_ok nmX2 (by decide) mX2_shrink_f50 rfl rfl (rfl) (rfl) (Nat.le_of_ble_eq_true rfl) (set_l (Nat.le_of_ble_eq_true rfl) (wG_s0 cy g (z 0) P (nI (pvL A.L A.S)))) ?_
      refine g_aload_n C dX2_shrink_49 3 rfl rfl ?_
      refine g_iload_n C dX2_shrink_50 0 rfl rfl ?_
      refine g_put C 0 (f := 9) (v := .int (nI A.st)) (ty := .int) (Cn := RX2) (T := TX2) (N := 11) (ws' := (wG cy g (z 0) (ps (ps P 0 0 (nI (pvL A.L A.S))) 0 1 (nI A.st)) ++ (wZ cy z Z))) dX2_shrink_51 rfl rfl iX2_shrink_X2 tyX2 tyX2_ok nmX2 (by decide) mX2_shrink_f54 rfl rfl (rfl) (rfl) (Nat.le_of_ble_eq_true rfl) (set_l (Nat.le_of_ble_eq_true rfl) (wG_s1 cy g (z 0) (ps P 0 0 (nI (pvL A.L A.S))) (nI A.st))) ?_
      refine g_aload_n C dX2_shrink_54 3 rfl rfl ?_
      refine g_get C 0 (f := 7) (v := .ref (z 0)) (Cn := RX2) (T := TX2) (N := 11) dX2_shrink_55 rfl rfl iX2_shrink_X2 (by decide) mX2_shrink_f33 rfl ?_
      refine g_iconst C (v := 0) dX2_shrink_58 (by decide) ?_
      refine g_put C 8 (f := 2) (v := .int 0) (ty := .int) (Cn := RX0) (T := TX0) (N := 3) (ws' := (wG cy g (z 0) (ps (ps P 0 0 (nI (pvL A.L A.S))) 0 1 (nI A.st)) ++ (wZ cy z (ps Z 0 0 0)))) dX2_shrink_59 rfl rfl iX2_shrink_X0 tyX0 tyX0_ok nmX0 (by decide) mX2_shrink_f114 rfl rfl (rfl) (rfl) (Nat.le_of_ble_eq_true rfl) (set_r rfl (wZ_s0 cy z Z 0)) ?_
      refine g_aload_n C dX2_shrink_62 3 rfl rfl ?_
      refine g_iload_n C dX2_shrink_63 0 rfl rfl ?_
      refine g_callVV C [0, 1, 2, 3, 4, 5, 6, 7, 8, 9, 10] [] [0, 1, 2, 3, 4, 5, 6, 7, 8, 9, 10] 0 2 (b := g 0) rfl rfl (As := [.int (nI A.st)]) (rest := []) (wr := ([] : va_W)) (wf := fun u1 => (wG cy g (z 0) u1.1 ++ (wZ cy z u1.2))) dX2_shrink_64 gX2_shrink_X2_setAside rfl dmX2_setAside ⟨rfl, rfl, Nat.le_of_ble_eq_true rfl, Nat.le_of_ble_eq_true rfl, Nat.zero_le _, Nat.zero_le _⟩ (c_X2_setAside l D cy cz g z (ps (ps P 0 0 (nI (pvL A.L A.S))) 0 1 (nI A.st)) (ps Z 0 0 0) A ([]) A.st hr.1 RZ_nil g3 (by rw [hr.1.1.sum g3]; show 0 + _ ≤ 264; omega)) ⟨rfl, rfl, rfl, rfl, by decide, rfl, fun _ => rfl⟩ (Nat.le_of_ble_eq_true rfl) ?_
      intro u1 hp1
      show G x l (rmF 3 108) D 5 0 0 (wG cy g (z 0) u1.1 ++ (wZ cy z u1.2)) [(3, .int (nI A.st)), (2, .int (nI (pvL A.L A.S))), (1, .int (nI A.go)), (0, .ref (g 0))] [] 67
      obtain ⟨q1, q2, q3, q4, q5⟩ := hp1
      have q5 : RZ u1.2 (A.held A.st) := q5
      refine g_aload_n C dX2_shrink_67 3 rfl rfl ?_
      refine g_iload_n C dX2_shrink_68 2 rfl rfl ?_
      refine g_callVV C [0, 1, 2, 3, 4, 5, 6, 7, 8, 9, 10] [] [0, 1, 2, 3, 4, 5, 6, 7, 8, 9, 10] 0 2 (b := g 0) rfl rfl (As := [.int (nI A.go)]) (rest := []) (wr := ([] : va_W)) (wf := fun u2 => (wG cy g (z 0) u2.1 ++ (wZ cy z u2.2))) dX2_shrink_69 gX2_shrink_X2_setAside rfl dmX2_setAside ⟨rfl, rfl, Nat.le_of_ble_eq_true rfl, Nat.le_of_ble_eq_true rfl, Nat.zero_le _, Nat.zero_le _⟩ (c_X2_setAside l D cy cz g z u1.1 u1.2 (A.clr A.st) (A.held A.st) A.go q1 q5 g4 (by rw [held_len hr.1.1 g3, q1.1.sum g4, (clr_other hr.1.1 g3 g4 (by omega)).2.2.1]; exact hcl)) ⟨rfl, rfl, rfl, rfl, by decide, rfl, fun _ => rfl⟩ (Nat.le_of_ble_eq_true rfl) ?_
      intro u2 hp2
      show G x l (rmF 3 108) D 5 0 0 (wG cy g (z 0) u2.1 ++ (wZ cy z u2.2)) [(3, .int (nI A.st)), (2, .int (nI (pvL A.L A.S))), (1, .int (nI A.go)), (0, .ref (g 0))] [] 72
      obtain ⟨r1, r2, r3, r4, r5⟩ := hp2
      rw [(clr_other hr.1.1 g3 g4 (by omega)).2.2.2] at r5
      have hA : RP A.s0 u2.1 := ⟨⟨(shrink_LI hr.1.1 hr.2.1 hn).1, r1.2⟩, shrink_WFa hr.1.1 hr.2.1 hn, r2.trans (q2.trans rfl), r3.trans (q3.trans rfl)⟩
      have hE : u2.1 0 2 = P 0 2 - nI (A.held A.st ++ A.held A.go).length := by rw [r4, q4, sub_nI, q1.1.sum g4, hr.1.1.sum g3, (clr_other hr.1.1 g3 g4 (by omega)).2.2.1, hlen]; rfl
      refine g_iconst C (v := 0) dX2_shrink_72 (by decide) ?_
      refine g_istore C (lv' := [(4, .int 0), (3, .int (nI A.st)), (2, .int (nI (pvL A.L A.S))), (1, .int (nI A.go)), (0, .ref (g 0))]) dX2_shrink_73 (by decide) rfl ?_
      refine g_loop (σ := Nat × Mem) (fun (a : Nat × Mem) => match a with | (i, Pi) => (wG cy g (z 0) Pi ++ (wZ cy z u2.2))) (fun (a : Nat × Mem) => match a with | (i, Pi) => [(4, .int (nI i)), (3, .int (nI A.st)), (2, .int (nI (pvL A.L A.S))), (1, .int (nI A.go)), (0, .ref (g 0))]) (fun (a : Nat × Mem) => match a with | (i, Pi) => (i ≤ (A.held A.st ++ A.held A.go).length) ∧ (RP (A.s0.lay ((A.held A.st ++ A.held A.go).take i)) Pi) ∧ (Pi 0 2 = P 0 2 - nI (A.held A.st ++ A.held A.go).length + nI i) ∧ (LI (A.s0.lay ((A.held A.st ++ A.held A.go).take i)) (A.fc + ((A.tl A.st).length + (A.tl A.go).length)) A.st A.go i)) (fun (a : Nat × Mem) => match a with | (i, Pi) => (A.held A.st ++ A.held A.go).length - i) ?_ (0, u2.1) (⟨Nat.zero_le _, hA, hE.trans (Int32.add_zero _).symm, shrink_LI hr.1.1 hr.2.1 hn⟩)
      intro a hI ih
      obtain ⟨i, Pi⟩ := a
      obtain ⟨i1, i2, i3, i4⟩ : (i ≤ (A.held A.st ++ A.held A.go).length) ∧ (RP (A.s0.lay ((A.held A.st ++ A.held A.go).take i)) Pi) ∧ (Pi 0 2 = P 0 2 - nI (A.held A.st ++ A.held A.go).length + nI i) ∧ (LI (A.s0.lay ((A.held A.st ++ A.held A.go).take i)) (A.fc + ((A.tl A.st).length + (A.tl A.go).length)) A.st A.go i) := hI
      show G x l (rmF 3 108) D 5 0 0 (wG cy g (z 0) Pi ++ (wZ cy z u2.2)) [(4, .int (nI i)), (3, .int (nI A.st)), (2, .int (nI (pvL A.L A.S))), (1, .int (nI A.go)), (0, .ref (g 0))] [] 75
      refine g_iload C dX2_shrink_75 0 rfl ?_
      refine g_aload_n C dX2_shrink_77 4 rfl rfl ?_
      refine g_get C 0 (f := 7) (v := .ref (z 0)) (Cn := RX2) (T := TX2) (N := 11) dX2_shrink_78 rfl rfl iX2_shrink_X2 (by decide) mX2_shrink_f33 rfl ?_
      refine g_get C 8 (f := 2) (v := .int (u2.2 0 0)) (Cn := RX0) (T := TX0) (N := 3) dX2_shrink_81 rfl rfl iX2_shrink_X0 (by decide) mX2_shrink_f114 rfl ?_
      refine g_top (b := nI (A.held A.st ++ A.held A.go).length) (r5.1) ?_
      refine g_icmp_ge C (tgt := 126) dX2_shrink_84 (by decide) (fun c3 => ?_) (fun c3 => ?_)
      · skip
        have hi : i = (A.held A.st ++ A.held A.go).length := by have := (nI_leI (by omega) (by omega)).mp c3; omega
        exact ret (Pi, u2.2) _ _ dX2_shrink_126 (⟨by rw [hi, List.take_length] at i2; unfold AS.shrink; rw [if_pos hc]; exact i2, by rw [hi] at i3; exact i3.trans (sub_add_nI _ _)⟩)
      · skip
        have hi : i < (A.held A.st ++ A.held A.go).length := Nat.lt_of_not_le (fun w => c3 (nI_le w (by omega)))
        have hz := r5.2.2 i hi
        have hbt : (A.s0.lay ((A.held A.st ++ A.held A.go).take i)).ad ((A.held A.st ++ A.held A.go).getD i (0, 0)).1 = A.st := by rw [lay_ad]; exact shrink_key hr.2.1 hn _ (getD_mem hi)
        have hm := LI_room i4 hi (shrink_room hr.1.1 hr.2.1 hn hc) (Or.inl rfl)
        refine g_iload C dX2_shrink_87 0 rfl ?_
        refine g_sipush C (v := 264) dX2_shrink_89 (by decide) ?_
        refine g_icmp_ge C (tgt := 126) dX2_shrink_92 (by decide) (fun c4 => ?_) (fun c4 => ?_)
        · skip
          exact absurd c4 (nI_ge (a := i) (b := 264) (by omega) (by decide))
        · skip
          refine g_aload_n C dX2_shrink_95 4 rfl rfl ?_
          refine g_iload_n C dX2_shrink_96 1 rfl rfl ?_
          refine g_aload_n C dX2_shrink_97 4 rfl rfl ?_
          refine g_get C 0 (f := 7) (v := .ref (z 0)) (Cn := RX2) (T := TX2) (N := 11) dX2_shrink_98 rfl rfl iX2_shrink_X2 (by decide) mX2_shrink_f33 rfl ?_
          refine g_get C 8 (f := 0) (v := .ref (z 1)) (Cn := RX0) (T := TX0) (N := 3) dX2_shrink_101 rfl rfl iX2_shrink_X0 (by decide) mX2_shrink_f123 rfl ?_
          refine g_iload C dX2_shrink_104 0 rfl ?_
          refine g_iald C 9 0 (f := u2.2 1) (N := 264) i dX2_shrink_106 rfl rfl (by decide) (rfl) (by omega) ?_
          refine g_top (b := ((A.held A.st ++ A.held A.go).getD i (0, 0)).1) (hz.1) ?_
          refine g_aload_n C dX2_shrink_107 4 rfl rfl ?_
          refine g_get C 0 (f := 7) (v := .ref (z 0)) (Cn := RX2) (T := TX2) (N := 11) dX2_shrink_108 rfl rfl iX2_shrink_X2 (by decide) mX2_shrink_f33 rfl ?_
          refine g_get C 8 (f := 1) (v := .ref (z 2)) (Cn := RX0) (T := TX0) (N := 3) dX2_shrink_111 rfl rfl iX2_shrink_X0 (by decide) mX2_shrink_f124 rfl ?_
          refine g_iload C dX2_shrink_114 0 rfl ?_
          refine g_iald C 10 0 (f := u2.2 2) (N := 264) i dX2_shrink_116 rfl rfl (by decide) (rfl) (by omega) ?_
          refine g_top (b := ((A.held A.st ++ A.held A.go).getD i (0, 0)).2) (hz.2) ?_
          refine g_callVV C [0, 1, 2, 3, 4, 5, 6, 7] [8, 9, 10] [3, 4, 5, 6, 7, 8, 9, 10, 0, 1, 2] 0 2 (b := g 0) rfl rfl (As := [.int (nI A.st), .int (((A.held A.st ++ A.held A.go).getD i (0, 0)).1), .int (((A.held A.st ++ A.held A.go).getD i (0, 0)).2)]) (rest := []) (wr := (wZ cy z u2.2)) (wf := fun P3 => (wG cy g (z 0) P3 ++ (wZ cy z u2.2))) dX2_shrink_117 gX2_shrink_X2_append rfl dmX2_append ⟨rfl, rfl, Nat.le_of_ble_eq_true rfl, Nat.le_of_ble_eq_true rfl, Nat.zero_le _, Nat.zero_le _⟩ (c_X2_append l D cy cz g (z 0) Pi (A.s0.lay ((A.held A.st ++ A.held A.go).take i)) A.st (((A.held A.st ++ A.held A.go).getD i (0, 0)).1) (((A.held A.st ++ A.held A.go).getD i (0, 0)).2) i2.1 g3 hm) ⟨rfl, rfl, rfl, rfl, by decide, rfl, fun _ => rfl⟩ (Nat.le_of_ble_eq_true rfl) ?_
          intro P3 hp3
          show G x l (rmF 3 108) D 5 0 0 (wG cy g (z 0) P3 ++ (wZ cy z u2.2)) [(4, .int (nI i)), (3, .int (nI A.st)), (2, .int (nI (pvL A.L A.S))), (1, .int (nI A.go)), (0, .ref (g 0))] [] 120
          refine g_iinc C (q := 0) (v := nI (i + 1)) (lv' := [(4, .int (nI (i + 1))), (3, .int (nI A.st)), (2, .int (nI (pvL A.L A.S))), (1, .int (nI A.go)), (0, .ref (g 0))]) dX2_shrink_120 rfl (nI_1 i) (by decide) rfl ?_
          refine g_goto C (tgt := 75) dX2_shrink_123 (by decide) ?_
          exact ih (i + 1, P3) ⟨hi, by rw [take_succ' hi, lay_snoc]; exact RP_add i2 (by rw [hbt]; exact hm) (by rw [hbt]; exact hp3.1) hp3.2.1 hp3.2.2.1, by rw [hp3.2.2.2, i3, Int32.add_assoc, nI_1], by rw [take_succ' hi, lay_snoc]; exact LI_step i4 (Or.inl hbt) (by rw [hbt]; exact hm) _ _⟩ (by show (A.held A.st ++ A.held A.go).length - (i + 1) < (A.held A.st ++ A.held A.go).length - i; omega)
    · skip
      have hc : ¬ A.can A.st A.go := fun w => by rw [if_pos w] at c2; exact absurd c2 (by decide)
      exact ret (P, Z) _ _ dX2_shrink_43 (⟨by unfold AS.shrink; rw [if_neg hc]; exact hr, rfl⟩)
  · skip
    have hS : A.S = 0 := (nI_eq (b := 0) (by omega) (by decide)).mp c1
    refine g_aload_n C dX2_shrink_14 1 rfl rfl ?_
    refine g_get C 0 (f := 8) (v := .int (P 0 0)) (Cn := RX2) (T := TX2) (N := 11) dX2_shrink_15 rfl rfl iX2_shrink_X2 (by decide) mX2_shrink_f50 rfl ?_
    refine g_top (b := nI A.L) (hr.2.2.1) ?_
    refine g_iconst C (v := 1) dX2_shrink_18 (by decide) ?_
    refine g_isub C dX2_shrink_19 ?_
    refine g_top (b := nI (pvL A.L A.S)) ((pk_sub (b := 1) (by have hq := hn; unfold AS.nb nbN at hq; rw [hS] at hq; cases hL : A.L with | zero => rw [hL] at hq; omega | succ n => omega)).trans (congrArg nI (by unfold pvL; rw [if_pos hS]))) ?_
    refine g_goto C (tgt := 27) dX2_shrink_20 (by decide) ?_
    refine g_istore_n C (lv' := [(2, .int (nI (pvL A.L A.S))), (1, .int (nI A.go)), (0, .ref (g 0))]) dX2_shrink_27 rfl (by decide) rfl ?_
    refine g_iload_n C dX2_shrink_28 1 rfl rfl ?_
    refine g_iconst C (v := 4) dX2_shrink_29 (by decide) ?_
    refine g_iload_n C dX2_shrink_30 0 rfl rfl ?_
    refine g_ishl C dX2_shrink_31 ?_
    refine g_top (b := nI (4 * 2 ^ pvL A.L A.S)) (base_eq w1) ?_
    refine g_isub C dX2_shrink_32 ?_
    refine g_top (b := nI A.st) ((pk_sub (by unfold AS.go AS.nb; omega)).trans (congrArg nI (by unfold AS.go AS.st AS.nb; omega))) ?_
    refine g_istore_n C (lv' := [(3, .int (nI A.st)), (2, .int (nI (pvL A.L A.S))), (1, .int (nI A.go)), (0, .ref (g 0))]) dX2_shrink_33 rfl (by decide) rfl ?_
    refine g_aload_n C dX2_shrink_34 3 rfl rfl ?_
    refine g_iload_n C dX2_shrink_35 0 rfl rfl ?_
    refine g_iload_n C dX2_shrink_36 2 rfl rfl ?_
    refine g_callIV C [0, 1, 2, 3, 4, 5, 6, 7] [8, 9, 10] [3, 4, 5, 6, 7, 8, 9, 10, 0, 1, 2] 0 2 (b := g 0) rfl rfl (As := [.int (nI A.st), .int (nI A.go)]) (rest := []) (wr := (wZ cy z Z)) (wf := fun _ => (wG cy g (z 0) P ++ (wZ cy z Z))) dX2_shrink_37 gX2_shrink_X2_canJoin rfl dmX2_canJoin ⟨rfl, rfl, Nat.le_of_ble_eq_true rfl, Nat.le_of_ble_eq_true rfl, Nat.zero_le _, Nat.zero_le _⟩ (c_X2_canJoin l D cy cz g (z 0) P A A.st A.go hr.1 g3 g4) ⟨rfl, rfl, rfl, rfl, by decide, rfl, fun _ => rfl⟩ (Nat.le_of_ble_eq_true rfl) ?_
    rintro _ - rfl
    show G x l (rmF 3 108) D 5 0 0 (wG cy g (z 0) P ++ (wZ cy z Z)) [(3, .int (nI A.st)), (2, .int (nI (pvL A.L A.S))), (1, .int (nI A.go)), (0, .ref (g 0))] [.int (if A.can A.st A.go then 1 else 0)] 40
    refine g_if_ne C (tgt := 44) dX2_shrink_40 (by decide) (fun c2 => ?_) (fun c2 => ?_)
    · skip
      have hc : A.can A.st A.go := Decidable.byContradiction (fun w => c2 (if_neg w))
      refine g_aload_n C dX2_shrink_44 3 rfl rfl ?_
      refine g_iload_n C dX2_shrink_45 1 rfl rfl ?_
      refine g_put C 0 (f := 8) (v := .int (nI (pvL A.L A.S))) (ty := .int) (Cn := RX2) (T := TX2) (N := 11) (ws' := (wG cy g (z 0) (ps P 0 0 (nI (pvL A.L A.S))) ++ (wZ cy z Z))) dX2_shrink_46 rfl rfl iX2_shrink_X2 tyX2 tyX2_ok nmX2 (by decide) mX2_shrink_f50 rfl rfl (rfl) (rfl) (Nat.le_of_ble_eq_true rfl) (set_l (Nat.le_of_ble_eq_true rfl) (wG_s0 cy g (z 0) P (nI (pvL A.L A.S)))) ?_
      refine g_aload_n C dX2_shrink_49 3 rfl rfl ?_
      refine g_iload_n C dX2_shrink_50 0 rfl rfl ?_
      refine g_put C 0 (f := 9) (v := .int (nI A.st)) (ty := .int) (Cn := RX2) (T := TX2) (N := 11) (ws' := (wG cy g (z 0) (ps (ps P 0 0 (nI (pvL A.L A.S))) 0 1 (nI A.st)) ++ (wZ cy z Z))) dX2_shrink_51 rfl rfl iX2_shrink_X2 tyX2 tyX2_ok nmX2 (by decide) mX2_shrink_f54 rfl rfl (rfl) (rfl) (Nat.le_of_ble_eq_true rfl) (set_l (Nat.le_of_ble_eq_true rfl) (wG_s1 cy g (z 0) (ps P 0 0 (nI (pvL A.L A.S))) (nI A.st))) ?_
      refine g_aload_n C dX2_shrink_54 3 rfl rfl ?_
      refine g_get C 0 (f := 7) (v := .ref (z 0)) (Cn := RX2) (T := TX2) (N := 11) dX2_shrink_55 rfl rfl iX2_shrink_X2 (by decide) mX2_shrink_f33 rfl ?_
      refine g_iconst C (v := 0) dX2_shrink_58 (by decide) ?_
      refine g_put C 8 (f := 2) (v := .int 0) (ty := .int) (Cn := RX0) (T := TX0) (N := 3) (ws' := (wG cy g (z 0) (ps (ps P 0 0 (nI (pvL A.L A.S))) 0 1 (nI A.st)) ++ (wZ cy z (ps Z 0 0 0)))) dX2_shrink_59 rfl rfl iX2_shrink_X0 tyX0 tyX0_ok nmX0 (by decide) mX2_shrink_f114 rfl rfl (rfl) (rfl) (Nat.le_of_ble_eq_true rfl) (set_r rfl (wZ_s0 cy z Z 0)) ?_
      refine g_aload_n C dX2_shrink_62 3 rfl rfl ?_
      refine g_iload_n C dX2_shrink_63 0 rfl rfl ?_
      refine g_callVV C [0, 1, 2, 3, 4, 5, 6, 7, 8, 9, 10] [] [0, 1, 2, 3, 4, 5, 6, 7, 8, 9, 10] 0 2 (b := g 0) rfl rfl (As := [.int (nI A.st)]) (rest := []) (wr := ([] : va_W)) (wf := fun u1 => (wG cy g (z 0) u1.1 ++ (wZ cy z u1.2))) dX2_shrink_64 gX2_shrink_X2_setAside rfl dmX2_setAside ⟨rfl, rfl, Nat.le_of_ble_eq_true rfl, Nat.le_of_ble_eq_true rfl, Nat.zero_le _, Nat.zero_le _⟩ (c_X2_setAside l D cy cz g z (ps (ps P 0 0 (nI (pvL A.L A.S))) 0 1 (nI A.st)) (ps Z 0 0 0) A ([]) A.st hr.1 RZ_nil g3 (by rw [hr.1.1.sum g3]; show 0 + _ ≤ 264; omega)) ⟨rfl, rfl, rfl, rfl, by decide, rfl, fun _ => rfl⟩ (Nat.le_of_ble_eq_true rfl) ?_
      intro u1 hp1
      show G x l (rmF 3 108) D 5 0 0 (wG cy g (z 0) u1.1 ++ (wZ cy z u1.2)) [(3, .int (nI A.st)), (2, .int (nI (pvL A.L A.S))), (1, .int (nI A.go)), (0, .ref (g 0))] [] 67
      obtain ⟨q1, q2, q3, q4, q5⟩ := hp1
      have q5 : RZ u1.2 (A.held A.st) := q5
      refine g_aload_n C dX2_shrink_67 3 rfl rfl ?_
      refine g_iload_n C dX2_shrink_68 2 rfl rfl ?_
      refine g_callVV C [0, 1, 2, 3, 4, 5, 6, 7, 8, 9, 10] [] [0, 1, 2, 3, 4, 5, 6, 7, 8, 9, 10] 0 2 (b := g 0) rfl rfl (As := [.int (nI A.go)]) (rest := []) (wr := ([] : va_W)) (wf := fun u2 => (wG cy g (z 0) u2.1 ++ (wZ cy z u2.2))) dX2_shrink_69 gX2_shrink_X2_setAside rfl dmX2_setAside ⟨rfl, rfl, Nat.le_of_ble_eq_true rfl, Nat.le_of_ble_eq_true rfl, Nat.zero_le _, Nat.zero_le _⟩ (c_X2_setAside l D cy cz g z u1.1 u1.2 (A.clr A.st) (A.held A.st) A.go q1 q5 g4 (by rw [held_len hr.1.1 g3, q1.1.sum g4, (clr_other hr.1.1 g3 g4 (by omega)).2.2.1]; exact hcl)) ⟨rfl, rfl, rfl, rfl, by decide, rfl, fun _ => rfl⟩ (Nat.le_of_ble_eq_true rfl) ?_
      intro u2 hp2
      show G x l (rmF 3 108) D 5 0 0 (wG cy g (z 0) u2.1 ++ (wZ cy z u2.2)) [(3, .int (nI A.st)), (2, .int (nI (pvL A.L A.S))), (1, .int (nI A.go)), (0, .ref (g 0))] [] 72
      obtain ⟨r1, r2, r3, r4, r5⟩ := hp2
      rw [(clr_other hr.1.1 g3 g4 (by omega)).2.2.2] at r5
      have hA : RP A.s0 u2.1 := ⟨⟨(shrink_LI hr.1.1 hr.2.1 hn).1, r1.2⟩, shrink_WFa hr.1.1 hr.2.1 hn, r2.trans (q2.trans rfl), r3.trans (q3.trans rfl)⟩
      have hE : u2.1 0 2 = P 0 2 - nI (A.held A.st ++ A.held A.go).length := by rw [r4, q4, sub_nI, q1.1.sum g4, hr.1.1.sum g3, (clr_other hr.1.1 g3 g4 (by omega)).2.2.1, hlen]; rfl
      refine g_iconst C (v := 0) dX2_shrink_72 (by decide) ?_
      refine g_istore C (lv' := [(4, .int 0), (3, .int (nI A.st)), (2, .int (nI (pvL A.L A.S))), (1, .int (nI A.go)), (0, .ref (g 0))]) dX2_shrink_73 (by decide) rfl ?_
      refine g_loop (σ := Nat × Mem) (fun (a : Nat × Mem) => match a with | (i, Pi) => (wG cy g (z 0) Pi ++ (wZ cy z u2.2))) (fun (a : Nat × Mem) => match a with | (i, Pi) => [(4, .int (nI i)), (3, .int (nI A.st)), (2, .int (nI (pvL A.L A.S))), (1, .int (nI A.go)), (0, .ref (g 0))]) (fun (a : Nat × Mem) => match a with | (i, Pi) => (i ≤ (A.held A.st ++ A.held A.go).length) ∧ (RP (A.s0.lay ((A.held A.st ++ A.held A.go).take i)) Pi) ∧ (Pi 0 2 = P 0 2 - nI (A.held A.st ++ A.held A.go).length + nI i) ∧ (LI (A.s0.lay ((A.held A.st ++ A.held A.go).take i)) (A.fc + ((A.tl A.st).length + (A.tl A.go).length)) A.st A.go i)) (fun (a : Nat × Mem) => match a with | (i, Pi) => (A.held A.st ++ A.held A.go).length - i) ?_ (0, u2.1) (⟨Nat.zero_le _, hA, hE.trans (Int32.add_zero _).symm, shrink_LI hr.1.1 hr.2.1 hn⟩)
      intro a hI ih
      obtain ⟨i, Pi⟩ := a
      obtain ⟨i1, i2, i3, i4⟩ : (i ≤ (A.held A.st ++ A.held A.go).length) ∧ (RP (A.s0.lay ((A.held A.st ++ A.held A.go).take i)) Pi) ∧ (Pi 0 2 = P 0 2 - nI (A.held A.st ++ A.held A.go).length + nI i) ∧ (LI (A.s0.lay ((A.held A.st ++ A.held A.go).take i)) (A.fc + ((A.tl A.st).length + (A.tl A.go).length)) A.st A.go i) := hI
      show G x l (rmF 3 108) D 5 0 0 (wG cy g (z 0) Pi ++ (wZ cy z u2.2)) [(4, .int (nI i)), (3, .int (nI A.st)), (2, .int (nI (pvL A.L A.S))), (1, .int (nI A.go)), (0, .ref (g 0))] [] 75
      refine g_iload C dX2_shrink_75 0 rfl ?_
      refine g_aload_n C dX2_shrink_77 4 rfl rfl ?_
      refine g_get C 0 (f := 7) (v := .ref (z 0)) (Cn := RX2) (T := TX2) (N := 11) dX2_shrink_78 rfl rfl iX2_shrink_X2 (by decide) mX2_shrink_f33 rfl ?_
      refine g_get C 8 (f := 2) (v := .int (u2.2 0 0)) (Cn := RX0) (T := TX0) (N := 3) dX2_shrink_81 rfl rfl iX2_shrink_X0 (by decide) mX2_shrink_f114 rfl ?_
      refine g_top (b := nI (A.held A.st ++ A.held A.go).length) (r5.1) ?_
      refine g_icmp_ge C (tgt := 126) dX2_shrink_84 (by decide) (fun c3 => ?_) (fun c3 => ?_)
      · skip
        have hi : i = (A.held A.st ++ A.held A.go).length := by have := (nI_leI (by omega) (by omega)).mp c3; omega
        exact ret (Pi, u2.2) _ _ dX2_shrink_126 (⟨by rw [hi, List.take_length] at i2; unfold AS.shrink; rw [if_pos hc]; exact i2, by rw [hi] at i3; exact i3.trans (sub_add_nI _ _)⟩)
      · skip
        have hi : i < (A.held A.st ++ A.held A.go).length := Nat.lt_of_not_le (fun w => c3 (nI_le w (by omega)))
        have hz := r5.2.2 i hi
        have hbt : (A.s0.lay ((A.held A.st ++ A.held A.go).take i)).ad ((A.held A.st ++ A.held A.go).getD i (0, 0)).1 = A.st := by rw [lay_ad]; exact shrink_key hr.2.1 hn _ (getD_mem hi)
        have hm := LI_room i4 hi (shrink_room hr.1.1 hr.2.1 hn hc) (Or.inl rfl)
        refine g_iload C dX2_shrink_87 0 rfl ?_
        refine g_sipush C (v := 264) dX2_shrink_89 (by decide) ?_
        refine g_icmp_ge C (tgt := 126) dX2_shrink_92 (by decide) (fun c4 => ?_) (fun c4 => ?_)
        · skip
          exact absurd c4 (nI_ge (a := i) (b := 264) (by omega) (by decide))
        · skip
          refine g_aload_n C dX2_shrink_95 4 rfl rfl ?_
          refine g_iload_n C dX2_shrink_96 1 rfl rfl ?_
          refine g_aload_n C dX2_shrink_97 4 rfl rfl ?_
          refine g_get C 0 (f := 7) (v := .ref (z 0)) (Cn := RX2) (T := TX2) (N := 11) dX2_shrink_98 rfl rfl iX2_shrink_X2 (by decide) mX2_shrink_f33 rfl ?_
          refine g_get C 8 (f := 0) (v := .ref (z 1)) (Cn := RX0) (T := TX0) (N := 3) dX2_shrink_101 rfl rfl iX2_shrink_X0 (by decide) mX2_shrink_f123 rfl ?_
          refine g_iload C dX2_shrink_104 0 rfl ?_
          refine g_iald C 9 0 (f := u2.2 1) (N := 264) i dX2_shrink_106 rfl rfl (by decide) (rfl) (by omega) ?_
          refine g_top (b := ((A.held A.st ++ A.held A.go).getD i (0, 0)).1) (hz.1) ?_
          refine g_aload_n C dX2_shrink_107 4 rfl rfl ?_
          refine g_get C 0 (f := 7) (v := .ref (z 0)) (Cn := RX2) (T := TX2) (N := 11) dX2_shrink_108 rfl rfl iX2_shrink_X2 (by decide) mX2_shrink_f33 rfl ?_
          refine g_get C 8 (f := 1) (v := .ref (z 2)) (Cn := RX0) (T := TX0) (N := 3) dX2_shrink_111 rfl rfl iX2_shrink_X0 (by decide) mX2_shrink_f124 rfl ?_
          refine g_iload C dX2_shrink_114 0 rfl ?_
          refine g_iald C 10 0 (f := u2.2 2) (N := 264) i dX2_shrink_116 rfl rfl (by decide) (rfl) (by omega) ?_
          refine g_top (b := ((A.held A.st ++ A.held A.go).getD i (0, 0)).2) (hz.2) ?_
          refine g_callVV C [0, 1, 2, 3, 4, 5, 6, 7] [8, 9, 10] [3, 4, 5, 6, 7, 8, 9, 10, 0, 1, 2] 0 2 (b := g 0) rfl rfl (As := [.int (nI A.st), .int (((A.held A.st ++ A.held A.go).getD i (0, 0)).1), .int (((A.held A.st ++ A.held A.go).getD i (0, 0)).2)]) (rest := []) (wr := (wZ cy z u2.2)) (wf := fun P3 => (wG cy g (z 0) P3 ++ (wZ cy z u2.2))) dX2_shrink_117 gX2_shrink_X2_append rfl dmX2_append ⟨rfl, rfl, Nat.le_of_ble_eq_true rfl, Nat.le_of_ble_eq_true rfl, Nat.zero_le _, Nat.zero_le _⟩ (c_X2_append l D cy cz g (z 0) Pi (A.s0.lay ((A.held A.st ++ A.held A.go).take i)) A.st (((A.held A.st ++ A.held A.go).getD i (0, 0)).1) (((A.held A.st ++ A.held A.go).getD i (0, 0)).2) i2.1 g3 hm) ⟨rfl, rfl, rfl, rfl, by decide, rfl, fun _ => rfl⟩ (Nat.le_of_ble_eq_true rfl) ?_
          intro P3 hp3
          show G x l (rmF 3 108) D 5 0 0 (wG cy g (z 0) P3 ++ (wZ cy z u2.2)) [(4, .int (nI i)), (3, .int (nI A.st)), (2, .int (nI (pvL A.L A.S))), (1, .int (nI A.go)), (0, .ref (g 0))] [] 120
          refine g_iinc C (q := 0) (v := nI (i + 1)) (lv' := [(4, .int (nI (i + 1))), (3, .int (nI A.st)), (2, .int (nI (pvL A.L A.S))), (1, .int (nI A.go)), (0, .ref (g 0))]) dX2_shrink_120 rfl (nI_1 i) (by decide) rfl ?_
          refine g_goto C (tgt := 75) dX2_shrink_123 (by decide) ?_
          exact ih (i + 1, P3) ⟨hi, by rw [take_succ' hi, lay_snoc]; exact RP_add i2 (by rw [hbt]; exact hm) (by rw [hbt]; exact hp3.1) hp3.2.1 hp3.2.2.1, by rw [hp3.2.2.2, i3, Int32.add_assoc, nI_1], by rw [take_succ' hi, lay_snoc]; exact LI_step i4 (Or.inl hbt) (by rw [hbt]; exact hm) _ _⟩ (by show (A.held A.st ++ A.held A.go).length - (i + 1) < (A.held A.st ++ A.held A.go).length - i; omega)
    · skip
      have hc : ¬ A.can A.st A.go := fun w => by rw [if_pos w] at c2; exact absurd c2 (by decide)
      exact ret (P, Z) _ _ dX2_shrink_43 (⟨by unfold AS.shrink; rw [if_neg hc]; exact hr, rfl⟩)
end
