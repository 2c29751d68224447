-- ===== PART A: goes FIRST, ahead of the names: the tables' words, and 'selects' of the private methods out of them =====
/-- a private method of a class that the tables say can be made, by its rows of tables_1 -/
def lw_okq (q : MethodName × Nat) : Prop := (q.1.cls ≠ "java/lang/invoke/MethodHandle" ∧ q.1.cls ≠ "java/lang/invoke/VarHandle") ∧ Cond.instantiable q.1.cls q.2 ∈ tables_1 ∧ Cond.privateMethod q.1 ∈ tables_1 ∧ Cond.instanceMethod q.1 ∈ tables_1
theorem lw_p0 : lw_okq (⟨"StrikePasses", "passesOf", "(I)I"⟩, 10) := ⟨⟨by decide +kernel, by decide +kernel⟩, List.mem_of_getElem? (i := 15) (by decide +kernel), List.mem_of_getElem? (i := 379) (by decide +kernel), List.mem_of_getElem? (i := 380) (by decide +kernel)⟩
theorem lw_p1 : lw_okq (⟨"StrikePasses", "isPlace", "(III)Z"⟩, 10) := ⟨⟨by decide +kernel, by decide +kernel⟩, List.mem_of_getElem? (i := 15) (by decide +kernel), List.mem_of_getElem? (i := 405) (by decide +kernel), List.mem_of_getElem? (i := 406) (by decide +kernel)⟩
theorem lw_p2 : lw_okq (⟨"StrikePasses", "suspects", "()I"⟩, 10) := ⟨⟨by decide +kernel, by decide +kernel⟩, List.mem_of_getElem? (i := 15) (by decide +kernel), List.mem_of_getElem? (i := 534) (by decide +kernel), List.mem_of_getElem? (i := 535) (by decide +kernel)⟩
theorem lw_p3 : lw_okq (⟨"StrikePasses", "explaining", "(II)I"⟩, 10) := ⟨⟨by decide +kernel, by decide +kernel⟩, List.mem_of_getElem? (i := 15) (by decide +kernel), List.mem_of_getElem? (i := 538) (by decide +kernel), List.mem_of_getElem? (i := 539) (by decide +kernel)⟩
theorem lw_p4 : lw_okq (⟨"StrikePasses", "unlikeNumbers", "(II)I"⟩, 10) := ⟨⟨by decide +kernel, by decide +kernel⟩, List.mem_of_getElem? (i := 15) (by decide +kernel), List.mem_of_getElem? (i := 557) (by decide +kernel), List.mem_of_getElem? (i := 558) (by decide +kernel)⟩
theorem lw_p5 : lw_okq (⟨"StrikePasses", "allDots", "()I"⟩, 10) := ⟨⟨by decide +kernel, by decide +kernel⟩, List.mem_of_getElem? (i := 15) (by decide +kernel), List.mem_of_getElem? (i := 573) (by decide +kernel), List.mem_of_getElem? (i := 574) (by decide +kernel)⟩
theorem lw_p6 : lw_okq (⟨"StrikePasses", "allPasses", "()I"⟩, 10) := ⟨⟨by decide +kernel, by decide +kernel⟩, List.mem_of_getElem? (i := 15) (by decide +kernel), List.mem_of_getElem? (i := 577) (by decide +kernel), List.mem_of_getElem? (i := 578) (by decide +kernel)⟩
theorem lw_p7 : lw_okq (⟨"StrikePassesModel", "blanks", "()V"⟩, 20) := ⟨⟨by decide +kernel, by decide +kernel⟩, List.mem_of_getElem? (i := 581) (by decide +kernel), List.mem_of_getElem? (i := 666) (by decide +kernel), List.mem_of_getElem? (i := 667) (by decide +kernel)⟩
theorem lw_p8 : lw_okq (⟨"StrikePassesModel", "readsItem", "()Z"⟩, 20) := ⟨⟨by decide +kernel, by decide +kernel⟩, List.mem_of_getElem? (i := 581) (by decide +kernel), List.mem_of_getElem? (i := 670) (by decide +kernel), List.mem_of_getElem? (i := 671) (by decide +kernel)⟩
theorem lw_p9 : lw_okq (⟨"StrikePassesModel", "next", "()V"⟩, 20) := ⟨⟨by decide +kernel, by decide +kernel⟩, List.mem_of_getElem? (i := 581) (by decide +kernel), List.mem_of_getElem? (i := 674) (by decide +kernel), List.mem_of_getElem? (i := 675) (by decide +kernel)⟩
theorem lw_p10 : lw_okq (⟨"StrikePassesModel", "isFigure", "(I)Z"⟩, 20) := ⟨⟨by decide +kernel, by decide +kernel⟩, List.mem_of_getElem? (i := 581) (by decide +kernel), List.mem_of_getElem? (i := 678) (by decide +kernel), List.mem_of_getElem? (i := 679) (by decide +kernel)⟩
theorem lw_p11 : lw_okq (⟨"StrikePassesModel", "number", "(III)Z"⟩, 20) := ⟨⟨by decide +kernel, by decide +kernel⟩, List.mem_of_getElem? (i := 581) (by decide +kernel), List.mem_of_getElem? (i := 682) (by decide +kernel), List.mem_of_getElem? (i := 683) (by decide +kernel)⟩
theorem lw_p12 : lw_okq (⟨"StrikePassesModel", "stops", "()Z"⟩, 20) := ⟨⟨by decide +kernel, by decide +kernel⟩, List.mem_of_getElem? (i := 581) (by decide +kernel), List.mem_of_getElem? (i := 686) (by decide +kernel), List.mem_of_getElem? (i := 687) (by decide +kernel)⟩
theorem lw_p13 : lw_okq (⟨"StrikePassesModel", "readsLetter", "()Z"⟩, 20) := ⟨⟨by decide +kernel, by decide +kernel⟩, List.mem_of_getElem? (i := 581) (by decide +kernel), List.mem_of_getElem? (i := 690) (by decide +kernel), List.mem_of_getElem? (i := 691) (by decide +kernel)⟩
theorem lw_p14 : lw_okq (⟨"StrikePassesModel", "readsLine", "()Z"⟩, 20) := ⟨⟨by decide +kernel, by decide +kernel⟩, List.mem_of_getElem? (i := 581) (by decide +kernel), List.mem_of_getElem? (i := 694) (by decide +kernel), List.mem_of_getElem? (i := 695) (by decide +kernel)⟩
theorem lw_p15 : lw_okq (⟨"StrikePassesModel", "isLine", "(I)Z"⟩, 20) := ⟨⟨by decide +kernel, by decide +kernel⟩, List.mem_of_getElem? (i := 581) (by decide +kernel), List.mem_of_getElem? (i := 706) (by decide +kernel), List.mem_of_getElem? (i := 707) (by decide +kernel)⟩
def lw_privs_1 : List (MethodName × Nat) := [(⟨"StrikePasses", "passesOf", "(I)I"⟩, 10), (⟨"StrikePasses", "isPlace", "(III)Z"⟩, 10), (⟨"StrikePasses", "suspects", "()I"⟩, 10), (⟨"StrikePasses", "explaining", "(II)I"⟩, 10), (⟨"StrikePasses", "unlikeNumbers", "(II)I"⟩, 10), (⟨"StrikePasses", "allDots", "()I"⟩, 10), (⟨"StrikePasses", "allPasses", "()I"⟩, 10), (⟨"StrikePassesModel", "blanks", "()V"⟩, 20), (⟨"StrikePassesModel", "readsItem", "()Z"⟩, 20), (⟨"StrikePassesModel", "next", "()V"⟩, 20), (⟨"StrikePassesModel", "isFigure", "(I)Z"⟩, 20), (⟨"StrikePassesModel", "number", "(III)Z"⟩, 20), (⟨"StrikePassesModel", "stops", "()Z"⟩, 20), (⟨"StrikePassesModel", "readsLetter", "()Z"⟩, 20), (⟨"StrikePassesModel", "readsLine", "()Z"⟩, 20), (⟨"StrikePassesModel", "isLine", "(I)Z"⟩, 20)]
theorem lw_r1 : ∀ q ∈ lw_privs_1, lw_okq q := List.forall_mem_cons.mpr ⟨lw_p0, List.forall_mem_cons.mpr ⟨lw_p1, List.forall_mem_cons.mpr ⟨lw_p2, List.forall_mem_cons.mpr ⟨lw_p3, List.forall_mem_cons.mpr ⟨lw_p4, List.forall_mem_cons.mpr ⟨lw_p5, List.forall_mem_cons.mpr ⟨lw_p6, List.forall_mem_cons.mpr ⟨lw_p7, List.forall_mem_cons.mpr ⟨lw_p8, List.forall_mem_cons.mpr ⟨lw_p9, List.forall_mem_cons.mpr ⟨lw_p10, List.forall_mem_cons.mpr ⟨lw_p11, List.forall_mem_cons.mpr ⟨lw_p12, List.forall_mem_cons.mpr ⟨lw_p13, List.forall_mem_cons.mpr ⟨lw_p14, List.forall_mem_cons.mpr ⟨lw_p15, fun _ h => absurd h List.not_mem_nil⟩⟩⟩⟩⟩⟩⟩⟩⟩⟩⟩⟩⟩⟩⟩⟩
theorem lw_p16 : lw_okq (⟨"StrikePassesModel", "dotsAt", "(II)I"⟩, 20) := ⟨⟨by decide +kernel, by decide +kernel⟩, List.mem_of_getElem? (i := 581) (by decide +kernel), List.mem_of_getElem? (i := 714) (by decide +kernel), List.mem_of_getElem? (i := 715) (by decide +kernel)⟩
theorem lw_p17 : lw_okq (⟨"StrikePassesModel", "lays", "(II)I"⟩, 20) := ⟨⟨by decide +kernel, by decide +kernel⟩, List.mem_of_getElem? (i := 581) (by decide +kernel), List.mem_of_getElem? (i := 722) (by decide +kernel), List.mem_of_getElem? (i := 723) (by decide +kernel)⟩
theorem lw_p18 : lw_okq (⟨"StrikePassesModel", "remembers", "()V"⟩, 20) := ⟨⟨by decide +kernel, by decide +kernel⟩, List.mem_of_getElem? (i := 581) (by decide +kernel), List.mem_of_getElem? (i := 726) (by decide +kernel), List.mem_of_getElem? (i := 727) (by decide +kernel)⟩
theorem lw_p19 : lw_okq (⟨"StrikePassesModel", "passesOf", "(I)I"⟩, 20) := ⟨⟨by decide +kernel, by decide +kernel⟩, List.mem_of_getElem? (i := 581) (by decide +kernel), List.mem_of_getElem? (i := 756) (by decide +kernel), List.mem_of_getElem? (i := 757) (by decide +kernel)⟩
theorem lw_p20 : lw_okq (⟨"StrikePassesModel", "columnsIn", "(III)I"⟩, 20) := ⟨⟨by decide +kernel, by decide +kernel⟩, List.mem_of_getElem? (i := 581) (by decide +kernel), List.mem_of_getElem? (i := 760) (by decide +kernel), List.mem_of_getElem? (i := 761) (by decide +kernel)⟩
theorem lw_p21 : lw_okq (⟨"StrikePassesModel", "columnsOf", "(II)I"⟩, 20) := ⟨⟨by decide +kernel, by decide +kernel⟩, List.mem_of_getElem? (i := 581) (by decide +kernel), List.mem_of_getElem? (i := 764) (by decide +kernel), List.mem_of_getElem? (i := 765) (by decide +kernel)⟩
theorem lw_p22 : lw_okq (⟨"StrikePassesModel", "lowOf", "(II)I"⟩, 20) := ⟨⟨by decide +kernel, by decide +kernel⟩, List.mem_of_getElem? (i := 581) (by decide +kernel), List.mem_of_getElem? (i := 783) (by decide +kernel), List.mem_of_getElem? (i := 784) (by decide +kernel)⟩
theorem lw_p23 : lw_okq (⟨"StrikePassesModel", "headAt", "(II)I"⟩, 20) := ⟨⟨by decide +kernel, by decide +kernel⟩, List.mem_of_getElem? (i := 581) (by decide +kernel), List.mem_of_getElem? (i := 787) (by decide +kernel), List.mem_of_getElem? (i := 788) (by decide +kernel)⟩
theorem lw_p24 : lw_okq (⟨"StrikePassesModel", "highOf", "(II)I"⟩, 20) := ⟨⟨by decide +kernel, by decide +kernel⟩, List.mem_of_getElem? (i := 581) (by decide +kernel), List.mem_of_getElem? (i := 791) (by decide +kernel), List.mem_of_getElem? (i := 792) (by decide +kernel)⟩
theorem lw_p25 : lw_okq (⟨"StrikePassesModel", "layWay", "()V"⟩, 20) := ⟨⟨by decide +kernel, by decide +kernel⟩, List.mem_of_getElem? (i := 581) (by decide +kernel), List.mem_of_getElem? (i := 803) (by decide +kernel), List.mem_of_getElem? (i := 804) (by decide +kernel)⟩
theorem lw_p26 : lw_okq (⟨"StrikePassesModel", "layPasses", "()V"⟩, 20) := ⟨⟨by decide +kernel, by decide +kernel⟩, List.mem_of_getElem? (i := 581) (by decide +kernel), List.mem_of_getElem? (i := 807) (by decide +kernel), List.mem_of_getElem? (i := 808) (by decide +kernel)⟩
theorem lw_p27 : lw_okq (⟨"StrikePassesModel", "isBack", "(I)Z"⟩, 20) := ⟨⟨by decide +kernel, by decide +kernel⟩, List.mem_of_getElem? (i := 581) (by decide +kernel), List.mem_of_getElem? (i := 815) (by decide +kernel), List.mem_of_getElem? (i := 816) (by decide +kernel)⟩
theorem lw_p28 : lw_okq (⟨"StrikePassesModel", "dotMany", "(II)I"⟩, 20) := ⟨⟨by decide +kernel, by decide +kernel⟩, List.mem_of_getElem? (i := 581) (by decide +kernel), List.mem_of_getElem? (i := 827) (by decide +kernel), List.mem_of_getElem? (i := 828) (by decide +kernel)⟩
theorem lw_p29 : lw_okq (⟨"StrikePassesModel", "within", "(III)I"⟩, 20) := ⟨⟨by decide +kernel, by decide +kernel⟩, List.mem_of_getElem? (i := 581) (by decide +kernel), List.mem_of_getElem? (i := 835) (by decide +kernel), List.mem_of_getElem? (i := 836) (by decide +kernel)⟩
theorem lw_p30 : lw_okq (⟨"StrikePassesModel", "isEasy", "(II)Z"⟩, 20) := ⟨⟨by decide +kernel, by decide +kernel⟩, List.mem_of_getElem? (i := 581) (by decide +kernel), List.mem_of_getElem? (i := 843) (by decide +kernel), List.mem_of_getElem? (i := 844) (by decide +kernel)⟩
theorem lw_p31 : lw_okq (⟨"StrikePassesModel", "unseenSet", "()I"⟩, 20) := ⟨⟨by decide +kernel, by decide +kernel⟩, List.mem_of_getElem? (i := 581) (by decide +kernel), List.mem_of_getElem? (i := 863) (by decide +kernel), List.mem_of_getElem? (i := 864) (by decide +kernel)⟩
def lw_privs_2 : List (MethodName × Nat) := [(⟨"StrikePassesModel", "dotsAt", "(II)I"⟩, 20), (⟨"StrikePassesModel", "lays", "(II)I"⟩, 20), (⟨"StrikePassesModel", "remembers", "()V"⟩, 20), (⟨"StrikePassesModel", "passesOf", "(I)I"⟩, 20), (⟨"StrikePassesModel", "columnsIn", "(III)I"⟩, 20), (⟨"StrikePassesModel", "columnsOf", "(II)I"⟩, 20), (⟨"StrikePassesModel", "lowOf", "(II)I"⟩, 20), (⟨"StrikePassesModel", "headAt", "(II)I"⟩, 20), (⟨"StrikePassesModel", "highOf", "(II)I"⟩, 20), (⟨"StrikePassesModel", "layWay", "()V"⟩, 20), (⟨"StrikePassesModel", "layPasses", "()V"⟩, 20), (⟨"StrikePassesModel", "isBack", "(I)Z"⟩, 20), (⟨"StrikePassesModel", "dotMany", "(II)I"⟩, 20), (⟨"StrikePassesModel", "within", "(III)I"⟩, 20), (⟨"StrikePassesModel", "isEasy", "(II)Z"⟩, 20), (⟨"StrikePassesModel", "unseenSet", "()I"⟩, 20)]
theorem lw_r2 : ∀ q ∈ lw_privs_2, lw_okq q := List.forall_mem_cons.mpr ⟨lw_p16, List.forall_mem_cons.mpr ⟨lw_p17, List.forall_mem_cons.mpr ⟨lw_p18, List.forall_mem_cons.mpr ⟨lw_p19, List.forall_mem_cons.mpr ⟨lw_p20, List.forall_mem_cons.mpr ⟨lw_p21, List.forall_mem_cons.mpr ⟨lw_p22, List.forall_mem_cons.mpr ⟨lw_p23, List.forall_mem_cons.mpr ⟨lw_p24, List.forall_mem_cons.mpr ⟨lw_p25, List.forall_mem_cons.mpr ⟨lw_p26, List.forall_mem_cons.mpr ⟨lw_p27, List.forall_mem_cons.mpr ⟨lw_p28, List.forall_mem_cons.mpr ⟨lw_p29, List.forall_mem_cons.mpr ⟨lw_p30, List.forall_mem_cons.mpr ⟨lw_p31, fun _ h => absurd h List.not_mem_nil⟩⟩⟩⟩⟩⟩⟩⟩⟩⟩⟩⟩⟩⟩⟩⟩
theorem lw_p32 : lw_okq (⟨"StrikePassesModel", "without", "(II)I"⟩, 20) := ⟨⟨by decide +kernel, by decide +kernel⟩, List.mem_of_getElem? (i := 581) (by decide +kernel), List.mem_of_getElem? (i := 867) (by decide +kernel), List.mem_of_getElem? (i := 868) (by decide +kernel)⟩
theorem lw_p33 : lw_okq (⟨"StrikePassesModel", "unlike", "(II)I"⟩, 20) := ⟨⟨by decide +kernel, by decide +kernel⟩, List.mem_of_getElem? (i := 581) (by decide +kernel), List.mem_of_getElem? (i := 875) (by decide +kernel), List.mem_of_getElem? (i := 876) (by decide +kernel)⟩
theorem lw_p34 : lw_okq (⟨"StrikePassesModel", "ofLines", "(Z)I"⟩, 20) := ⟨⟨by decide +kernel, by decide +kernel⟩, List.mem_of_getElem? (i := 581) (by decide +kernel), List.mem_of_getElem? (i := 891) (by decide +kernel), List.mem_of_getElem? (i := 892) (by decide +kernel)⟩
def lw_privs_3 : List (MethodName × Nat) := [(⟨"StrikePassesModel", "without", "(II)I"⟩, 20), (⟨"StrikePassesModel", "unlike", "(II)I"⟩, 20), (⟨"StrikePassesModel", "ofLines", "(Z)I"⟩, 20)]
theorem lw_r3 : ∀ q ∈ lw_privs_3, lw_okq q := List.forall_mem_cons.mpr ⟨lw_p32, List.forall_mem_cons.mpr ⟨lw_p33, List.forall_mem_cons.mpr ⟨lw_p34, fun _ h => absurd h List.not_mem_nil⟩⟩⟩
def lw_privs : List (MethodName × Nat) := lw_privs_1 ++ (lw_privs_2 ++ (lw_privs_3))
def lw_tbl : List Cond := k2_sels lw_privs ++ tables_1
theorem lw_privs_ok : ∀ q ∈ lw_privs, lw_okq q := by
  show ∀ q ∈ lw_privs_1 ++ (lw_privs_2 ++ (lw_privs_3)), lw_okq q
  exact List.forall_mem_append.mpr ⟨lw_r1, List.forall_mem_append.mpr ⟨lw_r2, lw_r3⟩⟩
/-! ===== BEGIN words of one list among another's, by their places ===== -/
theorem goodIn_r {big : List Cond} (ws : List Cond) (ps : List Nat) (hp : ws = ps.filterMap (fun i => big[i]?)) (h : ws.all goodWord = true) : GoodIn big ws := by
  intro w hw
  have h1 := List.all_eq_true.mp h w hw
  rw [hp] at hw
  obtain ⟨i, -, hi⟩ := List.mem_filterMap.mp hw
  have hm : w ∈ big := by first | exact List.mem_of_getElem? hi | exact List.getElem?_mem hi
  exact ⟨hm, good_of_word h1⟩
theorem goodIn_app {big a b : List Cond} (ha : GoodIn big a) (hb : GoodIn big b) : GoodIn big (a ++ b) := fun w h => (List.mem_append.mp h).elim (ha w) (hb w)
theorem goodIn_ca {big a b : List Cond} {c : Cond} (ha : GoodIn big (c :: a)) (hb : GoodIn big b) : GoodIn big (c :: (a ++ b)) := fun w h => (List.mem_cons.mp h).elim (fun e => ha w (List.mem_cons.mpr (Or.inl e))) (fun h => (List.mem_append.mp h).elim (fun h => ha w (List.mem_cons.mpr (Or.inr h))) (hb w))
theorem goodIn_sub {big ws : List Cond} (hm : ∀ w ∈ ws, w ∈ big) (h : ws.all goodWord = true) : GoodIn big ws := fun w hw => ⟨hm w hw, good_of_word (List.all_eq_true.mp h w hw)⟩
/-! ===== END ===== -/

/-! ===== BEGIN printed: names, fields, word lists, decode rows ===== -/
def RX0 : String := "StrikePasses$Course"
def TX0 : u_T := fun k => match k with
  | 0 => ("StrikePasses$Course", "amounts", "[I", true)
  | 1 => ("StrikePasses$Course", "left", "[I", true)
  | 2 => ("StrikePasses$Course", "right", "[I", true)
  | 3 => ("StrikePasses$Course", "turns", "[I", true)
  | 4 => ("StrikePasses$Course", "afterLeft", "[I", true)
  | 5 => ("StrikePasses$Course", "afterRight", "[I", true)
  | 6 => ("StrikePasses$Course", "seeks", "I", false)
  | 7 => ("StrikePasses$Course", "strokes", "I", false)
  | _ => ("StrikePasses$Course", "end", "I", false)
def tyX0 : Nat → FieldType := fun k => match k with
  | 0 => .array .int
  | 1 => .array .int
  | 2 => .array .int
  | 3 => .array .int
  | 4 => .array .int
  | 5 => .array .int
  | 6 => .int
  | 7 => .int
  | _ => .int
abbrev wsX00 : List Cond := u_ws RX0 TX0 9
theorem nmX0 : ∀ a, a < 9 → ∀ b, b < 9 → a ≠ b → (TX0 a).2.1 ≠ (TX0 b).2.1 := by decide +kernel
theorem tyX0_ok : ∀ k, k < 9 → parseFieldDescriptor (TX0 k).2.2.1 = some (tyX0 k) := by decide +kernel
abbrev cX0_init : ByteArray := prog_2_method_1_code
def yX0_init : MethodName := ⟨RX0, "<init>", "()V"⟩
abbrev cX0_slot : ByteArray := prog_2_method_2_code
def yX0_slot : MethodName := ⟨RX0, "slot", "(II)I"⟩
abbrev cX0_isUsed : ByteArray := prog_2_method_3_code
def yX0_isUsed : MethodName := ⟨RX0, "isUsed", "(I)Z"⟩
abbrev cX0_measure : ByteArray := prog_2_method_4_code
def yX0_measure : MethodName := ⟨RX0, "measure", "(ILStrikePasses$Sheet;LStrikePasses$Strip;LStrikePasses$Dealer;)V"⟩
abbrev cX0_widen : ByteArray := prog_2_method_5_code
def yX0_widen : MethodName := ⟨RX0, "widen", "(II)V"⟩
abbrev cX0_plan : ByteArray := prog_2_method_6_code
def yX0_plan : MethodName := ⟨RX0, "plan", "(LStrikePasses$Sheet;LStrikePasses$Strip;LStrikePasses$Dealer;)V"⟩
abbrev cX0_lookAhead : ByteArray := prog_2_method_7_code
def yX0_lookAhead : MethodName := ⟨RX0, "lookAhead", "()V"⟩
abbrev cX0_leastFrom : ByteArray := prog_2_method_8_code
def yX0_leastFrom : MethodName := ⟨RX0, "leastFrom", "(II)I"⟩
abbrev cX0_fromLeft : ByteArray := prog_2_method_9_code
def yX0_fromLeft : MethodName := ⟨RX0, "fromLeft", "(II)I"⟩
abbrev cX0_fromRight : ByteArray := prog_2_method_10_code
def yX0_fromRight : MethodName := ⟨RX0, "fromRight", "(II)I"⟩
abbrev cX0_walk : ByteArray := prog_2_method_11_code
def yX0_walk : MethodName := ⟨RX0, "walk", "()V"⟩
def RX1 : String := "StrikePasses$Dealer"
def TX1 : u_T := fun k => match k with
  | 0 => ("StrikePasses$Dealer", "passAt", "[I", true)
  | _ => ("StrikePasses$Dealer", "latest", "[I", true)
def tyX1 : Nat → FieldType := fun k => match k with
  | 0 => .array .int
  | _ => .array .int
abbrev wsX10 : List Cond := u_ws RX1 TX1 2
theorem nmX1 : ∀ a, a < 2 → ∀ b, b < 2 → a ≠ b → (TX1 a).2.1 ≠ (TX1 b).2.1 := by decide +kernel
theorem tyX1_ok : ∀ k, k < 2 → parseFieldDescriptor (TX1 k).2.2.1 = some (tyX1 k) := by decide +kernel
abbrev cX1_init : ByteArray := prog_3_method_1_code
def yX1_init : MethodName := ⟨RX1, "<init>", "()V"⟩
abbrev cX1_deal : ByteArray := prog_3_method_2_code
def yX1_deal : MethodName := ⟨RX1, "deal", "(LStrikePasses$Strip;II)I"⟩
def RX2 : String := "StrikePasses$Deeds"
def TX2 : u_T := fun k => match k with
  | 0 => ("StrikePasses$Deeds", "kinds", "[I", true)
  | 1 => ("StrikePasses$Deeds", "places", "[I", true)
  | 2 => ("StrikePasses$Deeds", "were", "[I", true)
  | _ => ("StrikePasses$Deeds", "known", "I", false)
def tyX2 : Nat → FieldType := fun k => match k with
  | 0 => .array .int
  | 1 => .array .int
  | 2 => .array .int
  | _ => .int
abbrev wsX20 : List Cond := u_ws RX2 TX2 4
theorem nmX2 : ∀ a, a < 4 → ∀ b, b < 4 → a ≠ b → (TX2 a).2.1 ≠ (TX2 b).2.1 := by decide +kernel
theorem tyX2_ok : ∀ k, k < 4 → parseFieldDescriptor (TX2 k).2.2.1 = some (tyX2 k) := by decide +kernel
abbrev cX2_init : ByteArray := prog_4_method_1_code
def yX2_init : MethodName := ⟨RX2, "<init>", "()V"⟩
abbrev cX2_note : ByteArray := prog_4_method_2_code
def yX2_note : MethodName := ⟨RX2, "note", "(III)V"⟩
abbrev cX2_loseOldest : ByteArray := prog_4_method_3_code
def yX2_loseOldest : MethodName := ⟨RX2, "loseOldest", "()V"⟩
abbrev cX2_takeBack : ByteArray := prog_4_method_4_code
def yX2_takeBack : MethodName := ⟨RX2, "takeBack", "(LStrikePasses$Sheet;)Z"⟩
def RX3 : String := "StrikePasses$Reader"
def TX3 : u_T := fun k => match k with
  | 0 => ("StrikePasses$Reader", "text", "[I", true)
  | 1 => ("StrikePasses$Reader", "length", "I", false)
  | 2 => ("StrikePasses$Reader", "at", "I", false)
  | 3 => ("StrikePasses$Reader", "start", "I", false)
  | 4 => ("StrikePasses$Reader", "kind", "I", false)
  | _ => ("StrikePasses$Reader", "value", "I", false)
def tyX3 : Nat → FieldType := fun k => match k with
  | 0 => .array .int
  | 1 => .int
  | 2 => .int
  | 3 => .int
  | 4 => .int
  | _ => .int
abbrev wsX30 : List Cond := u_ws RX3 TX3 6
theorem nmX3 : ∀ a, a < 6 → ∀ b, b < 6 → a ≠ b → (TX3 a).2.1 ≠ (TX3 b).2.1 := by decide +kernel
theorem tyX3_ok : ∀ k, k < 6 → parseFieldDescriptor (TX3 k).2.2.1 = some (tyX3 k) := by decide +kernel
abbrev cX3_init : ByteArray := prog_5_method_1_code
def yX3_init : MethodName := ⟨RX3, "<init>", "()V"⟩
abbrev cX3_accept : ByteArray := prog_5_method_2_code
def yX3_accept : MethodName := ⟨RX3, "accept", "(I)Z"⟩
abbrev cX3_read : ByteArray := prog_5_method_3_code
def yX3_read : MethodName := ⟨RX3, "read", "(LStrikePasses$Sheet;)I"⟩
abbrev cX3_readItem : ByteArray := prog_5_method_4_code
def yX3_readItem : MethodName := ⟨RX3, "readItem", "(LStrikePasses$Sheet;)Z"⟩
abbrev cX3_readSetting : ByteArray := prog_5_method_5_code
def yX3_readSetting : MethodName := ⟨RX3, "readSetting", "(LStrikePasses$Sheet;I)Z"⟩
abbrev cX3_readShape : ByteArray := prog_5_method_6_code
def yX3_readShape : MethodName := ⟨RX3, "readShape", "(LStrikePasses$Sheet;)Z"⟩
abbrev cX3_readLine : ByteArray := prog_5_method_7_code
def yX3_readLine : MethodName := ⟨RX3, "readLine", "(LStrikePasses$Sheet;)Z"⟩
abbrev cX3_letterOf : ByteArray := prog_5_method_8_code
def yX3_letterOf : MethodName := ⟨RX3, "letterOf", "(I)I"⟩
abbrev cX3_advance : ByteArray := prog_5_method_9_code
def yX3_advance : MethodName := ⟨RX3, "advance", "()V"⟩
abbrev cX3_advanceOverNumber : ByteArray := prog_5_method_10_code
def yX3_advanceOverNumber : MethodName := ⟨RX3, "advanceOverNumber", "()V"⟩
abbrev cX3_isDigit : ByteArray := prog_5_method_11_code
def yX3_isDigit : MethodName := ⟨RX3, "isDigit", "(I)Z"⟩
def RX4 : String := "StrikePasses$Sheet"
def TX4 : u_T := fun k => match k with
  | 0 => ("StrikePasses$Sheet", "settings", "[I", true)
  | 1 => ("StrikePasses$Sheet", "shapes", "[I", true)
  | 2 => ("StrikePasses$Sheet", "lengths", "[I", true)
  | 3 => ("StrikePasses$Sheet", "signs", "[I", true)
  | _ => ("StrikePasses$Sheet", "lines", "I", false)
def tyX4 : Nat → FieldType := fun k => match k with
  | 0 => .array .int
  | 1 => .array .int
  | 2 => .array .int
  | 3 => .array .int
  | _ => .int
abbrev wsX40 : List Cond := u_ws RX4 TX4 5
theorem nmX4 : ∀ a, a < 5 → ∀ b, b < 5 → a ≠ b → (TX4 a).2.1 ≠ (TX4 b).2.1 := by decide +kernel
theorem tyX4_ok : ∀ k, k < 5 → parseFieldDescriptor (TX4 k).2.2.1 = some (tyX4 k) := by decide +kernel
abbrev cX4_init : ByteArray := prog_6_method_1_code
def yX4_init : MethodName := ⟨RX4, "<init>", "()V"⟩
abbrev cX4_reset : ByteArray := prog_6_method_2_code
def yX4_reset : MethodName := ⟨RX4, "reset", "()V"⟩
abbrev cX4_become : ByteArray := prog_6_method_3_code
def yX4_become : MethodName := ⟨RX4, "become", "(LStrikePasses$Sheet;)V"⟩
abbrev cX4_hasLine : ByteArray := prog_6_method_4_code
def yX4_hasLine : MethodName := ⟨RX4, "hasLine", "(I)Z"⟩
abbrev cX4_begin : ByteArray := prog_6_method_5_code
def yX4_begin : MethodName := ⟨RX4, "begin", "()Z"⟩
abbrev cX4_dropLast : ByteArray := prog_6_method_6_code
def yX4_dropLast : MethodName := ⟨RX4, "dropLast", "()V"⟩
abbrev cX4_append : ByteArray := prog_6_method_7_code
def yX4_append : MethodName := ⟨RX4, "append", "(II)Z"⟩
abbrev cX4_chop : ByteArray := prog_6_method_8_code
def yX4_chop : MethodName := ⟨RX4, "chop", "(I)I"⟩
abbrev cX4_inkAt : ByteArray := prog_6_method_9_code
def yX4_inkAt : MethodName := ⟨RX4, "inkAt", "(II)I"⟩
abbrev cX4_headAt : ByteArray := prog_6_method_10_code
def yX4_headAt : MethodName := ⟨RX4, "headAt", "(II)I"⟩
def RX5 : String := "StrikePasses$Sights"
def TX5 : u_T := fun k => match k with
  | 0 => ("StrikePasses$Sights", "lines", "[I", true)
  | 1 => ("StrikePasses$Sights", "numbers", "[I", true)
  | _ => ("StrikePasses$Sights", "known", "I", false)
def tyX5 : Nat → FieldType := fun k => match k with
  | 0 => .array .int
  | 1 => .array .int
  | _ => .int
abbrev wsX50 : List Cond := u_ws RX5 TX5 3
theorem nmX5 : ∀ a, a < 3 → ∀ b, b < 3 → a ≠ b → (TX5 a).2.1 ≠ (TX5 b).2.1 := by decide +kernel
theorem tyX5_ok : ∀ k, k < 3 → parseFieldDescriptor (TX5 k).2.2.1 = some (tyX5 k) := by decide +kernel
abbrev cX5_init : ByteArray := prog_7_method_1_code
def yX5_init : MethodName := ⟨RX5, "<init>", "()V"⟩
abbrev cX5_note : ByteArray := prog_7_method_2_code
def yX5_note : MethodName := ⟨RX5, "note", "(II)Z"⟩
def RX6 : String := "StrikePasses$Strip"
def TX6 : u_T := fun k => match k with
  | _ => ("StrikePasses$Strip", "ink", "[I", true)
def tyX6 : Nat → FieldType := fun k => match k with
  | _ => .array .int
abbrev wsX60 : List Cond := u_ws RX6 TX6 1
theorem nmX6 : ∀ a, a < 1 → ∀ b, b < 1 → a ≠ b → (TX6 a).2.1 ≠ (TX6 b).2.1 := by decide +kernel
theorem tyX6_ok : ∀ k, k < 1 → parseFieldDescriptor (TX6 k).2.2.1 = some (tyX6 k) := by decide +kernel
abbrev cX6_init : ByteArray := prog_8_method_1_code
def yX6_init : MethodName := ⟨RX6, "<init>", "()V"⟩
abbrev cX6_lay : ByteArray := prog_8_method_2_code
def yX6_lay : MethodName := ⟨RX6, "lay", "(LStrikePasses$Sheet;I)V"⟩
abbrev cX6_hasDot : ByteArray := prog_8_method_3_code
def yX6_hasDot : MethodName := ⟨RX6, "hasDot", "(II)Z"⟩
abbrev cX6_total : ByteArray := prog_8_method_4_code
def yX6_total : MethodName := ⟨RX6, "total", "()I"⟩
abbrev cX6_amount : ByteArray := prog_8_method_5_code
def yX6_amount : MethodName := ⟨RX6, "amount", "(I)I"⟩
abbrev cX6_amountFrom : ByteArray := prog_8_method_6_code
def yX6_amountFrom : MethodName := ⟨RX6, "amountFrom", "(III)I"⟩
abbrev cX6_leastGap : ByteArray := prog_8_method_7_code
def yX6_leastGap : MethodName := ⟨RX6, "leastGap", "(I)I"⟩
def RX7 : String := "StrikePasses"
def TX7 : u_T := fun k => match k with
  | 0 => ("StrikePasses", "reader", "LStrikePasses$Reader;", true)
  | 1 => ("StrikePasses", "sheet", "LStrikePasses$Sheet;", true)
  | 2 => ("StrikePasses", "draft", "LStrikePasses$Sheet;", true)
  | 3 => ("StrikePasses", "deeds", "LStrikePasses$Deeds;", true)
  | 4 => ("StrikePasses", "sights", "LStrikePasses$Sights;", true)
  | 5 => ("StrikePasses", "images", "[LStrikePasses$Sheet;", true)
  | 6 => ("StrikePasses", "kept", "[Z", true)
  | 7 => ("StrikePasses", "strip", "LStrikePasses$Strip;", true)
  | 8 => ("StrikePasses", "dealer", "LStrikePasses$Dealer;", true)
  | _ => ("StrikePasses", "course", "LStrikePasses$Course;", true)
def tyX7 : Nat → FieldType := fun k => match k with
  | 0 => .object "StrikePasses$Reader"
  | 1 => .object "StrikePasses$Sheet"
  | 2 => .object "StrikePasses$Sheet"
  | 3 => .object "StrikePasses$Deeds"
  | 4 => .object "StrikePasses$Sights"
  | 5 => .array (.object "StrikePasses$Sheet")
  | 6 => .array .boolean
  | 7 => .object "StrikePasses$Strip"
  | 8 => .object "StrikePasses$Dealer"
  | _ => .object "StrikePasses$Course"
abbrev wsX70 : List Cond := u_ws RX7 TX7 10
theorem nmX7 : ∀ a, a < 10 → ∀ b, b < 10 → a ≠ b → (TX7 a).2.1 ≠ (TX7 b).2.1 := by decide +kernel
theorem tyX7_ok : ∀ k, k < 10 → parseFieldDescriptor (TX7 k).2.2.1 = some (tyX7 k) := by decide +kernel
abbrev cX7_init : ByteArray := prog_1_method_1_code
def yX7_init : MethodName := ⟨RX7, "<init>", "()V"⟩
abbrev cX7_type : ByteArray := prog_1_method_2_code
def yX7_type : MethodName := ⟨RX7, "type", "(I)I"⟩
abbrev cX7_clear : ByteArray := prog_1_method_3_code
def yX7_clear : MethodName := ⟨RX7, "clear", "()I"⟩
abbrev cX7_page : ByteArray := prog_1_method_4_code
def yX7_page : MethodName := ⟨RX7, "page", "()I"⟩
abbrev cX7_letter : ByteArray := prog_1_method_5_code
def yX7_letter : MethodName := ⟨RX7, "letter", "(II)I"⟩
abbrev cX7_line : ByteArray := prog_1_method_6_code
def yX7_line : MethodName := ⟨RX7, "line", "(II)I"⟩
abbrev cX7_dots : ByteArray := prog_1_method_7_code
def yX7_dots : MethodName := ⟨RX7, "dots", "(II)I"⟩
abbrev cX7_draws : ByteArray := prog_1_method_8_code
def yX7_draws : MethodName := ⟨RX7, "draws", "(III)I"⟩
abbrev cX7_types : ByteArray := prog_1_method_9_code
def yX7_types : MethodName := ⟨RX7, "types", "(II)I"⟩
abbrev cX7_strikes : ByteArray := prog_1_method_10_code
def yX7_strikes : MethodName := ⟨RX7, "strikes", "(I)I"⟩
abbrev cX7_sets : ByteArray := prog_1_method_11_code
def yX7_sets : MethodName := ⟨RX7, "sets", "(II)I"⟩
abbrev cX7_undo : ByteArray := prog_1_method_12_code
def yX7_undo : MethodName := ⟨RX7, "undo", "()I"⟩
abbrev cX7_passes : ByteArray := prog_1_method_13_code
def yX7_passes : MethodName := ⟨RX7, "passes", "(I)I"⟩
abbrev cX7_pass : ByteArray := prog_1_method_14_code
def yX7_pass : MethodName := ⟨RX7, "pass", "(III)I"⟩
abbrev cX7_span : ByteArray := prog_1_method_15_code
def yX7_span : MethodName := ⟨RX7, "span", "(III)I"⟩
abbrev cX7_goes : ByteArray := prog_1_method_16_code
def yX7_goes : MethodName := ⟨RX7, "goes", "(II)I"⟩
abbrev cX7_stands : ByteArray := prog_1_method_17_code
def yX7_stands : MethodName := ⟨RX7, "stands", "(III)I"⟩
abbrev cX7_way : ByteArray := prog_1_method_18_code
def yX7_way : MethodName := ⟨RX7, "way", "(I)I"⟩
abbrev cX7_wear : ByteArray := prog_1_method_19_code
def yX7_wear : MethodName := ⟨RX7, "wear", "(I)I"⟩
abbrev cX7_crowd : ByteArray := prog_1_method_20_code
def yX7_crowd : MethodName := ⟨RX7, "crowd", "(II)I"⟩
abbrev cX7_easy : ByteArray := prog_1_method_21_code
def yX7_easy : MethodName := ⟨RX7, "easy", "(I)I"⟩
abbrev cX7_place : ByteArray := prog_1_method_22_code
def yX7_place : MethodName := ⟨RX7, "place", "(II)I"⟩
abbrev cX7_sees : ByteArray := prog_1_method_23_code
def yX7_sees : MethodName := ⟨RX7, "sees", "(II)I"⟩
abbrev cX7_forget : ByteArray := prog_1_method_24_code
def yX7_forget : MethodName := ⟨RX7, "forget", "()I"⟩
abbrev cX7_unseen : ByteArray := prog_1_method_25_code
def yX7_unseen : MethodName := ⟨RX7, "unseen", "()I"⟩
abbrev cX7_ask : ByteArray := prog_1_method_26_code
def yX7_ask : MethodName := ⟨RX7, "ask", "()I"⟩
abbrev cX7_keep : ByteArray := prog_1_method_27_code
def yX7_keep : MethodName := ⟨RX7, "keep", "(I)I"⟩
abbrev cX7_back : ByteArray := prog_1_method_28_code
def yX7_back : MethodName := ⟨RX7, "back", "(I)I"⟩
abbrev cX7_count : ByteArray := prog_1_method_29_code
def yX7_count : MethodName := ⟨RX7, "count", "(I)I"⟩
abbrev cX7_isNeedle : ByteArray := prog_1_method_30_code
def yX7_isNeedle : MethodName := ⟨RX7, "isNeedle", "(I)Z"⟩
abbrev cX7_isColumn : ByteArray := prog_1_method_31_code
def yX7_isColumn : MethodName := ⟨RX7, "isColumn", "(I)Z"⟩
abbrev cX7_isColumnOfLetter : ByteArray := prog_1_method_32_code
def yX7_isColumnOfLetter : MethodName := ⟨RX7, "isColumnOfLetter", "(II)Z"⟩
abbrev cX7_mayBeSet : ByteArray := prog_1_method_33_code
def yX7_mayBeSet : MethodName := ⟨RX7, "mayBeSet", "(II)Z"⟩
abbrev cX7_isPlace : ByteArray := prog_1_method_34_code
def yX7_isPlace : MethodName := ⟨RX7, "isPlace", "(III)Z"⟩
abbrev cX7_passesOf : ByteArray := prog_1_method_35_code
def yX7_passesOf : MethodName := ⟨RX7, "passesOf", "(I)I"⟩
abbrev cX7_allPasses : ByteArray := prog_1_method_36_code
def yX7_allPasses : MethodName := ⟨RX7, "allPasses", "()I"⟩
abbrev cX7_allDots : ByteArray := prog_1_method_37_code
def yX7_allDots : MethodName := ⟨RX7, "allDots", "()I"⟩
abbrev cX7_suspects : ByteArray := prog_1_method_38_code
def yX7_suspects : MethodName := ⟨RX7, "suspects", "()I"⟩
abbrev cX7_explaining : ByteArray := prog_1_method_39_code
def yX7_explaining : MethodName := ⟨RX7, "explaining", "(II)I"⟩
abbrev cX7_unlikeNumbers : ByteArray := prog_1_method_40_code
def yX7_unlikeNumbers : MethodName := ⟨RX7, "unlikeNumbers", "(II)I"⟩
def RX8 : String := "StrikePassesModel"
def TX8 : u_T := fun k => match k with
  | 0 => ("StrikePassesModel", "now", "[I", true)
  | 1 => ("StrikePassesModel", "undoMany", "I", false)
  | 2 => ("StrikePassesModel", "undoAt", "I", false)
  | 3 => ("StrikePassesModel", "undos", "[I", true)
  | 4 => ("StrikePassesModel", "isKept", "[Z", true)
  | 5 => ("StrikePassesModel", "kept", "[I", true)
  | 6 => ("StrikePassesModel", "letterMany", "I", false)
  | 7 => ("StrikePassesModel", "text", "[I", true)
  | 8 => ("StrikePassesModel", "readAt", "I", false)
  | 9 => ("StrikePassesModel", "tokenAt", "I", false)
  | 10 => ("StrikePassesModel", "token", "I", false)
  | 11 => ("StrikePassesModel", "read", "[I", true)
  | 12 => ("StrikePassesModel", "passMany", "I", false)
  | 13 => ("StrikePassesModel", "lows", "[I", true)
  | 14 => ("StrikePassesModel", "highs", "[I", true)
  | 15 => ("StrikePassesModel", "seeks", "I", false)
  | 16 => ("StrikePassesModel", "choices", "J", false)
  | 17 => ("StrikePassesModel", "seenMany", "I", false)
  | 18 => ("StrikePassesModel", "seenLine", "[I", true)
  | _ => ("StrikePassesModel", "seen", "[I", true)
def tyX8 : Nat → FieldType := fun k => match k with
  | 0 => .array .int
  | 1 => .int
  | 2 => .int
  | 3 => .array .int
  | 4 => .array .boolean
  | 5 => .array .int
  | 6 => .int
  | 7 => .array .int
  | 8 => .int
  | 9 => .int
  | 10 => .int
  | 11 => .array .int
  | 12 => .int
  | 13 => .array .int
  | 14 => .array .int
  | 15 => .int
  | 16 => .long
  | 17 => .int
  | 18 => .array .int
  | _ => .array .int
abbrev wsX80 : List Cond := u_ws RX8 TX8 20
theorem nmX8 : ∀ a, a < 20 → ∀ b, b < 20 → a ≠ b → (TX8 a).2.1 ≠ (TX8 b).2.1 := by decide +kernel
theorem tyX8_ok : ∀ k, k < 20 → parseFieldDescriptor (TX8 k).2.2.1 = some (tyX8 k) := by decide +kernel
abbrev cX8_init : ByteArray := prog_10_method_1_code
def yX8_init : MethodName := ⟨RX8, "<init>", "()V"⟩
abbrev cX8_in : ByteArray := prog_10_method_2_code
def yX8_in : MethodName := ⟨RX8, "in", "(III)Z"⟩
abbrev cX8_has : ByteArray := prog_10_method_3_code
def yX8_has : MethodName := ⟨RX8, "has", "(II)Z"⟩
abbrev cX8_begins : ByteArray := prog_10_method_4_code
def yX8_begins : MethodName := ⟨RX8, "begins", "([I)V"⟩
abbrev cX8_least : ByteArray := prog_10_method_5_code
def yX8_least : MethodName := ⟨RX8, "least", "(I)I"⟩
abbrev cX8_most : ByteArray := prog_10_method_6_code
def yX8_most : MethodName := ⟨RX8, "most", "(I)I"⟩
abbrev cX8_isLine : ByteArray := prog_10_method_7_code
def yX8_isLine : MethodName := ⟨RX8, "isLine", "(I)Z"⟩
abbrev cX8_type : ByteArray := prog_10_method_8_code
def yX8_type : MethodName := ⟨RX8, "type", "(I)I"⟩
abbrev cX8_clear : ByteArray := prog_10_method_9_code
def yX8_clear : MethodName := ⟨RX8, "clear", "()I"⟩
abbrev cX8_isFigure : ByteArray := prog_10_method_10_code
def yX8_isFigure : MethodName := ⟨RX8, "isFigure", "(I)Z"⟩
abbrev cX8_blanks : ByteArray := prog_10_method_11_code
def yX8_blanks : MethodName := ⟨RX8, "blanks", "()V"⟩
abbrev cX8_next : ByteArray := prog_10_method_12_code
def yX8_next : MethodName := ⟨RX8, "next", "()V"⟩
abbrev cX8_number : ByteArray := prog_10_method_13_code
def yX8_number : MethodName := ⟨RX8, "number", "(III)Z"⟩
abbrev cX8_stops : ByteArray := prog_10_method_14_code
def yX8_stops : MethodName := ⟨RX8, "stops", "()Z"⟩
abbrev cX8_readsLetter : ByteArray := prog_10_method_15_code
def yX8_readsLetter : MethodName := ⟨RX8, "readsLetter", "()Z"⟩
abbrev cX8_readsLine : ByteArray := prog_10_method_16_code
def yX8_readsLine : MethodName := ⟨RX8, "readsLine", "()Z"⟩
abbrev cX8_readsItem : ByteArray := prog_10_method_17_code
def yX8_readsItem : MethodName := ⟨RX8, "readsItem", "()Z"⟩
abbrev cX8_page : ByteArray := prog_10_method_18_code
def yX8_page : MethodName := ⟨RX8, "page", "()I"⟩
abbrev cX8_letter : ByteArray := prog_10_method_19_code
def yX8_letter : MethodName := ⟨RX8, "letter", "(II)I"⟩
abbrev cX8_line : ByteArray := prog_10_method_20_code
def yX8_line : MethodName := ⟨RX8, "line", "(II)I"⟩
abbrev cX8_dotsAt : ByteArray := prog_10_method_21_code
def yX8_dotsAt : MethodName := ⟨RX8, "dotsAt", "(II)I"⟩
abbrev cX8_dots : ByteArray := prog_10_method_22_code
def yX8_dots : MethodName := ⟨RX8, "dots", "(II)I"⟩
abbrev cX8_remembers : ByteArray := prog_10_method_23_code
def yX8_remembers : MethodName := ⟨RX8, "remembers", "()V"⟩
abbrev cX8_lays : ByteArray := prog_10_method_24_code
def yX8_lays : MethodName := ⟨RX8, "lays", "(II)I"⟩
abbrev cX8_draws : ByteArray := prog_10_method_25_code
def yX8_draws : MethodName := ⟨RX8, "draws", "(III)I"⟩
abbrev cX8_types : ByteArray := prog_10_method_26_code
def yX8_types : MethodName := ⟨RX8, "types", "(II)I"⟩
abbrev cX8_strikes : ByteArray := prog_10_method_27_code
def yX8_strikes : MethodName := ⟨RX8, "strikes", "(I)I"⟩
abbrev cX8_sets : ByteArray := prog_10_method_28_code
def yX8_sets : MethodName := ⟨RX8, "sets", "(II)I"⟩
abbrev cX8_undo : ByteArray := prog_10_method_29_code
def yX8_undo : MethodName := ⟨RX8, "undo", "()I"⟩
abbrev cX8_columnsOf : ByteArray := prog_10_method_30_code
def yX8_columnsOf : MethodName := ⟨RX8, "columnsOf", "(II)I"⟩
abbrev cX8_columnsIn : ByteArray := prog_10_method_31_code
def yX8_columnsIn : MethodName := ⟨RX8, "columnsIn", "(III)I"⟩
abbrev cX8_passesOf : ByteArray := prog_10_method_32_code
def yX8_passesOf : MethodName := ⟨RX8, "passesOf", "(I)I"⟩
abbrev cX8_passes : ByteArray := prog_10_method_33_code
def yX8_passes : MethodName := ⟨RX8, "passes", "(I)I"⟩
abbrev cX8_isDot : ByteArray := prog_10_method_34_code
def yX8_isDot : MethodName := ⟨RX8, "isDot", "(II)Z"⟩
abbrev cX8_pass : ByteArray := prog_10_method_35_code
def yX8_pass : MethodName := ⟨RX8, "pass", "(III)I"⟩
abbrev cX8_headAt : ByteArray := prog_10_method_36_code
def yX8_headAt : MethodName := ⟨RX8, "headAt", "(II)I"⟩
abbrev cX8_lowOf : ByteArray := prog_10_method_37_code
def yX8_lowOf : MethodName := ⟨RX8, "lowOf", "(II)I"⟩
abbrev cX8_highOf : ByteArray := prog_10_method_38_code
def yX8_highOf : MethodName := ⟨RX8, "highOf", "(II)I"⟩
abbrev cX8_span : ByteArray := prog_10_method_39_code
def yX8_span : MethodName := ⟨RX8, "span", "(III)I"⟩
abbrev cX8_stands : ByteArray := prog_10_method_40_code
def yX8_stands : MethodName := ⟨RX8, "stands", "(III)I"⟩
abbrev cX8_layPasses : ByteArray := prog_10_method_41_code
def yX8_layPasses : MethodName := ⟨RX8, "layPasses", "()V"⟩
abbrev cX8_far : ByteArray := prog_10_method_42_code
def yX8_far : MethodName := ⟨RX8, "far", "(II)I"⟩
abbrev cX8_layWay : ByteArray := prog_10_method_43_code
def yX8_layWay : MethodName := ⟨RX8, "layWay", "()V"⟩
abbrev cX8_isBack : ByteArray := prog_10_method_44_code
def yX8_isBack : MethodName := ⟨RX8, "isBack", "(I)Z"⟩
abbrev cX8_goes : ByteArray := prog_10_method_45_code
def yX8_goes : MethodName := ⟨RX8, "goes", "(II)I"⟩
abbrev cX8_way : ByteArray := prog_10_method_46_code
def yX8_way : MethodName := ⟨RX8, "way", "(I)I"⟩
abbrev cX8_dotMany : ByteArray := prog_10_method_47_code
def yX8_dotMany : MethodName := ⟨RX8, "dotMany", "(II)I"⟩
abbrev cX8_wear : ByteArray := prog_10_method_48_code
def yX8_wear : MethodName := ⟨RX8, "wear", "(I)I"⟩
abbrev cX8_within : ByteArray := prog_10_method_49_code
def yX8_within : MethodName := ⟨RX8, "within", "(III)I"⟩
abbrev cX8_crowd : ByteArray := prog_10_method_50_code
def yX8_crowd : MethodName := ⟨RX8, "crowd", "(II)I"⟩
abbrev cX8_isEasy : ByteArray := prog_10_method_51_code
def yX8_isEasy : MethodName := ⟨RX8, "isEasy", "(II)Z"⟩
abbrev cX8_easy : ByteArray := prog_10_method_52_code
def yX8_easy : MethodName := ⟨RX8, "easy", "(I)I"⟩
abbrev cX8_place : ByteArray := prog_10_method_53_code
def yX8_place : MethodName := ⟨RX8, "place", "(II)I"⟩
abbrev cX8_sees : ByteArray := prog_10_method_54_code
def yX8_sees : MethodName := ⟨RX8, "sees", "(II)I"⟩
abbrev cX8_forget : ByteArray := prog_10_method_55_code
def yX8_forget : MethodName := ⟨RX8, "forget", "()I"⟩
abbrev cX8_without : ByteArray := prog_10_method_56_code
def yX8_without : MethodName := ⟨RX8, "without", "(II)I"⟩
abbrev cX8_unseenSet : ByteArray := prog_10_method_57_code
def yX8_unseenSet : MethodName := ⟨RX8, "unseenSet", "()I"⟩
abbrev cX8_unseen : ByteArray := prog_10_method_58_code
def yX8_unseen : MethodName := ⟨RX8, "unseen", "()I"⟩
abbrev cX8_unlike : ByteArray := prog_10_method_59_code
def yX8_unlike : MethodName := ⟨RX8, "unlike", "(II)I"⟩
abbrev cX8_ask : ByteArray := prog_10_method_60_code
def yX8_ask : MethodName := ⟨RX8, "ask", "()I"⟩
abbrev cX8_keep : ByteArray := prog_10_method_61_code
def yX8_keep : MethodName := ⟨RX8, "keep", "(I)I"⟩
abbrev cX8_back : ByteArray := prog_10_method_62_code
def yX8_back : MethodName := ⟨RX8, "back", "(I)I"⟩
abbrev cX8_ofLines : ByteArray := prog_10_method_63_code
def yX8_ofLines : MethodName := ⟨RX8, "ofLines", "(Z)I"⟩
abbrev cX8_count : ByteArray := prog_10_method_64_code
def yX8_count : MethodName := ⟨RX8, "count", "(I)I"⟩
def RJ6 : String := "java/lang/Integer"
def TJ6 : u_T := fun k => match k with
  | _ => ("", "", "", false)
def tyJ6 : Nat → FieldType := fun k => match k with
  | _ => .int
abbrev wsJ60 : List Cond := u_ws RJ6 TJ6 0
theorem nmJ6 : ∀ a, a < 0 → ∀ b, b < 0 → a ≠ b → (TJ6 a).2.1 ≠ (TJ6 b).2.1 := by decide +kernel
theorem tyJ6_ok : ∀ k, k < 0 → parseFieldDescriptor (TJ6 k).2.2.1 = some (tyJ6 k) := by decide +kernel
abbrev cJ6_bitCount_0f7a4 : ByteArray := prog_11_method_49_code
def yJ6_bitCount_0f7a4 : MethodName := ⟨RJ6, "bitCount", "(I)I"⟩
def RJ9 : String := "java/lang/Math"
def TJ9 : u_T := fun k => match k with
  | _ => ("", "", "", false)
def tyJ9 : Nat → FieldType := fun k => match k with
  | _ => .int
abbrev wsJ90 : List Cond := u_ws RJ9 TJ9 0
theorem nmJ9 : ∀ a, a < 0 → ∀ b, b < 0 → a ≠ b → (TJ9 a).2.1 ≠ (TJ9 b).2.1 := by decide +kernel
theorem tyJ9_ok : ∀ k, k < 0 → parseFieldDescriptor (TJ9 k).2.2.1 = some (tyJ9 k) := by decide +kernel
abbrev cJ9_abs_0f7a4 : ByteArray := prog_12_method_59_code
def yJ9_abs_0f7a4 : MethodName := ⟨RJ9, "abs", "(I)I"⟩
abbrev cJ9_max_7cf53 : ByteArray := prog_12_method_65_code
def yJ9_max_7cf53 : MethodName := ⟨RJ9, "max", "(II)I"⟩
abbrev cJ9_min_7cf53 : ByteArray := prog_12_method_69_code
def yJ9_min_7cf53 : MethodName := ⟨RJ9, "min", "(II)I"⟩
def RJ10 : String := "java/lang/System"
def TJ10 : u_T := fun k => match k with
  | _ => ("", "", "", false)
def tyJ10 : Nat → FieldType := fun k => match k with
  | _ => .int
abbrev wsJ100 : List Cond := u_ws RJ10 TJ10 0
theorem nmJ10 : ∀ a, a < 0 → ∀ b, b < 0 → a ≠ b → (TJ10 a).2.1 ≠ (TJ10 b).2.1 := by decide +kernel
theorem tyJ10_ok : ∀ k, k < 0 → parseFieldDescriptor (TJ10 k).2.2.1 = some (tyJ10 k) := by decide +kernel
def RJ7 : String := "java/util/Arrays"
def TJ7 : u_T := fun k => match k with
  | _ => ("", "", "", false)
def tyJ7 : Nat → FieldType := fun k => match k with
  | _ => .int
abbrev wsJ70 : List Cond := u_ws RJ7 TJ7 0
theorem nmJ7 : ∀ a, a < 0 → ∀ b, b < 0 → a ≠ b → (TJ7 a).2.1 ≠ (TJ7 b).2.1 := by decide +kernel
theorem tyJ7_ok : ∀ k, k < 0 → parseFieldDescriptor (TJ7 k).2.2.1 = some (tyJ7 k) := by decide +kernel
abbrev cJ7_fill_53178 : ByteArray := prog_14_method_103_code
def yJ7_fill_53178 : MethodName := ⟨RJ7, "fill", "([II)V"⟩
def RL : String := "StrikePassesLaw"
abbrev cL_law : ByteArray := code
def yL_law : MethodName := ⟨RL, "law", "([I)Z"⟩
abbrev vwCl : List vw_C := [(RX0, TX0, 9), (RX1, TX1, 2), (RX2, TX2, 4), (RX3, TX3, 6), (RX4, TX4, 5), (RX5, TX5, 3), (RX6, TX6, 1), (RX7, TX7, 10), (RX8, TX8, 20)]
