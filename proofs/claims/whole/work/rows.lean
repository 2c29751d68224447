section
-- ===== PART A: goes FIRST, ahead of the names: the tables' words, and 'selects' of the private methods out of them =====
/-- a private method of a class that the tables say can be made, by its rows of tables_1 -/
def lw_okq (q : MethodName × Nat) : Prop := (q.1.cls ≠ "java/lang/invoke/MethodHandle" ∧ q.1.cls ≠ "java/lang/invoke/VarHandle") ∧ Cond.instantiable q.1.cls q.2 ∈ tables_1 ∧ Cond.privateMethod q.1 ∈ tables_1 ∧ Cond.instanceMethod q.1 ∈ tables_1
theorem lw_p0 : lw_okq (⟨"StrikePasses", "passesOf", "(I)I"⟩, 10) := ⟨⟨by decide +kernel, by decide +kernel⟩, List.mem_of_getElem? (i := 15) (by decide +kernel), List.mem_of_getElem? (i := 379) (by decide +kernel), List.mem_of_getElem? (i := 380) (by decide +kernel)⟩
theorem lw_p1 : lw_okq (⟨"StrikePasses", "isPlace", "(III)Z"⟩, 10) := ⟨⟨by decide +kernel, by decide +kernel⟩, List.mem_of_getElem? (i := 15) (by decide +kernel), List.mem_of_getElem? (i := 405) (by decide +kernel), List.mem_of_getElem? (i := 406) (by decide +kernel)⟩
theorem lw_p2 : lw_okq (⟨"StrikePasses", "suspects", "()I"⟩, 10) := ⟨⟨by decide +kernel, by decide +kernel⟩, List.mem_of_getElem? (i := 15) (by decide +kernel), List.mem_of_getElem? (i := 534) (by decide +kernel), List.mem_of_getElem? (i := 535) (by decide +kernel)⟩
theorem lw_p3 : lw_okq (⟨"StrikePasses", "explaining", "(II)I"⟩, 10) := ⟨⟨by decide +kernel, by decide +kernel⟩, List.mem_of_getElem? (i := 15) (by decide +kernel), List.mem_of_getElem? (i := 538) (by decide +kernel), List.mem_of_getElem? (i := 539) (by decide +kernel)⟩
theorem lw_p4 : lw_okq (⟨"StrikePasses", "unlikeNumbers", "(II)I"⟩, 10) := ⟨⟨by decide +kernel, by decide +kernel⟩, List.mem_of_getElem? (i := 15) (by decide +kernel), List.mem_of_getElem? (i := 557) (by decide +kernel), List.mem_of_getElem? (i := 558) (by decide +kernel)⟩
theorem lw_p5 : lw_okq (⟨"StrikePasses", "allDots", "()I"⟩, 10) := ⟨⟨by decide +kernel, by decide +kernel⟩, List.mem_of_getElem? (i := 15) (by decide +kernel), List.mem_of_getElem? (i := 573) (by decide +kernel), List.mem_of_getElem? (i := 574) (by decide +kernel)⟩
theorem lw_p6 : lw_okq (⟨"StrikePasses", "allPasses", "()I"⟩, 10) := ⟨⟨by decide +kernel, by decide +kernel⟩, List.mem_of_getElem? (i := 15) (by decide +kernel), List.mem_of_getElem? (i := 577) (by decide +kernel), List.mem_of_getElem? (i := 578) (by decide +kernel)⟩
theorem lw_p7 : lw_okq (⟨"StrikePassesModel", "blanks", "()V"⟩, 20) := ⟨⟨by decide +kernel, by decide +kernel⟩, List.mem_of_getElem? (i := 581) (by decide +kernel), List.mem_of_getElem? (i := 666) (by decide +kernel), List.mem_of_getElem? (i := 667) (by decide +kernel)⟩
theorem lw_p8 : lw_okq (⟨"StrikePassesModel", "readsItem", "()Z"⟩, 20) := ⟨⟨by decide +kernel, by decide +kernel⟩, List.mem_of_getElem? (i := 581) (by decide +kernel), List.mem_of_getElem? (i := 670) (by decide +kernel), List.mem_of_getElem? (i := 671) (by decide +kernel)⟩
theorem lw_p9 : lw_okq (⟨"StrikePassesModel", "next", "()V"⟩, 20) := ⟨⟨by decide +kernel, by decide +kernel⟩, List.mem_of_getElem? (i := 581) (by decide +kernel), List.mem_of_getElem? (i := 674) (by decide +kernel), List.mem_of_getElem? (i := 675) (by decide +kernel)⟩
theorem lw_p10 : lw_okq (⟨"StrikePassesModel", "isFigure", "(I)Z"⟩, 20) := ⟨⟨by decide +kernel, by decide +kernel⟩, List.mem_of_getElem? (i := 581) (by decide +kernel), List.mem_of_getElem? (i := 678) (by decide +kernel), List.mem_of_getElem? (i := 679) (by decide +kernel)⟩
theorem lw_p11 : lw_okq (⟨"StrikePassesModel", "number", "(III)Z"⟩, 20) := ⟨⟨by decide +kernel, by decide +kernel⟩, List.mem_of_getElem? (i := 581) (by decide +kernel), List.mem_of_getElem? (i := 682) (by decide +kernel), List.mem_of_getElem? (i := 683) (by decide +kernel)⟩
theorem lw_p12 : lw_okq (⟨"StrikePassesModel", "stops", "()Z"⟩, 20) := ⟨⟨by decide +kernel, by decide +kernel⟩, List.mem_of_getElem? (i := 581) (by decide +kernel), List.mem_of_getElem? (i := 686) (by decide +kernel), List.mem_of_getElem? (i := 687) (by decide +kernel)⟩
theorem lw_p13 : lw_okq (⟨"StrikePassesModel", "readsLetter", "()Z"⟩, 20) := ⟨⟨by decide +kernel, by decide +kernel⟩, List.mem_of_getElem? (i := 581) (by decide +kernel), List.mem_of_getElem? (i := 690) (by decide +kernel), List.mem_of_getElem? (i := 691) (by decide +kernel)⟩
theorem lw_p14 : lw_okq (⟨"StrikePassesModel", "readsLine", "()Z"⟩, 20) := ⟨⟨by decide +kernel, by decide +kernel⟩, List.mem_of_getElem? (i := 581) (by decide +kernel), List.mem_of_getElem? (i := 694) (by decide +kernel), List.mem_of_getElem? (i := 695) (by decide +kernel)⟩
theorem lw_p15 : lw_okq (⟨"StrikePassesModel", "isLine", "(I)Z"⟩, 20) := ⟨⟨by decide +kernel, by decide +kernel⟩, List.mem_of_getElem? (i := 581) (by decide +kernel), List.mem_of_getElem? (i := 706) (by decide +kernel), List.mem_of_getElem? (i := 707) (by decide +kernel)⟩
def lw_privs_1 : List (MethodName × Nat) := [(⟨"StrikePasses", "passesOf", "(I)I"⟩, 10), (⟨"StrikePasses", "isPlace", "(III)Z"⟩, 10), (⟨"StrikePasses", "suspects", "()I"⟩, 10), (⟨"StrikePasses", "explaining", "(II)I"⟩, 10), (⟨"StrikePasses", "unlikeNumbers", "(II)I"⟩, 10), (⟨"StrikePasses", "allDots", "()I"⟩, 10), (⟨"StrikePasses", "allPasses", "()I"⟩, 10), (⟨"StrikePassesModel", "blanks", "()V"⟩, 20), (⟨"StrikePassesModel", "readsItem", "()Z"⟩, 20), (⟨"StrikePassesModel", "next", "()V"⟩, 20), (⟨"StrikePassesModel", "isFigure", "(I)Z"⟩, 20), (⟨"StrikePassesModel", "number", "(III)Z"⟩, 20), (⟨"StrikePassesModel", "stops", "()Z"⟩, 20), (⟨"StrikePassesModel", "readsLetter", "()Z"⟩, 20), (⟨"StrikePassesModel", "readsLine", "()Z"⟩, 20), (⟨"StrikePassesModel", "isLine", "(I)Z"⟩, 20)]
theorem lw_r1 : ∀ q ∈ lw_privs_1, lw_okq q := List.forall_mem_cons.mpr ⟨lw_p0, List.forall_mem_cons.mpr ⟨lw_p1, List.forall_mem_cons.mpr ⟨lw_p2, List.forall_mem_cons.mpr ⟨lw_p3, List.forall_mem_cons.mpr ⟨lw_p4, List.forall_mem_cons.mpr ⟨lw_p5, List.forall_mem_cons.mpr ⟨lw_p6, List.forall_mem_cons.mpr ⟨lw_p7, List.forall_mem_cons.mpr ⟨lw_p8, List.forall_mem_cons.mpr ⟨lw_p9, List.forall_mem_cons.mpr ⟨lw_p10, List.forall_mem_cons.mpr ⟨lw_p11, List.forall_mem_cons.mpr ⟨lw_p12, List.forall_mem_cons.mpr ⟨lw_p13, List.forall_mem_cons.mpr ⟨lw_p14, List.forall_mem_cons.mpr ⟨lw_p15, fun _ h => absurd h List.not_mem_nil⟩⟩⟩⟩⟩⟩⟩⟩⟩⟩⟩⟩⟩⟩⟩⟩
theorem lw_p16 : lw_okq (⟨"StrikePassesModel", "dotsAt", "(II)I"⟩, 20) := ⟨⟨by decide +kernel, by decide +kernel⟩, List.mem_of_getElem? (i := 581) (by decide +kernel), List.mem_of_getElem? (i := 714) (by decide +kernel), List.mem_of_getElem? (i := 715) (by decide +kernel)⟩
theorem lw_p17 : lw_okq (⟨"StrikePassesModel", "lays", "(II)I"⟩, 20) := ⟨⟨by decide +kernel, by decide +kernel⟩, List.mem_of_getElem? (i := 581) (by decide +kernel), List.mem_of_getElem? (i := 722) (by decide +kernel), List.mem_of_getElem? (i := 723) (by decide +kernel)⟩
theorem lw_p18 : lw_okq (⟨"StrikePassesModel", "remembers", "()V"⟩, 20) := ⟨⟨by decide +kernel, by decide +kernel⟩, List.mem_of_getElem? (i := 581) (by decide +kernel), List.mem_of_getElem? (i := 726) (by decide +kernel), List.mem_of_getElem? (i := 727) (by decide +kernel)⟩
theorem lw_p19 : lw_okq (⟨"StrikePassesModel", "passesOf", "(I)I"⟩, 20) := ⟨⟨by decide +kernel, by decide +kernel⟩, List.mem_of_getElem? (i := 581) (by decide +kernel), List.mem_of_getElem? (i := 756) (by decide +kernel), List.mem_of_getElem? (i := 757) (by decide +kernel)⟩
theorem lw_p20 : lw_okq (⟨"StrikePassesModel", "columnsIn", "(III)I"⟩, 20) := ⟨⟨by decide +kernel, by decide +kernel⟩, List.mem_of_getElem? (i := 581) (by decide +kernel), List.mem_of_getElem? (i := 760) (by decide +kernel), List.mem_of_getElem? (i := 761) (by decide +kernel)⟩
theorem lw_p21 : lw_okq (⟨"StrikePassesModel", "columnsOf", "(II)I"⟩, 20) := ⟨⟨by decide +kernel, by decide +kernel⟩, List.mem_of_getElem? (i := 581) (by decide +kernel), List.mem_of_getElem? (i := 764) (by decide +kernel), List.mem_of_getElem? (i := 765) (by decide +kernel)⟩
theorem lw_p22 : lw_okq (⟨"StrikePassesModel", "lowOf", "(II)I"⟩, 20) := ⟨⟨by decide +kernel, by decide +kernel⟩, List.mem_of_getElem? (i := 581) (by decide +kernel), List.mem_of_getElem? (i := 783) (by decide +kernel), List.mem_of_getElem? (i := 784) (by decide +kernel)⟩
theorem lw_p23 : lw_okq (⟨"StrikePassesModel", "headAt", "(II)I"⟩, 20) := ⟨⟨by decide +kernel, by decide +kernel⟩, List.mem_of_getElem? (i := 581) (by decide +kernel), List.mem_of_getElem? (i := 787) (by decide +kernel), List.mem_of_getElem? (i := 788) (by decide +kernel)⟩
theorem lw_p24 : lw_okq (⟨"StrikePassesModel", "highOf", "(II)I"⟩, 20) := ⟨⟨by decide +kernel, by decide +kernel⟩, List.mem_of_getElem? (i := 581) (by decide +kernel), List.mem_of_getElem? (i := 791) (by decide +kernel), List.mem_of_getElem? (i := 792) (by decide +kernel)⟩
theorem lw_p25 : lw_okq (⟨"StrikePassesModel", "layWay", "()V"⟩, 20) := ⟨⟨by decide +kernel, by decide +kernel⟩, List.mem_of_getElem? (i := 581) (by decide +kernel), List.mem_of_getElem? (i := 803) (by decide +kernel), List.mem_of_getElem? (i := 804) (by decide +kernel)⟩
theorem lw_p26 : lw_okq (⟨"StrikePassesModel", "layPasses", "()V"⟩, 20) := ⟨⟨by decide +kernel, by decide +kernel⟩, List.mem_of_getElem? (i := 581) (by decide +kernel), List.mem_of_getElem? (i := 807) (by decide +kernel), List.mem_of_getElem? (i := 808) (by decide +kernel)⟩
theorem lw_p27 : lw_okq (⟨"StrikePassesModel", "isBack", "(I)Z"⟩, 20) := ⟨⟨by decide +kernel, by decide +kernel⟩, List.mem_of_getElem? (i := 581) (by decide +kernel), List.mem_of_getElem? (i := 815) (by decide +kernel), List.mem_of_getElem? (i := 816) (by decide +kernel)⟩
theorem lw_p28 : lw_okq (⟨"StrikePassesModel", "dotMany", "(II)I"⟩, 20) := ⟨⟨by decide +kernel, by decide +kernel⟩, List.mem_of_getElem? (i := 581) (by decide +kernel), List.mem_of_getElem? (i := 827) (by decide +kernel), List.mem_of_getElem? (i := 828) (by decide +kernel)⟩
theorem lw_p29 : lw_okq (⟨"StrikePassesModel", "within", "(III)I"⟩, 20) := ⟨⟨by decide +kernel, by decide +kernel⟩, List.mem_of_getElem? (i := 581) (by decide +kernel), List.mem_of_getElem? (i := 835) (by decide +kernel), List.mem_of_getElem? (i := 836) (by decide +kernel)⟩
theorem lw_p30 : lw_okq (⟨"StrikePassesModel", "isEasy", "(II)Z"⟩, 20) := ⟨⟨by decide +kernel, by decide +kernel⟩, List.mem_of_getElem? (i := 581) (by decide +kernel), List.mem_of_getElem? (i := 843) (by decide +kernel), List.mem_of_getElem? (i := 844) (by decide +kernel)⟩
theorem lw_p31 : lw_okq (⟨"StrikePassesModel", "unseenSet", "()I"⟩, 20) := ⟨⟨by decide +kernel, by decide +kernel⟩, List.mem_of_getElem? (i := 581) (by decide +kernel), List.mem_of_getElem? (i := 863) (by decide +kernel), List.mem_of_getElem? (i := 864) (by decide +kernel)⟩
def lw_privs_2 : List (MethodName × Nat) := [(⟨"StrikePassesModel", "dotsAt", "(II)I"⟩, 20), (⟨"StrikePassesModel", "lays", "(II)I"⟩, 20), (⟨"StrikePassesModel", "remembers", "()V"⟩, 20), (⟨"StrikePassesModel", "passesOf", "(I)I"⟩, 20), (⟨"StrikePassesModel", "columnsIn", "(III)I"⟩, 20), (⟨"StrikePassesModel", "columnsOf", "(II)I"⟩, 20), (⟨"StrikePassesModel", "lowOf", "(II)I"⟩, 20), (⟨"StrikePassesModel", "headAt", "(II)I"⟩, 20), (⟨"StrikePassesModel", "highOf", "(II)I"⟩, 20), (⟨"StrikePassesModel", "layWay", "()V"⟩, 20), (⟨"StrikePassesModel", "layPasses", "()V"⟩, 20), (⟨"StrikePassesModel", "isBack", "(I)Z"⟩, 20), (⟨"StrikePassesModel", "dotMany", "(II)I"⟩, 20), (⟨"StrikePassesModel", "within", "(III)I"⟩, 20), (⟨"StrikePassesModel", "isEasy", "(II)Z"⟩, 20), (⟨"StrikePassesModel", "unseenSet", "()I"⟩, 20)]
theorem lw_r2 : ∀ q ∈ lw_privs_2, lw_okq q := List.forall_mem_cons.mpr ⟨lw_p16, List.forall_mem_cons.mpr ⟨lw_p17, List.forall_mem_cons.mpr ⟨lw_p18, List.forall_mem_cons.mpr ⟨lw_p19, List.forall_mem_cons.mpr ⟨lw_p20, List.forall_mem_cons.mpr ⟨lw_p21, List.forall_mem_cons.mpr ⟨lw_p22, List.forall_mem_cons.mpr ⟨lw_p23, List.forall_mem_cons.mpr ⟨lw_p24, List.forall_mem_cons.mpr ⟨lw_p25, List.forall_mem_cons.mpr ⟨lw_p26, List.forall_mem_cons.mpr ⟨lw_p27, List.forall_mem_cons.mpr ⟨lw_p28, List.forall_mem_cons.mpr ⟨lw_p29, List.forall_mem_cons.mpr ⟨lw_p30, List.forall_mem_cons.mpr ⟨lw_p31, fun _ h => absurd h List.not_mem_nil⟩⟩⟩⟩⟩⟩⟩⟩⟩⟩⟩⟩⟩⟩⟩⟩
theorem lw_p32 : lw_okq (⟨"StrikePassesModel", "without", "(II)I"⟩, 20) := ⟨⟨by decide +kernel, by decide +kernel⟩, List.mem_of_getElem? (i := 581) (by decide +kernel), List.mem_of_getElem? (i := 867) (by decide +kernel), List.mem_of_getElem? (i := 868) (by decide +kernel)⟩
theorem lw_p33 : lw_okq (⟨"StrikePassesModel", "unlike", "(II)I"⟩, 20) := ⟨⟨by decide +kernel, by decide +kernel⟩, List.mem_of_getElem? (i := 581) (by decide +kernel), List.mem_of_getElem? (i := 875) (by decide +kernel), List.mem_of_getElem? (i := 876) (by decide +kernel)⟩
theorem lw_p34 : lw_okq (⟨"StrikePassesModel", "ofLines", "(Z)I"⟩, 20) := ⟨⟨by decide +kernel, by decide +kernel⟩, List.mem_of_getElem? (i := 581) (by decide +kernel), List.mem_of_getElem? (i := 891) (by decide +kernel), List.mem_of_getElem? (i := 892) (by decide +kernel)⟩
def lw_privs_3 : List (MethodName × Nat) := [(⟨"StrikePassesModel", "without", "(II)I"⟩, 20), (⟨"StrikePassesModel", "unlike", "(II)I"⟩, 20), (⟨"StrikePassesModel", "ofLines", "(Z)I"⟩, 20)]
theorem lw_r3 : ∀ q ∈ lw_privs_3, lw_okq q := List.forall_mem_cons.mpr ⟨lw_p32, List.forall_mem_cons.mpr ⟨lw_p33, List.forall_mem_cons.mpr ⟨lw_p34, fun _ h => absurd h List.not_mem_nil⟩⟩⟩
def lw_privs : List (MethodName × Nat) := lw_privs_1 ++ (lw_privs_2 ++ (lw_privs_3))
def lw_tbl : List Cond := k2_sels lw_privs ++ tables_1
theorem lw_privs_ok : ∀ q ∈ lw_privs, lw_okq q := by
  show ∀ q ∈ lw_privs_1 ++ (lw_privs_2 ++ (lw_privs_3)), lw_okq q
  exact List.forall_mem_append.mpr ⟨lw_r1, List.forall_mem_append.mpr ⟨lw_r2, lw_r3⟩⟩
/-! ===== BEGIN words of one list among another's, by their places ===== -/
theorem goodIn_r {big : List Cond} (ws : List Cond) (ps : List Nat) (hp : ws = ps.filterMap (fun i => big[i]?)) (h : ws.all goodWord = true) : GoodIn big ws := by
  intro w hw
  have h1 := List.all_eq_true.mp h w hw
  rw [hp] at hw
  obtain ⟨i, -, hi⟩ := List.mem_filterMap.mp hw
  have hm : w ∈ big := by first | exact List.mem_of_getElem? hi | exact List.getElem?_mem hi
  exact ⟨hm, good_of_word h1⟩
theorem goodIn_app {big a b : List Cond} (ha : GoodIn big a) (hb : GoodIn big b) : GoodIn big (a ++ b) := fun w h => (List.mem_append.mp h).elim (ha w) (hb w)
theorem goodIn_ca {big a b : List Cond} {c : Cond} (ha : GoodIn big (c :: a)) (hb : GoodIn big b) : GoodIn big (c :: (a ++ b)) := fun w h => (List.mem_cons.mp h).elim (fun e => ha w (List.mem_cons.mpr (Or.inl e))) (fun h => (List.mem_append.mp h).elim (fun h => ha w (List.mem_cons.mpr (Or.inr h))) (hb w))
theorem goodIn_sub {big ws : List Cond} (hm : ∀ w ∈ ws, w ∈ big) (h : ws.all goodWord = true) : GoodIn big ws := fun w hw => ⟨hm w hw, good_of_word (List.all_eq_true.mp h w hw)⟩
/-! ===== END ===== -/

/-! ===== BEGIN printed: names, fields, word lists, decode rows ===== -/
def RX0 : String := "StrikePasses$Course"
def TX0 : u_T := fun k => match k with
  | 0 => ("StrikePasses$Course", "amounts", "[I", true)
  | 1 => ("StrikePasses$Course", "left", "[I", true)
  | 2 => ("StrikePasses$Course", "right", "[I", true)
  | 3 => ("StrikePasses$Course", "turns", "[I", true)
  | 4 => ("StrikePasses$Course", "afterLeft", "[I", true)
  | 5 => ("StrikePasses$Course", "afterRight", "[I", true)
  | 6 => ("StrikePasses$Course", "seeks", "I", false)
  | 7 => ("StrikePasses$Course", "strokes", "I", false)
  | _ => ("StrikePasses$Course", "end", "I", false)
def tyX0 : Nat → FieldType := fun k => match k with
  | 0 => .array .int
  | 1 => .array .int
  | 2 => .array .int
  | 3 => .array .int
  | 4 => .array .int
  | 5 => .array .int
  | 6 => .int
  | 7 => .int
  | _ => .int
abbrev wsX00 : List Cond := u_ws RX0 TX0 9
theorem nmX0 : ∀ a, a < 9 → ∀ b, b < 9 → a ≠ b → (TX0 a).2.1 ≠ (TX0 b).2.1 := by decide +kernel
theorem tyX0_ok : ∀ k, k < 9 → parseFieldDescriptor (TX0 k).2.2.1 = some (tyX0 k) := by decide +kernel
abbrev cX0_init : ByteArray := prog_2_method_1_code
def yX0_init : MethodName := ⟨RX0, "<init>", "()V"⟩
abbrev cX0_slot : ByteArray := prog_2_method_2_code
def yX0_slot : MethodName := ⟨RX0, "slot", "(II)I"⟩
abbrev cX0_isUsed : ByteArray := prog_2_method_3_code
def yX0_isUsed : MethodName := ⟨RX0, "isUsed", "(I)Z"⟩
abbrev cX0_measure : ByteArray := prog_2_method_4_code
def yX0_measure : MethodName := ⟨RX0, "measure", "(ILStrikePasses$Sheet;LStrikePasses$Strip;LStrikePasses$Dealer;)V"⟩
abbrev cX0_widen : ByteArray := prog_2_method_5_code
def yX0_widen : MethodName := ⟨RX0, "widen", "(II)V"⟩
abbrev cX0_plan : ByteArray := prog_2_method_6_code
def yX0_plan : MethodName := ⟨RX0, "plan", "(LStrikePasses$Sheet;LStrikePasses$Strip;LStrikePasses$Dealer;)V"⟩
abbrev cX0_lookAhead : ByteArray := prog_2_method_7_code
def yX0_lookAhead : MethodName := ⟨RX0, "lookAhead", "()V"⟩
abbrev cX0_leastFrom : ByteArray := prog_2_method_8_code
def yX0_leastFrom : MethodName := ⟨RX0, "leastFrom", "(II)I"⟩
abbrev cX0_fromLeft : ByteArray := prog_2_method_9_code
def yX0_fromLeft : MethodName := ⟨RX0, "fromLeft", "(II)I"⟩
abbrev cX0_fromRight : ByteArray := prog_2_method_10_code
def yX0_fromRight : MethodName := ⟨RX0, "fromRight", "(II)I"⟩
abbrev cX0_walk : ByteArray := prog_2_method_11_code
def yX0_walk : MethodName := ⟨RX0, "walk", "()V"⟩
def RX1 : String := "StrikePasses$Dealer"
def TX1 : u_T := fun k => match k with
  | 0 => ("StrikePasses$Dealer", "passAt", "[I", true)
  | _ => ("StrikePasses$Dealer", "latest", "[I", true)
def tyX1 : Nat → FieldType := fun k => match k with
  | 0 => .array .int
  | _ => .array .int
abbrev wsX10 : List Cond := u_ws RX1 TX1 2
theorem nmX1 : ∀ a, a < 2 → ∀ b, b < 2 → a ≠ b → (TX1 a).2.1 ≠ (TX1 b).2.1 := by decide +kernel
theorem tyX1_ok : ∀ k, k < 2 → parseFieldDescriptor (TX1 k).2.2.1 = some (tyX1 k) := by decide +kernel
abbrev cX1_init : ByteArray := prog_3_method_1_code
def yX1_init : MethodName := ⟨RX1, "<init>", "()V"⟩
abbrev cX1_deal : ByteArray := prog_3_method_2_code
def yX1_deal : MethodName := ⟨RX1, "deal", "(LStrikePasses$Strip;II)I"⟩
def RX2 : String := "StrikePasses$Deeds"
def TX2 : u_T := fun k => match k with
  | 0 => ("StrikePasses$Deeds", "kinds", "[I", true)
  | 1 => ("StrikePasses$Deeds", "places", "[I", true)
  | 2 => ("StrikePasses$Deeds", "were", "[I", true)
  | _ => ("StrikePasses$Deeds", "known", "I", false)
def tyX2 : Nat → FieldType := fun k => match k with
  | 0 => .array .int
  | 1 => .array .int
  | 2 => .array .int
  | _ => .int
abbrev wsX20 : List Cond := u_ws RX2 TX2 4
theorem nmX2 : ∀ a, a < 4 → ∀ b, b < 4 → a ≠ b → (TX2 a).2.1 ≠ (TX2 b).2.1 := by decide +kernel
theorem tyX2_ok : ∀ k, k < 4 → parseFieldDescriptor (TX2 k).2.2.1 = some (tyX2 k) := by decide +kernel
abbrev cX2_init : ByteArray := prog_4_method_1_code
def yX2_init : MethodName := ⟨RX2, "<init>", "()V"⟩
abbrev cX2_note : ByteArray := prog_4_method_2_code
def yX2_note : MethodName := ⟨RX2, "note", "(III)V"⟩
abbrev cX2_loseOldest : ByteArray := prog_4_method_3_code
def yX2_loseOldest : MethodName := ⟨RX2, "loseOldest", "()V"⟩
abbrev cX2_takeBack : ByteArray := prog_4_method_4_code
def yX2_takeBack : MethodName := ⟨RX2, "takeBack", "(LStrikePasses$Sheet;)Z"⟩
def RX3 : String := "StrikePasses$Reader"
def TX3 : u_T := fun k => match k with
  | 0 => ("StrikePasses$Reader", "text", "[I", true)
  | 1 => ("StrikePasses$Reader", "length", "I", false)
  | 2 => ("StrikePasses$Reader", "at", "I", false)
  | 3 => ("StrikePasses$Reader", "start", "I", false)
  | 4 => ("StrikePasses$Reader", "kind", "I", false)
  | _ => ("StrikePasses$Reader", "value", "I", false)
def tyX3 : Nat → FieldType := fun k => match k with
  | 0 => .array .int
  | 1 => .int
  | 2 => .int
  | 3 => .int
  | 4 => .int
  | _ => .int
abbrev wsX30 : List Cond := u_ws RX3 TX3 6
theorem nmX3 : ∀ a, a < 6 → ∀ b, b < 6 → a ≠ b → (TX3 a).2.1 ≠ (TX3 b).2.1 := by decide +kernel
theorem tyX3_ok : ∀ k, k < 6 → parseFieldDescriptor (TX3 k).2.2.1 = some (tyX3 k) := by decide +kernel
abbrev cX3_init : ByteArray := prog_5_method_1_code
def yX3_init : MethodName := ⟨RX3, "<init>", "()V"⟩
abbrev cX3_accept : ByteArray := prog_5_method_2_code
def yX3_accept : MethodName := ⟨RX3, "accept", "(I)Z"⟩
abbrev cX3_read : ByteArray := prog_5_method_3_code
def yX3_read : MethodName := ⟨RX3, "read", "(LStrikePasses$Sheet;)I"⟩
abbrev cX3_readItem : ByteArray := prog_5_method_4_code
def yX3_readItem : MethodName := ⟨RX3, "readItem", "(LStrikePasses$Sheet;)Z"⟩
abbrev cX3_readSetting : ByteArray := prog_5_method_5_code
def yX3_readSetting : MethodName := ⟨RX3, "readSetting", "(LStrikePasses$Sheet;I)Z"⟩
abbrev cX3_readShape : ByteArray := prog_5_method_6_code
def yX3_readShape : MethodName := ⟨RX3, "readShape", "(LStrikePasses$Sheet;)Z"⟩
abbrev cX3_readLine : ByteArray := prog_5_method_7_code
def yX3_readLine : MethodName := ⟨RX3, "readLine", "(LStrikePasses$Sheet;)Z"⟩
abbrev cX3_letterOf : ByteArray := prog_5_method_8_code
def yX3_letterOf : MethodName := ⟨RX3, "letterOf", "(I)I"⟩
abbrev cX3_advance : ByteArray := prog_5_method_9_code
def yX3_advance : MethodName := ⟨RX3, "advance", "()V"⟩
abbrev cX3_advanceOverNumber : ByteArray := prog_5_method_10_code
def yX3_advanceOverNumber : MethodName := ⟨RX3, "advanceOverNumber", "()V"⟩
abbrev cX3_isDigit : ByteArray := prog_5_method_11_code
def yX3_isDigit : MethodName := ⟨RX3, "isDigit", "(I)Z"⟩
def RX4 : String := "StrikePasses$Sheet"
def TX4 : u_T := fun k => match k with
  | 0 => ("StrikePasses$Sheet", "settings", "[I", true)
  | 1 => ("StrikePasses$Sheet", "shapes", "[I", true)
  | 2 => ("StrikePasses$Sheet", "lengths", "[I", true)
  | 3 => ("StrikePasses$Sheet", "signs", "[I", true)
  | _ => ("StrikePasses$Sheet", "lines", "I", false)
def tyX4 : Nat → FieldType := fun k => match k with
  | 0 => .array .int
  | 1 => .array .int
  | 2 => .array .int
  | 3 => .array .int
  | _ => .int
abbrev wsX40 : List Cond := u_ws RX4 TX4 5
theorem nmX4 : ∀ a, a < 5 → ∀ b, b < 5 → a ≠ b → (TX4 a).2.1 ≠ (TX4 b).2.1 := by decide +kernel
theorem tyX4_ok : ∀ k, k < 5 → parseFieldDescriptor (TX4 k).2.2.1 = some (tyX4 k) := by decide +kernel
abbrev cX4_init : ByteArray := prog_6_method_1_code
def yX4_init : MethodName := ⟨RX4, "<init>", "()V"⟩
abbrev cX4_reset : ByteArray := prog_6_method_2_code
def yX4_reset : MethodName := ⟨RX4, "reset", "()V"⟩
abbrev cX4_become : ByteArray := prog_6_method_3_code
def yX4_become : MethodName := ⟨RX4, "become", "(LStrikePasses$Sheet;)V"⟩
abbrev cX4_hasLine : ByteArray := prog_6_method_4_code
def yX4_hasLine : MethodName := ⟨RX4, "hasLine", "(I)Z"⟩
abbrev cX4_begin : ByteArray := prog_6_method_5_code
def yX4_begin : MethodName := ⟨RX4, "begin", "()Z"⟩
abbrev cX4_dropLast : ByteArray := prog_6_method_6_code
def yX4_dropLast : MethodName := ⟨RX4, "dropLast", "()V"⟩
abbrev cX4_append : ByteArray := prog_6_method_7_code
def yX4_append : MethodName := ⟨RX4, "append", "(II)Z"⟩
abbrev cX4_chop : ByteArray := prog_6_method_8_code
def yX4_chop : MethodName := ⟨RX4, "chop", "(I)I"⟩
abbrev cX4_inkAt : ByteArray := prog_6_method_9_code
def yX4_inkAt : MethodName := ⟨RX4, "inkAt", "(II)I"⟩
abbrev cX4_headAt : ByteArray := prog_6_method_10_code
def yX4_headAt : MethodName := ⟨RX4, "headAt", "(II)I"⟩
def RX5 : String := "StrikePasses$Sights"
def TX5 : u_T := fun k => match k with
  | 0 => ("StrikePasses$Sights", "lines", "[I", true)
  | 1 => ("StrikePasses$Sights", "numbers", "[I", true)
  | _ => ("StrikePasses$Sights", "known", "I", false)
def tyX5 : Nat → FieldType := fun k => match k with
  | 0 => .array .int
  | 1 => .array .int
  | _ => .int
abbrev wsX50 : List Cond := u_ws RX5 TX5 3
theorem nmX5 : ∀ a, a < 3 → ∀ b, b < 3 → a ≠ b → (TX5 a).2.1 ≠ (TX5 b).2.1 := by decide +kernel
theorem tyX5_ok : ∀ k, k < 3 → parseFieldDescriptor (TX5 k).2.2.1 = some (tyX5 k) := by decide +kernel
abbrev cX5_init : ByteArray := prog_7_method_1_code
def yX5_init : MethodName := ⟨RX5, "<init>", "()V"⟩
abbrev cX5_note : ByteArray := prog_7_method_2_code
def yX5_note : MethodName := ⟨RX5, "note", "(II)Z"⟩
def RX6 : String := "StrikePasses$Strip"
def TX6 : u_T := fun k => match k with
  | _ => ("StrikePasses$Strip", "ink", "[I", true)
def tyX6 : Nat → FieldType := fun k => match k with
  | _ => .array .int
abbrev wsX60 : List Cond := u_ws RX6 TX6 1
theorem nmX6 : ∀ a, a < 1 → ∀ b, b < 1 → a ≠ b → (TX6 a).2.1 ≠ (TX6 b).2.1 := by decide +kernel
theorem tyX6_ok : ∀ k, k < 1 → parseFieldDescriptor (TX6 k).2.2.1 = some (tyX6 k) := by decide +kernel
abbrev cX6_init : ByteArray := prog_8_method_1_code
def yX6_init : MethodName := ⟨RX6, "<init>", "()V"⟩
abbrev cX6_lay : ByteArray := prog_8_method_2_code
def yX6_lay : MethodName := ⟨RX6, "lay", "(LStrikePasses$Sheet;I)V"⟩
abbrev cX6_hasDot : ByteArray := prog_8_method_3_code
def yX6_hasDot : MethodName := ⟨RX6, "hasDot", "(II)Z"⟩
abbrev cX6_total : ByteArray := prog_8_method_4_code
def yX6_total : MethodName := ⟨RX6, "total", "()I"⟩
abbrev cX6_amount : ByteArray := prog_8_method_5_code
def yX6_amount : MethodName := ⟨RX6, "amount", "(I)I"⟩
abbrev cX6_amountFrom : ByteArray := prog_8_method_6_code
def yX6_amountFrom : MethodName := ⟨RX6, "amountFrom", "(III)I"⟩
abbrev cX6_leastGap : ByteArray := prog_8_method_7_code
def yX6_leastGap : MethodName := ⟨RX6, "leastGap", "(I)I"⟩
def RX7 : String := "StrikePasses"
def TX7 : u_T := fun k => match k with
  | 0 => ("StrikePasses", "reader", "LStrikePasses$Reader;", true)
  | 1 => ("StrikePasses", "sheet", "LStrikePasses$Sheet;", true)
  | 2 => ("StrikePasses", "draft", "LStrikePasses$Sheet;", true)
  | 3 => ("StrikePasses", "deeds", "LStrikePasses$Deeds;", true)
  | 4 => ("StrikePasses", "sights", "LStrikePasses$Sights;", true)
  | 5 => ("StrikePasses", "images", "[LStrikePasses$Sheet;", true)
  | 6 => ("StrikePasses", "kept", "[Z", true)
  | 7 => ("StrikePasses", "strip", "LStrikePasses$Strip;", true)
  | 8 => ("StrikePasses", "dealer", "LStrikePasses$Dealer;", true)
  | _ => ("StrikePasses", "course", "LStrikePasses$Course;", true)
def tyX7 : Nat → FieldType := fun k => match k with
  | 0 => .object "StrikePasses$Reader"
  | 1 => .object "StrikePasses$Sheet"
  | 2 => .object "StrikePasses$Sheet"
  | 3 => .object "StrikePasses$Deeds"
  | 4 => .object "StrikePasses$Sights"
  | 5 => .array (.object "StrikePasses$Sheet")
  | 6 => .array .boolean
  | 7 => .object "StrikePasses$Strip"
  | 8 => .object "StrikePasses$Dealer"
  | _ => .object "StrikePasses$Course"
abbrev wsX70 : List Cond := u_ws RX7 TX7 10
theorem nmX7 : ∀ a, a < 10 → ∀ b, b < 10 → a ≠ b → (TX7 a).2.1 ≠ (TX7 b).2.1 := by decide +kernel
theorem tyX7_ok : ∀ k, k < 10 → parseFieldDescriptor (TX7 k).2.2.1 = some (tyX7 k) := by decide +kernel
abbrev cX7_init : ByteArray := prog_1_method_1_code
def yX7_init : MethodName := ⟨RX7, "<init>", "()V"⟩
abbrev cX7_type : ByteArray := prog_1_method_2_code
def yX7_type : MethodName := ⟨RX7, "type", "(I)I"⟩
abbrev cX7_clear : ByteArray := prog_1_method_3_code
def yX7_clear : MethodName := ⟨RX7, "clear", "()I"⟩
abbrev cX7_page : ByteArray := prog_1_method_4_code
def yX7_page : MethodName := ⟨RX7, "page", "()I"⟩
abbrev cX7_letter : ByteArray := prog_1_method_5_code
def yX7_letter : MethodName := ⟨RX7, "letter", "(II)I"⟩
abbrev cX7_line : ByteArray := prog_1_method_6_code
def yX7_line : MethodName := ⟨RX7, "line", "(II)I"⟩
abbrev cX7_dots : ByteArray := prog_1_method_7_code
def yX7_dots : MethodName := ⟨RX7, "dots", "(II)I"⟩
abbrev cX7_draws : ByteArray := prog_1_method_8_code
def yX7_draws : MethodName := ⟨RX7, "draws", "(III)I"⟩
abbrev cX7_types : ByteArray := prog_1_method_9_code
def yX7_types : MethodName := ⟨RX7, "types", "(II)I"⟩
abbrev cX7_strikes : ByteArray := prog_1_method_10_code
def yX7_strikes : MethodName := ⟨RX7, "strikes", "(I)I"⟩
abbrev cX7_sets : ByteArray := prog_1_method_11_code
def yX7_sets : MethodName := ⟨RX7, "sets", "(II)I"⟩
abbrev cX7_undo : ByteArray := prog_1_method_12_code
def yX7_undo : MethodName := ⟨RX7, "undo", "()I"⟩
abbrev cX7_passes : ByteArray := prog_1_method_13_code
def yX7_passes : MethodName := ⟨RX7, "passes", "(I)I"⟩
abbrev cX7_pass : ByteArray := prog_1_method_14_code
def yX7_pass : MethodName := ⟨RX7, "pass", "(III)I"⟩
abbrev cX7_span : ByteArray := prog_1_method_15_code
def yX7_span : MethodName := ⟨RX7, "span", "(III)I"⟩
abbrev cX7_goes : ByteArray := prog_1_method_16_code
def yX7_goes : MethodName := ⟨RX7, "goes", "(II)I"⟩
abbrev cX7_stands : ByteArray := prog_1_method_17_code
def yX7_stands : MethodName := ⟨RX7, "stands", "(III)I"⟩
abbrev cX7_way : ByteArray := prog_1_method_18_code
def yX7_way : MethodName := ⟨RX7, "way", "(I)I"⟩
abbrev cX7_wear : ByteArray := prog_1_method_19_code
def yX7_wear : MethodName := ⟨RX7, "wear", "(I)I"⟩
abbrev cX7_crowd : ByteArray := prog_1_method_20_code
def yX7_crowd : MethodName := ⟨RX7, "crowd", "(II)I"⟩
abbrev cX7_easy : ByteArray := prog_1_method_21_code
def yX7_easy : MethodName := ⟨RX7, "easy", "(I)I"⟩
abbrev cX7_place : ByteArray := prog_1_method_22_code
def yX7_place : MethodName := ⟨RX7, "place", "(II)I"⟩
abbrev cX7_sees : ByteArray := prog_1_method_23_code
def yX7_sees : MethodName := ⟨RX7, "sees", "(II)I"⟩
abbrev cX7_forget : ByteArray := prog_1_method_24_code
def yX7_forget : MethodName := ⟨RX7, "forget", "()I"⟩
abbrev cX7_unseen : ByteArray := prog_1_method_25_code
def yX7_unseen : MethodName := ⟨RX7, "unseen", "()I"⟩
abbrev cX7_ask : ByteArray := prog_1_method_26_code
def yX7_ask : MethodName := ⟨RX7, "ask", "()I"⟩
abbrev cX7_keep : ByteArray := prog_1_method_27_code
def yX7_keep : MethodName := ⟨RX7, "keep", "(I)I"⟩
abbrev cX7_back : ByteArray := prog_1_method_28_code
def yX7_back : MethodName := ⟨RX7, "back", "(I)I"⟩
abbrev cX7_count : ByteArray := prog_1_method_29_code
def yX7_count : MethodName := ⟨RX7, "count", "(I)I"⟩
abbrev cX7_isNeedle : ByteArray := prog_1_method_30_code
def yX7_isNeedle : MethodName := ⟨RX7, "isNeedle", "(I)Z"⟩
abbrev cX7_isColumn : ByteArray := prog_1_method_31_code
def yX7_isColumn : MethodName := ⟨RX7, "isColumn", "(I)Z"⟩
abbrev cX7_isColumnOfLetter : ByteArray := prog_1_method_32_code
def yX7_isColumnOfLetter : MethodName := ⟨RX7, "isColumnOfLetter", "(II)Z"⟩
abbrev cX7_mayBeSet : ByteArray := prog_1_method_33_code
def yX7_mayBeSet : MethodName := ⟨RX7, "mayBeSet", "(II)Z"⟩
abbrev cX7_isPlace : ByteArray := prog_1_method_34_code
def yX7_isPlace : MethodName := ⟨RX7, "isPlace", "(III)Z"⟩
abbrev cX7_passesOf : ByteArray := prog_1_method_35_code
def yX7_passesOf : MethodName := ⟨RX7, "passesOf", "(I)I"⟩
abbrev cX7_allPasses : ByteArray := prog_1_method_36_code
def yX7_allPasses : MethodName := ⟨RX7, "allPasses", "()I"⟩
abbrev cX7_allDots : ByteArray := prog_1_method_37_code
def yX7_allDots : MethodName := ⟨RX7, "allDots", "()I"⟩
abbrev cX7_suspects : ByteArray := prog_1_method_38_code
def yX7_suspects : MethodName := ⟨RX7, "suspects", "()I"⟩
abbrev cX7_explaining : ByteArray := prog_1_method_39_code
def yX7_explaining : MethodName := ⟨RX7, "explaining", "(II)I"⟩
abbrev cX7_unlikeNumbers : ByteArray := prog_1_method_40_code
def yX7_unlikeNumbers : MethodName := ⟨RX7, "unlikeNumbers", "(II)I"⟩
def RX8 : String := "StrikePassesModel"
def TX8 : u_T := fun k => match k with
  | 0 => ("StrikePassesModel", "now", "[I", true)
  | 1 => ("StrikePassesModel", "undoMany", "I", false)
  | 2 => ("StrikePassesModel", "undoAt", "I", false)
  | 3 => ("StrikePassesModel", "undos", "[I", true)
  | 4 => ("StrikePassesModel", "isKept", "[Z", true)
  | 5 => ("StrikePassesModel", "kept", "[I", true)
  | 6 => ("StrikePassesModel", "letterMany", "I", false)
  | 7 => ("StrikePassesModel", "text", "[I", true)
  | 8 => ("StrikePassesModel", "readAt", "I", false)
  | 9 => ("StrikePassesModel", "tokenAt", "I", false)
  | 10 => ("StrikePassesModel", "token", "I", false)
  | 11 => ("StrikePassesModel", "read", "[I", true)
  | 12 => ("StrikePassesModel", "passMany", "I", false)
  | 13 => ("StrikePassesModel", "lows", "[I", true)
  | 14 => ("StrikePassesModel", "highs", "[I", true)
  | 15 => ("StrikePassesModel", "seeks", "I", false)
  | 16 => ("StrikePassesModel", "choices", "J", false)
  | 17 => ("StrikePassesModel", "seenMany", "I", false)
  | 18 => ("StrikePassesModel", "seenLine", "[I", true)
  | _ => ("StrikePassesModel", "seen", "[I", true)
def tyX8 : Nat → FieldType := fun k => match k with
  | 0 => .array .int
  | 1 => .int
  | 2 => .int
  | 3 => .array .int
  | 4 => .array .boolean
  | 5 => .array .int
  | 6 => .int
  | 7 => .array .int
  | 8 => .int
  | 9 => .int
  | 10 => .int
  | 11 => .array .int
  | 12 => .int
  | 13 => .array .int
  | 14 => .array .int
  | 15 => .int
  | 16 => .long
  | 17 => .int
  | 18 => .array .int
  | _ => .array .int
abbrev wsX80 : List Cond := u_ws RX8 TX8 20
theorem nmX8 : ∀ a, a < 20 → ∀ b, b < 20 → a ≠ b → (TX8 a).2.1 ≠ (TX8 b).2.1 := by decide +kernel
theorem tyX8_ok : ∀ k, k < 20 → parseFieldDescriptor (TX8 k).2.2.1 = some (tyX8 k) := by decide +kernel
abbrev cX8_init : ByteArray := prog_10_method_1_code
def yX8_init : MethodName := ⟨RX8, "<init>", "()V"⟩
abbrev cX8_in : ByteArray := prog_10_method_2_code
def yX8_in : MethodName := ⟨RX8, "in", "(III)Z"⟩
abbrev cX8_has : ByteArray := prog_10_method_3_code
def yX8_has : MethodName := ⟨RX8, "has", "(II)Z"⟩
abbrev cX8_begins : ByteArray := prog_10_method_4_code
def yX8_begins : MethodName := ⟨RX8, "begins", "([I)V"⟩
abbrev cX8_least : ByteArray := prog_10_method_5_code
def yX8_least : MethodName := ⟨RX8, "least", "(I)I"⟩
abbrev cX8_most : ByteArray := prog_10_method_6_code
def yX8_most : MethodName := ⟨RX8, "most", "(I)I"⟩
abbrev cX8_isLine : ByteArray := prog_10_method_7_code
def yX8_isLine : MethodName := ⟨RX8, "isLine", "(I)Z"⟩
abbrev cX8_type : ByteArray := prog_10_method_8_code
def yX8_type : MethodName := ⟨RX8, "type", "(I)I"⟩
abbrev cX8_clear : ByteArray := prog_10_method_9_code
def yX8_clear : MethodName := ⟨RX8, "clear", "()I"⟩
abbrev cX8_isFigure : ByteArray := prog_10_method_10_code
def yX8_isFigure : MethodName := ⟨RX8, "isFigure", "(I)Z"⟩
abbrev cX8_blanks : ByteArray := prog_10_method_11_code
def yX8_blanks : MethodName := ⟨RX8, "blanks", "()V"⟩
abbrev cX8_next : ByteArray := prog_10_method_12_code
def yX8_next : MethodName := ⟨RX8, "next", "()V"⟩
abbrev cX8_number : ByteArray := prog_10_method_13_code
def yX8_number : MethodName := ⟨RX8, "number", "(III)Z"⟩
abbrev cX8_stops : ByteArray := prog_10_method_14_code
def yX8_stops : MethodName := ⟨RX8, "stops", "()Z"⟩
abbrev cX8_readsLetter : ByteArray := prog_10_method_15_code
def yX8_readsLetter : MethodName := ⟨RX8, "readsLetter", "()Z"⟩
abbrev cX8_readsLine : ByteArray := prog_10_method_16_code
def yX8_readsLine : MethodName := ⟨RX8, "readsLine", "()Z"⟩
abbrev cX8_readsItem : ByteArray := prog_10_method_17_code
def yX8_readsItem : MethodName := ⟨RX8, "readsItem", "()Z"⟩
abbrev cX8_page : ByteArray := prog_10_method_18_code
def yX8_page : MethodName := ⟨RX8, "page", "()I"⟩
abbrev cX8_letter : ByteArray := prog_10_method_19_code
def yX8_letter : MethodName := ⟨RX8, "letter", "(II)I"⟩
abbrev cX8_line : ByteArray := prog_10_method_20_code
def yX8_line : MethodName := ⟨RX8, "line", "(II)I"⟩
abbrev cX8_dotsAt : ByteArray := prog_10_method_21_code
def yX8_dotsAt : MethodName := ⟨RX8, "dotsAt", "(II)I"⟩
abbrev cX8_dots : ByteArray := prog_10_method_22_code
def yX8_dots : MethodName := ⟨RX8, "dots", "(II)I"⟩
abbrev cX8_remembers : ByteArray := prog_10_method_23_code
def yX8_remembers : MethodName := ⟨RX8, "remembers", "()V"⟩
abbrev cX8_lays : ByteArray := prog_10_method_24_code
def yX8_lays : MethodName := ⟨RX8, "lays", "(II)I"⟩
abbrev cX8_draws : ByteArray := prog_10_method_25_code
def yX8_draws : MethodName := ⟨RX8, "draws", "(III)I"⟩
abbrev cX8_types : ByteArray := prog_10_method_26_code
def yX8_types : MethodName := ⟨RX8, "types", "(II)I"⟩
abbrev cX8_strikes : ByteArray := prog_10_method_27_code
def yX8_strikes : MethodName := ⟨RX8, "strikes", "(I)I"⟩
abbrev cX8_sets : ByteArray := prog_10_method_28_code
def yX8_sets : MethodName := ⟨RX8, "sets", "(II)I"⟩
abbrev cX8_undo : ByteArray := prog_10_method_29_code
def yX8_undo : MethodName := ⟨RX8, "undo", "()I"⟩
abbrev cX8_columnsOf : ByteArray := prog_10_method_30_code
def yX8_columnsOf : MethodName := ⟨RX8, "columnsOf", "(II)I"⟩
abbrev cX8_columnsIn : ByteArray := prog_10_method_31_code
def yX8_columnsIn : MethodName := ⟨RX8, "columnsIn", "(III)I"⟩
abbrev cX8_passesOf : ByteArray := prog_10_method_32_code
def yX8_passesOf : MethodName := ⟨RX8, "passesOf", "(I)I"⟩
abbrev cX8_passes : ByteArray := prog_10_method_33_code
def yX8_passes : MethodName := ⟨RX8, "passes", "(I)I"⟩
abbrev cX8_isDot : ByteArray := prog_10_method_34_code
def yX8_isDot : MethodName := ⟨RX8, "isDot", "(II)Z"⟩
abbrev cX8_pass : ByteArray := prog_10_method_35_code
def yX8_pass : MethodName := ⟨RX8, "pass", "(III)I"⟩
abbrev cX8_headAt : ByteArray := prog_10_method_36_code
def yX8_headAt : MethodName := ⟨RX8, "headAt", "(II)I"⟩
abbrev cX8_lowOf : ByteArray := prog_10_method_37_code
def yX8_lowOf : MethodName := ⟨RX8, "lowOf", "(II)I"⟩
abbrev cX8_highOf : ByteArray := prog_10_method_38_code
def yX8_highOf : MethodName := ⟨RX8, "highOf", "(II)I"⟩
abbrev cX8_span : ByteArray := prog_10_method_39_code
def yX8_span : MethodName := ⟨RX8, "span", "(III)I"⟩
abbrev cX8_stands : ByteArray := prog_10_method_40_code
def yX8_stands : MethodName := ⟨RX8, "stands", "(III)I"⟩
abbrev cX8_layPasses : ByteArray := prog_10_method_41_code
def yX8_layPasses : MethodName := ⟨RX8, "layPasses", "()V"⟩
abbrev cX8_far : ByteArray := prog_10_method_42_code
def yX8_far : MethodName := ⟨RX8, "far", "(II)I"⟩
abbrev cX8_layWay : ByteArray := prog_10_method_43_code
def yX8_layWay : MethodName := ⟨RX8, "layWay", "()V"⟩
abbrev cX8_isBack : ByteArray := prog_10_method_44_code
def yX8_isBack : MethodName := ⟨RX8, "isBack", "(I)Z"⟩
abbrev cX8_goes : ByteArray := prog_10_method_45_code
def yX8_goes : MethodName := ⟨RX8, "goes", "(II)I"⟩
abbrev cX8_way : ByteArray := prog_10_method_46_code
def yX8_way : MethodName := ⟨RX8, "way", "(I)I"⟩
abbrev cX8_dotMany : ByteArray := prog_10_method_47_code
def yX8_dotMany : MethodName := ⟨RX8, "dotMany", "(II)I"⟩
abbrev cX8_wear : ByteArray := prog_10_method_48_code
def yX8_wear : MethodName := ⟨RX8, "wear", "(I)I"⟩
abbrev cX8_within : ByteArray := prog_10_method_49_code
def yX8_within : MethodName := ⟨RX8, "within", "(III)I"⟩
abbrev cX8_crowd : ByteArray := prog_10_method_50_code
def yX8_crowd : MethodName := ⟨RX8, "crowd", "(II)I"⟩
abbrev cX8_isEasy : ByteArray := prog_10_method_51_code
def yX8_isEasy : MethodName := ⟨RX8, "isEasy", "(II)Z"⟩
abbrev cX8_easy : ByteArray := prog_10_method_52_code
def yX8_easy : MethodName := ⟨RX8, "easy", "(I)I"⟩
abbrev cX8_place : ByteArray := prog_10_method_53_code
def yX8_place : MethodName := ⟨RX8, "place", "(II)I"⟩
abbrev cX8_sees : ByteArray := prog_10_method_54_code
def yX8_sees : MethodName := ⟨RX8, "sees", "(II)I"⟩
abbrev cX8_forget : ByteArray := prog_10_method_55_code
def yX8_forget : MethodName := ⟨RX8, "forget", "()I"⟩
abbrev cX8_without : ByteArray := prog_10_method_56_code
def yX8_without : MethodName := ⟨RX8, "without", "(II)I"⟩
abbrev cX8_unseenSet : ByteArray := prog_10_method_57_code
def yX8_unseenSet : MethodName := ⟨RX8, "unseenSet", "()I"⟩
abbrev cX8_unseen : ByteArray := prog_10_method_58_code
def yX8_unseen : MethodName := ⟨RX8, "unseen", "()I"⟩
abbrev cX8_unlike : ByteArray := prog_10_method_59_code
def yX8_unlike : MethodName := ⟨RX8, "unlike", "(II)I"⟩
abbrev cX8_ask : ByteArray := prog_10_method_60_code
def yX8_ask : MethodName := ⟨RX8, "ask", "()I"⟩
abbrev cX8_keep : ByteArray := prog_10_method_61_code
def yX8_keep : MethodName := ⟨RX8, "keep", "(I)I"⟩
abbrev cX8_back : ByteArray := prog_10_method_62_code
def yX8_back : MethodName := ⟨RX8, "back", "(I)I"⟩
abbrev cX8_ofLines : ByteArray := prog_10_method_63_code
def yX8_ofLines : MethodName := ⟨RX8, "ofLines", "(Z)I"⟩
abbrev cX8_count : ByteArray := prog_10_method_64_code
def yX8_count : MethodName := ⟨RX8, "count", "(I)I"⟩
def RJ6 : String := "java/lang/Integer"
def TJ6 : u_T := fun k => match k with
  | _ => ("", "", "", false)
def tyJ6 : Nat → FieldType := fun k => match k with
  | _ => .int
abbrev wsJ60 : List Cond := u_ws RJ6 TJ6 0
theorem nmJ6 : ∀ a, a < 0 → ∀ b, b < 0 → a ≠ b → (TJ6 a).2.1 ≠ (TJ6 b).2.1 := by decide +kernel
theorem tyJ6_ok : ∀ k, k < 0 → parseFieldDescriptor (TJ6 k).2.2.1 = some (tyJ6 k) := by decide +kernel
abbrev cJ6_bitCount_0f7a4 : ByteArray := prog_11_method_49_code
def yJ6_bitCount_0f7a4 : MethodName := ⟨RJ6, "bitCount", "(I)I"⟩
def RJ9 : String := "java/lang/Math"
def TJ9 : u_T := fun k => match k with
  | _ => ("", "", "", false)
def tyJ9 : Nat → FieldType := fun k => match k with
  | _ => .int
abbrev wsJ90 : List Cond := u_ws RJ9 TJ9 0
theorem nmJ9 : ∀ a, a < 0 → ∀ b, b < 0 → a ≠ b → (TJ9 a).2.1 ≠ (TJ9 b).2.1 := by decide +kernel
theorem tyJ9_ok : ∀ k, k < 0 → parseFieldDescriptor (TJ9 k).2.2.1 = some (tyJ9 k) := by decide +kernel
abbrev cJ9_abs_0f7a4 : ByteArray := prog_12_method_59_code
def yJ9_abs_0f7a4 : MethodName := ⟨RJ9, "abs", "(I)I"⟩
abbrev cJ9_max_7cf53 : ByteArray := prog_12_method_65_code
def yJ9_max_7cf53 : MethodName := ⟨RJ9, "max", "(II)I"⟩
abbrev cJ9_min_7cf53 : ByteArray := prog_12_method_69_code
def yJ9_min_7cf53 : MethodName := ⟨RJ9, "min", "(II)I"⟩
def RJ10 : String := "java/lang/System"
def TJ10 : u_T := fun k => match k with
  | _ => ("", "", "", false)
def tyJ10 : Nat → FieldType := fun k => match k with
  | _ => .int
abbrev wsJ100 : List Cond := u_ws RJ10 TJ10 0
theorem nmJ10 : ∀ a, a < 0 → ∀ b, b < 0 → a ≠ b → (TJ10 a).2.1 ≠ (TJ10 b).2.1 := by decide +kernel
theorem tyJ10_ok : ∀ k, k < 0 → parseFieldDescriptor (TJ10 k).2.2.1 = some (tyJ10 k) := by decide +kernel
def RJ7 : String := "java/util/Arrays"
def TJ7 : u_T := fun k => match k with
  | _ => ("", "", "", false)
def tyJ7 : Nat → FieldType := fun k => match k with
  | _ => .int
abbrev wsJ70 : List Cond := u_ws RJ7 TJ7 0
theorem nmJ7 : ∀ a, a < 0 → ∀ b, b < 0 → a ≠ b → (TJ7 a).2.1 ≠ (TJ7 b).2.1 := by decide +kernel
theorem tyJ7_ok : ∀ k, k < 0 → parseFieldDescriptor (TJ7 k).2.2.1 = some (tyJ7 k) := by decide +kernel
abbrev cJ7_fill_53178 : ByteArray := prog_14_method_103_code
def yJ7_fill_53178 : MethodName := ⟨RJ7, "fill", "([II)V"⟩
def RL : String := "StrikePassesLaw"
abbrev cL_law : ByteArray := code
def yL_law : MethodName := ⟨RL, "law", "([I)Z"⟩
abbrev vwCl : List vw_C := [(RX0, TX0, 9), (RX1, TX1, 2), (RX2, TX2, 4), (RX3, TX3, 6), (RX4, TX4, 5), (RX5, TX5, 3), (RX6, TX6, 1), (RX7, TX7, 10), (RX8, TX8, 20)]
end
section
/-! A LOGIC OVER THE WALK. gv_G: from this pc with these locals, stack and cells the method goes on to its end. References are places in the list of cells (below 1000) or one of four arrays that nobody writes (1000 ..). -/
abbrev gv_MR : Type := MethodName × ByteArray × Nat × Option FieldType × Nat × Nat
abbrev gv_E : Type := Launch × va_G × (Nat → ClassId) × Nat × (Nat → Nat) × Nat × (Nat → Int32)
def gv_as (ε : gv_E) (k : Nat) : Nat := if k < 1000 then ε.2.2.2.1 + k else ε.2.2.2.2.1 (k - 1000)
def gv_v (ε : gv_E) : Value → Value
  | .ref k => .ref (gv_as ε k)
  | v => v
def gv_e (ε : gv_E) : va_E → va_E
  | .inl (k, n, .inr (.inr (.inr (.inr f)))) => .inl (ε.2.2.1 k, n, .inr (.inr (.inr (.inr (fun j => (f j).map (gv_as ε))))))
  | .inl (k, x) => .inl (ε.2.2.1 k, x)
  | .inr (c, fs) => .inr (c, fs.map (gv_v ε))
def gv_w (ε : gv_E) (sw : List va_E) : va_W := sw.mapIdx (fun k e => (gv_as ε k, gv_e ε e))
def gv_A (ε : gv_E) : Nat → Prop := fun q => ε.2.2.2.1 ≤ q
def gv_tys (ε : gv_E) : List (ClassId × FieldType) := [(ε.2.2.1 0, .int), (ε.2.2.1 1, .boolean), (ε.2.2.1 2, .object RX4)]
def gv_t3 (a b c : Int32) : Nat → Int32 := fun j => match j with
  | 0 => a
  | 1 => b
  | _ => c
/-- the four arrays that nobody writes -/
def gv_x (ε : gv_E) : Nat → Nat × (Nat → Int32) := fun j => match j with
  | 0 => (3, gv_t3 2 1 12)
  | 1 => (3, gv_t3 0 0 1)
  | 2 => (3, gv_t3 4 9 72)
  | _ => (ε.2.2.2.2.2.1, ε.2.2.2.2.2.2)
def gv_W : List Cond := lw_tbl.filter goodWord
def gv_nm (j : Nat) : String := match j with
  | 0 => "AT_FIRST"
  | 1 => "LEAST"
  | _ => "GREATEST"
/-- what holds of the surroundings at a method's entry -/
def gv_X (ε : gv_E) (s : State) : Prop :=
  va_K ε.2.1 vwCl (gv_tys ε) s ∧ (∀ a i x h, Cond.methodLinkNest a i x h ∈ lw_tbl → va_Nw (.methodLinkNest a i x h) s) ∧ (∀ a i b n d h, Cond.fieldLinkNest a i b n d h ∈ lw_tbl → va_Nw (.fieldLinkNest a i b n d h) s) ∧ va_AO RX4 s ∧
  (∀ j, j < 3 → va_Z RX7 (gv_nm j) "[I" (.ref (ε.2.2.2.2.1 j)) (gv_A ε) s s.heap) ∧ ∀ j, j < 4 → va_T .int (ε.2.2.2.2.1 j) (gv_x ε j).1 (fun i => .int ((gv_x ε j).2 i)) (gv_A ε) s s.heap
theorem gv_X.moved {ε : gv_E} {s U : State} (hW : s.WarmedH U.vm) (hk : ∀ a : Nat, a < s.heap.size → ¬ gv_A ε a → U.heap[a]? = s.heap[a]?) (h : gv_X ε s) : gv_X ε U := by
  obtain ⟨h1, h2, h3, h4, h5, h6⟩ := h
  refine ⟨va_K.moved hW.alike h1, fun a i x h q => va_Nw.warmM hW (h2 a i x h q), fun a i b n d h q => va_Nw.warmF hW (h3 a i b n d h q), va_AO.moved hW.alike h4, fun j hj => ?_, fun j hj => ?_⟩
  · exact va_Z.kept (va_Z.moved hW.alike (h5 j hj)) hk
  · exact va_T.kept (va_T.moved hW.alike (h6 j hj)) hk
theorem gv_X.blind {ε : gv_E} {U : State} {g : JFrame} {mk : MethodId} {a : Array Value} (h : gv_X ε U) : gv_X ε (U.calling g mk a) := by
  obtain ⟨h1, h2, h3, h4, h5, h6⟩ := h
  have e : U.vm.Alike (U.calling g mk a).vm := Vm.Alike.refl U.vm
  refine ⟨va_K.moved e h1, fun a i x h q => va_Nw.same rfl rfl (h2 a i x h q), fun a i b n d h q => va_Nw.same rfl rfl (h3 a i b n d h q), va_AO.moved e h4, fun j hj => ?_, fun j hj => ?_⟩
  · exact va_Z.kept (va_Z.moved e (h5 j hj)) (fun _ _ _ => rfl)
  · exact va_T.kept (va_T.moved e (h6 j hj)) (fun _ _ _ => rfl)
/-! the locals: a list by slots -/
def gv_h (ε : gv_E) (L : List (Option Value)) (i : Nat) : Option (Nat × Value) := match L[i]? with
  | some (some v) => if v.category = 2 ∧ L[i + 1]? ≠ some none then none else some (i, gv_v ε v)
  | _ => none
def gv_l (ε : gv_E) (L : List (Option Value)) : List (Nat × Value) := (List.range L.length).filterMap (gv_h ε L)
theorem gv_cat (ε : gv_E) (v : Value) : (gv_v ε v).category = v.category := by cases v <;> rfl
theorem gv_l_mem {ε : gv_E} {L : List (Option Value)} {q : Nat × Value} : q ∈ gv_l ε L ↔ ∃ v, L[q.1]? = some (some v) ∧ q.2 = gv_v ε v ∧ ¬ (v.category = 2 ∧ L[q.1 + 1]? ≠ some none) := by
  unfold gv_l
  rw [List.mem_filterMap]
  constructor
  · rintro ⟨i, -, hi⟩
    unfold gv_h at hi
    split at hi
    next v hv =>
      split at hi
      next => cases hi
      next hc =>
        cases hi
        exact ⟨v, hv, rfl, hc⟩
    next => cases hi
  · rintro ⟨v, hv, e, hc⟩
    refine ⟨q.1, ?_, ?_⟩
    · rw [List.mem_range]
      exact (List.getElem?_eq_some_iff.mp hv).1
    · unfold gv_h
      rw [hv]
      show (if v.category = 2 ∧ L[q.1 + 1]? ≠ some none then none else some (q.1, gv_v ε v)) = some q
      rw [if_neg hc, ← e]
def gv_has (ε : gv_E) (ls : Array Slot) (n : Nat) (L : List (Option Value)) : Prop := lv_has ls n (gv_l ε L) ∧ L.length = n
theorem gv_has.at1 {ε : gv_E} {ls : Array Slot} {n : Nat} {L : List (Option Value)} (h : gv_has ε ls n L) {i : Nat} {v : Value} (hv : L[i]? = some (some v)) (hc : v.category = 1) : ls[i]? = some (.val (gv_v ε v)) :=
  h.1.2.2 (i, gv_v ε v) (gv_l_mem.mpr ⟨v, hv, rfl, fun q => by rw [hc] at q; exact absurd q.1 (by decide)⟩)
theorem gv_has.at2 {ε : gv_E} {ls : Array Slot} {n : Nat} {L : List (Option Value)} (h : gv_has ε ls n L) {i : Nat} {v : Value} (hv : L[i]? = some (some v)) (hc : L[i + 1]? = some none) : ls[i]? = some (.val (gv_v ε v)) :=
  h.1.2.2 (i, gv_v ε v) (gv_l_mem.mpr ⟨v, hv, rfl, fun q => q.2 hc⟩)
theorem gv_has.store1 {ε : gv_E} {ls' : Array Slot} {n : Nat} {L : List (Option Value)} {i : Nat} {v : Value} (hL : L.length = n) (hi : i < n) (hc : v.category = 1) (h : lv_has ls' n ((i, gv_v ε v) :: (gv_l ε L).filter (fun q => !(q.1 == i) && !(q.1 + 1 == i && q.2.category == 2)))) : gv_has ε ls' n (L.set i (some v)) := by
  refine ⟨⟨h.1, h.2.1, fun q hq => h.2.2 q ?_⟩, by rw [List.length_set]; exact hL⟩
  obtain ⟨w, h1, h2, h3⟩ := gv_l_mem.mp hq
  rw [List.getElem?_set] at h1
  by_cases e : i = q.1
  · rw [if_pos e, if_pos (by omega)] at h1
    have e2 : v = w := by simpa using h1
    subst e2
    rw [show q = (i, gv_v ε v) from Prod.ext e.symm h2]
    exact List.mem_cons_self
  · rw [if_neg e] at h1
    refine List.mem_cons_of_mem _ (List.mem_filter.mpr ⟨gv_l_mem.mpr ⟨w, h1, h2, ?_⟩, ?_⟩)
    · intro z
      refine h3 ⟨z.1, ?_⟩
      rw [List.getElem?_set]
      by_cases e3 : i = q.1 + 1
      · rw [if_pos e3, if_pos (by omega)]
        simp
      · rw [if_neg e3]
        exact z.2
    · rw [h2, gv_cat]
      by_cases e3 : q.1 + 1 = i
      · have : ¬ w.category = 2 := fun z => h3 ⟨z, by rw [List.getElem?_set, if_pos e3.symm, if_pos (by omega)]; simp⟩
        simp [this]
        omega
      · simp [e3]
        omega
theorem gv_has.store2 {ε : gv_E} {ls' : Array Slot} {n : Nat} {L : List (Option Value)} {i : Nat} {v : Value} (hL : L.length = n) (hi : i + 1 < n) (h : lv_has ls' n ((i, gv_v ε v) :: (gv_l ε L).filter (fun q => !(q.1 == i) && (!(q.1 == i + 1) && !(q.1 + 1 == i && q.2.category == 2))))) : gv_has ε ls' n ((L.set i (some v)).set (i + 1) none) := by
  refine ⟨⟨h.1, h.2.1, fun q hq => h.2.2 q ?_⟩, by rw [List.length_set, List.length_set]; exact hL⟩
  obtain ⟨w, h1, h2, h3⟩ := gv_l_mem.mp hq
  rw [List.getElem?_set, List.length_set] at h1
  by_cases e0 : i + 1 = q.1
  · rw [if_pos e0, if_pos (by omega)] at h1
    cases h1
  · rw [if_neg e0, List.getElem?_set] at h1
    by_cases e : i = q.1
    · rw [if_pos e, if_pos (by omega)] at h1
      have e2 : v = w := by simpa using h1
      subst e2
      rw [show q = (i, gv_v ε v) from Prod.ext e.symm h2]
      exact List.mem_cons_self
    · rw [if_neg e] at h1
      refine List.mem_cons_of_mem _ (List.mem_filter.mpr ⟨gv_l_mem.mpr ⟨w, h1, h2, ?_⟩, ?_⟩)
      · intro z
        refine h3 ⟨z.1, ?_⟩
        rw [List.getElem?_set, List.length_set, if_neg (by omega), List.getElem?_set]
        by_cases e3 : i = q.1 + 1
        · rw [if_pos e3, if_pos (by omega)]
          simp
        · rw [if_neg e3]
          exact z.2
      · rw [h2, gv_cat]
        by_cases e3 : q.1 + 1 = i
        · have : ¬ w.category = 2 := fun z => h3 ⟨z, by rw [List.getElem?_set, List.length_set, if_neg (by omega), List.getElem?_set, if_pos e3.symm, if_pos (by omega)]; simp⟩
          simp [this]
          omega
        · simp [e3]
          omega
/-! the cells -/
theorem gv_w_len (ε : gv_E) (sw : List va_E) : (gv_w ε sw).length = sw.length := by simp [gv_w]
theorem gv_w_at {ε : gv_E} {sw : List va_E} {k : Nat} {e : va_E} (h : sw[k]? = some e) : (gv_w ε sw)[k]? = some (gv_as ε k, gv_e ε e) := by simp [gv_w, List.getElem?_mapIdx, h]
theorem gv_w_set (ε : gv_E) (sw : List va_E) (k : Nat) (e : va_E) : gv_w ε (sw.set k e) = (gv_w ε sw).set k (gv_as ε k, gv_e ε e) := by
  apply List.ext_getElem?
  intro i
  simp only [gv_w, List.getElem?_mapIdx, List.getElem?_set, List.length_mapIdx]
  by_cases h : k = i
  · subst h
    by_cases h2 : k < sw.length
    · simp [h2]
    · simp [h2]
  · simp [h]
theorem gv_w_push (ε : gv_E) (sw : List va_E) (e : va_E) : gv_w ε (sw ++ [e]) = gv_w ε sw ++ [(gv_as ε sw.length, gv_e ε e)] := by
  simp [gv_w, List.mapIdx_append]
theorem gv_as_lt {ε : gv_E} {k : Nat} (h : k < 1000) : gv_as ε k = ε.2.2.2.1 + k := by simp [gv_as, h]
theorem gv_D {ε : gv_E} {sw : List va_E} (h : sw.length ≤ 1000) : va_D (gv_A ε) (gv_w ε sw) := by
  have key : ∀ (i : Nat) (p : Nat × va_E), (gv_w ε sw)[i]? = some p → p.1 = ε.2.2.2.1 + i := by
    intro i p hp
    have hi : i < sw.length := by
      have := (List.getElem?_eq_some_iff.mp hp).1
      rwa [gv_w_len] at this
    rw [gv_w_at (List.getElem?_eq_getElem hi)] at hp
    cases hp
    exact gv_as_lt (by omega)
  refine ⟨fun i j p q hp hq e => ?_, fun k q hq => ?_⟩
  · have := key i p hp
    have := key j q hq
    omega
  · show ε.2.2.2.1 ≤ q.1
    have := key k q hq
    omega
/-- what holds at a method's entry -/
def gv_C (ε : gv_E) (M : gv_MR) (n0 : Nat) (p : Program) (s : State) (m : MethodId) (args : Array Value) (meth : Method) (c : Code) : Prop :=
  p.tables.exec = Jvm.exec ∧ c.code = M.2.1 ∧ meth.sig.returnType = M.2.2.2.1 ∧ c.maxLocals = M.2.2.1 ∧ s.vm.findClass M.1.cls = some m.cls ∧ (∀ w ∈ gv_W, w.before args s = true) ∧ meth.locks = false ∧ (M.1.name = "<init>" → meth.name = "<init>") ∧ gv_X ε s ∧ s.heap.size = ε.2.2.2.1 + n0
def gv_I (ε : gv_E) (M : gv_MR) (n0 : Nat) (s : State) (H : Heap) (locs : List Loc) (ls : Array Slot) (L : List (Option Value)) (sw : List va_E) (cu : Nat) : Prop :=
  va_P ε.2.1 vwCl (gv_w ε sw) H ∧ va_S (gv_A ε) s.heap H locs ∧ gv_has ε ls M.2.2.1 L ∧ sw.length = n0 + cu ∧ sw.length ≤ 1000
def gv_G (ε : gv_E) (R : Room) (M : gv_MR) (n0 : Nat) (Z : State → List Frame → Array Value → State → Prop) (pc : Nat) (L : List (Option Value)) (st : List Value) (sw : List va_E) (cu su : Nat) : Prop :=
  ∀ (p : Program) (e : Env) (s : State) (m : MethodId) (args : Array Value) (below : List Frame) (meth : Method) (c : Code), gv_C ε M n0 p s m args meth c → ∀ (H : Heap) (locs : List Loc) (ls : Array Slot), gv_I ε M n0 s H locs ls L sw cu → W p ε.1 e R s m args below meth c H locs cu su (Z s below args) (F0 m pc ls (st.map (gv_v ε)))
section GV
variable {ε : gv_E} {R : Room} {M : gv_MR} {n0 : Nat} {Z : State → List Frame → Array Value → State → Prop} {pc : Nat} {L : List (Option Value)} {st : List Value} {sw : List va_E} {cu su : Nat}

theorem gv_iconst {n : Int} {v : Int32} (hd : decode M.2.1 pc = .ok (.iconst n, 1)) (hv : Int32.ofInt n = v) (k : gv_G ε R M n0 Z (pc + 1) L (.int v :: st) sw cu su) : gv_G ε R M n0 Z pc L (st) sw cu su := by
  intro p e s m args below meth c C H locs ls I
  exact lv_iconst C.1 C.2.1 hd hv (k p e s m args below meth c C H locs ls I)
theorem gv_bipush {n : Int} {v : Int32} (hd : decode M.2.1 pc = .ok (.bipush n, 2)) (hv : (Int8.ofInt n).toInt32 = v) (k : gv_G ε R M n0 Z (pc + 2) L (.int v :: st) sw cu su) : gv_G ε R M n0 Z pc L (st) sw cu su := by
  intro p e s m args below meth c C H locs ls I
  exact lv_bipush C.1 C.2.1 hd hv (k p e s m args below meth c C H locs ls I)
theorem gv_sipush {n : Int} {v : Int32} (hd : decode M.2.1 pc = .ok (.sipush n, 3)) (hv : (Int16.ofInt n).toInt32 = v) (k : gv_G ε R M n0 Z (pc + 3) L (.int v :: st) sw cu su) : gv_G ε R M n0 Z pc L (st) sw cu su := by
  intro p e s m args below meth c C H locs ls I
  exact lv_sipush C.1 C.2.1 hd hv (k p e s m args below meth c C H locs ls I)
theorem gv_lconst {n : Fin 2} {v : Int64} (hd : decode M.2.1 pc = .ok (.lconst n, 1)) (hv : Int64.ofNat (n : Nat) = v) (k : gv_G ε R M n0 Z (pc + 1) L (.long v :: st) sw cu su) : gv_G ε R M n0 Z pc L (st) sw cu su := by
  intro p e s m args below meth c C H locs ls I
  exact lv_lconst C.1 C.2.1 hd hv (k p e s m args below meth c C H locs ls I)
theorem gv_ldc {i : Nat} {v : Int32} (hd : decode M.2.1 pc = .ok (.ldc i, 2)) (hw : Cond.constant M.1.cls i v ∈ gv_W) (k : gv_G ε R M n0 Z (pc + 2) L (.int v :: st) sw cu su) : gv_G ε R M n0 Z pc L (st) sw cu su := by
  intro p e s m args below meth c C H locs ls I
  exact lv_ldc C.1 C.2.1 C.2.2.2.2.1 (C.2.2.2.2.2.1 _ hw) hd (k p e s m args below meth c C H locs ls I)
theorem gv_ldcw {i : Nat} {v : Int32} (hd : decode M.2.1 pc = .ok (.ldc_w i, 3)) (hw : Cond.constant M.1.cls i v ∈ gv_W) (k : gv_G ε R M n0 Z (pc + 3) L (.int v :: st) sw cu su) : gv_G ε R M n0 Z pc L (st) sw cu su := by
  intro p e s m args below meth c C H locs ls I
  exact lv_ldcw C.1 C.2.1 C.2.2.2.2.1 (C.2.2.2.2.2.1 _ hw) hd (k p e s m args below meth c C H locs ls I)
theorem gv_ldc2 {i : Nat} {v : Int64} (hd : decode M.2.1 pc = .ok (.ldc2_w i, 3)) (hw : Cond.constantLong M.1.cls i v ∈ gv_W) (k : gv_G ε R M n0 Z (pc + 3) L (.long v :: st) sw cu su) : gv_G ε R M n0 Z pc L (st) sw cu su := by
  intro p e s m args below meth c C H locs ls I
  exact lv_ldc2 C.1 C.2.1 C.2.2.2.2.1 (C.2.2.2.2.2.1 _ hw) hd (k p e s m args below meth c C H locs ls I)
theorem gv_iload_n {j : Fin 4} {i : Nat} {x : Int32} (hd : decode M.2.1 pc = .ok (.iload_n j, 1)) (hi : (j : Nat) = i) (hl : L[i]? = some (some (.int x))) (k : gv_G ε R M n0 Z (pc + 1) L (.int x :: st) sw cu su) : gv_G ε R M n0 Z pc L (st) sw cu su := by
  intro p e s m args below meth c C H locs ls I
  exact lv_iload_n C.1 C.2.1 hd hi (I.2.2.1.at1 hl rfl) (k p e s m args below meth c C H locs ls I)
theorem gv_iload {i : Nat} {x : Int32} (hd : decode M.2.1 pc = .ok (.iload i, 2)) (hl : L[i]? = some (some (.int x))) (k : gv_G ε R M n0 Z (pc + 2) L (.int x :: st) sw cu su) : gv_G ε R M n0 Z pc L (st) sw cu su := by
  intro p e s m args below meth c C H locs ls I
  exact lv_iload C.1 C.2.1 hd (I.2.2.1.at1 hl rfl) (k p e s m args below meth c C H locs ls I)
theorem gv_aload_n {j : Fin 4} {i : Nat} {x : Nat} (hd : decode M.2.1 pc = .ok (.aload_n j, 1)) (hi : (j : Nat) = i) (hl : L[i]? = some (some (.ref x))) (k : gv_G ε R M n0 Z (pc + 1) L (.ref x :: st) sw cu su) : gv_G ε R M n0 Z pc L (st) sw cu su := by
  intro p e s m args below meth c C H locs ls I
  exact lv_aload_n C.1 C.2.1 hd hi (I.2.2.1.at1 hl rfl) (k p e s m args below meth c C H locs ls I)
theorem gv_aload {i : Nat} {x : Nat} (hd : decode M.2.1 pc = .ok (.aload i, 2)) (hl : L[i]? = some (some (.ref x))) (k : gv_G ε R M n0 Z (pc + 2) L (.ref x :: st) sw cu su) : gv_G ε R M n0 Z pc L (st) sw cu su := by
  intro p e s m args below meth c C H locs ls I
  exact lv_aload C.1 C.2.1 hd (I.2.2.1.at1 hl rfl) (k p e s m args below meth c C H locs ls I)
theorem gv_lload_n {j : Fin 4} {i : Nat} {x : Int64} (hd : decode M.2.1 pc = .ok (.lload_n j, 1)) (hi : (j : Nat) = i) (hl : L[i]? = some (some (.long x))) (hl2 : L[i + 1]? = some none) (k : gv_G ε R M n0 Z (pc + 1) L (.long x :: st) sw cu su) : gv_G ε R M n0 Z pc L (st) sw cu su := by
  intro p e s m args below meth c C H locs ls I
  exact lv_lload_n C.1 C.2.1 hd hi (I.2.2.1.at2 hl hl2) (k p e s m args below meth c C H locs ls I)
theorem gv_lload {i : Nat} {x : Int64} (hd : decode M.2.1 pc = .ok (.lload i, 2)) (hl : L[i]? = some (some (.long x))) (hl2 : L[i + 1]? = some none) (k : gv_G ε R M n0 Z (pc + 2) L (.long x :: st) sw cu su) : gv_G ε R M n0 Z pc L (st) sw cu su := by
  intro p e s m args below meth c C H locs ls I
  exact lv_lload C.1 C.2.1 hd (I.2.2.1.at2 hl hl2) (k p e s m args below meth c C H locs ls I)
theorem gv_istore_n {j : Fin 4} {i : Nat} {x : Int32} {L' : List (Option Value)} (hd : decode M.2.1 pc = .ok (.istore_n j, 1)) (hi : (j : Nat) = i) (hi2 : i < M.2.2.1) (hL : (L.set i (some (.int x))) = L') (k : gv_G ε R M n0 Z (pc + 1) L' st sw cu su) : gv_G ε R M n0 Z pc L (.int x :: st) sw cu su := by
  subst hL
  intro p e s m args below meth c C H locs ls I
  exact lv_istore_n C.1 C.2.1 hd hi I.2.2.1.1 hi2 rfl (fun ls' h => k p e s m args below meth c C H locs ls' ⟨I.1, I.2.1, gv_has.store1 I.2.2.1.2 hi2 rfl h, I.2.2.2⟩)
theorem gv_istore {i : Nat} {x : Int32} {L' : List (Option Value)} (hd : decode M.2.1 pc = .ok (.istore i, 2)) (hi2 : i < M.2.2.1) (hL : (L.set i (some (.int x))) = L') (k : gv_G ε R M n0 Z (pc + 2) L' st sw cu su) : gv_G ε R M n0 Z pc L (.int x :: st) sw cu su := by
  subst hL
  intro p e s m args below meth c C H locs ls I
  exact lv_istore C.1 C.2.1 hd I.2.2.1.1 hi2 rfl (fun ls' h => k p e s m args below meth c C H locs ls' ⟨I.1, I.2.1, gv_has.store1 I.2.2.1.2 hi2 rfl h, I.2.2.2⟩)
theorem gv_astore_n {j : Fin 4} {i : Nat} {x : Nat} {L' : List (Option Value)} (hd : decode M.2.1 pc = .ok (.astore_n j, 1)) (hi : (j : Nat) = i) (hi2 : i < M.2.2.1) (hL : (L.set i (some (.ref x))) = L') (k : gv_G ε R M n0 Z (pc + 1) L' st sw cu su) : gv_G ε R M n0 Z pc L (.ref x :: st) sw cu su := by
  subst hL
  intro p e s m args below meth c C H locs ls I
  exact lv_astore_n C.1 C.2.1 hd hi I.2.2.1.1 hi2 rfl (fun ls' h => k p e s m args below meth c C H locs ls' ⟨I.1, I.2.1, gv_has.store1 I.2.2.1.2 hi2 rfl h, I.2.2.2⟩)
theorem gv_astore {i : Nat} {x : Nat} {L' : List (Option Value)} (hd : decode M.2.1 pc = .ok (.astore i, 2)) (hi2 : i < M.2.2.1) (hL : (L.set i (some (.ref x))) = L') (k : gv_G ε R M n0 Z (pc + 2) L' st sw cu su) : gv_G ε R M n0 Z pc L (.ref x :: st) sw cu su := by
  subst hL
  intro p e s m args below meth c C H locs ls I
  exact lv_astore C.1 C.2.1 hd I.2.2.1.1 hi2 rfl (fun ls' h => k p e s m args below meth c C H locs ls' ⟨I.1, I.2.1, gv_has.store1 I.2.2.1.2 hi2 rfl h, I.2.2.2⟩)
theorem gv_lstore_n {j : Fin 4} {i : Nat} {x : Int64} {L' : List (Option Value)} (hd : decode M.2.1 pc = .ok (.lstore_n j, 1)) (hi : (j : Nat) = i) (hi2 : i + 1 < M.2.2.1) (hL : ((L.set i (some (.long x))).set (i + 1) none) = L') (k : gv_G ε R M n0 Z (pc + 1) L' st sw cu su) : gv_G ε R M n0 Z pc L (.long x :: st) sw cu su := by
  subst hL
  intro p e s m args below meth c C H locs ls I
  exact lv_lstore_n C.1 C.2.1 hd hi I.2.2.1.1 hi2 rfl (fun ls' h => k p e s m args below meth c C H locs ls' ⟨I.1, I.2.1, gv_has.store2 I.2.2.1.2 hi2 h, I.2.2.2⟩)
theorem gv_lstore {i : Nat} {x : Int64} {L' : List (Option Value)} (hd : decode M.2.1 pc = .ok (.lstore i, 2)) (hi2 : i + 1 < M.2.2.1) (hL : ((L.set i (some (.long x))).set (i + 1) none) = L') (k : gv_G ε R M n0 Z (pc + 2) L' st sw cu su) : gv_G ε R M n0 Z pc L (.long x :: st) sw cu su := by
  subst hL
  intro p e s m args below meth c C H locs ls I
  exact lv_lstore C.1 C.2.1 hd I.2.2.1.1 hi2 rfl (fun ls' h => k p e s m args below meth c C H locs ls' ⟨I.1, I.2.1, gv_has.store2 I.2.2.1.2 hi2 h, I.2.2.2⟩)
theorem gv_iinc {i : Nat} {n : Int} {x v : Int32} {L' : List (Option Value)} (hd : decode M.2.1 pc = .ok (.iinc i n, 3)) (hl : L[i]? = some (some (.int x))) (hv : x + Int32.ofInt n = v) (hL : (L.set i (some (.int v))) = L') (k : gv_G ε R M n0 Z (pc + 3) L' st sw cu su) : gv_G ε R M n0 Z pc L st sw cu su := by
  subst hL
  intro p e s m args below meth c C H locs ls I
  have hm : (i, Value.int x) ∈ gv_l ε L := gv_l_mem.mpr ⟨.int x, hl, rfl, fun q => absurd (show (1 : Nat) = 2 from q.1) (by decide)⟩
  obtain ⟨j, hj⟩ := List.getElem?_of_mem hm
  have hi2 : i < M.2.2.1 := by rw [← I.2.2.1.2]; exact (List.getElem?_eq_some_iff.mp hl).1
  exact lv_iinc C.1 C.2.1 hd I.2.2.1.1 hj hv hi2 rfl (fun ls' h => k p e s m args below meth c C H locs ls' ⟨I.1, I.2.1, gv_has.store1 I.2.2.1.2 hi2 rfl h, I.2.2.2⟩)
theorem gv_iadd {x y : Int32} (hd : decode M.2.1 pc = .ok (.iadd, 1)) (k : gv_G ε R M n0 Z (pc + 1) L (.int (x + y) :: st) sw cu su) : gv_G ε R M n0 Z pc L (.int y :: .int x :: st) sw cu su := by
  intro p e s m args below meth c C H locs ls I
  exact lv_iadd C.1 C.2.1 hd (k p e s m args below meth c C H locs ls I)
theorem gv_isub {x y : Int32} (hd : decode M.2.1 pc = .ok (.isub, 1)) (k : gv_G ε R M n0 Z (pc + 1) L (.int (x - y) :: st) sw cu su) : gv_G ε R M n0 Z pc L (.int y :: .int x :: st) sw cu su := by
  intro p e s m args below meth c C H locs ls I
  exact lv_isub C.1 C.2.1 hd (k p e s m args below meth c C H locs ls I)
theorem gv_imul {x y : Int32} (hd : decode M.2.1 pc = .ok (.imul, 1)) (k : gv_G ε R M n0 Z (pc + 1) L (.int (x * y) :: st) sw cu su) : gv_G ε R M n0 Z pc L (.int y :: .int x :: st) sw cu su := by
  intro p e s m args below meth c C H locs ls I
  exact lv_imul C.1 C.2.1 hd (k p e s m args below meth c C H locs ls I)
theorem gv_iand {x y : Int32} (hd : decode M.2.1 pc = .ok (.iand, 1)) (k : gv_G ε R M n0 Z (pc + 1) L (.int (x &&& y) :: st) sw cu su) : gv_G ε R M n0 Z pc L (.int y :: .int x :: st) sw cu su := by
  intro p e s m args below meth c C H locs ls I
  exact lv_iand C.1 C.2.1 hd (k p e s m args below meth c C H locs ls I)
theorem gv_ior {x y : Int32} (hd : decode M.2.1 pc = .ok (.ior, 1)) (k : gv_G ε R M n0 Z (pc + 1) L (.int (x ||| y) :: st) sw cu su) : gv_G ε R M n0 Z pc L (.int y :: .int x :: st) sw cu su := by
  intro p e s m args below meth c C H locs ls I
  exact lv_ior C.1 C.2.1 hd (k p e s m args below meth c C H locs ls I)
theorem gv_ixor {x y : Int32} (hd : decode M.2.1 pc = .ok (.ixor, 1)) (k : gv_G ε R M n0 Z (pc + 1) L (.int (x ^^^ y) :: st) sw cu su) : gv_G ε R M n0 Z pc L (.int y :: .int x :: st) sw cu su := by
  intro p e s m args below meth c C H locs ls I
  exact lv_ixor C.1 C.2.1 hd (k p e s m args below meth c C H locs ls I)
theorem gv_ishl {x y : Int32} (hd : decode M.2.1 pc = .ok (.ishl, 1)) (k : gv_G ε R M n0 Z (pc + 1) L (.int (x <<< (y &&& 31)) :: st) sw cu su) : gv_G ε R M n0 Z pc L (.int y :: .int x :: st) sw cu su := by
  intro p e s m args below meth c C H locs ls I
  exact lv_ishl C.1 C.2.1 hd (k p e s m args below meth c C H locs ls I)
theorem gv_ishr {x y : Int32} (hd : decode M.2.1 pc = .ok (.ishr, 1)) (k : gv_G ε R M n0 Z (pc + 1) L (.int (x >>> (y &&& 31)) :: st) sw cu su) : gv_G ε R M n0 Z pc L (.int y :: .int x :: st) sw cu su := by
  intro p e s m args below meth c C H locs ls I
  exact lv_ishr C.1 C.2.1 hd (k p e s m args below meth c C H locs ls I)
theorem gv_idiv {x y : Int32} (hd : decode M.2.1 pc = .ok (.idiv, 1)) (h0 : ¬ y = 0) (k : gv_G ε R M n0 Z (pc + 1) L (.int (x / y) :: st) sw cu su) : gv_G ε R M n0 Z pc L (.int y :: .int x :: st) sw cu su := by
  intro p e s m args below meth c C H locs ls I
  exact lv_idiv C.1 C.2.1 hd h0 (k p e s m args below meth c C H locs ls I)
theorem gv_irem {x y : Int32} (hd : decode M.2.1 pc = .ok (.irem, 1)) (h0 : ¬ y = 0) (k : gv_G ε R M n0 Z (pc + 1) L (.int (x - x / y * y) :: st) sw cu su) : gv_G ε R M n0 Z pc L (.int y :: .int x :: st) sw cu su := by
  intro p e s m args below meth c C H locs ls I
  exact lv_irem C.1 C.2.1 hd h0 (k p e s m args below meth c C H locs ls I)
theorem gv_ineg {x : Int32} (hd : decode M.2.1 pc = .ok (.ineg, 1)) (k : gv_G ε R M n0 Z (pc + 1) L (.int (-x) :: st) sw cu su) : gv_G ε R M n0 Z pc L (.int x :: st) sw cu su := by
  intro p e s m args below meth c C H locs ls I
  exact lv_ineg C.1 C.2.1 hd (k p e s m args below meth c C H locs ls I)
theorem gv_iushr {x y : Int32} (hd : decode M.2.1 pc = .ok (.iushr, 1)) (k : gv_G ε R M n0 Z (pc + 1) L (.int ((x.toUInt32 >>> (y.toUInt32 &&& Int32.toUInt32 31)).toInt32) :: st) sw cu su) : gv_G ε R M n0 Z pc L (.int y :: .int x :: st) sw cu su := by
  intro p e s m args below meth c C H locs ls I
  exact lv_iushr C.1 C.2.1 hd rfl (k p e s m args below meth c C H locs ls I)
theorem gv_ladd {x y : Int64} (hd : decode M.2.1 pc = .ok (.ladd, 1)) (k : gv_G ε R M n0 Z (pc + 1) L (.long (x + y) :: st) sw cu su) : gv_G ε R M n0 Z pc L (.long y :: .long x :: st) sw cu su := by
  intro p e s m args below meth c C H locs ls I
  exact lv_ladd C.1 C.2.1 hd (k p e s m args below meth c C H locs ls I)
theorem gv_lmul {x y : Int64} (hd : decode M.2.1 pc = .ok (.lmul, 1)) (k : gv_G ε R M n0 Z (pc + 1) L (.long (x * y) :: st) sw cu su) : gv_G ε R M n0 Z pc L (.long y :: .long x :: st) sw cu su := by
  intro p e s m args below meth c C H locs ls I
  exact lv_lmul C.1 C.2.1 hd (k p e s m args below meth c C H locs ls I)
theorem gv_land {x y : Int64} (hd : decode M.2.1 pc = .ok (.land, 1)) (k : gv_G ε R M n0 Z (pc + 1) L (.long (x &&& y) :: st) sw cu su) : gv_G ε R M n0 Z pc L (.long y :: .long x :: st) sw cu su := by
  intro p e s m args below meth c C H locs ls I
  exact lv_land C.1 C.2.1 hd (k p e s m args below meth c C H locs ls I)
theorem gv_lshr {x : Int64} {y : Int32} (hd : decode M.2.1 pc = .ok (.lshr, 1)) (k : gv_G ε R M n0 Z (pc + 1) L (.long (x >>> (y.toInt64 &&& 63)) :: st) sw cu su) : gv_G ε R M n0 Z pc L (.int y :: .long x :: st) sw cu su := by
  intro p e s m args below meth c C H locs ls I
  exact lv_lshr C.1 C.2.1 hd rfl (k p e s m args below meth c C H locs ls I)
theorem gv_lcmp {x y : Int64} (hd : decode M.2.1 pc = .ok (.lcmp, 1)) (k : gv_G ε R M n0 Z (pc + 1) L (.int (lg_cmp x y) :: st) sw cu su) : gv_G ε R M n0 Z pc L (.long y :: .long x :: st) sw cu su := by
  intro p e s m args below meth c C H locs ls I
  exact W.lcmp C.1 C.2.1 hd (k p e s m args below meth c C H locs ls I)
theorem gv_dup {v : Value} (hd : decode M.2.1 pc = .ok (.dup, 1)) (hc : v.category = 1) (k : gv_G ε R M n0 Z (pc + 1) L (v :: v :: st) sw cu su) : gv_G ε R M n0 Z pc L (v :: st) sw cu su := by
  intro p e s m args below meth c C H locs ls I
  exact lv_dup C.1 C.2.1 hd (by rw [gv_cat]; exact hc) (k p e s m args below meth c C H locs ls I)
theorem gv_pop {v : Value} (hd : decode M.2.1 pc = .ok (.pop, 1)) (hc : v.category = 1) (k : gv_G ε R M n0 Z (pc + 1) L (st) sw cu su) : gv_G ε R M n0 Z pc L (v :: st) sw cu su := by
  intro p e s m args below meth c C H locs ls I
  exact lv_pop C.1 C.2.1 hd (by rw [gv_cat]; exact hc) (k p e s m args below meth c C H locs ls I)
theorem gv_dup2 {v u : Value} (hd : decode M.2.1 pc = .ok (.dup2, 1)) (hc : v.category = 1) (hc2 : u.category = 1) (k : gv_G ε R M n0 Z (pc + 1) L (v :: u :: v :: u :: st) sw cu su) : gv_G ε R M n0 Z pc L (v :: u :: st) sw cu su := by
  intro p e s m args below meth c C H locs ls I
  exact lv_dup2_11 C.1 C.2.1 hd (by rw [gv_cat]; exact hc) (by rw [gv_cat]; exact hc2) (k p e s m args below meth c C H locs ls I)
theorem gv_if_eq {x : Int32} {off : Int} {tgt : Nat} (hd : decode M.2.1 pc = .ok (.ifCond .eq off, 3)) (ht : (pc : Int) + off = (tgt : Int)) (kt : x = 0 → gv_G ε R M n0 Z tgt L st sw cu su) (kf : ¬ (x = 0) → gv_G ε R M n0 Z (pc + 3) L st sw cu su) : gv_G ε R M n0 Z pc L (.int x :: st) sw cu su := by
  intro p e s m args below meth c C H locs ls I
  exact lv_if_eq C.1 C.2.1 hd ht (fun h => kt h p e s m args below meth c C H locs ls I) (fun h => kf h p e s m args below meth c C H locs ls I)
theorem gv_icmp_eq {x y : Int32} {off : Int} {tgt : Nat} (hd : decode M.2.1 pc = .ok (.if_icmp .eq off, 3)) (ht : (pc : Int) + off = (tgt : Int)) (kt : x = y → gv_G ε R M n0 Z tgt L st sw cu su) (kf : ¬ (x = y) → gv_G ε R M n0 Z (pc + 3) L st sw cu su) : gv_G ε R M n0 Z pc L (.int y :: .int x :: st) sw cu su := by
  intro p e s m args below meth c C H locs ls I
  exact lv_icmp_eq C.1 C.2.1 hd ht (fun h => kt h p e s m args below meth c C H locs ls I) (fun h => kf h p e s m args below meth c C H locs ls I)
theorem gv_if_ne {x : Int32} {off : Int} {tgt : Nat} (hd : decode M.2.1 pc = .ok (.ifCond .ne off, 3)) (ht : (pc : Int) + off = (tgt : Int)) (kt : ¬ x = 0 → gv_G ε R M n0 Z tgt L st sw cu su) (kf : x = 0 → gv_G ε R M n0 Z (pc + 3) L st sw cu su) : gv_G ε R M n0 Z pc L (.int x :: st) sw cu su := by
  intro p e s m args below meth c C H locs ls I
  exact lv_if_ne C.1 C.2.1 hd ht (fun h => kt h p e s m args below meth c C H locs ls I) (fun h => kf h p e s m args below meth c C H locs ls I)
theorem gv_icmp_ne {x y : Int32} {off : Int} {tgt : Nat} (hd : decode M.2.1 pc = .ok (.if_icmp .ne off, 3)) (ht : (pc : Int) + off = (tgt : Int)) (kt : ¬ x = y → gv_G ε R M n0 Z tgt L st sw cu su) (kf : x = y → gv_G ε R M n0 Z (pc + 3) L st sw cu su) : gv_G ε R M n0 Z pc L (.int y :: .int x :: st) sw cu su := by
  intro p e s m args below meth c C H locs ls I
  exact lv_icmp_ne C.1 C.2.1 hd ht (fun h => kt h p e s m args below meth c C H locs ls I) (fun h => kf h p e s m args below meth c C H locs ls I)
theorem gv_if_lt {x : Int32} {off : Int} {tgt : Nat} (hd : decode M.2.1 pc = .ok (.ifCond .lt off, 3)) (ht : (pc : Int) + off = (tgt : Int)) (kt : x < 0 → gv_G ε R M n0 Z tgt L st sw cu su) (kf : ¬ (x < 0) → gv_G ε R M n0 Z (pc + 3) L st sw cu su) : gv_G ε R M n0 Z pc L (.int x :: st) sw cu su := by
  intro p e s m args below meth c C H locs ls I
  exact lv_if_lt C.1 C.2.1 hd ht (fun h => kt h p e s m args below meth c C H locs ls I) (fun h => kf h p e s m args below meth c C H locs ls I)
theorem gv_icmp_lt {x y : Int32} {off : Int} {tgt : Nat} (hd : decode M.2.1 pc = .ok (.if_icmp .lt off, 3)) (ht : (pc : Int) + off = (tgt : Int)) (kt : x < y → gv_G ε R M n0 Z tgt L st sw cu su) (kf : ¬ (x < y) → gv_G ε R M n0 Z (pc + 3) L st sw cu su) : gv_G ε R M n0 Z pc L (.int y :: .int x :: st) sw cu su := by
  intro p e s m args below meth c C H locs ls I
  exact lv_icmp_lt C.1 C.2.1 hd ht (fun h => kt h p e s m args below meth c C H locs ls I) (fun h => kf h p e s m args below meth c C H locs ls I)
theorem gv_if_ge {x : Int32} {off : Int} {tgt : Nat} (hd : decode M.2.1 pc = .ok (.ifCond .ge off, 3)) (ht : (pc : Int) + off = (tgt : Int)) (kt : 0 ≤ x → gv_G ε R M n0 Z tgt L st sw cu su) (kf : ¬ (0 ≤ x) → gv_G ε R M n0 Z (pc + 3) L st sw cu su) : gv_G ε R M n0 Z pc L (.int x :: st) sw cu su := by
  intro p e s m args below meth c C H locs ls I
  exact lv_if_ge C.1 C.2.1 hd ht (fun h => kt h p e s m args below meth c C H locs ls I) (fun h => kf h p e s m args below meth c C H locs ls I)
theorem gv_icmp_ge {x y : Int32} {off : Int} {tgt : Nat} (hd : decode M.2.1 pc = .ok (.if_icmp .ge off, 3)) (ht : (pc : Int) + off = (tgt : Int)) (kt : y ≤ x → gv_G ε R M n0 Z tgt L st sw cu su) (kf : ¬ (y ≤ x) → gv_G ε R M n0 Z (pc + 3) L st sw cu su) : gv_G ε R M n0 Z pc L (.int y :: .int x :: st) sw cu su := by
  intro p e s m args below meth c C H locs ls I
  exact lv_icmp_ge C.1 C.2.1 hd ht (fun h => kt h p e s m args below meth c C H locs ls I) (fun h => kf h p e s m args below meth c C H locs ls I)
theorem gv_if_gt {x : Int32} {off : Int} {tgt : Nat} (hd : decode M.2.1 pc = .ok (.ifCond .gt off, 3)) (ht : (pc : Int) + off = (tgt : Int)) (kt : 0 < x → gv_G ε R M n0 Z tgt L st sw cu su) (kf : ¬ (0 < x) → gv_G ε R M n0 Z (pc + 3) L st sw cu su) : gv_G ε R M n0 Z pc L (.int x :: st) sw cu su := by
  intro p e s m args below meth c C H locs ls I
  exact lv_if_gt C.1 C.2.1 hd ht (fun h => kt h p e s m args below meth c C H locs ls I) (fun h => kf h p e s m args below meth c C H locs ls I)
theorem gv_icmp_gt {x y : Int32} {off : Int} {tgt : Nat} (hd : decode M.2.1 pc = .ok (.if_icmp .gt off, 3)) (ht : (pc : Int) + off = (tgt : Int)) (kt : y < x → gv_G ε R M n0 Z tgt L st sw cu su) (kf : ¬ (y < x) → gv_G ε R M n0 Z (pc + 3) L st sw cu su) : gv_G ε R M n0 Z pc L (.int y :: .int x :: st) sw cu su := by
  intro p e s m args below meth c C H locs ls I
  exact lv_icmp_gt C.1 C.2.1 hd ht (fun h => kt h p e s m args below meth c C H locs ls I) (fun h => kf h p e s m args below meth c C H locs ls I)
theorem gv_if_le {x : Int32} {off : Int} {tgt : Nat} (hd : decode M.2.1 pc = .ok (.ifCond .le off, 3)) (ht : (pc : Int) + off = (tgt : Int)) (kt : x ≤ 0 → gv_G ε R M n0 Z tgt L st sw cu su) (kf : ¬ (x ≤ 0) → gv_G ε R M n0 Z (pc + 3) L st sw cu su) : gv_G ε R M n0 Z pc L (.int x :: st) sw cu su := by
  intro p e s m args below meth c C H locs ls I
  exact lv_if_le C.1 C.2.1 hd ht (fun h => kt h p e s m args below meth c C H locs ls I) (fun h => kf h p e s m args below meth c C H locs ls I)
theorem gv_icmp_le {x y : Int32} {off : Int} {tgt : Nat} (hd : decode M.2.1 pc = .ok (.if_icmp .le off, 3)) (ht : (pc : Int) + off = (tgt : Int)) (kt : x ≤ y → gv_G ε R M n0 Z tgt L st sw cu su) (kf : ¬ (x ≤ y) → gv_G ε R M n0 Z (pc + 3) L st sw cu su) : gv_G ε R M n0 Z pc L (.int y :: .int x :: st) sw cu su := by
  intro p e s m args below meth c C H locs ls I
  exact lv_icmp_le C.1 C.2.1 hd ht (fun h => kt h p e s m args below meth c C H locs ls I) (fun h => kf h p e s m args below meth c C H locs ls I)
theorem gv_goto {off : Int} {tgt : Nat} (hd : decode M.2.1 pc = .ok (.goto off, 3)) (ht : (pc : Int) + off = (tgt : Int)) (k : gv_G ε R M n0 Z tgt L st sw cu su) : gv_G ε R M n0 Z pc L st sw cu su := by
  intro p e s m args below meth c C H locs ls I
  exact lv_goto C.1 C.2.1 hd ht (k p e s m args below meth c C H locs ls I)
theorem gv_tabOut {dflt lo hi : Int} {offs : Array Int} {len : Nat} {x : Int32} {tgt : Nat} (hd : decode M.2.1 pc = .ok (.tableswitch dflt lo hi offs, len)) (h : x.toInt < lo ∨ hi < x.toInt) (ht : (pc : Int) + dflt = (tgt : Int)) (k : gv_G ε R M n0 Z tgt L st sw cu su) : gv_G ε R M n0 Z pc L (.int x :: st) sw cu su := by
  intro p e s m args below meth c C H locs ls I
  exact lv_tableOut C.1 C.2.1 hd h ht (k p e s m args below meth c C H locs ls I)
theorem gv_tabIn {dflt lo hi : Int} {offs : Array Int} {len : Nat} {x : Int32} {off : Int} {tgt : Nat} (hd : decode M.2.1 pc = .ok (.tableswitch dflt lo hi offs, len)) (h1 : ¬ x.toInt < lo) (h2 : ¬ hi < x.toInt) (ho : offs[(x.toInt - lo).toNat]? = some off) (ht : (pc : Int) + off = (tgt : Int)) (k : gv_G ε R M n0 Z tgt L st sw cu su) : gv_G ε R M n0 Z pc L (.int x :: st) sw cu su := by
  intro p e s m args below meth c C H locs ls I
  exact lv_tableIn C.1 C.2.1 hd h1 h2 ho ht (k p e s m args below meth c C H locs ls I)
end GV
end
section
/-! the rules of the heap, calls and returns -/
section GH
variable {ε : gv_E} {R : Room} {M : gv_MR} {n0 : Nat} {Z : State → List Frame → Array Value → State → Prop} {pc : Nat} {L : List (Option Value)} {st : List Value} {sw : List va_E} {cu su : Nat}
/-- a field's link: the class's number, the field's -/
def gv_F (own : String) (idx ci k : Nat) : Prop := ∃ (C : String) (T : u_T) (N : Nat) (ty : Nat → FieldType), vwCl[ci]? = some (C, T, N) ∧ k < N ∧ (∀ w ∈ u_ws C T N, w ∈ gv_W) ∧ Cond.fieldLink own idx (T k).1 (T k).2.1 (T k).2.2.1 ∈ gv_W ∧ (∀ k, k < N → parseFieldDescriptor (T k).2.2.1 = some (ty k)) ∧ ∀ a, a < N → ∀ b, b < N → a ≠ b → (T a).2.1 ≠ (T b).2.1
theorem gv_getfield {idx ci fk k : Nat} {fs : List Value} {v : Value} (hd : decode M.2.1 pc = .ok (.getfield idx, 3)) (hw : gv_F M.1.cls idx ci fk) (hk : sw[k]? = some (.inr (ci, fs))) (hv : fs[fk]? = some v) (kk : gv_G ε R M n0 Z (pc + 3) L (v :: st) sw cu su) : gv_G ε R M n0 Z pc L (.ref k :: st) sw cu su := by
  intro p e s m args below meth c C H locs ls I
  obtain ⟨Cn, T, N, ty, h1, h2, h3, h4, h5, h6⟩ := hw
  exact va_get (D := ε.2.1) (v := gv_v ε v) C.1 C.2.1 C.2.2.2.2.2.1 h3 C.2.2.2.2.1 C.2.2.2.2.2.2.2.2.1.1 I.1 k (gv_w_at hk) h1 fk h2 (C.2.2.2.2.2.1 _ h4) (fun _ h => h) (by simp [hv]) hd (kk p e s m args below meth c C H locs ls I)
/-- the same, of a nest mate -/
def gv_FN (own : String) (idx ci k : Nat) : Prop := ∃ (C : String) (T : u_T) (N : Nat) (host : String), vwCl[ci]? = some (C, T, N) ∧ k < N ∧ (∀ w ∈ u_ws C T N, w ∈ gv_W) ∧ Cond.fieldLinkNest own idx (T k).1 (T k).2.1 (T k).2.2.1 host ∈ lw_tbl
theorem gv_getfieldN {idx ci fk k : Nat} {fs : List Value} {v : Value} (hd : decode M.2.1 pc = .ok (.getfield idx, 3)) (hw : gv_FN M.1.cls idx ci fk) (hk : sw[k]? = some (.inr (ci, fs))) (hv : fs[fk]? = some v) (kk : gv_G ε R M n0 Z (pc + 3) L (v :: st) sw cu su) : gv_G ε R M n0 Z pc L (.ref k :: st) sw cu su := by
  intro p e s m args below meth c C H locs ls I
  obtain ⟨Cn, T, N, host, h1, h2, h3, h4⟩ := hw
  exact va_getN (D := ε.2.1) (v := gv_v ε v) C.1 C.2.1 C.2.2.2.2.2.1 h3 C.2.2.2.2.1 C.2.2.2.2.2.2.2.2.1.1 I.1 k (gv_w_at hk) h1 fk h2 (va_Nw.use rfl (C.2.2.2.2.2.2.2.2.1.2.2.1 _ _ _ _ _ _ h4)) (fun _ h => h) (by simp [hv]) hd (kk p e s m args below meth c C H locs ls I)
/-- what may be put: its kind -/
def gv_P (own : String) (idx ci k : Nat) (v : Value) : Prop := ∃ (C : String) (T : u_T) (N : Nat) (ty : Nat → FieldType), vwCl[ci]? = some (C, T, N) ∧ k < N ∧ (∀ w ∈ u_ws C T N, w ∈ gv_W) ∧ Cond.fieldLink own idx (T k).1 (T k).2.1 (T k).2.2.1 ∈ gv_W ∧ (∀ k, k < N → parseFieldDescriptor (T k).2.2.1 = some (ty k)) ∧ (∀ a, a < N → ∀ b, b < N → a ≠ b → (T a).2.1 ≠ (T b).2.1) ∧ narrow (ty k) v = v ∧ fits (ty k) v = true ∧ ((T k).2.2.2 = false ∨ (T k).1 = own)
theorem gv_putfield {idx ci fk k : Nat} {fs : List Value} {v : Value} (hd : decode M.2.1 pc = .ok (.putfield idx, 3)) (hw : gv_P M.1.cls idx ci fk (gv_v ε v)) (hin : (∃ (C : String) (T : u_T) (N : Nat), vwCl[ci]? = some (C, T, N) ∧ (T fk).2.2.2 = false) ∨ M.1.name = "<init>") (hk : sw[k]? = some (.inr (ci, fs))) (hv : fk < fs.length) (kk : gv_G ε R M n0 Z (pc + 3) L st (sw.set k (.inr (ci, fs.set fk v))) cu su) : gv_G ε R M n0 Z pc L (v :: .ref k :: st) sw cu su := by
  intro p e s m args below meth c C H locs ls I
  obtain ⟨Cn, T, N, ty, h1, h2, h3, h4, h5, h6, h7, h8, h9⟩ := hw
  have fin : ∀ (H1 : Heap) (locs1 : List Loc), va_P ε.2.1 vwCl ((gv_w ε sw).set k (gv_as ε k, .inr (ci, (fs.map (gv_v ε)).set fk (gv_v ε v)))) H1 → va_D (gv_A ε) ((gv_w ε sw).set k (gv_as ε k, .inr (ci, (fs.map (gv_v ε)).set fk (gv_v ε v)))) → va_S (gv_A ε) s.heap H1 locs1 → W p ε.1 e R s m args below meth c H1 locs1 cu su (Z s below args) (F0 m (pc + 3) ls (st.map (gv_v ε))) := by
    intro H1 locs1 hP hD hS
    refine kk p e s m args below meth c C H1 locs1 ls ⟨?_, hS, I.2.2.1, by rw [List.length_set]; exact I.2.2.2.1, by rw [List.length_set]; exact I.2.2.2.2⟩
    rw [gv_w_set]
    show va_P ε.2.1 vwCl ((gv_w ε sw).set k (gv_as ε k, .inr (ci, (fs.set fk v).map (gv_v ε)))) H1
    rw [List.map_set]
    exact hP
  have hlen : fk < (fs.map (gv_v ε)).length := by rw [List.length_map]; exact hv
  by_cases hf : (T fk).2.2.2 = false
  · exact va_put (D := ε.2.1) (ty := ty fk) C.1 C.2.1 C.2.2.2.2.2.1 h3 ty h5 h6 C.2.2.2.2.1 C.2.2.2.2.2.2.2.2.1.1 I.1 (gv_D I.2.2.2.2) I.2.1 k (gv_w_at hk) h1 fk h2 (C.2.2.2.2.2.1 _ h4) (fun _ h => h) hf (h5 fk h2) h7 h8 hlen hd fin
  · have hin2 : meth.name = "<init>" := by
      rcases hin with ⟨C', T', N', q1, q2⟩ | q
      · cases h1.symm.trans q1
        exact absurd q2 hf
      · exact C.2.2.2.2.2.2.2.1 q
    have hdecl : (T fk).1 = M.1.cls := h9.resolve_left hf
    exact va_putF (D := ε.2.1) (ty := ty fk) C.1 C.2.1 C.2.2.2.2.2.1 h3 ty h5 h6 C.2.2.2.2.1 C.2.2.2.2.2.2.2.2.1.1 I.1 (gv_D I.2.2.2.2) I.2.1 k (gv_w_at hk) h1 fk h2 (C.2.2.2.2.2.1 _ h4) (fun _ h => h) (by simpa using hf) hin2 hdecl (h5 fk h2) h7 h8 hlen hd fin
/-! arrays -/
theorem gv_iaload {k n : Nat} {f : Nat → Int32} {i : Int32} (hd : decode M.2.1 pc = .ok (.iaload, 1)) (hk : sw[k]? = some (.inl (0, n, .inl f))) (hi : vp_in i n) (kk : gv_G ε R M n0 Z (pc + 1) L (.int (f i.toNatClampNeg) :: st) sw cu su) : gv_G ε R M n0 Z pc L (.int i :: .ref k :: st) sw cu su := by
  intro p e s m args below meth c C H locs ls I
  exact va_iald (D := ε.2.1) C.1 C.2.1 C.2.2.2.2.2.2.2.2.1.1 I.1 k 0 (gv_w_at hk) rfl hi hd (kk p e s m args below meth c C H locs ls I)
theorem gv_baload {k n : Nat} {f : Nat → Int32} {i : Int32} (hd : decode M.2.1 pc = .ok (.baload, 1)) (hk : sw[k]? = some (.inl (1, n, .inl f))) (hi : vp_in i n) (kk : gv_G ε R M n0 Z (pc + 1) L (.int (f i.toNatClampNeg) :: st) sw cu su) : gv_G ε R M n0 Z pc L (.int i :: .ref k :: st) sw cu su := by
  intro p e s m args below meth c C H locs ls I
  exact va_zald (D := ε.2.1) C.1 C.2.1 C.2.2.2.2.2.2.2.2.1.1 I.1 k 1 (gv_w_at hk) rfl hi hd (kk p e s m args below meth c C H locs ls I)
theorem gv_aaload {k n r : Nat} {f : Nat → Option Nat} {i : Int32} (hd : decode M.2.1 pc = .ok (.aaload, 1)) (hk : sw[k]? = some (.inl (2, n, .inr (.inr (.inr (.inr f)))))) (hi : vp_in i n) (hr : f i.toNatClampNeg = some r) (kk : gv_G ε R M n0 Z (pc + 1) L (.ref r :: st) sw cu su) : gv_G ε R M n0 Z pc L (.int i :: .ref k :: st) sw cu su := by
  intro p e s m args below meth c C H locs ls I
  refine va_aldq (D := ε.2.1) C.1 C.2.1 C.2.2.2.2.2.2.2.2.1.1 I.1 k 2 (gv_w_at hk) rfl hi hd ?_
  rw [hr]
  exact kk p e s m args below meth c C H locs ls I
theorem gv_alen {k n : Nat} {f0 : Nat → Int32} (hd : decode M.2.1 pc = .ok (.arraylength, 1)) (hk : sw[k]? = some (.inl (0, n, .inl f0))) (kk : gv_G ε R M n0 Z (pc + 1) L (.int (nI n) :: st) sw cu su) : gv_G ε R M n0 Z pc L (.ref k :: st) sw cu su := by
  intro p e s m args below meth c C H locs ls I
  exact va_alen (D := ε.2.1) C.1 C.2.1 C.2.2.2.2.2.2.2.2.1.1 I.1 k 0 (gv_w_at hk) rfl rfl hd (kk p e s m args below meth c C H locs ls I)
/-- a stored cell -/
theorem gv_stored {s : State} {H1 : Heap} {locs1 : List Loc} {ls : Array Slot} {k : Nat} {e : va_E} (I2 : gv_has ε ls M.2.2.1 L) (I3 : sw.length = n0 + cu) (I4 : sw.length ≤ 1000) (hP : va_P ε.2.1 vwCl ((gv_w ε sw).set k (gv_as ε k, gv_e ε e)) H1) (hS : va_S (gv_A ε) s.heap H1 locs1) : gv_I ε M n0 s H1 locs1 ls L (sw.set k e) cu :=
  ⟨by rw [gv_w_set]; exact hP, hS, I2, by rw [List.length_set]; exact I3, by rw [List.length_set]; exact I4⟩
theorem gv_iastore {k n : Nat} {f : Nat → Int32} {i x : Int32} (hd : decode M.2.1 pc = .ok (.iastore, 1)) (hk : sw[k]? = some (.inl (0, n, .inl f))) (hi : vp_in i n) (kk : gv_G ε R M n0 Z (pc + 1) L st (sw.set k (.inl (0, n, .inl (upd f i.toNatClampNeg x)))) cu su) : gv_G ε R M n0 Z pc L (.int x :: .int i :: .ref k :: st) sw cu su := by
  intro p e s m args below meth c C H locs ls I
  exact va_iast (D := ε.2.1) C.1 C.2.1 C.2.2.2.2.2.2.2.2.1.1 I.1 (gv_D I.2.2.2.2) I.2.1 k 0 (gv_w_at hk) rfl hi hd (fun H1 locs1 hP hD hS => kk p e s m args below meth c C H1 locs1 ls (gv_stored I.2.2.1 I.2.2.2.1 I.2.2.2.2 hP hS))
theorem gv_bastore {k n : Nat} {f : Nat → Int32} {i x : Int32} (hd : decode M.2.1 pc = .ok (.bastore, 1)) (hk : sw[k]? = some (.inl (1, n, .inl f))) (hi : vp_in i n) (kk : gv_G ε R M n0 Z (pc + 1) L st (sw.set k (.inl (1, n, .inl (upd f i.toNatClampNeg (vp_nar .boolean x))))) cu su) : gv_G ε R M n0 Z pc L (.int x :: .int i :: .ref k :: st) sw cu su := by
  intro p e s m args below meth c C H locs ls I
  exact va_zast (D := ε.2.1) C.1 C.2.1 C.2.2.2.2.2.2.2.2.1.1 I.1 (gv_D I.2.2.2.2) I.2.1 k 1 (gv_w_at hk) rfl hi hd (fun H1 locs1 hP hD hS => kk p e s m args below meth c C H1 locs1 ls (gv_stored I.2.2.1 I.2.2.2.1 I.2.2.2.2 hP hS))
theorem gv_aastore {k n v : Nat} {fs : List Value} {f : Nat → Option Nat} {i : Int32} (hd : decode M.2.1 pc = .ok (.aastore, 1)) (hk : sw[k]? = some (.inl (2, n, .inr (.inr (.inr (.inr f)))))) (hi : vp_in i n) (hv : sw[v]? = some (.inr (4, fs))) (kk : gv_G ε R M n0 Z (pc + 1) L st (sw.set k (.inl (2, n, .inr (.inr (.inr (.inr (va_up f i.toNatClampNeg (some v)))))))) cu su) : gv_G ε R M n0 Z pc L (.ref v :: .int i :: .ref k :: st) sw cu su := by
  intro p e s m args below meth c C H locs ls I
  refine va_astq (D := ε.2.1) C.1 C.2.1 C.2.2.2.2.2.2.2.2.1.1 I.1 (gv_D I.2.2.2.2) I.2.1 k 2 v 4 (r := (RX4, TX4, 5)) (gv_w_at hk) rfl (gv_w_at hv) rfl hi hd (fun H1 locs1 hP hD hS => kk p e s m args below meth c C H1 locs1 ls (gv_stored I.2.2.1 I.2.2.2.1 I.2.2.2.2 ?_ hS))
  have e2 : gv_e ε (.inl (2, n, .inr (.inr (.inr (.inr (va_up f i.toNatClampNeg (some v))))))) = .inl (ε.2.2.1 2, n, .inr (.inr (.inr (.inr (va_up (fun j => (f j).map (gv_as ε)) i.toNatClampNeg (some (gv_as ε v))))))) := by
    show Sum.inl (ε.2.2.1 2, n, Sum.inr (Sum.inr (Sum.inr (Sum.inr (fun j => (va_up f i.toNatClampNeg (some v) j).map (gv_as ε)))))) = _
    congr 7
    funext j
    unfold va_up
    split <;> rfl
  rw [e2]
  exact hP
/-! the arrays that nobody writes -/
theorem gv_getstatic {idx j : Nat} (hd : decode M.2.1 pc = .ok (.getstatic idx, 3)) (hj : j < 3) (hw : Cond.fieldLink M.1.cls idx RX7 (gv_nm j) "[I" ∈ gv_W) (kk : gv_G ε R M n0 Z (pc + 3) L (.ref (1000 + j) :: st) sw cu su) : gv_G ε R M n0 Z pc L st sw cu su := by
  intro p e s m args below meth c C H locs ls I
  refine va_gets C.1 C.2.1 (C.2.2.2.2.2.2.2.2.1.2.2.2.2.1 j hj) I.2.1 C.2.2.2.2.1 (C.2.2.2.2.2.1 _ hw) (fun _ h => h) hd ?_
  have := kk p e s m args below meth c C H locs ls I
  have e3 : gv_v ε (.ref (1000 + j)) = .ref (ε.2.2.2.2.1 j) := by
    show Value.ref (gv_as ε (1000 + j)) = _
    unfold gv_as
    rw [if_neg (by omega), Nat.add_sub_cancel_left]
  rw [List.map_cons, e3] at this
  exact this
theorem gv_xload {j : Nat} {i : Int32} (hd : decode M.2.1 pc = .ok (.iaload, 1)) (hj : j < 4) (hi : vp_in i (gv_x ε j).1) (kk : gv_G ε R M n0 Z (pc + 1) L (.int ((gv_x ε j).2 i.toNatClampNeg) :: st) sw cu su) : gv_G ε R M n0 Z pc L (.int i :: .ref (1000 + j) :: st) sw cu su := by
  intro p e s m args below meth c C H locs ls I
  have e3 : gv_v ε (.ref (1000 + j)) = .ref (ε.2.2.2.2.1 j) := by
    show Value.ref (gv_as ε (1000 + j)) = _
    unfold gv_as
    rw [if_neg (by omega), Nat.add_sub_cancel_left]
  rw [List.map_cons, List.map_cons, e3]
  exact va_ti C.1 C.2.1 (C.2.2.2.2.2.2.2.2.1.2.2.2.2.2 j hj) I.2.1 hi rfl hd (kk p e s m args below meth c C H locs ls I)
theorem gv_xlen {j : Nat} (hd : decode M.2.1 pc = .ok (.arraylength, 1)) (hj : j < 4) (kk : gv_G ε R M n0 Z (pc + 1) L (.int (nI (gv_x ε j).1) :: st) sw cu su) : gv_G ε R M n0 Z pc L (.ref (1000 + j) :: st) sw cu su := by
  intro p e s m args below meth c C H locs ls I
  have e3 : gv_v ε (.ref (1000 + j)) = .ref (ε.2.2.2.2.1 j) := by
    show Value.ref (gv_as ε (1000 + j)) = _
    unfold gv_as
    rw [if_neg (by omega), Nat.add_sub_cancel_left]
  rw [List.map_cons, e3]
  exact va_tlen C.1 C.2.1 (C.2.2.2.2.2.2.2.2.1.2.2.2.2.2 j hj) I.2.1 rfl hd (kk p e s m args below meth c C H locs ls I)
end GH
end
section
/-! what is made; calls; returns -/
section GN
variable {ε : gv_E} {R : Room} {M : gv_MR} {n0 : Nat} {Z : State → List Frame → Array Value → State → Prop} {pc : Nat} {L : List (Option Value)} {st : List Value} {sw : List va_E} {cu su : Nat}
/-- a new cell comes to stand at the next place -/
theorem gv_next {s : State} {H1 : Heap} {q : Nat} {x : va_E} (h1 : s.heap.size = ε.2.2.2.1 + n0) (h2 : sw.length = n0 + cu) (h3 : sw.length < 1000) (hP : va_P ε.2.1 vwCl (gv_w ε sw ++ [(q, x)]) H1) (hD : va_D (gv_A ε) (gv_w ε sw ++ [(q, x)])) (hz : H1.size ≤ s.heap.size + (cu + 1)) : q = gv_as ε sw.length := by
  have hat : (gv_w ε sw ++ [(q, x)])[sw.length]? = some (q, x) := by
    rw [List.getElem?_append_right (by rw [gv_w_len]; exact Nat.le_refl _), gv_w_len, Nat.sub_self]
    rfl
  have g1 : q < H1.size := (hP _ _ hat).lt
  have g2 : ε.2.2.2.1 ≤ q := hD.2 _ _ hat
  rw [gv_as_lt h3]
  rcases Nat.lt_or_ge q (ε.2.2.2.1 + sw.length) with z | z
  · exfalso
    have hj : q - ε.2.2.2.1 < sw.length := by omega
    have hat2 : (gv_w ε sw ++ [(q, x)])[q - ε.2.2.2.1]? = some (gv_as ε (q - ε.2.2.2.1), gv_e ε sw[q - ε.2.2.2.1]) := by
      rw [List.getElem?_append_left (by rw [gv_w_len]; exact hj)]
      exact gv_w_at (List.getElem?_eq_getElem hj)
    have := hD.1 _ _ _ _ hat2 hat (by show gv_as ε (q - ε.2.2.2.1) = q; rw [gv_as_lt (by omega)]; omega)
    omega
  · omega
def gv_N (own : String) (idx ci : Nat) (fs : List Value) : Prop := ∃ (C : String) (T : u_T) (N : Nat) (ty : Nat → FieldType), vwCl[ci]? = some (C, T, N) ∧ (∀ w ∈ u_ws C T N, w ∈ gv_W) ∧ (∀ k, k < N → parseFieldDescriptor (T k).2.2.1 = some (ty k)) ∧ Cond.classLink own idx C ∈ gv_W ∧ Cond.instantiable C N ∈ gv_W ∧ Cond.initialized C ∈ gv_W ∧ (∀ j, j < N → defaultValue (ty j) = vp_V fs j) ∧ fs.length = N
theorem gv_new {idx ci : Nat} {fs : List Value} (hd : decode M.2.1 pc = .ok (.new idx, 3)) (hw : gv_N M.1.cls idx ci fs) (hfs : fs.map (gv_v ε) = fs) (hlen : sw.length < 1000) (hc : cu + 1 ≤ R.cells) (hs : su + fs.length ≤ R.slots) (kk : gv_G ε R M n0 Z (pc + 3) L (.ref sw.length :: st) (sw ++ [.inr (ci, fs)]) (cu + 1) (su + fs.length)) : gv_G ε R M n0 Z pc L st sw cu su := by
  intro p e s m args below meth c C H locs ls I
  obtain ⟨Cn, T, N, ty, h1, h2, h3, h4, h5, h6, h7, h8⟩ := hw
  subst h8
  refine va_new (D := ε.2.1) C.1 C.2.1 C.2.2.2.2.2.1 h2 ty h3 C.2.2.2.2.1 (C.2.2.2.2.2.1 _ h4) (C.2.2.2.2.2.1 _ h5) (C.2.2.2.2.2.1 _ h6) C.2.2.2.2.2.2.2.2.1.1 I.1 (gv_D I.2.2.2.2) I.2.1 (fun q hq => ?_) h1 h7 hc hs hd (fun q H1 hP hD hS => ?_)
  · show ε.2.2.2.1 ≤ q
    have := C.2.2.2.2.2.2.2.2.2
    omega
  · intro T0 hT X
    have hq := gv_next C.2.2.2.2.2.2.2.2.2 I.2.2.2.1 hlen hP hD (by rw [← hT]; exact X.heapSize)
    subst hq
    refine kk p e s m args below meth c C H1 locs ls ⟨?_, hS, I.2.2.1, by rw [List.length_append]; show sw.length + 1 = _; rw [I.2.2.2.1]; rfl, by rw [List.length_append]; exact hlen⟩ T0 hT X
    rw [gv_w_push]
    show va_P ε.2.1 vwCl (gv_w ε sw ++ [(gv_as ε sw.length, .inr (ci, fs.map (gv_v ε)))]) H1
    rw [hfs]
    exact hP
theorem gv_newint {n : Int32} {N : Nat} (hd : decode M.2.1 pc = .ok (.newarray .int, 2)) (hw : Cond.arrayClass .int ∈ gv_W) (hn : ¬ n < 0) (hN : n.toNatClampNeg = N) (hb : N ≤ 100000) (hlen : sw.length < 1000) (hc : cu + 1 ≤ R.cells) (hs : su + N ≤ R.slots) (kk : gv_G ε R M n0 Z (pc + 2) L (.ref sw.length :: st) (sw ++ [.inl (0, N, .inl (fun _ => 0))]) (cu + 1) (su + N)) : gv_G ε R M n0 Z pc L (.int n :: st) sw cu su := by
  intro p e s m args below meth c C H locs ls I
  refine va_newa (D := ε.2.1) (atype := .int) (ty := .int) (a0 := (N, .inl (fun _ => 0))) C.1 C.2.1 (C.2.2.2.2.2.1 _ hw) rfl C.2.2.2.2.2.2.2.2.1.1 I.1 (gv_D I.2.2.2.2) I.2.1 (fun q hq => ?_) (fun cA => rfl) hn hN (by show N * 4 ≤ 536870912; omega) hc hs hd (fun q cA H1 hK hP hD hS => ?_)
  · show ε.2.2.2.1 ≤ q
    have := C.2.2.2.2.2.2.2.2.2
    omega
  · intro T0 hT X
    have hq := gv_next C.2.2.2.2.2.2.2.2.2 I.2.2.2.1 hlen hP hD (by rw [← hT]; exact X.heapSize)
    subst hq
    have hcA : cA = ε.2.2.1 0 := by
      have a1 : s.vm.findClass ("[" ++ FieldType.int.toString) = some cA := (hK.2 3 (cA, .int) rfl).2
      have a2 : s.vm.findClass ("[" ++ FieldType.int.toString) = some (ε.2.2.1 0) := (C.2.2.2.2.2.2.2.2.1.1.2 0 (ε.2.2.1 0, .int) rfl).2
      exact Option.some.inj (a1.symm.trans a2)
    subst hcA
    refine kk p e s m args below meth c C H1 locs ls ⟨?_, hS, I.2.2.1, by rw [List.length_append]; show sw.length + 1 = _; rw [I.2.2.2.1]; rfl, by rw [List.length_append]; exact hlen⟩ T0 hT X
    rw [gv_w_push]
    exact hP
theorem gv_newbool {n : Int32} {N : Nat} (hd : decode M.2.1 pc = .ok (.newarray .boolean, 2)) (hw : Cond.arrayClass .boolean ∈ gv_W) (hn : ¬ n < 0) (hN : n.toNatClampNeg = N) (hb : N ≤ 100000) (hlen : sw.length < 1000) (hc : cu + 1 ≤ R.cells) (hs : su + N ≤ R.slots) (kk : gv_G ε R M n0 Z (pc + 2) L (.ref sw.length :: st) (sw ++ [.inl (1, N, .inl (fun _ => 0))]) (cu + 1) (su + N)) : gv_G ε R M n0 Z pc L (.int n :: st) sw cu su := by
  intro p e s m args below meth c C H locs ls I
  refine va_newa (D := ε.2.1) (atype := .boolean) (ty := .boolean) (a0 := (N, .inl (fun _ => 0))) C.1 C.2.1 (C.2.2.2.2.2.1 _ hw) rfl C.2.2.2.2.2.2.2.2.1.1 I.1 (gv_D I.2.2.2.2) I.2.1 (fun q hq => ?_) (fun cA => rfl) hn hN (by show N * 1 ≤ 536870912; omega) hc hs hd (fun q cA H1 hK hP hD hS => ?_)
  · show ε.2.2.2.1 ≤ q
    have := C.2.2.2.2.2.2.2.2.2
    omega
  · intro T0 hT X
    have hq := gv_next C.2.2.2.2.2.2.2.2.2 I.2.2.2.1 hlen hP hD (by rw [← hT]; exact X.heapSize)
    subst hq
    have hcA : cA = ε.2.2.1 1 := by
      have a1 : s.vm.findClass ("[" ++ FieldType.boolean.toString) = some cA := (hK.2 3 (cA, .boolean) rfl).2
      have a2 : s.vm.findClass ("[" ++ FieldType.boolean.toString) = some (ε.2.2.1 1) := (C.2.2.2.2.2.2.2.2.1.1.2 1 (ε.2.2.1 1, .boolean) rfl).2
      exact Option.some.inj (a1.symm.trans a2)
    subst hcA
    refine kk p e s m args below meth c C H1 locs ls ⟨?_, hS, I.2.2.1, by rw [List.length_append]; show sw.length + 1 = _; rw [I.2.2.2.1]; rfl, by rw [List.length_append]; exact hlen⟩ T0 hT X
    rw [gv_w_push]
    exact hP
theorem gv_newrefs {idx : Nat} {n : Int32} {N : Nat} (hd : decode M.2.1 pc = .ok (.anewarray idx, 3)) (hw : Cond.classLink M.1.cls idx RX4 ∈ gv_W) (hn : ¬ n < 0) (hN : n.toNatClampNeg = N) (hb : N ≤ 100000) (hlen : sw.length < 1000) (hc : cu + 1 ≤ R.cells) (hs : su + N ≤ R.slots) (kk : gv_G ε R M n0 Z (pc + 3) L (.ref sw.length :: st) (sw ++ [.inl (2, N, .inr (.inr (.inr (.inr (fun _ => none)))))]) (cu + 1) (su + N)) : gv_G ε R M n0 Z pc L (.int n :: st) sw cu su := by
  intro p e s m args below meth c C H locs ls I
  refine va_newq (D := ε.2.1) (C := RX4) C.1 C.2.1 C.2.2.2.2.1 (C.2.2.2.2.2.1 _ hw) C.2.2.2.2.2.2.2.2.1.2.2.2.1 C.2.2.2.2.2.2.2.2.1.1 I.1 (gv_D I.2.2.2.2) I.2.1 (fun q hq => ?_) hn hN (by omega) hc hs hd (fun q cA H1 hK hP hD hS => ?_)
  · show ε.2.2.2.1 ≤ q
    have := C.2.2.2.2.2.2.2.2.2
    omega
  · intro T0 hT X
    have hq := gv_next C.2.2.2.2.2.2.2.2.2 I.2.2.2.1 hlen hP hD (by rw [← hT]; exact X.heapSize)
    subst hq
    have hcA : cA = ε.2.2.1 2 := by
      obtain ⟨-, -, -, -, -, a1⟩ := (hK.2 3 (cA, .object RX4) rfl).2
      obtain ⟨-, -, -, -, -, a2⟩ := (C.2.2.2.2.2.2.2.2.1.1.2 2 (ε.2.2.1 2, .object RX4) rfl).2
      exact Option.some.inj (a1.symm.trans a2)
    subst hcA
    refine kk p e s m args below meth c C H1 locs ls ⟨?_, hS, I.2.2.1, by rw [List.length_append]; show sw.length + 1 = _; rw [I.2.2.2.1]; rfl, by rw [List.length_append]; exact hlen⟩ T0 hT X
    rw [gv_w_push]
    exact hP
theorem gv_arraycopy {idx k0 k1 m0 m1 : Nat} {f g : Nat → Int32} {sp dp n : Int32} (hd : decode M.2.1 pc = .ok (.invokestatic idx, 3)) (hw : Cond.methodLink M.1.cls idx arraycopyName ∈ gv_W ∧ Cond.native arraycopyName ∈ gv_W ∧ Cond.static arraycopyName ∈ gv_W ∧ Cond.initialized "java/lang/System" ∈ gv_W) (h0 : sw[k0]? = some (.inl (0, m0, .inl f))) (h1 : sw[k1]? = some (.inl (0, m1, .inl g))) (q1 : ¬ sp < 0) (q2 : ¬ dp < 0) (q3 : ¬ n < 0) (q4 : sp.toNatClampNeg + n.toNatClampNeg ≤ m0) (q5 : dp.toNatClampNeg + n.toNatClampNeg ≤ m1) (hR : 1 ≤ R.frames ∧ 41 ≤ R.locals) (hst : (st.map (fun v => v.category)).sum ≤ 8)
    (kk : gv_G ε R M n0 Z (pc + 3) L st (sw.set k1 (.inl (0, m1, .inl (va_cpy f g sp.toNatClampNeg dp.toNatClampNeg n.toNatClampNeg)))) cu su) : gv_G ε R M n0 Z pc L (.int n :: .int dp :: .ref k1 :: .int sp :: .ref k0 :: st) sw cu su := by
  intro p e s m args below meth c C H locs ls I
  refine va_copyi (D := ε.2.1) (ty := .int) C.1 C.2.1 (by rw [C.2.2.2.1]; exact I.2.2.1.1.1.symm) C.2.2.2.2.1 (C.2.2.2.2.2.1 _ hw.1) (C.2.2.2.2.2.1 _ hw.2.1) (C.2.2.2.2.2.1 _ hw.2.2.1) (C.2.2.2.2.2.1 _ hw.2.2.2) C.2.2.2.2.2.2.2.2.1.1 I.1 (gv_D I.2.2.2.2) I.2.1 k0 k1 0 0 (gv_w_at h0) (gv_w_at h1) rfl rfl rfl q1 q2 q3 q4 q5 (fun _ _ => rfl) hR.1 ?_ hd (fun H1 locs1 hP hD hS => kk p e s m args below meth c C H1 locs1 ls (gv_stored I.2.2.1 I.2.2.2.1 I.2.2.2.2 hP hS))
  have e1 : ((st.map (gv_v ε)).map fun v => v.category) = st.map (fun v => v.category) := by
    rw [List.map_map]
    exact List.map_congr_left (fun v _ => gv_cat ε v)
  rw [e1]
  have e2 : nativeFrameWords "java/lang/System" "arraycopy" 5 ≤ 20 := by decide +kernel
  omega
end GN
end
section
/-! a method's contract, calls, returns -/
def gv_rm (d : Nat) (M : gv_MR) : Room := { frames := d, cells := M.2.2.2.2.1, slots := M.2.2.2.2.2, locals := 41 * d }
def gv_ws (M : gv_MR) : List Cond := .code M.1 M.2.1 M.2.2.1 M.2.2.2.1 :: gv_W
def gv_Qc (ε : gv_E) (n1 : Nat) (Qs : Option Value → List va_E → Prop) : Array Value → State → Outcome → State → Prop := fun _ s oc t => (∃ (r : Option Value) (sw' : List va_E), oc = .returned (r.map (gv_v ε)) ∧ Qs r sw' ∧ va_P ε.2.1 vwCl (gv_w ε sw') t.heap ∧ sw'.length = n1 ∧ sw'.length ≤ 1000) ∧ va_F (gv_A ε) s t
def gv_Pc (ε : gv_E) (As : List Value) (sw : List va_E) : Array Value → State → Prop := fun v U => v = (As.map (gv_v ε)).toArray ∧ gv_X ε U ∧ U.heap.size = ε.2.2.2.1 + sw.length ∧ va_P ε.2.1 vwCl (gv_w ε sw) U.heap ∧ sw.length ≤ 1000
def gv_S (ε : gv_E) (d : Nat) (M : gv_MR) (As : List Value) (sw : List va_E) (Qs : Option Value → List va_E → Prop) : Prop := Met ε.1 M.1 (gv_ws M) (gv_rm d M) (gv_Pc ε As sw) (gv_Qc ε (sw.length + M.2.2.2.2.1) Qs) M.2.2.2.2.1 M.2.2.2.2.2 (gv_A ε)
def gv_Z (ε : gv_E) (M : gv_MR) (n0 : Nat) (Qs : Option Value → List va_E → Prop) : State → List Frame → Array Value → State → Prop := fun s below args => MQ below (gv_Qc ε (n0 + M.2.2.2.2.1) Qs) args s M.2.2.2.2.1 M.2.2.2.2.2 (gv_A ε)
/-- the walk of a method at depth d -/
abbrev gv_M (ε : gv_E) (d : Nat) (M : gv_MR) (n0 : Nat) (Qs : Option Value → List va_E → Prop) := gv_G ε (gv_rm d M) M n0 (gv_Z ε M n0 Qs)
theorem gv_args_mem (vs : List Value) (h : ∀ v ∈ vs, v.category = 1) : ∀ (i j : Nat) (v : Value), vs[j]? = some v → (i + j, v) ∈ lv_args i vs := by
  induction vs with
  | nil => intro i j v hv; cases hv
  | cons w ws ih =>
    intro i j v hv
    have hw : ¬ w.category = 2 := by rw [h w List.mem_cons_self]; decide
    simp only [lv_args, if_neg hw]
    cases j with
    | zero =>
      cases hv
      exact List.mem_cons_self
    | succ j =>
      refine List.mem_cons_of_mem _ ?_
      have := ih (fun v hv => h v (List.mem_cons_of_mem _ hv)) (i + 1) j v hv
      rwa [show i + 1 + j = i + (j + 1) by omega] at this
theorem gv_sl_len (vs : List Value) (h : ∀ v ∈ vs, v.category = 1) : (lg_sl vs).length = vs.length := by
  induction vs with
  | nil => rfl
  | cons w ws ih =>
    have hw : ¬ w.category = 2 := by rw [h w List.mem_cons_self]; decide
    have : lg_sl (w :: ws) = .val w :: lg_sl ws := by simp [lg_sl, hw]
    rw [this, List.length_cons, List.length_cons, ih (fun v hv => h v (List.mem_cons_of_mem _ hv))]
def gv_L0 (As : List Value) (n : Nat) : List (Option Value) := As.map some ++ List.replicate (n - As.length) none
theorem gv_entry {ε : gv_E} {As : List Value} {n : Nat} (h : ∀ v ∈ As, v.category = 1) (hn : As.length ≤ n) : gv_has ε ((lg_sl (As.map (gv_v ε)) ++ List.replicate (n - (lg_sl (As.map (gv_v ε))).length) Slot.unset).toArray) n (gv_L0 As n) := by
  have h2 : ∀ v ∈ As.map (gv_v ε), v.category = 1 := by
    intro v hv
    obtain ⟨w, hw, rfl⟩ := List.mem_map.mp hv
    rw [gv_cat]
    exact h w hw
  have e1 := lv_entry (As.map (gv_v ε)) (n := n) (by rw [gv_sl_len _ h2, List.length_map]; exact hn)
  refine ⟨⟨e1.1, e1.2.1, fun q hq => ?_⟩, by simp [gv_L0]; omega⟩
  obtain ⟨v, h3, h4, -⟩ := gv_l_mem.mp hq
  have h5 : As[q.1]? = some v := by
    unfold gv_L0 at h3
    rcases Nat.lt_or_ge q.1 (As.map some).length with z | z
    · rw [List.getElem?_append_left z, List.getElem?_map] at h3
      cases h6 : As[q.1]? with
      | none => rw [h6] at h3; cases h3
      | some w =>
        rw [h6] at h3
        have : some (some w) = some (some v) := h3
        exact Option.some.inj this
    · rw [List.getElem?_append_right z, List.getElem?_replicate] at h3
      split at h3 <;> cases h3
  have := gv_args_mem _ h2 0 q.1 (gv_v ε v) (by rw [List.getElem?_map, h5]; rfl)
  rw [Nat.zero_add] at this
  have e : q = (q.1, gv_v ε v) := Prod.ext rfl h4
  rw [e]
  exact e1.2.2 _ this
/-- a method's contract out of its walk -/
theorem gv_S.intro {ε : gv_E} {d : Nat} {M : gv_MR} {As : List Value} {sw : List va_E} {Qs : Option Value → List va_E → Prop} (hy : plainName M.1.cls = true) (hc : ∀ v ∈ As, v.category = 1) (hn : As.length ≤ M.2.2.1) (k : gv_M ε d M sw.length Qs 0 (gv_L0 As M.2.2.1) [] sw 0 0) : gv_S ε d M As sw Qs := by
  refine Met.ofW (cc := M.2.1) (maxL := M.2.2.1) (ret := M.2.2.2.1) hy rfl ?_
  intro p e s m args below meth c s₁ B hml hv
  obtain ⟨rfl, hX, hz, hP, hle⟩ := hv
  have hts := atoms_spec (ws := gv_ws M) B.pre
  rw [lg_entry_eq]
  refine k p e s m _ below meth c ⟨B.exec, B.bytes, B.returns, hml, findClass_of_methodNamed B.named, fun w hw => hts w (List.mem_cons_of_mem _ hw), B.notSynchronized, fun h => (name_of_methodNamed B.named B.method).1.trans h, hX, hz⟩ s.heap [] _ ⟨hP, va_S.rf, gv_entry hc hn, rfl, hle⟩
section GR
variable {ε : gv_E} {R : Room} {M : gv_MR} {n0 d : Nat} {Qs : Option Value → List va_E → Prop} {Z : State → List Frame → Array Value → State → Prop} {pc : Nat} {L : List (Option Value)} {st : List Value} {sw : List va_E} {cu su : Nat}
theorem gv_ireturn {v : Int32} {ty : FieldType} (hd : decode M.2.1 pc = .ok (.ireturn, 1)) (hr : M.2.2.2.1 = some ty) (hn : narrow ty (.int v) = .int v) (hc : cu = M.2.2.2.2.1) (hs : su ≤ M.2.2.2.2.2) (hq : Qs (some (.int v)) sw) : gv_M ε d M n0 Qs pc L [.int v] sw cu su := by
  intro p e s m args below meth c C H locs ls I
  subst hc
  refine W.widen (k := M.2.2.2.2.1) (n := M.2.2.2.2.2) (Nat.le_refl _) hs ?_
  exact W.zret C.1 C.2.1 (C.2.2.1.trans hr) hn (fun t ht hW => ⟨⟨some (.int v), sw, rfl, hq, by rw [ht]; exact I.1, I.2.2.2.1, I.2.2.2.2⟩, I.2.1.F ht⟩) I.2.1.2.2 hd C.2.2.2.2.2.2.1
theorem gv_return (hd : decode M.2.1 pc = .ok (.return_, 1)) (hr : M.2.2.2.1 = none) (hc : cu = M.2.2.2.2.1) (hs : su ≤ M.2.2.2.2.2) (hq : Qs none sw) : gv_M ε d M n0 Qs pc L [] sw cu su := by
  intro p e s m args below meth c C H locs ls I
  subst hc
  refine W.widen (k := M.2.2.2.2.1) (n := M.2.2.2.2.2) (Nat.le_refl _) hs ?_
  exact W.vret C.1 C.2.1 (C.2.2.1.trans hr) (fun t ht hW => ⟨⟨none, sw, rfl, hq, by rw [ht]; exact I.1, I.2.2.2.1, I.2.2.2.2⟩, I.2.1.F ht⟩) I.2.1.2.2 hd C.2.2.2.2.2.2.1
theorem gv_objInit {idx k : Nat} (hd : decode M.2.1 pc = .ok (.invokespecial idx, 3)) (hw : Cond.methodLink M.1.cls idx objectInit ∈ gv_W ∧ Cond.instanceMethod objectInit ∈ gv_W ∧ Cond.code objectInit ⟨#[0xb1]⟩ 1 none ∈ gv_W) (hR : 1 ≤ R.frames ∧ 41 ≤ R.locals) (hst : (st.map (fun v => v.category)).sum ≤ 8) (kk : gv_G ε R M n0 Z (pc + 3) L st sw cu su) : gv_G ε R M n0 Z pc L (.ref k :: st) sw cu su := by
  intro p e s m args below meth c C H locs ls I
  refine W.objInit C.1 C.2.1 C.2.2.2.2.1 (C.2.2.2.2.2.1 _ hw.1) (C.2.2.2.2.2.1 _ hw.2.1) (C.2.2.2.2.2.1 _ hw.2.2) rfl (by rw [C.2.2.2.1]; exact I.2.2.1.1.1) rfl hd hR.1 ?_ (kk p e s m args below meth c C H locs ls I)
  have e1 : ((st.map (gv_v ε)).map fun v => v.category) = st.map (fun v => v.category) := by
    rw [List.map_map]
    exact List.map_congr_left (fun v _ => gv_cat ε v)
  have e2 := lv_room (m := m) (pc := pc) (ls := ls) (rest := (Value.ref k :: st).map (gv_v ε)) (st := st.map (gv_v ε)) (by rw [e1]; exact hst)
  have := hR.2
  exact Nat.le_trans (Nat.add_le_add_right e2 12) (by omega)
/-- what a call links -/
def gv_cB (M' : gv_MR) (n : Nat) : Prop := Cond.code M'.1 M'.2.1 M'.2.2.1 M'.2.2.2.1 ∈ gv_W ∧ Cond.initialized M'.1.cls ∈ gv_W ∧ M'.2.2.1 ≤ 22 ∧ M'.1.cls ≠ "java/lang/invoke/MethodHandle" ∧ M'.1.cls ≠ "java/lang/invoke/VarHandle" ∧ (parseMethodDescriptor M'.1.desc).map (fun d => d.parameters.length) = some n
def gv_cV (own : String) (idx : Nat) (M' : gv_MR) (n : Nat) : Prop := gv_cB M' n ∧ Cond.methodLink own idx M'.1 ∈ gv_W ∧ Cond.instanceMethod M'.1 ∈ gv_W ∧ Cond.selects M'.1.cls M'.1 M'.1 ∈ gv_W
def gv_cS (own : String) (idx : Nat) (M' : gv_MR) (n : Nat) : Prop := gv_cB M' n ∧ Cond.methodLink own idx M'.1 ∈ gv_W ∧ Cond.static M'.1 ∈ gv_W
def gv_cI (own : String) (idx : Nat) (M' : gv_MR) (n : Nat) : Prop := gv_cB M' n ∧ Cond.methodLink own idx M'.1 ∈ gv_W ∧ Cond.instanceMethod M'.1 ∈ gv_W ∧ M'.1.name = "<init>" ∧ M'.2.2.2.1 = none
def gv_cSN (own : String) (idx : Nat) (M' : gv_MR) (n : Nat) : Prop := gv_cB M' n ∧ (∃ host, Cond.methodLinkNest own idx M'.1 host ∈ lw_tbl) ∧ Cond.static M'.1 ∈ gv_W
def gv_cIN (own : String) (idx : Nat) (M' : gv_MR) (n : Nat) : Prop := gv_cB M' n ∧ (∃ host, Cond.methodLinkNest own idx M'.1 host ∈ lw_tbl) ∧ Cond.instanceMethod M'.1 ∈ gv_W ∧ M'.1.name = "<init>" ∧ M'.2.2.2.1 = none
theorem gv_good {M' : gv_MR} {n : Nat} (h : gv_cB M' n) : GoodIn gv_W (gv_ws M') := by
  intro w hw
  have hm : w ∈ gv_W := by
    rcases List.mem_cons.mp hw with rfl | q
    · exact h.1
    · exact q
  exact ⟨hm, good_of_word (List.mem_filter.mp hm).2⟩
theorem gv_Pc.blind {As : List Value} : FrameBlind (gv_Pc ε As sw) := by
  intro a U g mk h
  exact ⟨h.1, h.2.1.blind, h.2.2.1, h.2.2.2.1, h.2.2.2.2⟩
/-- what the callee finds -/
theorem gv_pre {p : Program} {s : State} {m : MethodId} {args : Array Value} {meth : Method} {c : Code} {H : Heap} {locs : List Loc} {ls : Array Slot} {As : List Value} (C : gv_C ε M n0 p s m args meth c) (I : gv_I ε M n0 s H locs ls L sw cu) (hz : H.size = ε.2.2.2.1 + sw.length) : ∀ U : State, U.heap = H → s.WarmedH U.vm → gv_Pc ε As sw (As.map (gv_v ε)).toArray U := by
  intro U hU hW
  refine ⟨rfl, C.2.2.2.2.2.2.2.2.1.moved hW (fun a h1 h2 => ?_), by rw [hU]; exact hz, by rw [hU]; exact I.1, I.2.2.2.2⟩
  rw [hU]
  exact I.2.1.2.1 a h1 h2
theorem gv_size {p : Program} {e : Env} {s T : State} {m : MethodId} {args : Array Value} {below : List Frame} {meth : Method} {c : Code} {H : Heap} {locs : List Loc} {ls : Array Slot} (C : gv_C ε M n0 p s m args meth c) (I : gv_I ε M n0 s H locs ls L sw cu) (hT : T.heap = H) (X : Stand p ε.1 e R s m args below meth c T locs cu su) : H.size = ε.2.2.2.1 + sw.length := by
  have h1 : H.size ≤ s.heap.size + cu := by rw [← hT]; exact X.heapSize
  have h2 := C.2.2.2.2.2.2.2.2.2
  have h3 := I.2.2.2.1
  have h4 := I.2.1.1
  have h5 : ε.2.2.2.1 + sw.length ≤ H.size := by
    rcases Nat.eq_zero_or_pos sw.length with z | z
    · omega
    · have hk : sw.length - 1 < sw.length := by omega
      have := (I.1 _ _ (gv_w_at (List.getElem?_eq_getElem hk))).lt
      have e1 : gv_as ε (sw.length - 1) = ε.2.2.2.1 + (sw.length - 1) := gv_as_lt (by have := I.2.2.2.2; omega)
      have e2 : gv_as ε (sw.length - 1) < H.size := this
      omega
  omega
/-- behind a call -/
theorem gv_after {p : Program} {e : Env} {s : State} {m : MethodId} {args : Array Value} {below : List Frame} {meth : Method} {c : Code} {H : Heap} {locs : List Loc} {ls : Array Slot} {rest : List Value} {st0 : List Value} {mc ms : Nat} {a : Array Value} (C : gv_C ε M n0 p s m args meth c) (I : gv_I ε M n0 s H locs ls L sw cu)
    (hr : va_Run p ε.1 e R s m args below meth c H locs cu su mc ms (F0 m pc ls st0) (rest.map (gv_v ε)) (gv_Qc ε (sw.length + mc) (fun r sw' => gv_G ε R M n0 Z (pc + 3) L (r.toList ++ rest) sw' (cu + mc) (su + ms)) a) (gv_A ε)) : W p ε.1 e R s m args below meth c H locs cu su (Z s below args) (F0 m pc ls st0) := by
  intro T hT X
  obtain ⟨v, s0, t, T', L2, h0, X', hL, e1, e2, ⟨⟨r, sw', hv, hG, hP, hn1, hn2⟩, hz, hk⟩, stp⟩ := hr T hT X
  cases hv
  rw [h0] at hz hk
  have I' : gv_I ε M n0 s T'.heap (locs ++ L2) ls L sw' (cu + mc) := by
    refine ⟨by rw [e1]; exact hP, ⟨Nat.le_trans I.2.1.1 (by rw [e1]; exact hz), fun q h1 h2 => ?_, fun q hq => ?_⟩, I.2.2.1, by rw [hn1, I.2.2.2.1]; omega, hn2⟩
    · rw [e1, hk q (Nat.lt_of_lt_of_le h1 I.2.1.1) h2]
      exact I.2.1.2.1 q h1 h2
    · rcases List.mem_append.mp hq with h | h
      · exact I.2.1.2.2 q h
      · exact hL q h
  have w := hG p e s m args below meth c C T'.heap (locs ++ L2) ls I' T' rfl X'
  obtain ⟨t2, a1, b1⟩ := w
  refine ⟨t2, stp t2 ?_, b1⟩
  have e4 : (r.toList ++ rest).map (gv_v ε) = (r.map (gv_v ε)).toList ++ rest.map (gv_v ε) := by cases r <;> simp
  rw [e4] at a1
  exact a1
theorem gv_invV {M' : gv_MR} {idx k ci n : Nat} {fs As : List Value} {rest : List Value} {C0 : String} {T0 : u_T} {N0 : Nat} (hd : decode M.2.1 pc = .ok (.invokevirtual idx, 3)) (hw : gv_cV M.1.cls idx M' n) (hn : As.length = n) (hst : st = As.reverse ++ .ref k :: rest) (hthis : sw[k]? = some (.inr (ci, fs))) (hci : vwCl[ci]? = some (C0, T0, N0)) (hC0 : C0 = M'.1.cls) (hR1 : d + 1 ≤ R.frames) (hR2 : 41 * d + 41 ≤ R.locals) (hR3 : cu + M'.2.2.2.2.1 ≤ R.cells) (hR4 : su + M'.2.2.2.2.2 ≤ R.slots) (h8 : (rest.map (fun v => v.category)).sum ≤ 8)
    (hS : gv_S ε d M' (.ref k :: As) sw (fun r sw' => gv_G ε R M n0 Z (pc + 3) L (r.toList ++ rest) sw' (cu + M'.2.2.2.2.1) (su + M'.2.2.2.2.2))) : gv_G ε R M n0 Z pc L st sw cu su := by
  intro p e s m args below meth c C H locs ls I
  subst hst
  subst hC0
  intro T hT X
  have hz := gv_size C I hT X
  obtain ⟨hB, hw1, hw2, hw3⟩ := hw
  obtain ⟨hb1, hb2, hb3, hb4, hb5, hb6⟩ := id hB
  have hts := C.2.2.2.2.2.1
  have e1 : ((rest.map (gv_v ε)).map fun v => v.category) = rest.map (fun v => v.category) := by
    rw [List.map_map]
    exact List.map_congr_left (fun v _ => gv_cat ε v)
  have e2 : (As.reverse ++ .ref k :: rest).map (gv_v ε) = (As.map (gv_v ε)).reverse ++ .ref (gv_as ε k) :: rest.map (gv_v ε) := by
    rw [List.map_append, List.map_reverse]
    rfl
  have cb : CallB R s args M.1.cls idx M'.1 M'.2.1 M'.2.2.1 M'.2.2.2.1 (gv_ws M') (gv_rm d M') M'.2.2.2.2.1 M'.2.2.2.2.2 n := callB_of n hts (gv_good hB) rfl rfl rfl (hts _ hb2) (hts _ hw1) ⟨hb4, hb5, hb6⟩ ⟨hR1, by show 8 + (M'.2.2.1 + 11) + 41 * d ≤ R.locals; omega⟩
  refine gv_after (mc := M'.2.2.2.2.1) (ms := M'.2.2.2.2.2) (rest := rest) C I (va_runV (nL := M.2.2.1) (As := As.map (gv_v ε)) (b := gv_as ε k) ⟨C.1, C.2.1, C.2.2.2.1, C.2.2.2.2.1, hts⟩ hS ⟨cb, hts _ hw2, hts _ hw3⟩ ⟨gv_Pc.blind, va_recv C.2.2.2.2.2.2.2.2.1.1 I.1 hci (gv_w_at hthis), gv_pre C I hz⟩ rfl (by rw [List.length_map]; exact hn) I.2.2.1.1.1 e2 (lv_room (by rw [e1]; exact h8)) hd ⟨hR3, hR4⟩) T hT X
theorem gv_invS {M' : gv_MR} {idx n : Nat} {As : List Value} {rest : List Value} (hd : decode M.2.1 pc = .ok (.invokestatic idx, 3)) (hw : gv_cS M.1.cls idx M' n) (hn : As.length = n) (hst : st = As.reverse ++ rest) (hR1 : d + 1 ≤ R.frames) (hR2 : 41 * d + 41 ≤ R.locals) (hR3 : cu + M'.2.2.2.2.1 ≤ R.cells) (hR4 : su + M'.2.2.2.2.2 ≤ R.slots) (h8 : (rest.map (fun v => v.category)).sum ≤ 8)
    (hS : gv_S ε d M' As sw (fun r sw' => gv_G ε R M n0 Z (pc + 3) L (r.toList ++ rest) sw' (cu + M'.2.2.2.2.1) (su + M'.2.2.2.2.2))) : gv_G ε R M n0 Z pc L st sw cu su := by
  intro p e s m args below meth c C H locs ls I
  subst hst
  intro T hT X
  have hz := gv_size C I hT X
  obtain ⟨hB, hw1, hw2⟩ := hw
  obtain ⟨hb1, hb2, hb3, hb4, hb5, hb6⟩ := id hB
  have hts := C.2.2.2.2.2.1
  have e1 : ((rest.map (gv_v ε)).map fun v => v.category) = rest.map (fun v => v.category) := by
    rw [List.map_map]
    exact List.map_congr_left (fun v _ => gv_cat ε v)
  have e2 : (As.reverse ++ rest).map (gv_v ε) = (As.map (gv_v ε)).reverse ++ rest.map (gv_v ε) := by
    rw [List.map_append, List.map_reverse]
  have cb : CallB R s args M.1.cls idx M'.1 M'.2.1 M'.2.2.1 M'.2.2.2.1 (gv_ws M') (gv_rm d M') M'.2.2.2.2.1 M'.2.2.2.2.2 n := callB_of n hts (gv_good hB) rfl rfl rfl (hts _ hb2) (hts _ hw1) ⟨hb4, hb5, hb6⟩ ⟨hR1, by show 8 + (M'.2.2.1 + 11) + 41 * d ≤ R.locals; omega⟩
  refine gv_after (mc := M'.2.2.2.2.1) (ms := M'.2.2.2.2.2) (rest := rest) C I (va_runS (nL := M.2.2.1) (As := As.map (gv_v ε)) ⟨C.1, C.2.1, C.2.2.2.1, C.2.2.2.2.1, hts⟩ hS ⟨cb, hts _ hw2⟩ ⟨gv_Pc.blind, gv_pre C I hz⟩ rfl (by rw [List.length_map]; exact hn) I.2.2.1.1.1 e2 (lv_room (by rw [e1]; exact h8)) hd ⟨hR3, hR4⟩) T hT X
theorem gv_invSN {M' : gv_MR} {idx n : Nat} {As : List Value} {rest : List Value} (hd : decode M.2.1 pc = .ok (.invokestatic idx, 3)) (hw : gv_cSN M.1.cls idx M' n) (hn : As.length = n) (hst : st = As.reverse ++ rest) (hR1 : d + 1 ≤ R.frames) (hR2 : 41 * d + 41 ≤ R.locals) (hR3 : cu + M'.2.2.2.2.1 ≤ R.cells) (hR4 : su + M'.2.2.2.2.2 ≤ R.slots) (h8 : (rest.map (fun v => v.category)).sum ≤ 8)
    (hS : gv_S ε d M' As sw (fun r sw' => gv_G ε R M n0 Z (pc + 3) L (r.toList ++ rest) sw' (cu + M'.2.2.2.2.1) (su + M'.2.2.2.2.2))) : gv_G ε R M n0 Z pc L st sw cu su := by
  intro p e s m args below meth c C H locs ls I
  subst hst
  intro T hT X
  have hz := gv_size C I hT X
  obtain ⟨hB, ⟨host, hw1⟩, hw2⟩ := hw
  obtain ⟨hb1, hb2, hb3, hb4, hb5, hb6⟩ := id hB
  have hts := C.2.2.2.2.2.1
  have e1 : ((rest.map (gv_v ε)).map fun v => v.category) = rest.map (fun v => v.category) := by
    rw [List.map_map]
    exact List.map_congr_left (fun v _ => gv_cat ε v)
  have e2 : (As.reverse ++ rest).map (gv_v ε) = (As.map (gv_v ε)).reverse ++ rest.map (gv_v ε) := by
    rw [List.map_append, List.map_reverse]
  have cb : va_CN R s args M.1.cls idx M'.1 host M'.2.1 M'.2.2.1 M'.2.2.2.1 (gv_ws M') (gv_rm d M') M'.2.2.2.2.1 M'.2.2.2.2.2 n := va_cnB n hts (gv_good hB) rfl rfl rfl (C.2.2.2.2.2.2.2.2.1.2.1 _ _ _ _ hw1) (hts _ hb2) ⟨hb4, hb5, hb6⟩ ⟨hR1, by show 8 + (M'.2.2.1 + 11) + 41 * d ≤ R.locals; omega⟩
  refine gv_after (mc := M'.2.2.2.2.1) (ms := M'.2.2.2.2.2) (rest := rest) C I (va_runSN (nL := M.2.2.1) (As := As.map (gv_v ε)) ⟨C.1, C.2.1, C.2.2.2.1, C.2.2.2.2.1, hts⟩ hS ⟨cb, hts _ hw2, trivial⟩ ⟨gv_Pc.blind, gv_pre C I hz⟩ rfl (by rw [List.length_map]; exact hn) I.2.2.1.1.1 e2 (lv_room (by rw [e1]; exact h8)) hd ⟨hR3, hR4⟩) T hT X
theorem gv_invI {M' : gv_MR} {idx k n : Nat} {As : List Value} {rest : List Value} (hd : decode M.2.1 pc = .ok (.invokespecial idx, 3)) (hw : gv_cI M.1.cls idx M' n) (hn : As.length = n) (hst : st = As.reverse ++ .ref k :: rest) (hR1 : d + 1 ≤ R.frames) (hR2 : 41 * d + 41 ≤ R.locals) (hR3 : cu + M'.2.2.2.2.1 ≤ R.cells) (hR4 : su + M'.2.2.2.2.2 ≤ R.slots) (h8 : (rest.map (fun v => v.category)).sum ≤ 8)
    (hS : gv_S ε d M' (.ref k :: As) sw (fun r sw' => gv_G ε R M n0 Z (pc + 3) L (r.toList ++ rest) sw' (cu + M'.2.2.2.2.1) (su + M'.2.2.2.2.2))) : gv_G ε R M n0 Z pc L st sw cu su := by
  intro p e s m args below meth c C H locs ls I
  subst hst
  intro T hT X
  have hz := gv_size C I hT X
  obtain ⟨hB, hw1, hw2, hw3, hw4⟩ := hw
  obtain ⟨hb1, hb2, hb3, hb4, hb5, hb6⟩ := id hB
  have hts := C.2.2.2.2.2.1
  have e1 : ((rest.map (gv_v ε)).map fun v => v.category) = rest.map (fun v => v.category) := by
    rw [List.map_map]
    exact List.map_congr_left (fun v _ => gv_cat ε v)
  have e2 : (As.reverse ++ .ref k :: rest).map (gv_v ε) = (As.map (gv_v ε)).reverse ++ .ref (gv_as ε k) :: rest.map (gv_v ε) := by
    rw [List.map_append, List.map_reverse]
    rfl
  have cb : CallB R s args M.1.cls idx M'.1 M'.2.1 M'.2.2.1 none (gv_ws M') (gv_rm d M') M'.2.2.2.2.1 M'.2.2.2.2.2 n := callB_of n hts (gv_good hB) (by unfold gv_ws; rw [hw4]) rfl rfl (hts _ hb2) (hts _ hw1) ⟨hb4, hb5, hb6⟩ ⟨hR1, by show 8 + (M'.2.2.1 + 11) + 41 * d ≤ R.locals; omega⟩
  refine gv_after (mc := M'.2.2.2.2.1) (ms := M'.2.2.2.2.2) (rest := rest) C I (va_runI (nL := M.2.2.1) (As := As.map (gv_v ε)) (b := gv_as ε k) ⟨C.1, C.2.1, C.2.2.2.1, C.2.2.2.2.1, hts⟩ hS ⟨cb, hw3, hts _ hw2⟩ ⟨gv_Pc.blind, gv_pre C I hz⟩ rfl (by rw [List.length_map]; exact hn) I.2.2.1.1.1 e2 (lv_room (by rw [e1]; exact h8)) hd ⟨hR3, hR4⟩) T hT X
theorem gv_invIN {M' : gv_MR} {idx k n : Nat} {As : List Value} {rest : List Value} (hd : decode M.2.1 pc = .ok (.invokespecial idx, 3)) (hw : gv_cIN M.1.cls idx M' n) (hn : As.length = n) (hst : st = As.reverse ++ .ref k :: rest) (hR1 : d + 1 ≤ R.frames) (hR2 : 41 * d + 41 ≤ R.locals) (hR3 : cu + M'.2.2.2.2.1 ≤ R.cells) (hR4 : su + M'.2.2.2.2.2 ≤ R.slots) (h8 : (rest.map (fun v => v.category)).sum ≤ 8)
    (hS : gv_S ε d M' (.ref k :: As) sw (fun r sw' => gv_G ε R M n0 Z (pc + 3) L (r.toList ++ rest) sw' (cu + M'.2.2.2.2.1) (su + M'.2.2.2.2.2))) : gv_G ε R M n0 Z pc L st sw cu su := by
  intro p e s m args below meth c C H locs ls I
  subst hst
  intro T hT X
  have hz := gv_size C I hT X
  obtain ⟨hB, ⟨host, hw1⟩, hw2, hw3, hw4⟩ := hw
  obtain ⟨hb1, hb2, hb3, hb4, hb5, hb6⟩ := id hB
  have hts := C.2.2.2.2.2.1
  have e1 : ((rest.map (gv_v ε)).map fun v => v.category) = rest.map (fun v => v.category) := by
    rw [List.map_map]
    exact List.map_congr_left (fun v _ => gv_cat ε v)
  have e2 : (As.reverse ++ .ref k :: rest).map (gv_v ε) = (As.map (gv_v ε)).reverse ++ .ref (gv_as ε k) :: rest.map (gv_v ε) := by
    rw [List.map_append, List.map_reverse]
    rfl
  have cb : va_CN R s args M.1.cls idx M'.1 host M'.2.1 M'.2.2.1 none (gv_ws M') (gv_rm d M') M'.2.2.2.2.1 M'.2.2.2.2.2 n := va_cnB n hts (gv_good hB) (by unfold gv_ws; rw [hw4]) rfl rfl (C.2.2.2.2.2.2.2.2.1.2.1 _ _ _ _ hw1) (hts _ hb2) ⟨hb4, hb5, hb6⟩ ⟨hR1, by show 8 + (M'.2.2.1 + 11) + 41 * d ≤ R.locals; omega⟩
  refine gv_after (mc := M'.2.2.2.2.1) (ms := M'.2.2.2.2.2) (rest := rest) C I (va_runIN (nL := M.2.2.1) (As := As.map (gv_v ε)) (b := gv_as ε k) ⟨C.1, C.2.1, C.2.2.2.1, C.2.2.2.2.1, hts⟩ hS ⟨cb, hw3, hts _ hw2⟩ ⟨gv_Pc.blind, gv_pre C I hz⟩ rfl (by rw [List.length_map]; exact hn) I.2.2.1.1.1 e2 (lv_room (by rw [e1]; exact h8)) hd ⟨hR3, hR4⟩) T hT X
end GR
end
