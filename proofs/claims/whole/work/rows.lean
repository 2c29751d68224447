section
-- ===== PART A: goes FIRST, ahead of the names: the tables' words, and 'selects' of the private methods out of them =====
/-- a private method of a class that the tables say can be made, by its rows of tables_1 -/
def lw_okq (q : MethodName × Nat) : Prop := (q.1.cls ≠ "java/lang/invoke/MethodHandle" ∧ q.1.cls ≠ "java/lang/invoke/VarHandle") ∧ Cond.instantiable q.1.cls q.2 ∈ tables_1 ∧ Cond.privateMethod q.1 ∈ tables_1 ∧ Cond.instanceMethod q.1 ∈ tables_1
theorem lw_p0 : lw_okq (⟨"StrikePasses", "passesOf", "(I)I"⟩, 10) := ⟨⟨by decide +kernel, by decide +kernel⟩, List.mem_of_getElem? (i := 15) (by decide +kernel), List.mem_of_getElem? (i := 379) (by decide +kernel), List.mem_of_getElem? (i := 380) (by decide +kernel)⟩
theorem lw_p1 : lw_okq (⟨"StrikePasses", "isPlace", "(III)Z"⟩, 10) := ⟨⟨by decide +kernel, by decide +kernel⟩, List.mem_of_getElem? (i := 15) (by decide +kernel), List.mem_of_getElem? (i := 405) (by decide +kernel), List.mem_of_getElem? (i := 406) (by decide +kernel)⟩
theorem lw_p2 : lw_okq (⟨"StrikePasses", "suspects", "()I"⟩, 10) := ⟨⟨by decide +kernel, by decide +kernel⟩, List.mem_of_getElem? (i := 15) (by decide +kernel), List.mem_of_getElem? (i := 534) (by decide +kernel), List.mem_of_getElem? (i := 535) (by decide +kernel)⟩
theorem lw_p3 : lw_okq (⟨"StrikePasses", "explaining", "(II)I"⟩, 10) := ⟨⟨by decide +kernel, by decide +kernel⟩, List.mem_of_getElem? (i := 15) (by decide +kernel), List.mem_of_getElem? (i := 538) (by decide +kernel), List.mem_of_getElem? (i := 539) (by decide +kernel)⟩
theorem lw_p4 : lw_okq (⟨"StrikePasses", "unlikeNumbers", "(II)I"⟩, 10) := ⟨⟨by decide +kernel, by decide +kernel⟩, List.mem_of_getElem? (i := 15) (by decide +kernel), List.mem_of_getElem? (i := 557) (by decide +kernel), List.mem_of_getElem? (i := 558) (by decide +kernel)⟩
theorem lw_p5 : lw_okq (⟨"StrikePasses", "allDots", "()I"⟩, 10) := ⟨⟨by decide +kernel, by decide +kernel⟩, List.mem_of_getElem? (i := 15) (by decide +kernel), List.mem_of_getElem? (i := 573) (by decide +kernel), List.mem_of_getElem? (i := 574) (by decide +kernel)⟩
theorem lw_p6 : lw_okq (⟨"StrikePasses", "allPasses", "()I"⟩, 10) := ⟨⟨by decide +kernel, by decide +kernel⟩, List.mem_of_getElem? (i := 15) (by decide +kernel), List.mem_of_getElem? (i := 577) (by decide +kernel), List.mem_of_getElem? (i := 578) (by decide +kernel)⟩
theorem lw_p7 : lw_okq (⟨"StrikePassesModel", "blanks", "()V"⟩, 20) := ⟨⟨by decide +kernel, by decide +kernel⟩, List.mem_of_getElem? (i := 581) (by decide +kernel), List.mem_of_getElem? (i := 666) (by decide +kernel), List.mem_of_getElem? (i := 667) (by decide +kernel)⟩
theorem lw_p8 : lw_okq (⟨"StrikePassesModel", "readsItem", "()Z"⟩, 20) := ⟨⟨by decide +kernel, by decide +kernel⟩, List.mem_of_getElem? (i := 581) (by decide +kernel), List.mem_of_getElem? (i := 670) (by decide +kernel), List.mem_of_getElem? (i := 671) (by decide +kernel)⟩
theorem lw_p9 : lw_okq (⟨"StrikePassesModel", "next", "()V"⟩, 20) := ⟨⟨by decide +kernel, by decide +kernel⟩, List.mem_of_getElem? (i := 581) (by decide +kernel), List.mem_of_getElem? (i := 674) (by decide +kernel), List.mem_of_getElem? (i := 675) (by decide +kernel)⟩
theorem lw_p10 : lw_okq (⟨"StrikePassesModel", "isFigure", "(I)Z"⟩, 20) := ⟨⟨by decide +kernel, by decide +kernel⟩, List.mem_of_getElem? (i := 581) (by decide +kernel), List.mem_of_getElem? (i := 678) (by decide +kernel), List.mem_of_getElem? (i := 679) (by decide +kernel)⟩
theorem lw_p11 : lw_okq (⟨"StrikePassesModel", "number", "(III)Z"⟩, 20) := ⟨⟨by decide +kernel, by decide +kernel⟩, List.mem_of_getElem? (i := 581) (by decide +kernel), List.mem_of_getElem? (i := 682) (by decide +kernel), List.mem_of_getElem? (i := 683) (by decide +kernel)⟩
theorem lw_p12 : lw_okq (⟨"StrikePassesModel", "stops", "()Z"⟩, 20) := ⟨⟨by decide +kernel, by decide +kernel⟩, List.mem_of_getElem? (i := 581) (by decide +kernel), List.mem_of_getElem? (i := 686) (by decide +kernel), List.mem_of_getElem? (i := 687) (by decide +kernel)⟩
theorem lw_p13 : lw_okq (⟨"StrikePassesModel", "readsLetter", "()Z"⟩, 20) := ⟨⟨by decide +kernel, by decide +kernel⟩, List.mem_of_getElem? (i := 581) (by decide +kernel), List.mem_of_getElem? (i := 690) (by decide +kernel), List.mem_of_getElem? (i := 691) (by decide +kernel)⟩
theorem lw_p14 : lw_okq (⟨"StrikePassesModel", "readsLine", "()Z"⟩, 20) := ⟨⟨by decide +kernel, by decide +kernel⟩, List.mem_of_getElem? (i := 581) (by decide +kernel), List.mem_of_getElem? (i := 694) (by decide +kernel), List.mem_of_getElem? (i := 695) (by decide +kernel)⟩
theorem lw_p15 : lw_okq (⟨"StrikePassesModel", "isLine", "(I)Z"⟩, 20) := ⟨⟨by decide +kernel, by decide +kernel⟩, List.mem_of_getElem? (i := 581) (by decide +kernel), List.mem_of_getElem? (i := 706) (by decide +kernel), List.mem_of_getElem? (i := 707) (by decide +kernel)⟩
def lw_privs_1 : List (MethodName × Nat) := [(⟨"StrikePasses", "passesOf", "(I)I"⟩, 10), (⟨"StrikePasses", "isPlace", "(III)Z"⟩, 10), (⟨"StrikePasses", "suspects", "()I"⟩, 10), (⟨"StrikePasses", "explaining", "(II)I"⟩, 10), (⟨"StrikePasses", "unlikeNumbers", "(II)I"⟩, 10), (⟨"StrikePasses", "allDots", "()I"⟩, 10), (⟨"StrikePasses", "allPasses", "()I"⟩, 10), (⟨"StrikePassesModel", "blanks", "()V"⟩, 20), (⟨"StrikePassesModel", "readsItem", "()Z"⟩, 20), (⟨"StrikePassesModel", "next", "()V"⟩, 20), (⟨"StrikePassesModel", "isFigure", "(I)Z"⟩, 20), (⟨"StrikePassesModel", "number", "(III)Z"⟩, 20), (⟨"StrikePassesModel", "stops", "()Z"⟩, 20), (⟨"StrikePassesModel", "readsLetter", "()Z"⟩, 20), (⟨"StrikePassesModel", "readsLine", "()Z"⟩, 20), (⟨"StrikePassesModel", "isLine", "(I)Z"⟩, 20)]
theorem lw_r1 : ∀ q ∈ lw_privs_1, lw_okq q := List.forall_mem_cons.mpr ⟨lw_p0, List.forall_mem_cons.mpr ⟨lw_p1, List.forall_mem_cons.mpr ⟨lw_p2, List.forall_mem_cons.mpr ⟨lw_p3, List.forall_mem_cons.mpr ⟨lw_p4, List.forall_mem_cons.mpr ⟨lw_p5, List.forall_mem_cons.mpr ⟨lw_p6, List.forall_mem_cons.mpr ⟨lw_p7, List.forall_mem_cons.mpr ⟨lw_p8, List.forall_mem_cons.mpr ⟨lw_p9, List.forall_mem_cons.mpr ⟨lw_p10, List.forall_mem_cons.mpr ⟨lw_p11, List.forall_mem_cons.mpr ⟨lw_p12, List.forall_mem_cons.mpr ⟨lw_p13, List.forall_mem_cons.mpr ⟨lw_p14, List.forall_mem_cons.mpr ⟨lw_p15, fun _ h => absurd h List.not_mem_nil⟩⟩⟩⟩⟩⟩⟩⟩⟩⟩⟩⟩⟩⟩⟩⟩
theorem lw_p16 : lw_okq (⟨"StrikePassesModel", "dotsAt", "(II)I"⟩, 20) := ⟨⟨by decide +kernel, by decide +kernel⟩, List.mem_of_getElem? (i := 581) (by decide +kernel), List.mem_of_getElem? (i := 714) (by decide +kernel), List.mem_of_getElem? (i := 715) (by decide +kernel)⟩
theorem lw_p17 : lw_okq (⟨"StrikePassesModel", "lays", "(II)I"⟩, 20) := ⟨⟨by decide +kernel, by decide +kernel⟩, List.mem_of_getElem? (i := 581) (by decide +kernel), List.mem_of_getElem? (i := 722) (by decide +kernel), List.mem_of_getElem? (i := 723) (by decide +kernel)⟩
theorem lw_p18 : lw_okq (⟨"StrikePassesModel", "remembers", "()V"⟩, 20) := ⟨⟨by decide +kernel, by decide +kernel⟩, List.mem_of_getElem? (i := 581) (by decide +kernel), List.mem_of_getElem? (i := 726) (by decide +kernel), List.mem_of_getElem? (i := 727) (by decide +kernel)⟩
theorem lw_p19 : lw_okq (⟨"StrikePassesModel", "passesOf", "(I)I"⟩, 20) := ⟨⟨by decide +kernel, by decide +kernel⟩, List.mem_of_getElem? (i := 581) (by decide +kernel), List.mem_of_getElem? (i := 756) (by decide +kernel), List.mem_of_getElem? (i := 757) (by decide +kernel)⟩
theorem lw_p20 : lw_okq (⟨"StrikePassesModel", "columnsIn", "(III)I"⟩, 20) := ⟨⟨by decide +kernel, by decide +kernel⟩, List.mem_of_getElem? (i := 581) (by decide +kernel), List.mem_of_getElem? (i := 760) (by decide +kernel), List.mem_of_getElem? (i := 761) (by decide +kernel)⟩
theorem lw_p21 : lw_okq (⟨"StrikePassesModel", "columnsOf", "(II)I"⟩, 20) := ⟨⟨by decide +kernel, by decide +kernel⟩, List.mem_of_getElem? (i := 581) (by decide +kernel), List.mem_of_getElem? (i := 764) (by decide +kernel), List.mem_of_getElem? (i := 765) (by decide +kernel)⟩
theorem lw_p22 : lw_okq (⟨"StrikePassesModel", "lowOf", "(II)I"⟩, 20) := ⟨⟨by decide +kernel, by decide +kernel⟩, List.mem_of_getElem? (i := 581) (by decide +kernel), List.mem_of_getElem? (i := 783) (by decide +kernel), List.mem_of_getElem? (i := 784) (by decide +kernel)⟩
theorem lw_p23 : lw_okq (⟨"StrikePassesModel", "headAt", "(II)I"⟩, 20) := ⟨⟨by decide +kernel, by decide +kernel⟩, List.mem_of_getElem? (i := 581) (by decide +kernel), List.mem_of_getElem? (i := 787) (by decide +kernel), List.mem_of_getElem? (i := 788) (by decide +kernel)⟩
theorem lw_p24 : lw_okq (⟨"StrikePassesModel", "highOf", "(II)I"⟩, 20) := ⟨⟨by decide +kernel, by decide +kernel⟩, List.mem_of_getElem? (i := 581) (by decide +kernel), List.mem_of_getElem? (i := 791) (by decide +kernel), List.mem_of_getElem? (i := 792) (by decide +kernel)⟩
theorem lw_p25 : lw_okq (⟨"StrikePassesModel", "layWay", "()V"⟩, 20) := ⟨⟨by decide +kernel, by decide +kernel⟩, List.mem_of_getElem? (i := 581) (by decide +kernel), List.mem_of_getElem? (i := 803) (by decide +kernel), List.mem_of_getElem? (i := 804) (by decide +kernel)⟩
theorem lw_p26 : lw_okq (⟨"StrikePassesModel", "layPasses", "()V"⟩, 20) := ⟨⟨by decide +kernel, by decide +kernel⟩, List.mem_of_getElem? (i := 581) (by decide +kernel), List.mem_of_getElem? (i := 807) (by decide +kernel), List.mem_of_getElem? (i := 808) (by decide +kernel)⟩
theorem lw_p27 : lw_okq (⟨"StrikePassesModel", "isBack", "(I)Z"⟩, 20) := ⟨⟨by decide +kernel, by decide +kernel⟩, List.mem_of_getElem? (i := 581) (by decide +kernel), List.mem_of_getElem? (i := 815) (by decide +kernel), List.mem_of_getElem? (i := 816) (by decide +kernel)⟩
theorem lw_p28 : lw_okq (⟨"StrikePassesModel", "dotMany", "(II)I"⟩, 20) := ⟨⟨by decide +kernel, by decide +kernel⟩, List.mem_of_getElem? (i := 581) (by decide +kernel), List.mem_of_getElem? (i := 827) (by decide +kernel), List.mem_of_getElem? (i := 828) (by decide +kernel)⟩
theorem lw_p29 : lw_okq (⟨"StrikePassesModel", "within", "(III)I"⟩, 20) := ⟨⟨by decide +kernel, by decide +kernel⟩, List.mem_of_getElem? (i := 581) (by decide +kernel), List.mem_of_getElem? (i := 835) (by decide +kernel), List.mem_of_getElem? (i := 836) (by decide +kernel)⟩
theorem lw_p30 : lw_okq (⟨"StrikePassesModel", "isEasy", "(II)Z"⟩, 20) := ⟨⟨by decide +kernel, by decide +kernel⟩, List.mem_of_getElem? (i := 581) (by decide +kernel), List.mem_of_getElem? (i := 843) (by decide +kernel), List.mem_of_getElem? (i := 844) (by decide +kernel)⟩
theorem lw_p31 : lw_okq (⟨"StrikePassesModel", "unseenSet", "()I"⟩, 20) := ⟨⟨by decide +kernel, by decide +kernel⟩, List.mem_of_getElem? (i := 581) (by decide +kernel), List.mem_of_getElem? (i := 863) (by decide +kernel), List.mem_of_getElem? (i := 864) (by decide +kernel)⟩
def lw_privs_2 : List (MethodName × Nat) := [(⟨"StrikePassesModel", "dotsAt", "(II)I"⟩, 20), (⟨"StrikePassesModel", "lays", "(II)I"⟩, 20), (⟨"StrikePassesModel", "remembers", "()V"⟩, 20), (⟨"StrikePassesModel", "passesOf", "(I)I"⟩, 20), (⟨"StrikePassesModel", "columnsIn", "(III)I"⟩, 20), (⟨"StrikePassesModel", "columnsOf", "(II)I"⟩, 20), (⟨"StrikePassesModel", "lowOf", "(II)I"⟩, 20), (⟨"StrikePassesModel", "headAt", "(II)I"⟩, 20), (⟨"StrikePassesModel", "highOf", "(II)I"⟩, 20), (⟨"StrikePassesModel", "layWay", "()V"⟩, 20), (⟨"StrikePassesModel", "layPasses", "()V"⟩, 20), (⟨"StrikePassesModel", "isBack", "(I)Z"⟩, 20), (⟨"StrikePassesModel", "dotMany", "(II)I"⟩, 20), (⟨"StrikePassesModel", "within", "(III)I"⟩, 20), (⟨"StrikePassesModel", "isEasy", "(II)Z"⟩, 20), (⟨"StrikePassesModel", "unseenSet", "()I"⟩, 20)]
theorem lw_r2 : ∀ q ∈ lw_privs_2, lw_okq q := List.forall_mem_cons.mpr ⟨lw_p16, List.forall_mem_cons.mpr ⟨lw_p17, List.forall_mem_cons.mpr ⟨lw_p18, List.forall_mem_cons.mpr ⟨lw_p19, List.forall_mem_cons.mpr ⟨lw_p20, List.forall_mem_cons.mpr ⟨lw_p21, List.forall_mem_cons.mpr ⟨lw_p22, List.forall_mem_cons.mpr ⟨lw_p23, List.forall_mem_cons.mpr ⟨lw_p24, List.forall_mem_cons.mpr ⟨lw_p25, List.forall_mem_cons.mpr ⟨lw_p26, List.forall_mem_cons.mpr ⟨lw_p27, List.forall_mem_cons.mpr ⟨lw_p28, List.forall_mem_cons.mpr ⟨lw_p29, List.forall_mem_cons.mpr ⟨lw_p30, List.forall_mem_cons.mpr ⟨lw_p31, fun _ h => absurd h List.not_mem_nil⟩⟩⟩⟩⟩⟩⟩⟩⟩⟩⟩⟩⟩⟩⟩⟩
theorem lw_p32 : lw_okq (⟨"StrikePassesModel", "without", "(II)I"⟩, 20) := ⟨⟨by decide +kernel, by decide +kernel⟩, List.mem_of_getElem? (i := 581) (by decide +kernel), List.mem_of_getElem? (i := 867) (by decide +kernel), List.mem_of_getElem? (i := 868) (by decide +kernel)⟩
theorem lw_p33 : lw_okq (⟨"StrikePassesModel", "unlike", "(II)I"⟩, 20) := ⟨⟨by decide +kernel, by decide +kernel⟩, List.mem_of_getElem? (i := 581) (by decide +kernel), List.mem_of_getElem? (i := 875) (by decide +kernel), List.mem_of_getElem? (i := 876) (by decide +kernel)⟩
theorem lw_p34 : lw_okq (⟨"StrikePassesModel", "ofLines", "(Z)I"⟩, 20) := ⟨⟨by decide +kernel, by decide +kernel⟩, List.mem_of_getElem? (i := 581) (by decide +kernel), List.mem_of_getElem? (i := 891) (by decide +kernel), List.mem_of_getElem? (i := 892) (by decide +kernel)⟩
def lw_privs_3 : List (MethodName × Nat) := [(⟨"StrikePassesModel", "without", "(II)I"⟩, 20), (⟨"StrikePassesModel", "unlike", "(II)I"⟩, 20), (⟨"StrikePassesModel", "ofLines", "(Z)I"⟩, 20)]
theorem lw_r3 : ∀ q ∈ lw_privs_3, lw_okq q := List.forall_mem_cons.mpr ⟨lw_p32, List.forall_mem_cons.mpr ⟨lw_p33, List.forall_mem_cons.mpr ⟨lw_p34, fun _ h => absurd h List.not_mem_nil⟩⟩⟩
def lw_privs : List (MethodName × Nat) := lw_privs_1 ++ (lw_privs_2 ++ (lw_privs_3))
def lw_tbl : List Cond := k2_sels lw_privs ++ tables_1
theorem lw_privs_ok : ∀ q ∈ lw_privs, lw_okq q := by
  show ∀ q ∈ lw_privs_1 ++ (lw_privs_2 ++ (lw_privs_3)), lw_okq q
  exact List.forall_mem_append.mpr ⟨lw_r1, List.forall_mem_append.mpr ⟨lw_r2, lw_r3⟩⟩
/-! ===== BEGIN words of one list among another's, by their places ===== -/
theorem goodIn_r {big : List Cond} (ws : List Cond) (ps : List Nat) (hp : ws = ps.filterMap (fun i => big[i]?)) (h : ws.all goodWord = true) : GoodIn big ws := by
  intro w hw
  have h1 := List.all_eq_true.mp h w hw
  rw [hp] at hw
  obtain ⟨i, -, hi⟩ := List.mem_filterMap.mp hw
  have hm : w ∈ big := by first | exact List.mem_of_getElem? hi | exact List.getElem?_mem hi
  exact ⟨hm, good_of_word h1⟩
theorem goodIn_app {big a b : List Cond} (ha : GoodIn big a) (hb : GoodIn big b) : GoodIn big (a ++ b) := fun w h => (List.mem_append.mp h).elim (ha w) (hb w)
theorem goodIn_ca {big a b : List Cond} {c : Cond} (ha : GoodIn big (c :: a)) (hb : GoodIn big b) : GoodIn big (c :: (a ++ b)) := fun w h => (List.mem_cons.mp h).elim (fun e => ha w (List.mem_cons.mpr (Or.inl e))) (fun h => (List.mem_append.mp h).elim (fun h => ha w (List.mem_cons.mpr (Or.inr h))) (hb w))
theorem goodIn_sub {big ws : List Cond} (hm : ∀ w ∈ ws, w ∈ big) (h : ws.all goodWord = true) : GoodIn big ws := fun w hw => ⟨hm w hw, good_of_word (List.all_eq_true.mp h w hw)⟩
/-! ===== END ===== -/

/-! ===== BEGIN printed: names, fields, word lists, decode rows ===== -/
def RX0 : String := "StrikePasses$Course"
def TX0 : u_T := fun k => match k with
  | 0 => ("StrikePasses$Course", "amounts", "[I", true)
  | 1 => ("StrikePasses$Course", "left", "[I", true)
  | 2 => ("StrikePasses$Course", "right", "[I", true)
  | 3 => ("StrikePasses$Course", "turns", "[I", true)
  | 4 => ("StrikePasses$Course", "afterLeft", "[I", true)
  | 5 => ("StrikePasses$Course", "afterRight", "[I", true)
  | 6 => ("StrikePasses$Course", "seeks", "I", false)
  | 7 => ("StrikePasses$Course", "strokes", "I", false)
  | _ => ("StrikePasses$Course", "end", "I", false)
def tyX0 : Nat → FieldType := fun k => match k with
  | 0 => .array .int
  | 1 => .array .int
  | 2 => .array .int
  | 3 => .array .int
  | 4 => .array .int
  | 5 => .array .int
  | 6 => .int
  | 7 => .int
  | _ => .int
abbrev wsX00 : List Cond := u_ws RX0 TX0 9
theorem nmX0 : ∀ a, a < 9 → ∀ b, b < 9 → a ≠ b → (TX0 a).2.1 ≠ (TX0 b).2.1 := by decide +kernel
theorem tyX0_ok : ∀ k, k < 9 → parseFieldDescriptor (TX0 k).2.2.1 = some (tyX0 k) := by decide +kernel
abbrev cX0_init : ByteArray := prog_2_method_1_code
def yX0_init : MethodName := ⟨RX0, "<init>", "()V"⟩
abbrev cX0_slot : ByteArray := prog_2_method_2_code
def yX0_slot : MethodName := ⟨RX0, "slot", "(II)I"⟩
abbrev cX0_isUsed : ByteArray := prog_2_method_3_code
def yX0_isUsed : MethodName := ⟨RX0, "isUsed", "(I)Z"⟩
abbrev cX0_measure : ByteArray := prog_2_method_4_code
def yX0_measure : MethodName := ⟨RX0, "measure", "(ILStrikePasses$Sheet;LStrikePasses$Strip;LStrikePasses$Dealer;)V"⟩
abbrev cX0_widen : ByteArray := prog_2_method_5_code
def yX0_widen : MethodName := ⟨RX0, "widen", "(II)V"⟩
abbrev cX0_plan : ByteArray := prog_2_method_6_code
def yX0_plan : MethodName := ⟨RX0, "plan", "(LStrikePasses$Sheet;LStrikePasses$Strip;LStrikePasses$Dealer;)V"⟩
abbrev cX0_lookAhead : ByteArray := prog_2_method_7_code
def yX0_lookAhead : MethodName := ⟨RX0, "lookAhead", "()V"⟩
abbrev cX0_leastFrom : ByteArray := prog_2_method_8_code
def yX0_leastFrom : MethodName := ⟨RX0, "leastFrom", "(II)I"⟩
abbrev cX0_fromLeft : ByteArray := prog_2_method_9_code
def yX0_fromLeft : MethodName := ⟨RX0, "fromLeft", "(II)I"⟩
abbrev cX0_fromRight : ByteArray := prog_2_method_10_code
def yX0_fromRight : MethodName := ⟨RX0, "fromRight", "(II)I"⟩
abbrev cX0_walk : ByteArray := prog_2_method_11_code
def yX0_walk : MethodName := ⟨RX0, "walk", "()V"⟩
def RX1 : String := "StrikePasses$Dealer"
def TX1 : u_T := fun k => match k with
  | 0 => ("StrikePasses$Dealer", "passAt", "[I", true)
  | _ => ("StrikePasses$Dealer", "latest", "[I", true)
def tyX1 : Nat → FieldType := fun k => match k with
  | 0 => .array .int
  | _ => .array .int
abbrev wsX10 : List Cond := u_ws RX1 TX1 2
theorem nmX1 : ∀ a, a < 2 → ∀ b, b < 2 → a ≠ b → (TX1 a).2.1 ≠ (TX1 b).2.1 := by decide +kernel
theorem tyX1_ok : ∀ k, k < 2 → parseFieldDescriptor (TX1 k).2.2.1 = some (tyX1 k) := by decide +kernel
abbrev cX1_init : ByteArray := prog_3_method_1_code
def yX1_init : MethodName := ⟨RX1, "<init>", "()V"⟩
abbrev cX1_deal : ByteArray := prog_3_method_2_code
def yX1_deal : MethodName := ⟨RX1, "deal", "(LStrikePasses$Strip;II)I"⟩
def RX2 : String := "StrikePasses$Deeds"
def TX2 : u_T := fun k => match k with
  | 0 => ("StrikePasses$Deeds", "kinds", "[I", true)
  | 1 => ("StrikePasses$Deeds", "places", "[I", true)
  | 2 => ("StrikePasses$Deeds", "were", "[I", true)
  | _ => ("StrikePasses$Deeds", "known", "I", false)
def tyX2 : Nat → FieldType := fun k => match k with
  | 0 => .array .int
  | 1 => .array .int
  | 2 => .array .int
  | _ => .int
abbrev wsX20 : List Cond := u_ws RX2 TX2 4
theorem nmX2 : ∀ a, a < 4 → ∀ b, b < 4 → a ≠ b → (TX2 a).2.1 ≠ (TX2 b).2.1 := by decide +kernel
theorem tyX2_ok : ∀ k, k < 4 → parseFieldDescriptor (TX2 k).2.2.1 = some (tyX2 k) := by decide +kernel
abbrev cX2_init : ByteArray := prog_4_method_1_code
def yX2_init : MethodName := ⟨RX2, "<init>", "()V"⟩
abbrev cX2_note : ByteArray := prog_4_method_2_code
def yX2_note : MethodName := ⟨RX2, "note", "(III)V"⟩
abbrev cX2_loseOldest : ByteArray := prog_4_method_3_code
def yX2_loseOldest : MethodName := ⟨RX2, "loseOldest", "()V"⟩
abbrev cX2_takeBack : ByteArray := prog_4_method_4_code
def yX2_takeBack : MethodName := ⟨RX2, "takeBack", "(LStrikePasses$Sheet;)Z"⟩
def RX3 : String := "StrikePasses$Reader"
def TX3 : u_T := fun k => match k with
  | 0 => ("StrikePasses$Reader", "text", "[I", true)
  | 1 => ("StrikePasses$Reader", "length", "I", false)
  | 2 => ("StrikePasses$Reader", "at", "I", false)
  | 3 => ("StrikePasses$Reader", "start", "I", false)
  | 4 => ("StrikePasses$Reader", "kind", "I", false)
  | _ => ("StrikePasses$Reader", "value", "I", false)
def tyX3 : Nat → FieldType := fun k => match k with
  | 0 => .array .int
  | 1 => .int
  | 2 => .int
  | 3 => .int
  | 4 => .int
  | _ => .int
abbrev wsX30 : List Cond := u_ws RX3 TX3 6
theorem nmX3 : ∀ a, a < 6 → ∀ b, b < 6 → a ≠ b → (TX3 a).2.1 ≠ (TX3 b).2.1 := by decide +kernel
theorem tyX3_ok : ∀ k, k < 6 → parseFieldDescriptor (TX3 k).2.2.1 = some (tyX3 k) := by decide +kernel
abbrev cX3_init : ByteArray := prog_5_method_1_code
def yX3_init : MethodName := ⟨RX3, "<init>", "()V"⟩
abbrev cX3_accept : ByteArray := prog_5_method_2_code
def yX3_accept : MethodName := ⟨RX3, "accept", "(I)Z"⟩
abbrev cX3_read : ByteArray := prog_5_method_3_code
def yX3_read : MethodName := ⟨RX3, "read", "(LStrikePasses$Sheet;)I"⟩
abbrev cX3_readItem : ByteArray := prog_5_method_4_code
def yX3_readItem : MethodName := ⟨RX3, "readItem", "(LStrikePasses$Sheet;)Z"⟩
abbrev cX3_readSetting : ByteArray := prog_5_method_5_code
def yX3_readSetting : MethodName := ⟨RX3, "readSetting", "(LStrikePasses$Sheet;I)Z"⟩
abbrev cX3_readShape : ByteArray := prog_5_method_6_code
def yX3_readShape : MethodName := ⟨RX3, "readShape", "(LStrikePasses$Sheet;)Z"⟩
abbrev cX3_readLine : ByteArray := prog_5_method_7_code
def yX3_readLine : MethodName := ⟨RX3, "readLine", "(LStrikePasses$Sheet;)Z"⟩
abbrev cX3_letterOf : ByteArray := prog_5_method_8_code
def yX3_letterOf : MethodName := ⟨RX3, "letterOf", "(I)I"⟩
abbrev cX3_advance : ByteArray := prog_5_method_9_code
def yX3_advance : MethodName := ⟨RX3, "advance", "()V"⟩
abbrev cX3_advanceOverNumber : ByteArray := prog_5_method_10_code
def yX3_advanceOverNumber : MethodName := ⟨RX3, "advanceOverNumber", "()V"⟩
abbrev cX3_isDigit : ByteArray := prog_5_method_11_code
def yX3_isDigit : MethodName := ⟨RX3, "isDigit", "(I)Z"⟩
def RX4 : String := "StrikePasses$Sheet"
def TX4 : u_T := fun k => match k with
  | 0 => ("StrikePasses$Sheet", "settings", "[I", true)
  | 1 => ("StrikePasses$Sheet", "shapes", "[I", true)
  | 2 => ("StrikePasses$Sheet", "lengths", "[I", true)
  | 3 => ("StrikePasses$Sheet", "signs", "[I", true)
  | _ => ("StrikePasses$Sheet", "lines", "I", false)
def tyX4 : Nat → FieldType := fun k => match k with
  | 0 => .array .int
  | 1 => .array .int
  | 2 => .array .int
  | 3 => .array .int
  | _ => .int
abbrev wsX40 : List Cond := u_ws RX4 TX4 5
theorem nmX4 : ∀ a, a < 5 → ∀ b, b < 5 → a ≠ b → (TX4 a).2.1 ≠ (TX4 b).2.1 := by decide +kernel
theorem tyX4_ok : ∀ k, k < 5 → parseFieldDescriptor (TX4 k).2.2.1 = some (tyX4 k) := by decide +kernel
abbrev cX4_init : ByteArray := prog_6_method_1_code
def yX4_init : MethodName := ⟨RX4, "<init>", "()V"⟩
abbrev cX4_reset : ByteArray := prog_6_method_2_code
def yX4_reset : MethodName := ⟨RX4, "reset", "()V"⟩
abbrev cX4_become : ByteArray := prog_6_method_3_code
def yX4_become : MethodName := ⟨RX4, "become", "(LStrikePasses$Sheet;)V"⟩
abbrev cX4_hasLine : ByteArray := prog_6_method_4_code
def yX4_hasLine : MethodName := ⟨RX4, "hasLine", "(I)Z"⟩
abbrev cX4_begin : ByteArray := prog_6_method_5_code
def yX4_begin : MethodName := ⟨RX4, "begin", "()Z"⟩
abbrev cX4_dropLast : ByteArray := prog_6_method_6_code
def yX4_dropLast : MethodName := ⟨RX4, "dropLast", "()V"⟩
abbrev cX4_append : ByteArray := prog_6_method_7_code
def yX4_append : MethodName := ⟨RX4, "append", "(II)Z"⟩
abbrev cX4_chop : ByteArray := prog_6_method_8_code
def yX4_chop : MethodName := ⟨RX4, "chop", "(I)I"⟩
abbrev cX4_inkAt : ByteArray := prog_6_method_9_code
def yX4_inkAt : MethodName := ⟨RX4, "inkAt", "(II)I"⟩
abbrev cX4_headAt : ByteArray := prog_6_method_10_code
def yX4_headAt : MethodName := ⟨RX4, "headAt", "(II)I"⟩
def RX5 : String := "StrikePasses$Sights"
def TX5 : u_T := fun k => match k with
  | 0 => ("StrikePasses$Sights", "lines", "[I", true)
  | 1 => ("StrikePasses$Sights", "numbers", "[I", true)
  | _ => ("StrikePasses$Sights", "known", "I", false)
def tyX5 : Nat → FieldType := fun k => match k with
  | 0 => .array .int
  | 1 => .array .int
  | _ => .int
abbrev wsX50 : List Cond := u_ws RX5 TX5 3
theorem nmX5 : ∀ a, a < 3 → ∀ b, b < 3 → a ≠ b → (TX5 a).2.1 ≠ (TX5 b).2.1 := by decide +kernel
theorem tyX5_ok : ∀ k, k < 3 → parseFieldDescriptor (TX5 k).2.2.1 = some (tyX5 k) := by decide +kernel
abbrev cX5_init : ByteArray := prog_7_method_1_code
def yX5_init : MethodName := ⟨RX5, "<init>", "()V"⟩
abbrev cX5_note : ByteArray := prog_7_method_2_code
def yX5_note : MethodName := ⟨RX5, "note", "(II)Z"⟩
def RX6 : String := "StrikePasses$Strip"
def TX6 : u_T := fun k => match k with
  | _ => ("StrikePasses$Strip", "ink", "[I", true)
def tyX6 : Nat → FieldType := fun k => match k with
  | _ => .array .int
abbrev wsX60 : List Cond := u_ws RX6 TX6 1
theorem nmX6 : ∀ a, a < 1 → ∀ b, b < 1 → a ≠ b → (TX6 a).2.1 ≠ (TX6 b).2.1 := by decide +kernel
theorem tyX6_ok : ∀ k, k < 1 → parseFieldDescriptor (TX6 k).2.2.1 = some (tyX6 k) := by decide +kernel
abbrev cX6_init : ByteArray := prog_8_method_1_code
def yX6_init : MethodName := ⟨RX6, "<init>", "()V"⟩
abbrev cX6_lay : ByteArray := prog_8_method_2_code
def yX6_lay : MethodName := ⟨RX6, "lay", "(LStrikePasses$Sheet;I)V"⟩
abbrev cX6_hasDot : ByteArray := prog_8_method_3_code
def yX6_hasDot : MethodName := ⟨RX6, "hasDot", "(II)Z"⟩
abbrev cX6_total : ByteArray := prog_8_method_4_code
def yX6_total : MethodName := ⟨RX6, "total", "()I"⟩
abbrev cX6_amount : ByteArray := prog_8_method_5_code
def yX6_amount : MethodName := ⟨RX6, "amount", "(I)I"⟩
abbrev cX6_amountFrom : ByteArray := prog_8_method_6_code
def yX6_amountFrom : MethodName := ⟨RX6, "amountFrom", "(III)I"⟩
abbrev cX6_leastGap : ByteArray := prog_8_method_7_code
def yX6_leastGap : MethodName := ⟨RX6, "leastGap", "(I)I"⟩
def RX7 : String := "StrikePasses"
def TX7 : u_T := fun k => match k with
  | 0 => ("StrikePasses", "reader", "LStrikePasses$Reader;", true)
  | 1 => ("StrikePasses", "sheet", "LStrikePasses$Sheet;", true)
  | 2 => ("StrikePasses", "draft", "LStrikePasses$Sheet;", true)
  | 3 => ("StrikePasses", "deeds", "LStrikePasses$Deeds;", true)
  | 4 => ("StrikePasses", "sights", "LStrikePasses$Sights;", true)
  | 5 => ("StrikePasses", "images", "[LStrikePasses$Sheet;", true)
  | 6 => ("StrikePasses", "kept", "[Z", true)
  | 7 => ("StrikePasses", "strip", "LStrikePasses$Strip;", true)
  | 8 => ("StrikePasses", "dealer", "LStrikePasses$Dealer;", true)
  | _ => ("StrikePasses", "course", "LStrikePasses$Course;", true)
def tyX7 : Nat → FieldType := fun k => match k with
  | 0 => .object "StrikePasses$Reader"
  | 1 => .object "StrikePasses$Sheet"
  | 2 => .object "StrikePasses$Sheet"
  | 3 => .object "StrikePasses$Deeds"
  | 4 => .object "StrikePasses$Sights"
  | 5 => .array (.object "StrikePasses$Sheet")
  | 6 => .array .boolean
  | 7 => .object "StrikePasses$Strip"
  | 8 => .object "StrikePasses$Dealer"
  | _ => .object "StrikePasses$Course"
abbrev wsX70 : List Cond := u_ws RX7 TX7 10
theorem nmX7 : ∀ a, a < 10 → ∀ b, b < 10 → a ≠ b → (TX7 a).2.1 ≠ (TX7 b).2.1 := by decide +kernel
theorem tyX7_ok : ∀ k, k < 10 → parseFieldDescriptor (TX7 k).2.2.1 = some (tyX7 k) := by decide +kernel
abbrev cX7_init : ByteArray := prog_1_method_1_code
def yX7_init : MethodName := ⟨RX7, "<init>", "()V"⟩
abbrev cX7_type : ByteArray := prog_1_method_2_code
def yX7_type : MethodName := ⟨RX7, "type", "(I)I"⟩
abbrev cX7_clear : ByteArray := prog_1_method_3_code
def yX7_clear : MethodName := ⟨RX7, "clear", "()I"⟩
abbrev cX7_page : ByteArray := prog_1_method_4_code
def yX7_page : MethodName := ⟨RX7, "page", "()I"⟩
abbrev cX7_letter : ByteArray := prog_1_method_5_code
def yX7_letter : MethodName := ⟨RX7, "letter", "(II)I"⟩
abbrev cX7_line : ByteArray := prog_1_method_6_code
def yX7_line : MethodName := ⟨RX7, "line", "(II)I"⟩
abbrev cX7_dots : ByteArray := prog_1_method_7_code
def yX7_dots : MethodName := ⟨RX7, "dots", "(II)I"⟩
abbrev cX7_draws : ByteArray := prog_1_method_8_code
def yX7_draws : MethodName := ⟨RX7, "draws", "(III)I"⟩
abbrev cX7_types : ByteArray := prog_1_method_9_code
def yX7_types : MethodName := ⟨RX7, "types", "(II)I"⟩
abbrev cX7_strikes : ByteArray := prog_1_method_10_code
def yX7_strikes : MethodName := ⟨RX7, "strikes", "(I)I"⟩
abbrev cX7_sets : ByteArray := prog_1_method_11_code
def yX7_sets : MethodName := ⟨RX7, "sets", "(II)I"⟩
abbrev cX7_undo : ByteArray := prog_1_method_12_code
def yX7_undo : MethodName := ⟨RX7, "undo", "()I"⟩
abbrev cX7_passes : ByteArray := prog_1_method_13_code
def yX7_passes : MethodName := ⟨RX7, "passes", "(I)I"⟩
abbrev cX7_pass : ByteArray := prog_1_method_14_code
def yX7_pass : MethodName := ⟨RX7, "pass", "(III)I"⟩
abbrev cX7_span : ByteArray := prog_1_method_15_code
def yX7_span : MethodName := ⟨RX7, "span", "(III)I"⟩
abbrev cX7_goes : ByteArray := prog_1_method_16_code
def yX7_goes : MethodName := ⟨RX7, "goes", "(II)I"⟩
abbrev cX7_stands : ByteArray := prog_1_method_17_code
def yX7_stands : MethodName := ⟨RX7, "stands", "(III)I"⟩
abbrev cX7_way : ByteArray := prog_1_method_18_code
def yX7_way : MethodName := ⟨RX7, "way", "(I)I"⟩
abbrev cX7_wear : ByteArray := prog_1_method_19_code
def yX7_wear : MethodName := ⟨RX7, "wear", "(I)I"⟩
abbrev cX7_crowd : ByteArray := prog_1_method_20_code
def yX7_crowd : MethodName := ⟨RX7, "crowd", "(II)I"⟩
abbrev cX7_easy : ByteArray := prog_1_method_21_code
def yX7_easy : MethodName := ⟨RX7, "easy", "(I)I"⟩
abbrev cX7_place : ByteArray := prog_1_method_22_code
def yX7_place : MethodName := ⟨RX7, "place", "(II)I"⟩
abbrev cX7_sees : ByteArray := prog_1_method_23_code
def yX7_sees : MethodName := ⟨RX7, "sees", "(II)I"⟩
abbrev cX7_forget : ByteArray := prog_1_method_24_code
def yX7_forget : MethodName := ⟨RX7, "forget", "()I"⟩
abbrev cX7_unseen : ByteArray := prog_1_method_25_code
def yX7_unseen : MethodName := ⟨RX7, "unseen", "()I"⟩
abbrev cX7_ask : ByteArray := prog_1_method_26_code
def yX7_ask : MethodName := ⟨RX7, "ask", "()I"⟩
abbrev cX7_keep : ByteArray := prog_1_method_27_code
def yX7_keep : MethodName := ⟨RX7, "keep", "(I)I"⟩
abbrev cX7_back : ByteArray := prog_1_method_28_code
def yX7_back : MethodName := ⟨RX7, "back", "(I)I"⟩
abbrev cX7_count : ByteArray := prog_1_method_29_code
def yX7_count : MethodName := ⟨RX7, "count", "(I)I"⟩
abbrev cX7_isNeedle : ByteArray := prog_1_method_30_code
def yX7_isNeedle : MethodName := ⟨RX7, "isNeedle", "(I)Z"⟩
abbrev cX7_isColumn : ByteArray := prog_1_method_31_code
def yX7_isColumn : MethodName := ⟨RX7, "isColumn", "(I)Z"⟩
abbrev cX7_isColumnOfLetter : ByteArray := prog_1_method_32_code
def yX7_isColumnOfLetter : MethodName := ⟨RX7, "isColumnOfLetter", "(II)Z"⟩
abbrev cX7_mayBeSet : ByteArray := prog_1_method_33_code
def yX7_mayBeSet : MethodName := ⟨RX7, "mayBeSet", "(II)Z"⟩
abbrev cX7_isPlace : ByteArray := prog_1_method_34_code
def yX7_isPlace : MethodName := ⟨RX7, "isPlace", "(III)Z"⟩
abbrev cX7_passesOf : ByteArray := prog_1_method_35_code
def yX7_passesOf : MethodName := ⟨RX7, "passesOf", "(I)I"⟩
abbrev cX7_allPasses : ByteArray := prog_1_method_36_code
def yX7_allPasses : MethodName := ⟨RX7, "allPasses", "()I"⟩
abbrev cX7_allDots : ByteArray := prog_1_method_37_code
def yX7_allDots : MethodName := ⟨RX7, "allDots", "()I"⟩
abbrev cX7_suspects : ByteArray := prog_1_method_38_code
def yX7_suspects : MethodName := ⟨RX7, "suspects", "()I"⟩
abbrev cX7_explaining : ByteArray := prog_1_method_39_code
def yX7_explaining : MethodName := ⟨RX7, "explaining", "(II)I"⟩
abbrev cX7_unlikeNumbers : ByteArray := prog_1_method_40_code
def yX7_unlikeNumbers : MethodName := ⟨RX7, "unlikeNumbers", "(II)I"⟩
def RX8 : String := "StrikePassesModel"
def TX8 : u_T := fun k => match k with
  | 0 => ("StrikePassesModel", "now", "[I", true)
  | 1 => ("StrikePassesModel", "undoMany", "I", false)
  | 2 => ("StrikePassesModel", "undoAt", "I", false)
  | 3 => ("StrikePassesModel", "undos", "[I", true)
  | 4 => ("StrikePassesModel", "isKept", "[Z", true)
  | 5 => ("StrikePassesModel", "kept", "[I", true)
  | 6 => ("StrikePassesModel", "letterMany", "I", false)
  | 7 => ("StrikePassesModel", "text", "[I", true)
  | 8 => ("StrikePassesModel", "readAt", "I", false)
  | 9 => ("StrikePassesModel", "tokenAt", "I", false)
  | 10 => ("StrikePassesModel", "token", "I", false)
  | 11 => ("StrikePassesModel", "read", "[I", true)
  | 12 => ("StrikePassesModel", "passMany", "I", false)
  | 13 => ("StrikePassesModel", "lows", "[I", true)
  | 14 => ("StrikePassesModel", "highs", "[I", true)
  | 15 => ("StrikePassesModel", "seeks", "I", false)
  | 16 => ("StrikePassesModel", "choices", "J", false)
  | 17 => ("StrikePassesModel", "seenMany", "I", false)
  | 18 => ("StrikePassesModel", "seenLine", "[I", true)
  | _ => ("StrikePassesModel", "seen", "[I", true)
def tyX8 : Nat → FieldType := fun k => match k with
  | 0 => .array .int
  | 1 => .int
  | 2 => .int
  | 3 => .array .int
  | 4 => .array .boolean
  | 5 => .array .int
  | 6 => .int
  | 7 => .array .int
  | 8 => .int
  | 9 => .int
  | 10 => .int
  | 11 => .array .int
  | 12 => .int
  | 13 => .array .int
  | 14 => .array .int
  | 15 => .int
  | 16 => .long
  | 17 => .int
  | 18 => .array .int
  | _ => .array .int
abbrev wsX80 : List Cond := u_ws RX8 TX8 20
theorem nmX8 : ∀ a, a < 20 → ∀ b, b < 20 → a ≠ b → (TX8 a).2.1 ≠ (TX8 b).2.1 := by decide +kernel
theorem tyX8_ok : ∀ k, k < 20 → parseFieldDescriptor (TX8 k).2.2.1 = some (tyX8 k) := by decide +kernel
abbrev cX8_init : ByteArray := prog_10_method_1_code
def yX8_init : MethodName := ⟨RX8, "<init>", "()V"⟩
abbrev cX8_in : ByteArray := prog_10_method_2_code
def yX8_in : MethodName := ⟨RX8, "in", "(III)Z"⟩
abbrev cX8_has : ByteArray := prog_10_method_3_code
def yX8_has : MethodName := ⟨RX8, "has", "(II)Z"⟩
abbrev cX8_begins : ByteArray := prog_10_method_4_code
def yX8_begins : MethodName := ⟨RX8, "begins", "([I)V"⟩
abbrev cX8_least : ByteArray := prog_10_method_5_code
def yX8_least : MethodName := ⟨RX8, "least", "(I)I"⟩
abbrev cX8_most : ByteArray := prog_10_method_6_code
def yX8_most : MethodName := ⟨RX8, "most", "(I)I"⟩
abbrev cX8_isLine : ByteArray := prog_10_method_7_code
def yX8_isLine : MethodName := ⟨RX8, "isLine", "(I)Z"⟩
abbrev cX8_type : ByteArray := prog_10_method_8_code
def yX8_type : MethodName := ⟨RX8, "type", "(I)I"⟩
abbrev cX8_clear : ByteArray := prog_10_method_9_code
def yX8_clear : MethodName := ⟨RX8, "clear", "()I"⟩
abbrev cX8_isFigure : ByteArray := prog_10_method_10_code
def yX8_isFigure : MethodName := ⟨RX8, "isFigure", "(I)Z"⟩
abbrev cX8_blanks : ByteArray := prog_10_method_11_code
def yX8_blanks : MethodName := ⟨RX8, "blanks", "()V"⟩
abbrev cX8_next : ByteArray := prog_10_method_12_code
def yX8_next : MethodName := ⟨RX8, "next", "()V"⟩
abbrev cX8_number : ByteArray := prog_10_method_13_code
def yX8_number : MethodName := ⟨RX8, "number", "(III)Z"⟩
abbrev cX8_stops : ByteArray := prog_10_method_14_code
def yX8_stops : MethodName := ⟨RX8, "stops", "()Z"⟩
abbrev cX8_readsLetter : ByteArray := prog_10_method_15_code
def yX8_readsLetter : MethodName := ⟨RX8, "readsLetter", "()Z"⟩
abbrev cX8_readsLine : ByteArray := prog_10_method_16_code
def yX8_readsLine : MethodName := ⟨RX8, "readsLine", "()Z"⟩
abbrev cX8_readsItem : ByteArray := prog_10_method_17_code
def yX8_readsItem : MethodName := ⟨RX8, "readsItem", "()Z"⟩
abbrev cX8_page : ByteArray := prog_10_method_18_code
def yX8_page : MethodName := ⟨RX8, "page", "()I"⟩
abbrev cX8_letter : ByteArray := prog_10_method_19_code
def yX8_letter : MethodName := ⟨RX8, "letter", "(II)I"⟩
abbrev cX8_line : ByteArray := prog_10_method_20_code
def yX8_line : MethodName := ⟨RX8, "line", "(II)I"⟩
abbrev cX8_dotsAt : ByteArray := prog_10_method_21_code
def yX8_dotsAt : MethodName := ⟨RX8, "dotsAt", "(II)I"⟩
abbrev cX8_dots : ByteArray := prog_10_method_22_code
def yX8_dots : MethodName := ⟨RX8, "dots", "(II)I"⟩
abbrev cX8_remembers : ByteArray := prog_10_method_23_code
def yX8_remembers : MethodName := ⟨RX8, "remembers", "()V"⟩
abbrev cX8_lays : ByteArray := prog_10_method_24_code
def yX8_lays : MethodName := ⟨RX8, "lays", "(II)I"⟩
abbrev cX8_draws : ByteArray := prog_10_method_25_code
def yX8_draws : MethodName := ⟨RX8, "draws", "(III)I"⟩
abbrev cX8_types : ByteArray := prog_10_method_26_code
def yX8_types : MethodName := ⟨RX8, "types", "(II)I"⟩
abbrev cX8_strikes : ByteArray := prog_10_method_27_code
def yX8_strikes : MethodName := ⟨RX8, "strikes", "(I)I"⟩
abbrev cX8_sets : ByteArray := prog_10_method_28_code
def yX8_sets : MethodName := ⟨RX8, "sets", "(II)I"⟩
abbrev cX8_undo : ByteArray := prog_10_method_29_code
def yX8_undo : MethodName := ⟨RX8, "undo", "()I"⟩
abbrev cX8_columnsOf : ByteArray := prog_10_method_30_code
def yX8_columnsOf : MethodName := ⟨RX8, "columnsOf", "(II)I"⟩
abbrev cX8_columnsIn : ByteArray := prog_10_method_31_code
def yX8_columnsIn : MethodName := ⟨RX8, "columnsIn", "(III)I"⟩
abbrev cX8_passesOf : ByteArray := prog_10_method_32_code
def yX8_passesOf : MethodName := ⟨RX8, "passesOf", "(I)I"⟩
abbrev cX8_passes : ByteArray := prog_10_method_33_code
def yX8_passes : MethodName := ⟨RX8, "passes", "(I)I"⟩
abbrev cX8_isDot : ByteArray := prog_10_method_34_code
def yX8_isDot : MethodName := ⟨RX8, "isDot", "(II)Z"⟩
abbrev cX8_pass : ByteArray := prog_10_method_35_code
def yX8_pass : MethodName := ⟨RX8, "pass", "(III)I"⟩
abbrev cX8_headAt : ByteArray := prog_10_method_36_code
def yX8_headAt : MethodName := ⟨RX8, "headAt", "(II)I"⟩
abbrev cX8_lowOf : ByteArray := prog_10_method_37_code
def yX8_lowOf : MethodName := ⟨RX8, "lowOf", "(II)I"⟩
abbrev cX8_highOf : ByteArray := prog_10_method_38_code
def yX8_highOf : MethodName := ⟨RX8, "highOf", "(II)I"⟩
abbrev cX8_span : ByteArray := prog_10_method_39_code
def yX8_span : MethodName := ⟨RX8, "span", "(III)I"⟩
abbrev cX8_stands : ByteArray := prog_10_method_40_code
def yX8_stands : MethodName := ⟨RX8, "stands", "(III)I"⟩
abbrev cX8_layPasses : ByteArray := prog_10_method_41_code
def yX8_layPasses : MethodName := ⟨RX8, "layPasses", "()V"⟩
abbrev cX8_far : ByteArray := prog_10_method_42_code
def yX8_far : MethodName := ⟨RX8, "far", "(II)I"⟩
abbrev cX8_layWay : ByteArray := prog_10_method_43_code
def yX8_layWay : MethodName := ⟨RX8, "layWay", "()V"⟩
abbrev cX8_isBack : ByteArray := prog_10_method_44_code
def yX8_isBack : MethodName := ⟨RX8, "isBack", "(I)Z"⟩
abbrev cX8_goes : ByteArray := prog_10_method_45_code
def yX8_goes : MethodName := ⟨RX8, "goes", "(II)I"⟩
abbrev cX8_way : ByteArray := prog_10_method_46_code
def yX8_way : MethodName := ⟨RX8, "way", "(I)I"⟩
abbrev cX8_dotMany : ByteArray := prog_10_method_47_code
def yX8_dotMany : MethodName := ⟨RX8, "dotMany", "(II)I"⟩
abbrev cX8_wear : ByteArray := prog_10_method_48_code
def yX8_wear : MethodName := ⟨RX8, "wear", "(I)I"⟩
abbrev cX8_within : ByteArray := prog_10_method_49_code
def yX8_within : MethodName := ⟨RX8, "within", "(III)I"⟩
abbrev cX8_crowd : ByteArray := prog_10_method_50_code
def yX8_crowd : MethodName := ⟨RX8, "crowd", "(II)I"⟩
abbrev cX8_isEasy : ByteArray := prog_10_method_51_code
def yX8_isEasy : MethodName := ⟨RX8, "isEasy", "(II)Z"⟩
abbrev cX8_easy : ByteArray := prog_10_method_52_code
def yX8_easy : MethodName := ⟨RX8, "easy", "(I)I"⟩
abbrev cX8_place : ByteArray := prog_10_method_53_code
def yX8_place : MethodName := ⟨RX8, "place", "(II)I"⟩
abbrev cX8_sees : ByteArray := prog_10_method_54_code
def yX8_sees : MethodName := ⟨RX8, "sees", "(II)I"⟩
abbrev cX8_forget : ByteArray := prog_10_method_55_code
def yX8_forget : MethodName := ⟨RX8, "forget", "()I"⟩
abbrev cX8_without : ByteArray := prog_10_method_56_code
def yX8_without : MethodName := ⟨RX8, "without", "(II)I"⟩
abbrev cX8_unseenSet : ByteArray := prog_10_method_57_code
def yX8_unseenSet : MethodName := ⟨RX8, "unseenSet", "()I"⟩
abbrev cX8_unseen : ByteArray := prog_10_method_58_code
def yX8_unseen : MethodName := ⟨RX8, "unseen", "()I"⟩
abbrev cX8_unlike : ByteArray := prog_10_method_59_code
def yX8_unlike : MethodName := ⟨RX8, "unlike", "(II)I"⟩
abbrev cX8_ask : ByteArray := prog_10_method_60_code
def yX8_ask : MethodName := ⟨RX8, "ask", "()I"⟩
abbrev cX8_keep : ByteArray := prog_10_method_61_code
def yX8_keep : MethodName := ⟨RX8, "keep", "(I)I"⟩
abbrev cX8_back : ByteArray := prog_10_method_62_code
def yX8_back : MethodName := ⟨RX8, "back", "(I)I"⟩
abbrev cX8_ofLines : ByteArray := prog_10_method_63_code
def yX8_ofLines : MethodName := ⟨RX8, "ofLines", "(Z)I"⟩
abbrev cX8_count : ByteArray := prog_10_method_64_code
def yX8_count : MethodName := ⟨RX8, "count", "(I)I"⟩
def RJ6 : String := "java/lang/Integer"
def TJ6 : u_T := fun k => match k with
  | _ => ("", "", "", false)
def tyJ6 : Nat → FieldType := fun k => match k with
  | _ => .int
abbrev wsJ60 : List Cond := u_ws RJ6 TJ6 0
theorem nmJ6 : ∀ a, a < 0 → ∀ b, b < 0 → a ≠ b → (TJ6 a).2.1 ≠ (TJ6 b).2.1 := by decide +kernel
theorem tyJ6_ok : ∀ k, k < 0 → parseFieldDescriptor (TJ6 k).2.2.1 = some (tyJ6 k) := by decide +kernel
abbrev cJ6_bitCount_0f7a4 : ByteArray := prog_11_method_49_code
def yJ6_bitCount_0f7a4 : MethodName := ⟨RJ6, "bitCount", "(I)I"⟩
def RJ9 : String := "java/lang/Math"
def TJ9 : u_T := fun k => match k with
  | _ => ("", "", "", false)
def tyJ9 : Nat → FieldType := fun k => match k with
  | _ => .int
abbrev wsJ90 : List Cond := u_ws RJ9 TJ9 0
theorem nmJ9 : ∀ a, a < 0 → ∀ b, b < 0 → a ≠ b → (TJ9 a).2.1 ≠ (TJ9 b).2.1 := by decide +kernel
theorem tyJ9_ok : ∀ k, k < 0 → parseFieldDescriptor (TJ9 k).2.2.1 = some (tyJ9 k) := by decide +kernel
abbrev cJ9_abs_0f7a4 : ByteArray := prog_12_method_59_code
def yJ9_abs_0f7a4 : MethodName := ⟨RJ9, "abs", "(I)I"⟩
abbrev cJ9_max_7cf53 : ByteArray := prog_12_method_65_code
def yJ9_max_7cf53 : MethodName := ⟨RJ9, "max", "(II)I"⟩
abbrev cJ9_min_7cf53 : ByteArray := prog_12_method_69_code
def yJ9_min_7cf53 : MethodName := ⟨RJ9, "min", "(II)I"⟩
def RJ10 : String := "java/lang/System"
def TJ10 : u_T := fun k => match k with
  | _ => ("", "", "", false)
def tyJ10 : Nat → FieldType := fun k => match k with
  | _ => .int
abbrev wsJ100 : List Cond := u_ws RJ10 TJ10 0
theorem nmJ10 : ∀ a, a < 0 → ∀ b, b < 0 → a ≠ b → (TJ10 a).2.1 ≠ (TJ10 b).2.1 := by decide +kernel
theorem tyJ10_ok : ∀ k, k < 0 → parseFieldDescriptor (TJ10 k).2.2.1 = some (tyJ10 k) := by decide +kernel
def RJ7 : String := "java/util/Arrays"
def TJ7 : u_T := fun k => match k with
  | _ => ("", "", "", false)
def tyJ7 : Nat → FieldType := fun k => match k with
  | _ => .int
abbrev wsJ70 : List Cond := u_ws RJ7 TJ7 0
theorem nmJ7 : ∀ a, a < 0 → ∀ b, b < 0 → a ≠ b → (TJ7 a).2.1 ≠ (TJ7 b).2.1 := by decide +kernel
theorem tyJ7_ok : ∀ k, k < 0 → parseFieldDescriptor (TJ7 k).2.2.1 = some (tyJ7 k) := by decide +kernel
abbrev cJ7_fill_53178 : ByteArray := prog_14_method_103_code
def yJ7_fill_53178 : MethodName := ⟨RJ7, "fill", "([II)V"⟩
def RL : String := "StrikePassesLaw"
abbrev cL_law : ByteArray := code
def yL_law : MethodName := ⟨RL, "law", "([I)Z"⟩
abbrev vwCl : List vw_C := [(RX0, TX0, 9), (RX1, TX1, 2), (RX2, TX2, 4), (RX3, TX3, 6), (RX4, TX4, 5), (RX5, TX5, 3), (RX6, TX6, 1), (RX7, TX7, 10), (RX8, TX8, 20)]
end
section
/-! A LOGIC OVER THE WALK. gv_G: from this pc with these locals, stack and cells the method goes on to its end. References are places in the list of cells (below 1000) or one of four arrays that nobody writes (1000 ..). -/
abbrev gv_MR : Type := MethodName × ByteArray × Nat × Option FieldType × Nat × Nat
abbrev gv_E : Type := Launch × va_G × (Nat → ClassId) × Nat × (Nat → Nat) × Nat × (Nat → Int32)
def gv_as (ε : gv_E) (k : Nat) : Nat := if k < 1000 then ε.2.2.2.1 + k else ε.2.2.2.2.1 (k - 1000)
def gv_v (ε : gv_E) : Value → Value
  | .ref k => .ref (gv_as ε k)
  | v => v
def gv_e (ε : gv_E) : va_E → va_E
  | .inl (k, n, .inr (.inr (.inr (.inr f)))) => .inl (ε.2.2.1 k, n, .inr (.inr (.inr (.inr (fun j => (f j).map (gv_as ε))))))
  | .inl (k, x) => .inl (ε.2.2.1 k, x)
  | .inr (c, fs) => .inr (c, fs.map (gv_v ε))
def gv_w (ε : gv_E) (sw : List va_E) : va_W := sw.mapIdx (fun k e => (gv_as ε k, gv_e ε e))
def gv_A (ε : gv_E) : Nat → Prop := fun q => ε.2.2.2.1 ≤ q
def gv_tys (ε : gv_E) : List (ClassId × FieldType) := [(ε.2.2.1 0, .int), (ε.2.2.1 1, .boolean), (ε.2.2.1 2, .object RX4)]
def gv_t3 (a b c : Int32) : Nat → Int32 := fun j => match j with
  | 0 => a
  | 1 => b
  | _ => c
/-- the four arrays that nobody writes -/
def gv_x (ε : gv_E) : Nat → Nat × (Nat → Int32) := fun j => match j with
  | 0 => (3, gv_t3 2 1 12)
  | 1 => (3, gv_t3 0 0 1)
  | 2 => (3, gv_t3 4 9 72)
  | _ => (ε.2.2.2.2.2.1, ε.2.2.2.2.2.2)
def gv_W : List Cond := lw_tbl.filter goodWord
def gv_nm (j : Nat) : String := match j with
  | 0 => "AT_FIRST"
  | 1 => "LEAST"
  | _ => "GREATEST"
/-- what holds of the surroundings at a method's entry -/
def gv_X (ε : gv_E) (s : State) : Prop :=
  va_K ε.2.1 vwCl (gv_tys ε) s ∧ (∀ a i x h, Cond.methodLinkNest a i x h ∈ lw_tbl → va_Nw (.methodLinkNest a i x h) s) ∧ (∀ a i b n d h, Cond.fieldLinkNest a i b n d h ∈ lw_tbl → va_Nw (.fieldLinkNest a i b n d h) s) ∧ va_AO RX4 s ∧
  (∀ j, j < 3 → va_Z RX7 (gv_nm j) "[I" (.ref (ε.2.2.2.2.1 j)) (gv_A ε) s s.heap) ∧ ∀ j, j < 4 → va_T .int (ε.2.2.2.2.1 j) (gv_x ε j).1 (fun i => .int ((gv_x ε j).2 i)) (gv_A ε) s s.heap
theorem gv_X.moved {ε : gv_E} {s U : State} (hW : s.WarmedH U.vm) (hk : ∀ a : Nat, a < s.heap.size → ¬ gv_A ε a → U.heap[a]? = s.heap[a]?) (h : gv_X ε s) : gv_X ε U := by
  obtain ⟨h1, h2, h3, h4, h5, h6⟩ := h
  refine ⟨va_K.moved hW.alike h1, fun a i x h q => va_Nw.warmM hW (h2 a i x h q), fun a i b n d h q => va_Nw.warmF hW (h3 a i b n d h q), va_AO.moved hW.alike h4, fun j hj => ?_, fun j hj => ?_⟩
  · exact va_Z.kept (va_Z.moved hW.alike (h5 j hj)) hk
  · exact va_T.kept (va_T.moved hW.alike (h6 j hj)) hk
theorem gv_X.blind {ε : gv_E} {U : State} {g : JFrame} {mk : MethodId} {a : Array Value} (h : gv_X ε U) : gv_X ε (U.calling g mk a) := by
  obtain ⟨h1, h2, h3, h4, h5, h6⟩ := h
  have e : U.vm.Alike (U.calling g mk a).vm := Vm.Alike.refl U.vm
  refine ⟨va_K.moved e h1, fun a i x h q => va_Nw.same rfl rfl (h2 a i x h q), fun a i b n d h q => va_Nw.same rfl rfl (h3 a i b n d h q), va_AO.moved e h4, fun j hj => ?_, fun j hj => ?_⟩
  · exact va_Z.kept (va_Z.moved e (h5 j hj)) (fun _ _ _ => rfl)
  · exact va_T.kept (va_T.moved e (h6 j hj)) (fun _ _ _ => rfl)
/-! the locals: a list by slots -/
def gv_h (ε : gv_E) (L : List (Option Value)) (i : Nat) : Option (Nat × Value) := match L[i]? with
  | some (some v) => if v.category = 2 ∧ L[i + 1]? ≠ some none then none else some (i, gv_v ε v)
  | _ => none
def gv_l (ε : gv_E) (L : List (Option Value)) : List (Nat × Value) := (List.range L.length).filterMap (gv_h ε L)
theorem gv_cat (ε : gv_E) (v : Value) : (gv_v ε v).category = v.category := by cases v <;> rfl
theorem gv_l_mem {ε : gv_E} {L : List (Option Value)} {q : Nat × Value} : q ∈ gv_l ε L ↔ ∃ v, L[q.1]? = some (some v) ∧ q.2 = gv_v ε v ∧ ¬ (v.category = 2 ∧ L[q.1 + 1]? ≠ some none) := by
  unfold gv_l
  rw [List.mem_filterMap]
  constructor
  · rintro ⟨i, -, hi⟩
    unfold gv_h at hi
    split at hi
    next v hv =>
      split at hi
      next => cases hi
      next hc =>
        cases hi
        exact ⟨v, hv, rfl, hc⟩
    next => cases hi
  · rintro ⟨v, hv, e, hc⟩
    refine ⟨q.1, ?_, ?_⟩
    · rw [List.mem_range]
      exact (List.getElem?_eq_some_iff.mp hv).1
    · unfold gv_h
      rw [hv]
      show (if v.category = 2 ∧ L[q.1 + 1]? ≠ some none then none else some (q.1, gv_v ε v)) = some q
      rw [if_neg hc, ← e]
def gv_has (ε : gv_E) (ls : Array Slot) (n : Nat) (L : List (Option Value)) : Prop := lv_has ls n (gv_l ε L) ∧ L.length = n
theorem gv_has.at1 {ε : gv_E} {ls : Array Slot} {n : Nat} {L : List (Option Value)} (h : gv_has ε ls n L) {i : Nat} {v : Value} (hv : L[i]? = some (some v)) (hc : v.category = 1) : ls[i]? = some (.val (gv_v ε v)) :=
  h.1.2.2 (i, gv_v ε v) (gv_l_mem.mpr ⟨v, hv, rfl, fun q => by rw [hc] at q; exact absurd q.1 (by decide)⟩)
theorem gv_has.at2 {ε : gv_E} {ls : Array Slot} {n : Nat} {L : List (Option Value)} (h : gv_has ε ls n L) {i : Nat} {v : Value} (hv : L[i]? = some (some v)) (hc : L[i + 1]? = some none) : ls[i]? = some (.val (gv_v ε v)) :=
  h.1.2.2 (i, gv_v ε v) (gv_l_mem.mpr ⟨v, hv, rfl, fun q => q.2 hc⟩)
theorem gv_has.store1 {ε : gv_E} {ls' : Array Slot} {n : Nat} {L : List (Option Value)} {i : Nat} {v : Value} (hL : L.length = n) (hi : i < n) (hc : v.category = 1) (h : lv_has ls' n ((i, gv_v ε v) :: (gv_l ε L).filter (fun q => !(q.1 == i) && !(q.1 + 1 == i && q.2.category == 2)))) : gv_has ε ls' n (L.set i (some v)) := by
  refine ⟨⟨h.1, h.2.1, fun q hq => h.2.2 q ?_⟩, by rw [List.length_set]; exact hL⟩
  obtain ⟨w, h1, h2, h3⟩ := gv_l_mem.mp hq
  rw [List.getElem?_set] at h1
  by_cases e : i = q.1
  · rw [if_pos e, if_pos (by omega)] at h1
    have e2 : v = w := by simpa using h1
    subst e2
    rw [show q = (i, gv_v ε v) from Prod.ext e.symm h2]
    exact List.mem_cons_self
  · rw [if_neg e] at h1
    refine List.mem_cons_of_mem _ (List.mem_filter.mpr ⟨gv_l_mem.mpr ⟨w, h1, h2, ?_⟩, ?_⟩)
    · intro z
      refine h3 ⟨z.1, ?_⟩
      rw [List.getElem?_set]
      by_cases e3 : i = q.1 + 1
      · rw [if_pos e3, if_pos (by omega)]
        simp
      · rw [if_neg e3]
        exact z.2
    · rw [h2, gv_cat]
      by_cases e3 : q.1 + 1 = i
      · have : ¬ w.category = 2 := fun z => h3 ⟨z, by rw [List.getElem?_set, if_pos e3.symm, if_pos (by omega)]; simp⟩
        simp [this]
        omega
      · simp [e3]
        omega
theorem gv_has.store2 {ε : gv_E} {ls' : Array Slot} {n : Nat} {L : List (Option Value)} {i : Nat} {v : Value} (hL : L.length = n) (hi : i + 1 < n) (h : lv_has ls' n ((i, gv_v ε v) :: (gv_l ε L).filter (fun q => !(q.1 == i) && (!(q.1 == i + 1) && !(q.1 + 1 == i && q.2.category == 2))))) : gv_has ε ls' n ((L.set i (some v)).set (i + 1) none) := by
  refine ⟨⟨h.1, h.2.1, fun q hq => h.2.2 q ?_⟩, by rw [List.length_set, List.length_set]; exact hL⟩
  obtain ⟨w, h1, h2, h3⟩ := gv_l_mem.mp hq
  rw [List.getElem?_set, List.length_set] at h1
  by_cases e0 : i + 1 = q.1
  · rw [if_pos e0, if_pos (by omega)] at h1
    cases h1
  · rw [if_neg e0, List.getElem?_set] at h1
    by_cases e : i = q.1
    · rw [if_pos e, if_pos (by omega)] at h1
      have e2 : v = w := by simpa using h1
      subst e2
      rw [show q = (i, gv_v ε v) from Prod.ext e.symm h2]
      exact List.mem_cons_self
    · rw [if_neg e] at h1
      refine List.mem_cons_of_mem _ (List.mem_filter.mpr ⟨gv_l_mem.mpr ⟨w, h1, h2, ?_⟩, ?_⟩)
      · intro z
        refine h3 ⟨z.1, ?_⟩
        rw [List.getElem?_set, List.length_set, if_neg (by omega), List.getElem?_set]
        by_cases e3 : i = q.1 + 1
        · rw [if_pos e3, if_pos (by omega)]
          simp
        · rw [if_neg e3]
          exact z.2
      · rw [h2, gv_cat]
        by_cases e3 : q.1 + 1 = i
        · have : ¬ w.category = 2 := fun z => h3 ⟨z, by rw [List.getElem?_set, List.length_set, if_neg (by omega), List.getElem?_set, if_pos e3.symm, if_pos (by omega)]; simp⟩
          simp [this]
          omega
        · simp [e3]
          omega
/-! the cells -/
theorem gv_w_len (ε : gv_E) (sw : List va_E) : (gv_w ε sw).length = sw.length := by simp [gv_w]
theorem gv_w_at {ε : gv_E} {sw : List va_E} {k : Nat} {e : va_E} (h : sw[k]? = some e) : (gv_w ε sw)[k]? = some (gv_as ε k, gv_e ε e) := by simp [gv_w, List.getElem?_mapIdx, h]
theorem gv_w_set (ε : gv_E) (sw : List va_E) (k : Nat) (e : va_E) : gv_w ε (sw.set k e) = (gv_w ε sw).set k (gv_as ε k, gv_e ε e) := by
  apply List.ext_getElem?
  intro i
  simp only [gv_w, List.getElem?_mapIdx, List.getElem?_set, List.length_mapIdx]
  by_cases h : k = i
  · subst h
    by_cases h2 : k < sw.length
    · simp [h2]
    · simp [h2]
  · simp [h]
theorem gv_w_push (ε : gv_E) (sw : List va_E) (e : va_E) : gv_w ε (sw ++ [e]) = gv_w ε sw ++ [(gv_as ε sw.length, gv_e ε e)] := by
  simp [gv_w, List.mapIdx_append]
theorem gv_as_lt {ε : gv_E} {k : Nat} (h : k < 1000) : gv_as ε k = ε.2.2.2.1 + k := by simp [gv_as, h]
theorem gv_D {ε : gv_E} {sw : List va_E} (h : sw.length ≤ 1000) : va_D (gv_A ε) (gv_w ε sw) := by
  have key : ∀ (i : Nat) (p : Nat × va_E), (gv_w ε sw)[i]? = some p → p.1 = ε.2.2.2.1 + i := by
    intro i p hp
    have hi : i < sw.length := by
      have := (List.getElem?_eq_some_iff.mp hp).1
      rwa [gv_w_len] at this
    rw [gv_w_at (List.getElem?_eq_getElem hi)] at hp
    cases hp
    exact gv_as_lt (by omega)
  refine ⟨fun i j p q hp hq e => ?_, fun k q hq => ?_⟩
  · have := key i p hp
    have := key j q hq
    omega
  · show ε.2.2.2.1 ≤ q.1
    have := key k q hq
    omega
/-- what holds at a method's entry -/
def gv_C (ε : gv_E) (M : gv_MR) (n0 : Nat) (p : Program) (s : State) (m : MethodId) (args : Array Value) (meth : Method) (c : Code) : Prop :=
  p.tables.exec = Jvm.exec ∧ c.code = M.2.1 ∧ meth.sig.returnType = M.2.2.2.1 ∧ c.maxLocals = M.2.2.1 ∧ s.vm.findClass M.1.cls = some m.cls ∧ (∀ w ∈ gv_W, w.before args s = true) ∧ meth.locks = false ∧ (M.1.name = "<init>" → meth.name = "<init>") ∧ gv_X ε s ∧ s.heap.size = ε.2.2.2.1 + n0
def gv_I (ε : gv_E) (M : gv_MR) (n0 : Nat) (s : State) (H : Heap) (locs : List Loc) (ls : Array Slot) (L : List (Option Value)) (sw : List va_E) (cu : Nat) : Prop :=
  va_P ε.2.1 vwCl (gv_w ε sw) H ∧ va_S (gv_A ε) s.heap H locs ∧ gv_has ε ls M.2.2.1 L ∧ sw.length = n0 + cu ∧ sw.length ≤ 1000
def gv_G (ε : gv_E) (R : Room) (M : gv_MR) (n0 : Nat) (Z : State → List Frame → Array Value → State → Prop) (pc : Nat) (L : List (Option Value)) (st : List Value) (sw : List va_E) (cu su : Nat) : Prop :=
  ∀ (p : Program) (e : Env) (s : State) (m : MethodId) (args : Array Value) (below : List Frame) (meth : Method) (c : Code), gv_C ε M n0 p s m args meth c → ∀ (H : Heap) (locs : List Loc) (ls : Array Slot), gv_I ε M n0 s H locs ls L sw cu → W p ε.1 e R s m args below meth c H locs cu su (Z s below args) (F0 m pc ls (st.map (gv_v ε)))
section GV
variable {ε : gv_E} {R : Room} {M : gv_MR} {n0 : Nat} {Z : State → List Frame → Array Value → State → Prop} {pc : Nat} {L : List (Option Value)} {st : List Value} {sw : List va_E} {cu su : Nat}

theorem gv_iconst {n : Int} {v : Int32} (hd : decode M.2.1 pc = .ok (.iconst n, 1)) (hv : Int32.ofInt n = v) (k : gv_G ε R M n0 Z (pc + 1) L (.int v :: st) sw cu su) : gv_G ε R M n0 Z pc L (st) sw cu su := by
  intro p e s m args below meth c C H locs ls I
  exact lv_iconst C.1 C.2.1 hd hv (k p e s m args below meth c C H locs ls I)
theorem gv_bipush {n : Int} {v : Int32} (hd : decode M.2.1 pc = .ok (.bipush n, 2)) (hv : (Int8.ofInt n).toInt32 = v) (k : gv_G ε R M n0 Z (pc + 2) L (.int v :: st) sw cu su) : gv_G ε R M n0 Z pc L (st) sw cu su := by
  intro p e s m args below meth c C H locs ls I
  exact lv_bipush C.1 C.2.1 hd hv (k p e s m args below meth c C H locs ls I)
theorem gv_sipush {n : Int} {v : Int32} (hd : decode M.2.1 pc = .ok (.sipush n, 3)) (hv : (Int16.ofInt n).toInt32 = v) (k : gv_G ε R M n0 Z (pc + 3) L (.int v :: st) sw cu su) : gv_G ε R M n0 Z pc L (st) sw cu su := by
  intro p e s m args below meth c C H locs ls I
  exact lv_sipush C.1 C.2.1 hd hv (k p e s m args below meth c C H locs ls I)
theorem gv_lconst {n : Fin 2} {v : Int64} (hd : decode M.2.1 pc = .ok (.lconst n, 1)) (hv : Int64.ofNat (n : Nat) = v) (k : gv_G ε R M n0 Z (pc + 1) L (.long v :: st) sw cu su) : gv_G ε R M n0 Z pc L (st) sw cu su := by
  intro p e s m args below meth c C H locs ls I
  exact lv_lconst C.1 C.2.1 hd hv (k p e s m args below meth c C H locs ls I)
theorem gv_ldc {i : Nat} {v : Int32} (hd : decode M.2.1 pc = .ok (.ldc i, 2)) (hw : Cond.constant M.1.cls i v ∈ gv_W) (k : gv_G ε R M n0 Z (pc + 2) L (.int v :: st) sw cu su) : gv_G ε R M n0 Z pc L (st) sw cu su := by
  intro p e s m args below meth c C H locs ls I
  exact lv_ldc C.1 C.2.1 C.2.2.2.2.1 (C.2.2.2.2.2.1 _ hw) hd (k p e s m args below meth c C H locs ls I)
theorem gv_ldcw {i : Nat} {v : Int32} (hd : decode M.2.1 pc = .ok (.ldc_w i, 3)) (hw : Cond.constant M.1.cls i v ∈ gv_W) (k : gv_G ε R M n0 Z (pc + 3) L (.int v :: st) sw cu su) : gv_G ε R M n0 Z pc L (st) sw cu su := by
  intro p e s m args below meth c C H locs ls I
  exact lv_ldcw C.1 C.2.1 C.2.2.2.2.1 (C.2.2.2.2.2.1 _ hw) hd (k p e s m args below meth c C H locs ls I)
theorem gv_ldc2 {i : Nat} {v : Int64} (hd : decode M.2.1 pc = .ok (.ldc2_w i, 3)) (hw : Cond.constantLong M.1.cls i v ∈ gv_W) (k : gv_G ε R M n0 Z (pc + 3) L (.long v :: st) sw cu su) : gv_G ε R M n0 Z pc L (st) sw cu su := by
  intro p e s m args below meth c C H locs ls I
  exact lv_ldc2 C.1 C.2.1 C.2.2.2.2.1 (C.2.2.2.2.2.1 _ hw) hd (k p e s m args below meth c C H locs ls I)
theorem gv_iload_n {j : Fin 4} {i : Nat} {x : Int32} (hd : decode M.2.1 pc = .ok (.iload_n j, 1)) (hi : (j : Nat) = i) (hl : L[i]? = some (some (.int x))) (k : gv_G ε R M n0 Z (pc + 1) L (.int x :: st) sw cu su) : gv_G ε R M n0 Z pc L (st) sw cu su := by
  intro p e s m args below meth c C H locs ls I
  exact lv_iload_n C.1 C.2.1 hd hi (I.2.2.1.at1 hl rfl) (k p e s m args below meth c C H locs ls I)
theorem gv_iload {i : Nat} {x : Int32} (hd : decode M.2.1 pc = .ok (.iload i, 2)) (hl : L[i]? = some (some (.int x))) (k : gv_G ε R M n0 Z (pc + 2) L (.int x :: st) sw cu su) : gv_G ε R M n0 Z pc L (st) sw cu su := by
  intro p e s m args below meth c C H locs ls I
  exact lv_iload C.1 C.2.1 hd (I.2.2.1.at1 hl rfl) (k p e s m args below meth c C H locs ls I)
theorem gv_aload_n {j : Fin 4} {i : Nat} {x : Nat} (hd : decode M.2.1 pc = .ok (.aload_n j, 1)) (hi : (j : Nat) = i) (hl : L[i]? = some (some (.ref x))) (k : gv_G ε R M n0 Z (pc + 1) L (.ref x :: st) sw cu su) : gv_G ε R M n0 Z pc L (st) sw cu su := by
  intro p e s m args below meth c C H locs ls I
  exact lv_aload_n C.1 C.2.1 hd hi (I.2.2.1.at1 hl rfl) (k p e s m args below meth c C H locs ls I)
theorem gv_aload {i : Nat} {x : Nat} (hd : decode M.2.1 pc = .ok (.aload i, 2)) (hl : L[i]? = some (some (.ref x))) (k : gv_G ε R M n0 Z (pc + 2) L (.ref x :: st) sw cu su) : gv_G ε R M n0 Z pc L (st) sw cu su := by
  intro p e s m args below meth c C H locs ls I
  exact lv_aload C.1 C.2.1 hd (I.2.2.1.at1 hl rfl) (k p e s m args below meth c C H locs ls I)
theorem gv_lload_n {j : Fin 4} {i : Nat} {x : Int64} (hd : decode M.2.1 pc = .ok (.lload_n j, 1)) (hi : (j : Nat) = i) (hl : L[i]? = some (some (.long x))) (hl2 : L[i + 1]? = some none) (k : gv_G ε R M n0 Z (pc + 1) L (.long x :: st) sw cu su) : gv_G ε R M n0 Z pc L (st) sw cu su := by
  intro p e s m args below meth c C H locs ls I
  exact lv_lload_n C.1 C.2.1 hd hi (I.2.2.1.at2 hl hl2) (k p e s m args below meth c C H locs ls I)
theorem gv_lload {i : Nat} {x : Int64} (hd : decode M.2.1 pc = .ok (.lload i, 2)) (hl : L[i]? = some (some (.long x))) (hl2 : L[i + 1]? = some none) (k : gv_G ε R M n0 Z (pc + 2) L (.long x :: st) sw cu su) : gv_G ε R M n0 Z pc L (st) sw cu su := by
  intro p e s m args below meth c C H locs ls I
  exact lv_lload C.1 C.2.1 hd (I.2.2.1.at2 hl hl2) (k p e s m args below meth c C H locs ls I)
theorem gv_istore_n {j : Fin 4} {i : Nat} {x : Int32} {L' : List (Option Value)} (hd : decode M.2.1 pc = .ok (.istore_n j, 1)) (hi : (j : Nat) = i) (hi2 : i < M.2.2.1) (hL : (L.set i (some (.int x))) = L') (k : gv_G ε R M n0 Z (pc + 1) L' st sw cu su) : gv_G ε R M n0 Z pc L (.int x :: st) sw cu su := by
  subst hL
  intro p e s m args below meth c C H locs ls I
  exact lv_istore_n C.1 C.2.1 hd hi I.2.2.1.1 hi2 rfl (fun ls' h => k p e s m args below meth c C H locs ls' ⟨I.1, I.2.1, gv_has.store1 I.2.2.1.2 hi2 rfl h, I.2.2.2⟩)
theorem gv_istore {i : Nat} {x : Int32} {L' : List (Option Value)} (hd : decode M.2.1 pc = .ok (.istore i, 2)) (hi2 : i < M.2.2.1) (hL : (L.set i (some (.int x))) = L') (k : gv_G ε R M n0 Z (pc + 2) L' st sw cu su) : gv_G ε R M n0 Z pc L (.int x :: st) sw cu su := by
  subst hL
  intro p e s m args below meth c C H locs ls I
  exact lv_istore C.1 C.2.1 hd I.2.2.1.1 hi2 rfl (fun ls' h => k p e s m args below meth c C H locs ls' ⟨I.1, I.2.1, gv_has.store1 I.2.2.1.2 hi2 rfl h, I.2.2.2⟩)
theorem gv_astore_n {j : Fin 4} {i : Nat} {x : Nat} {L' : List (Option Value)} (hd : decode M.2.1 pc = .ok (.astore_n j, 1)) (hi : (j : Nat) = i) (hi2 : i < M.2.2.1) (hL : (L.set i (some (.ref x))) = L') (k : gv_G ε R M n0 Z (pc + 1) L' st sw cu su) : gv_G ε R M n0 Z pc L (.ref x :: st) sw cu su := by
  subst hL
  intro p e s m args below meth c C H locs ls I
  exact lv_astore_n C.1 C.2.1 hd hi I.2.2.1.1 hi2 rfl (fun ls' h => k p e s m args below meth c C H locs ls' ⟨I.1, I.2.1, gv_has.store1 I.2.2.1.2 hi2 rfl h, I.2.2.2⟩)
theorem gv_astore {i : Nat} {x : Nat} {L' : List (Option Value)} (hd : decode M.2.1 pc = .ok (.astore i, 2)) (hi2 : i < M.2.2.1) (hL : (L.set i (some (.ref x))) = L') (k : gv_G ε R M n0 Z (pc + 2) L' st sw cu su) : gv_G ε R M n0 Z pc L (.ref x :: st) sw cu su := by
  subst hL
  intro p e s m args below meth c C H locs ls I
  exact lv_astore C.1 C.2.1 hd I.2.2.1.1 hi2 rfl (fun ls' h => k p e s m args below meth c C H locs ls' ⟨I.1, I.2.1, gv_has.store1 I.2.2.1.2 hi2 rfl h, I.2.2.2⟩)
theorem gv_lstore_n {j : Fin 4} {i : Nat} {x : Int64} {L' : List (Option Value)} (hd : decode M.2.1 pc = .ok (.lstore_n j, 1)) (hi : (j : Nat) = i) (hi2 : i + 1 < M.2.2.1) (hL : ((L.set i (some (.long x))).set (i + 1) none) = L') (k : gv_G ε R M n0 Z (pc + 1) L' st sw cu su) : gv_G ε R M n0 Z pc L (.long x :: st) sw cu su := by
  subst hL
  intro p e s m args below meth c C H locs ls I
  exact lv_lstore_n C.1 C.2.1 hd hi I.2.2.1.1 hi2 rfl (fun ls' h => k p e s m args below meth c C H locs ls' ⟨I.1, I.2.1, gv_has.store2 I.2.2.1.2 hi2 h, I.2.2.2⟩)
theorem gv_lstore {i : Nat} {x : Int64} {L' : List (Option Value)} (hd : decode M.2.1 pc = .ok (.lstore i, 2)) (hi2 : i + 1 < M.2.2.1) (hL : ((L.set i (some (.long x))).set (i + 1) none) = L') (k : gv_G ε R M n0 Z (pc + 2) L' st sw cu su) : gv_G ε R M n0 Z pc L (.long x :: st) sw cu su := by
  subst hL
  intro p e s m args below meth c C H locs ls I
  exact lv_lstore C.1 C.2.1 hd I.2.2.1.1 hi2 rfl (fun ls' h => k p e s m args below meth c C H locs ls' ⟨I.1, I.2.1, gv_has.store2 I.2.2.1.2 hi2 h, I.2.2.2⟩)
theorem gv_iinc {i : Nat} {n : Int} {x v : Int32} {L' : List (Option Value)} (hd : decode M.2.1 pc = .ok (.iinc i n, 3)) (hl : L[i]? = some (some (.int x))) (hv : x + Int32.ofInt n = v) (hL : (L.set i (some (.int v))) = L') (k : gv_G ε R M n0 Z (pc + 3) L' st sw cu su) : gv_G ε R M n0 Z pc L st sw cu su := by
  subst hL
  intro p e s m args below meth c C H locs ls I
  have hm : (i, Value.int x) ∈ gv_l ε L := gv_l_mem.mpr ⟨.int x, hl, rfl, fun q => absurd (show (1 : Nat) = 2 from q.1) (by decide)⟩
  obtain ⟨j, hj⟩ := List.getElem?_of_mem hm
  have hi2 : i < M.2.2.1 := by rw [← I.2.2.1.2]; exact (List.getElem?_eq_some_iff.mp hl).1
  exact lv_iinc C.1 C.2.1 hd I.2.2.1.1 hj hv hi2 rfl (fun ls' h => k p e s m args below meth c C H locs ls' ⟨I.1, I.2.1, gv_has.store1 I.2.2.1.2 hi2 rfl h, I.2.2.2⟩)
theorem gv_iadd {x y : Int32} (hd : decode M.2.1 pc = .ok (.iadd, 1)) (k : gv_G ε R M n0 Z (pc + 1) L (.int (x + y) :: st) sw cu su) : gv_G ε R M n0 Z pc L (.int y :: .int x :: st) sw cu su := by
  intro p e s m args below meth c C H locs ls I
  exact lv_iadd C.1 C.2.1 hd (k p e s m args below meth c C H locs ls I)
theorem gv_isub {x y : Int32} (hd : decode M.2.1 pc = .ok (.isub, 1)) (k : gv_G ε R M n0 Z (pc + 1) L (.int (x - y) :: st) sw cu su) : gv_G ε R M n0 Z pc L (.int y :: .int x :: st) sw cu su := by
  intro p e s m args below meth c C H locs ls I
  exact lv_isub C.1 C.2.1 hd (k p e s m args below meth c C H locs ls I)
theorem gv_imul {x y : Int32} (hd : decode M.2.1 pc = .ok (.imul, 1)) (k : gv_G ε R M n0 Z (pc + 1) L (.int (x * y) :: st) sw cu su) : gv_G ε R M n0 Z pc L (.int y :: .int x :: st) sw cu su := by
  intro p e s m args below meth c C H locs ls I
  exact lv_imul C.1 C.2.1 hd (k p e s m args below meth c C H locs ls I)
theorem gv_iand {x y : Int32} (hd : decode M.2.1 pc = .ok (.iand, 1)) (k : gv_G ε R M n0 Z (pc + 1) L (.int (x &&& y) :: st) sw cu su) : gv_G ε R M n0 Z pc L (.int y :: .int x :: st) sw cu su := by
  intro p e s m args below meth c C H locs ls I
  exact lv_iand C.1 C.2.1 hd (k p e s m args below meth c C H locs ls I)
theorem gv_ior {x y : Int32} (hd : decode M.2.1 pc = .ok (.ior, 1)) (k : gv_G ε R M n0 Z (pc + 1) L (.int (x ||| y) :: st) sw cu su) : gv_G ε R M n0 Z pc L (.int y :: .int x :: st) sw cu su := by
  intro p e s m args below meth c C H locs ls I
  exact lv_ior C.1 C.2.1 hd (k p e s m args below meth c C H locs ls I)
theorem gv_ixor {x y : Int32} (hd : decode M.2.1 pc = .ok (.ixor, 1)) (k : gv_G ε R M n0 Z (pc + 1) L (.int (x ^^^ y) :: st) sw cu su) : gv_G ε R M n0 Z pc L (.int y :: .int x :: st) sw cu su := by
  intro p e s m args below meth c C H locs ls I
  exact lv_ixor C.1 C.2.1 hd (k p e s m args below meth c C H locs ls I)
theorem gv_ishl {x y : Int32} (hd : decode M.2.1 pc = .ok (.ishl, 1)) (k : gv_G ε R M n0 Z (pc + 1) L (.int (x <<< (y &&& 31)) :: st) sw cu su) : gv_G ε R M n0 Z pc L (.int y :: .int x :: st) sw cu su := by
  intro p e s m args below meth c C H locs ls I
  exact lv_ishl C.1 C.2.1 hd (k p e s m args below meth c C H locs ls I)
theorem gv_ishr {x y : Int32} (hd : decode M.2.1 pc = .ok (.ishr, 1)) (k : gv_G ε R M n0 Z (pc + 1) L (.int (x >>> (y &&& 31)) :: st) sw cu su) : gv_G ε R M n0 Z pc L (.int y :: .int x :: st) sw cu su := by
  intro p e s m args below meth c C H locs ls I
  exact lv_ishr C.1 C.2.1 hd (k p e s m args below meth c C H locs ls I)
theorem gv_idiv {x y : Int32} (hd : decode M.2.1 pc = .ok (.idiv, 1)) (h0 : ¬ y = 0) (k : gv_G ε R M n0 Z (pc + 1) L (.int (x / y) :: st) sw cu su) : gv_G ε R M n0 Z pc L (.int y :: .int x :: st) sw cu su := by
  intro p e s m args below meth c C H locs ls I
  exact lv_idiv C.1 C.2.1 hd h0 (k p e s m args below meth c C H locs ls I)
theorem gv_irem {x y : Int32} (hd : decode M.2.1 pc = .ok (.irem, 1)) (h0 : ¬ y = 0) (k : gv_G ε R M n0 Z (pc + 1) L (.int (x - x / y * y) :: st) sw cu su) : gv_G ε R M n0 Z pc L (.int y :: .int x :: st) sw cu su := by
  intro p e s m args below meth c C H locs ls I
  exact lv_irem C.1 C.2.1 hd h0 (k p e s m args below meth c C H locs ls I)
theorem gv_ineg {x : Int32} (hd : decode M.2.1 pc = .ok (.ineg, 1)) (k : gv_G ε R M n0 Z (pc + 1) L (.int (-x) :: st) sw cu su) : gv_G ε R M n0 Z pc L (.int x :: st) sw cu su := by
  intro p e s m args below meth c C H locs ls I
  exact lv_ineg C.1 C.2.1 hd (k p e s m args below meth c C H locs ls I)
theorem gv_iushr {x y : Int32} (hd : decode M.2.1 pc = .ok (.iushr, 1)) (k : gv_G ε R M n0 Z (pc + 1) L (.int ((x.toUInt32 >>> (y.toUInt32 &&& Int32.toUInt32 31)).toInt32) :: st) sw cu su) : gv_G ε R M n0 Z pc L (.int y :: .int x :: st) sw cu su := by
  intro p e s m args below meth c C H locs ls I
  exact lv_iushr C.1 C.2.1 hd rfl (k p e s m args below meth c C H locs ls I)
theorem gv_ladd {x y : Int64} (hd : decode M.2.1 pc = .ok (.ladd, 1)) (k : gv_G ε R M n0 Z (pc + 1) L (.long (x + y) :: st) sw cu su) : gv_G ε R M n0 Z pc L (.long y :: .long x :: st) sw cu su := by
  intro p e s m args below meth c C H locs ls I
  exact lv_ladd C.1 C.2.1 hd (k p e s m args below meth c C H locs ls I)
theorem gv_lmul {x y : Int64} (hd : decode M.2.1 pc = .ok (.lmul, 1)) (k : gv_G ε R M n0 Z (pc + 1) L (.long (x * y) :: st) sw cu su) : gv_G ε R M n0 Z pc L (.long y :: .long x :: st) sw cu su := by
  intro p e s m args below meth c C H locs ls I
  exact lv_lmul C.1 C.2.1 hd (k p e s m args below meth c C H locs ls I)
theorem gv_land {x y : Int64} (hd : decode M.2.1 pc = .ok (.land, 1)) (k : gv_G ε R M n0 Z (pc + 1) L (.long (x &&& y) :: st) sw cu su) : gv_G ε R M n0 Z pc L (.long y :: .long x :: st) sw cu su := by
  intro p e s m args below meth c C H locs ls I
  exact lv_land C.1 C.2.1 hd (k p e s m args below meth c C H locs ls I)
theorem gv_lshr {x : Int64} {y : Int32} (hd : decode M.2.1 pc = .ok (.lshr, 1)) (k : gv_G ε R M n0 Z (pc + 1) L (.long (x >>> (y.toInt64 &&& 63)) :: st) sw cu su) : gv_G ε R M n0 Z pc L (.int y :: .long x :: st) sw cu su := by
  intro p e s m args below meth c C H locs ls I
  exact lv_lshr C.1 C.2.1 hd rfl (k p e s m args below meth c C H locs ls I)
theorem gv_lcmp {x y : Int64} (hd : decode M.2.1 pc = .ok (.lcmp, 1)) (k : gv_G ε R M n0 Z (pc + 1) L (.int (lg_cmp x y) :: st) sw cu su) : gv_G ε R M n0 Z pc L (.long y :: .long x :: st) sw cu su := by
  intro p e s m args below meth c C H locs ls I
  exact W.lcmp C.1 C.2.1 hd (k p e s m args below meth c C H locs ls I)
theorem gv_dup {v : Value} (hd : decode M.2.1 pc = .ok (.dup, 1)) (hc : v.category = 1) (k : gv_G ε R M n0 Z (pc + 1) L (v :: v :: st) sw cu su) : gv_G ε R M n0 Z pc L (v :: st) sw cu su := by
  intro p e s m args below meth c C H locs ls I
  exact lv_dup C.1 C.2.1 hd (by rw [gv_cat]; exact hc) (k p e s m args below meth c C H locs ls I)
theorem gv_pop {v : Value} (hd : decode M.2.1 pc = .ok (.pop, 1)) (hc : v.category = 1) (k : gv_G ε R M n0 Z (pc + 1) L (st) sw cu su) : gv_G ε R M n0 Z pc L (v :: st) sw cu su := by
  intro p e s m args below meth c C H locs ls I
  exact lv_pop C.1 C.2.1 hd (by rw [gv_cat]; exact hc) (k p e s m args below meth c C H locs ls I)
theorem gv_dup2 {v u : Value} (hd : decode M.2.1 pc = .ok (.dup2, 1)) (hc : v.category = 1) (hc2 : u.category = 1) (k : gv_G ε R M n0 Z (pc + 1) L (v :: u :: v :: u :: st) sw cu su) : gv_G ε R M n0 Z pc L (v :: u :: st) sw cu su := by
  intro p e s m args below meth c C H locs ls I
  exact lv_dup2_11 C.1 C.2.1 hd (by rw [gv_cat]; exact hc) (by rw [gv_cat]; exact hc2) (k p e s m args below meth c C H locs ls I)
theorem gv_if_eq {x : Int32} {off : Int} {tgt : Nat} (hd : decode M.2.1 pc = .ok (.ifCond .eq off, 3)) (ht : (pc : Int) + off = (tgt : Int)) (kt : x = 0 → gv_G ε R M n0 Z tgt L st sw cu su) (kf : ¬ (x = 0) → gv_G ε R M n0 Z (pc + 3) L st sw cu su) : gv_G ε R M n0 Z pc L (.int x :: st) sw cu su := by
  intro p e s m args below meth c C H locs ls I
  exact lv_if_eq C.1 C.2.1 hd ht (fun h => kt h p e s m args below meth c C H locs ls I) (fun h => kf h p e s m args below meth c C H locs ls I)
theorem gv_icmp_eq {x y : Int32} {off : Int} {tgt : Nat} (hd : decode M.2.1 pc = .ok (.if_icmp .eq off, 3)) (ht : (pc : Int) + off = (tgt : Int)) (kt : x = y → gv_G ε R M n0 Z tgt L st sw cu su) (kf : ¬ (x = y) → gv_G ε R M n0 Z (pc + 3) L st sw cu su) : gv_G ε R M n0 Z pc L (.int y :: .int x :: st) sw cu su := by
  intro p e s m args below meth c C H locs ls I
  exact lv_icmp_eq C.1 C.2.1 hd ht (fun h => kt h p e s m args below meth c C H locs ls I) (fun h => kf h p e s m args below meth c C H locs ls I)
theorem gv_if_ne {x : Int32} {off : Int} {tgt : Nat} (hd : decode M.2.1 pc = .ok (.ifCond .ne off, 3)) (ht : (pc : Int) + off = (tgt : Int)) (kt : ¬ x = 0 → gv_G ε R M n0 Z tgt L st sw cu su) (kf : x = 0 → gv_G ε R M n0 Z (pc + 3) L st sw cu su) : gv_G ε R M n0 Z pc L (.int x :: st) sw cu su := by
  intro p e s m args below meth c C H locs ls I
  exact lv_if_ne C.1 C.2.1 hd ht (fun h => kt h p e s m args below meth c C H locs ls I) (fun h => kf h p e s m args below meth c C H locs ls I)
theorem gv_icmp_ne {x y : Int32} {off : Int} {tgt : Nat} (hd : decode M.2.1 pc = .ok (.if_icmp .ne off, 3)) (ht : (pc : Int) + off = (tgt : Int)) (kt : ¬ x = y → gv_G ε R M n0 Z tgt L st sw cu su) (kf : x = y → gv_G ε R M n0 Z (pc + 3) L st sw cu su) : gv_G ε R M n0 Z pc L (.int y :: .int x :: st) sw cu su := by
  intro p e s m args below meth c C H locs ls I
  exact lv_icmp_ne C.1 C.2.1 hd ht (fun h => kt h p e s m args below meth c C H locs ls I) (fun h => kf h p e s m args below meth c C H locs ls I)
theorem gv_if_lt {x : Int32} {off : Int} {tgt : Nat} (hd : decode M.2.1 pc = .ok (.ifCond .lt off, 3)) (ht : (pc : Int) + off = (tgt : Int)) (kt : x < 0 → gv_G ε R M n0 Z tgt L st sw cu su) (kf : ¬ (x < 0) → gv_G ε R M n0 Z (pc + 3) L st sw cu su) : gv_G ε R M n0 Z pc L (.int x :: st) sw cu su := by
  intro p e s m args below meth c C H locs ls I
  exact lv_if_lt C.1 C.2.1 hd ht (fun h => kt h p e s m args below meth c C H locs ls I) (fun h => kf h p e s m args below meth c C H locs ls I)
theorem gv_icmp_lt {x y : Int32} {off : Int} {tgt : Nat} (hd : decode M.2.1 pc = .ok (.if_icmp .lt off, 3)) (ht : (pc : Int) + off = (tgt : Int)) (kt : x < y → gv_G ε R M n0 Z tgt L st sw cu su) (kf : ¬ (x < y) → gv_G ε R M n0 Z (pc + 3) L st sw cu su) : gv_G ε R M n0 Z pc L (.int y :: .int x :: st) sw cu su := by
  intro p e s m args below meth c C H locs ls I
  exact lv_icmp_lt C.1 C.2.1 hd ht (fun h => kt h p e s m args below meth c C H locs ls I) (fun h => kf h p e s m args below meth c C H locs ls I)
theorem gv_if_ge {x : Int32} {off : Int} {tgt : Nat} (hd : decode M.2.1 pc = .ok (.ifCond .ge off, 3)) (ht : (pc : Int) + off = (tgt : Int)) (kt : 0 ≤ x → gv_G ε R M n0 Z tgt L st sw cu su) (kf : ¬ (0 ≤ x) → gv_G ε R M n0 Z (pc + 3) L st sw cu su) : gv_G ε R M n0 Z pc L (.int x :: st) sw cu su := by
  intro p e s m args below meth c C H locs ls I
  exact lv_if_ge C.1 C.2.1 hd ht (fun h => kt h p e s m args below meth c C H locs ls I) (fun h => kf h p e s m args below meth c C H locs ls I)
theorem gv_icmp_ge {x y : Int32} {off : Int} {tgt : Nat} (hd : decode M.2.1 pc = .ok (.if_icmp .ge off, 3)) (ht : (pc : Int) + off = (tgt : Int)) (kt : y ≤ x → gv_G ε R M n0 Z tgt L st sw cu su) (kf : ¬ (y ≤ x) → gv_G ε R M n0 Z (pc + 3) L st sw cu su) : gv_G ε R M n0 Z pc L (.int y :: .int x :: st) sw cu su := by
  intro p e s m args below meth c C H locs ls I
  exact lv_icmp_ge C.1 C.2.1 hd ht (fun h => kt h p e s m args below meth c C H locs ls I) (fun h => kf h p e s m args below meth c C H locs ls I)
theorem gv_if_gt {x : Int32} {off : Int} {tgt : Nat} (hd : decode M.2.1 pc = .ok (.ifCond .gt off, 3)) (ht : (pc : Int) + off = (tgt : Int)) (kt : 0 < x → gv_G ε R M n0 Z tgt L st sw cu su) (kf : ¬ (0 < x) → gv_G ε R M n0 Z (pc + 3) L st sw cu su) : gv_G ε R M n0 Z pc L (.int x :: st) sw cu su := by
  intro p e s m args below meth c C H locs ls I
  exact lv_if_gt C.1 C.2.1 hd ht (fun h => kt h p e s m args below meth c C H locs ls I) (fun h => kf h p e s m args below meth c C H locs ls I)
theorem gv_icmp_gt {x y : Int32} {off : Int} {tgt : Nat} (hd : decode M.2.1 pc = .ok (.if_icmp .gt off, 3)) (ht : (pc : Int) + off = (tgt : Int)) (kt : y < x → gv_G ε R M n0 Z tgt L st sw cu su) (kf : ¬ (y < x) → gv_G ε R M n0 Z (pc + 3) L st sw cu su) : gv_G ε R M n0 Z pc L (.int y :: .int x :: st) sw cu su := by
  intro p e s m args below meth c C H locs ls I
  exact lv_icmp_gt C.1 C.2.1 hd ht (fun h => kt h p e s m args below meth c C H locs ls I) (fun h => kf h p e s m args below meth c C H locs ls I)
theorem gv_if_le {x : Int32} {off : Int} {tgt : Nat} (hd : decode M.2.1 pc = .ok (.ifCond .le off, 3)) (ht : (pc : Int) + off = (tgt : Int)) (kt : x ≤ 0 → gv_G ε R M n0 Z tgt L st sw cu su) (kf : ¬ (x ≤ 0) → gv_G ε R M n0 Z (pc + 3) L st sw cu su) : gv_G ε R M n0 Z pc L (.int x :: st) sw cu su := by
  intro p e s m args below meth c C H locs ls I
  exact lv_if_le C.1 C.2.1 hd ht (fun h => kt h p e s m args below meth c C H locs ls I) (fun h => kf h p e s m args below meth c C H locs ls I)
theorem gv_icmp_le {x y : Int32} {off : Int} {tgt : Nat} (hd : decode M.2.1 pc = .ok (.if_icmp .le off, 3)) (ht : (pc : Int) + off = (tgt : Int)) (kt : x ≤ y → gv_G ε R M n0 Z tgt L st sw cu su) (kf : ¬ (x ≤ y) → gv_G ε R M n0 Z (pc + 3) L st sw cu su) : gv_G ε R M n0 Z pc L (.int y :: .int x :: st) sw cu su := by
  intro p e s m args below meth c C H locs ls I
  exact lv_icmp_le C.1 C.2.1 hd ht (fun h => kt h p e s m args below meth c C H locs ls I) (fun h => kf h p e s m args below meth c C H locs ls I)
theorem gv_goto {off : Int} {tgt : Nat} (hd : decode M.2.1 pc = .ok (.goto off, 3)) (ht : (pc : Int) + off = (tgt : Int)) (k : gv_G ε R M n0 Z tgt L st sw cu su) : gv_G ε R M n0 Z pc L st sw cu su := by
  intro p e s m args below meth c C H locs ls I
  exact lv_goto C.1 C.2.1 hd ht (k p e s m args below meth c C H locs ls I)
theorem gv_tabOut {dflt lo hi : Int} {offs : Array Int} {len : Nat} {x : Int32} {tgt : Nat} (hd : decode M.2.1 pc = .ok (.tableswitch dflt lo hi offs, len)) (h : x.toInt < lo ∨ hi < x.toInt) (ht : (pc : Int) + dflt = (tgt : Int)) (k : gv_G ε R M n0 Z tgt L st sw cu su) : gv_G ε R M n0 Z pc L (.int x :: st) sw cu su := by
  intro p e s m args below meth c C H locs ls I
  exact lv_tableOut C.1 C.2.1 hd h ht (k p e s m args below meth c C H locs ls I)
theorem gv_tabIn {dflt lo hi : Int} {offs : Array Int} {len : Nat} {x : Int32} {off : Int} {tgt : Nat} (hd : decode M.2.1 pc = .ok (.tableswitch dflt lo hi offs, len)) (h1 : ¬ x.toInt < lo) (h2 : ¬ hi < x.toInt) (ho : offs[(x.toInt - lo).toNat]? = some off) (ht : (pc : Int) + off = (tgt : Int)) (k : gv_G ε R M n0 Z tgt L st sw cu su) : gv_G ε R M n0 Z pc L (.int x :: st) sw cu su := by
  intro p e s m args below meth c C H locs ls I
  exact lv_tableIn C.1 C.2.1 hd h1 h2 ho ht (k p e s m args below meth c C H locs ls I)
end GV
end
section
/-! the rules of the heap, calls and returns -/
section GH
variable {ε : gv_E} {R : Room} {M : gv_MR} {n0 : Nat} {Z : State → List Frame → Array Value → State → Prop} {pc : Nat} {L : List (Option Value)} {st : List Value} {sw : List va_E} {cu su : Nat}
/-- a field's link: the class's number, the field's -/
def gv_F (own : String) (idx ci k : Nat) : Prop := ∃ (C : String) (T : u_T) (N : Nat) (ty : Nat → FieldType), vwCl[ci]? = some (C, T, N) ∧ k < N ∧ (∀ w ∈ u_ws C T N, w ∈ gv_W) ∧ Cond.fieldLink own idx (T k).1 (T k).2.1 (T k).2.2.1 ∈ gv_W ∧ (∀ k, k < N → parseFieldDescriptor (T k).2.2.1 = some (ty k)) ∧ ∀ a, a < N → ∀ b, b < N → a ≠ b → (T a).2.1 ≠ (T b).2.1
theorem gv_getfield {idx ci fk k : Nat} {fs : List Value} {v : Value} (hd : decode M.2.1 pc = .ok (.getfield idx, 3)) (hw : gv_F M.1.cls idx ci fk) (hk : sw[k]? = some (.inr (ci, fs))) (hv : fs[fk]? = some v) (kk : gv_G ε R M n0 Z (pc + 3) L (v :: st) sw cu su) : gv_G ε R M n0 Z pc L (.ref k :: st) sw cu su := by
  intro p e s m args below meth c C H locs ls I
  obtain ⟨Cn, T, N, ty, h1, h2, h3, h4, h5, h6⟩ := hw
  exact va_get (D := ε.2.1) (v := gv_v ε v) C.1 C.2.1 C.2.2.2.2.2.1 h3 C.2.2.2.2.1 C.2.2.2.2.2.2.2.2.1.1 I.1 k (gv_w_at hk) h1 fk h2 (C.2.2.2.2.2.1 _ h4) (fun _ h => h) (by simp [hv]) hd (kk p e s m args below meth c C H locs ls I)
/-- the same, of a nest mate -/
def gv_FN (own : String) (idx ci k : Nat) : Prop := ∃ (C : String) (T : u_T) (N : Nat) (host : String), vwCl[ci]? = some (C, T, N) ∧ k < N ∧ (∀ w ∈ u_ws C T N, w ∈ gv_W) ∧ Cond.fieldLinkNest own idx (T k).1 (T k).2.1 (T k).2.2.1 host ∈ lw_tbl
theorem gv_getfieldN {idx ci fk k : Nat} {fs : List Value} {v : Value} (hd : decode M.2.1 pc = .ok (.getfield idx, 3)) (hw : gv_FN M.1.cls idx ci fk) (hk : sw[k]? = some (.inr (ci, fs))) (hv : fs[fk]? = some v) (kk : gv_G ε R M n0 Z (pc + 3) L (v :: st) sw cu su) : gv_G ε R M n0 Z pc L (.ref k :: st) sw cu su := by
  intro p e s m args below meth c C H locs ls I
  obtain ⟨Cn, T, N, host, h1, h2, h3, h4⟩ := hw
  exact va_getN (D := ε.2.1) (v := gv_v ε v) C.1 C.2.1 C.2.2.2.2.2.1 h3 C.2.2.2.2.1 C.2.2.2.2.2.2.2.2.1.1 I.1 k (gv_w_at hk) h1 fk h2 (va_Nw.use rfl (C.2.2.2.2.2.2.2.2.1.2.2.1 _ _ _ _ _ _ h4)) (fun _ h => h) (by simp [hv]) hd (kk p e s m args below meth c C H locs ls I)
/-- what may be put: its kind -/
def gv_P (own : String) (idx ci k : Nat) (v : Value) : Prop := ∃ (C : String) (T : u_T) (N : Nat) (ty : Nat → FieldType), vwCl[ci]? = some (C, T, N) ∧ k < N ∧ (∀ w ∈ u_ws C T N, w ∈ gv_W) ∧ Cond.fieldLink own idx (T k).1 (T k).2.1 (T k).2.2.1 ∈ gv_W ∧ (∀ k, k < N → parseFieldDescriptor (T k).2.2.1 = some (ty k)) ∧ (∀ a, a < N → ∀ b, b < N → a ≠ b → (T a).2.1 ≠ (T b).2.1) ∧ narrow (ty k) v = v ∧ fits (ty k) v = true ∧ ((T k).2.2.2 = false ∨ (T k).1 = own)
theorem gv_putfield {idx ci fk k : Nat} {fs : List Value} {v : Value} (hd : decode M.2.1 pc = .ok (.putfield idx, 3)) (hw : gv_P M.1.cls idx ci fk (gv_v ε v)) (hin : (∃ (C : String) (T : u_T) (N : Nat), vwCl[ci]? = some (C, T, N) ∧ (T fk).2.2.2 = false) ∨ M.1.name = "<init>") (hk : sw[k]? = some (.inr (ci, fs))) (hv : fk < fs.length) (kk : gv_G ε R M n0 Z (pc + 3) L st (sw.set k (.inr (ci, fs.set fk v))) cu su) : gv_G ε R M n0 Z pc L (v :: .ref k :: st) sw cu su := by
  intro p e s m args below meth c C H locs ls I
  obtain ⟨Cn, T, N, ty, h1, h2, h3, h4, h5, h6, h7, h8, h9⟩ := hw
  have fin : ∀ (H1 : Heap) (locs1 : List Loc), va_P ε.2.1 vwCl ((gv_w ε sw).set k (gv_as ε k, .inr (ci, (fs.map (gv_v ε)).set fk (gv_v ε v)))) H1 → va_D (gv_A ε) ((gv_w ε sw).set k (gv_as ε k, .inr (ci, (fs.map (gv_v ε)).set fk (gv_v ε v)))) → va_S (gv_A ε) s.heap H1 locs1 → W p ε.1 e R s m args below meth c H1 locs1 cu su (Z s below args) (F0 m (pc + 3) ls (st.map (gv_v ε))) := by
    intro H1 locs1 hP hD hS
    refine kk p e s m args below meth c C H1 locs1 ls ⟨?_, hS, I.2.2.1, by rw [List.length_set]; exact I.2.2.2.1, by rw [List.length_set]; exact I.2.2.2.2⟩
    rw [gv_w_set]
    show va_P ε.2.1 vwCl ((gv_w ε sw).set k (gv_as ε k, .inr (ci, (fs.set fk v).map (gv_v ε)))) H1
    rw [List.map_set]
    exact hP
  have hlen : fk < (fs.map (gv_v ε)).length := by rw [List.length_map]; exact hv
  by_cases hf : (T fk).2.2.2 = false
  · exact va_put (D := ε.2.1) (ty := ty fk) C.1 C.2.1 C.2.2.2.2.2.1 h3 ty h5 h6 C.2.2.2.2.1 C.2.2.2.2.2.2.2.2.1.1 I.1 (gv_D I.2.2.2.2) I.2.1 k (gv_w_at hk) h1 fk h2 (C.2.2.2.2.2.1 _ h4) (fun _ h => h) hf (h5 fk h2) h7 h8 hlen hd fin
  · have hin2 : meth.name = "<init>" := by
      rcases hin with ⟨C', T', N', q1, q2⟩ | q
      · cases h1.symm.trans q1
        exact absurd q2 hf
      · exact C.2.2.2.2.2.2.2.1 q
    have hdecl : (T fk).1 = M.1.cls := h9.resolve_left hf
    exact va_putF (D := ε.2.1) (ty := ty fk) C.1 C.2.1 C.2.2.2.2.2.1 h3 ty h5 h6 C.2.2.2.2.1 C.2.2.2.2.2.2.2.2.1.1 I.1 (gv_D I.2.2.2.2) I.2.1 k (gv_w_at hk) h1 fk h2 (C.2.2.2.2.2.1 _ h4) (fun _ h => h) (by simpa using hf) hin2 hdecl (h5 fk h2) h7 h8 hlen hd fin
/-! arrays -/
theorem gv_iaload {k n : Nat} {f : Nat → Int32} {i : Int32} (hd : decode M.2.1 pc = .ok (.iaload, 1)) (hk : sw[k]? = some (.inl (0, n, .inl f))) (hi : vp_in i n) (kk : gv_G ε R M n0 Z (pc + 1) L (.int (f i.toNatClampNeg) :: st) sw cu su) : gv_G ε R M n0 Z pc L (.int i :: .ref k :: st) sw cu su := by
  intro p e s m args below meth c C H locs ls I
  exact va_iald (D := ε.2.1) C.1 C.2.1 C.2.2.2.2.2.2.2.2.1.1 I.1 k 0 (gv_w_at hk) rfl hi hd (kk p e s m args below meth c C H locs ls I)
theorem gv_baload {k n : Nat} {f : Nat → Int32} {i : Int32} (hd : decode M.2.1 pc = .ok (.baload, 1)) (hk : sw[k]? = some (.inl (1, n, .inl f))) (hi : vp_in i n) (kk : gv_G ε R M n0 Z (pc + 1) L (.int (f i.toNatClampNeg) :: st) sw cu su) : gv_G ε R M n0 Z pc L (.int i :: .ref k :: st) sw cu su := by
  intro p e s m args below meth c C H locs ls I
  exact va_zald (D := ε.2.1) C.1 C.2.1 C.2.2.2.2.2.2.2.2.1.1 I.1 k 1 (gv_w_at hk) rfl hi hd (kk p e s m args below meth c C H locs ls I)
theorem gv_aaload {k n r : Nat} {f : Nat → Option Nat} {i : Int32} (hd : decode M.2.1 pc = .ok (.aaload, 1)) (hk : sw[k]? = some (.inl (2, n, .inr (.inr (.inr (.inr f)))))) (hi : vp_in i n) (hr : f i.toNatClampNeg = some r) (kk : gv_G ε R M n0 Z (pc + 1) L (.ref r :: st) sw cu su) : gv_G ε R M n0 Z pc L (.int i :: .ref k :: st) sw cu su := by
  intro p e s m args below meth c C H locs ls I
  refine va_aldq (D := ε.2.1) C.1 C.2.1 C.2.2.2.2.2.2.2.2.1.1 I.1 k 2 (gv_w_at hk) rfl hi hd ?_
  rw [hr]
  exact kk p e s m args below meth c C H locs ls I
theorem gv_alen {k n : Nat} {f0 : Nat → Int32} (hd : decode M.2.1 pc = .ok (.arraylength, 1)) (hk : sw[k]? = some (.inl (0, n, .inl f0))) (kk : gv_G ε R M n0 Z (pc + 1) L (.int (nI n) :: st) sw cu su) : gv_G ε R M n0 Z pc L (.ref k :: st) sw cu su := by
  intro p e s m args below meth c C H locs ls I
  exact va_alen (D := ε.2.1) C.1 C.2.1 C.2.2.2.2.2.2.2.2.1.1 I.1 k 0 (gv_w_at hk) rfl rfl hd (kk p e s m args below meth c C H locs ls I)
/-- a stored cell -/
theorem gv_stored {s : State} {H1 : Heap} {locs1 : List Loc} {ls : Array Slot} {k : Nat} {e : va_E} (I2 : gv_has ε ls M.2.2.1 L) (I3 : sw.length = n0 + cu) (I4 : sw.length ≤ 1000) (hP : va_P ε.2.1 vwCl ((gv_w ε sw).set k (gv_as ε k, gv_e ε e)) H1) (hS : va_S (gv_A ε) s.heap H1 locs1) : gv_I ε M n0 s H1 locs1 ls L (sw.set k e) cu :=
  ⟨by rw [gv_w_set]; exact hP, hS, I2, by rw [List.length_set]; exact I3, by rw [List.length_set]; exact I4⟩
theorem gv_iastore {k n : Nat} {f : Nat → Int32} {i x : Int32} (hd : decode M.2.1 pc = .ok (.iastore, 1)) (hk : sw[k]? = some (.inl (0, n, .inl f))) (hi : vp_in i n) (kk : gv_G ε R M n0 Z (pc + 1) L st (sw.set k (.inl (0, n, .inl (upd f i.toNatClampNeg x)))) cu su) : gv_G ε R M n0 Z pc L (.int x :: .int i :: .ref k :: st) sw cu su := by
  intro p e s m args below meth c C H locs ls I
  exact va_iast (D := ε.2.1) C.1 C.2.1 C.2.2.2.2.2.2.2.2.1.1 I.1 (gv_D I.2.2.2.2) I.2.1 k 0 (gv_w_at hk) rfl hi hd (fun H1 locs1 hP hD hS => kk p e s m args below meth c C H1 locs1 ls (gv_stored I.2.2.1 I.2.2.2.1 I.2.2.2.2 hP hS))
theorem gv_bastore {k n : Nat} {f : Nat → Int32} {i x : Int32} (hd : decode M.2.1 pc = .ok (.bastore, 1)) (hk : sw[k]? = some (.inl (1, n, .inl f))) (hi : vp_in i n) (kk : gv_G ε R M n0 Z (pc + 1) L st (sw.set k (.inl (1, n, .inl (upd f i.toNatClampNeg (vp_nar .boolean x))))) cu su) : gv_G ε R M n0 Z pc L (.int x :: .int i :: .ref k :: st) sw cu su := by
  intro p e s m args below meth c C H locs ls I
  exact va_zast (D := ε.2.1) C.1 C.2.1 C.2.2.2.2.2.2.2.2.1.1 I.1 (gv_D I.2.2.2.2) I.2.1 k 1 (gv_w_at hk) rfl hi hd (fun H1 locs1 hP hD hS => kk p e s m args below meth c C H1 locs1 ls (gv_stored I.2.2.1 I.2.2.2.1 I.2.2.2.2 hP hS))
theorem gv_aastore {k n v : Nat} {fs : List Value} {f : Nat → Option Nat} {i : Int32} (hd : decode M.2.1 pc = .ok (.aastore, 1)) (hk : sw[k]? = some (.inl (2, n, .inr (.inr (.inr (.inr f)))))) (hi : vp_in i n) (hv : sw[v]? = some (.inr (4, fs))) (kk : gv_G ε R M n0 Z (pc + 1) L st (sw.set k (.inl (2, n, .inr (.inr (.inr (.inr (va_up f i.toNatClampNeg (some v)))))))) cu su) : gv_G ε R M n0 Z pc L (.ref v :: .int i :: .ref k :: st) sw cu su := by
  intro p e s m args below meth c C H locs ls I
  refine va_astq (D := ε.2.1) C.1 C.2.1 C.2.2.2.2.2.2.2.2.1.1 I.1 (gv_D I.2.2.2.2) I.2.1 k 2 v 4 (r := (RX4, TX4, 5)) (gv_w_at hk) rfl (gv_w_at hv) rfl hi hd (fun H1 locs1 hP hD hS => kk p e s m args below meth c C H1 locs1 ls (gv_stored I.2.2.1 I.2.2.2.1 I.2.2.2.2 ?_ hS))
  have e2 : gv_e ε (.inl (2, n, .inr (.inr (.inr (.inr (va_up f i.toNatClampNeg (some v))))))) = .inl (ε.2.2.1 2, n, .inr (.inr (.inr (.inr (va_up (fun j => (f j).map (gv_as ε)) i.toNatClampNeg (some (gv_as ε v))))))) := by
    show Sum.inl (ε.2.2.1 2, n, Sum.inr (Sum.inr (Sum.inr (Sum.inr (fun j => (va_up f i.toNatClampNeg (some v) j).map (gv_as ε)))))) = _
    congr 7
    funext j
    unfold va_up
    split <;> rfl
  rw [e2]
  exact hP
/-! the arrays that nobody writes -/
theorem gv_getstatic {idx j : Nat} (hd : decode M.2.1 pc = .ok (.getstatic idx, 3)) (hj : j < 3) (hw : Cond.fieldLink M.1.cls idx RX7 (gv_nm j) "[I" ∈ gv_W) (kk : gv_G ε R M n0 Z (pc + 3) L (.ref (1000 + j) :: st) sw cu su) : gv_G ε R M n0 Z pc L st sw cu su := by
  intro p e s m args below meth c C H locs ls I
  refine va_gets C.1 C.2.1 (C.2.2.2.2.2.2.2.2.1.2.2.2.2.1 j hj) I.2.1 C.2.2.2.2.1 (C.2.2.2.2.2.1 _ hw) (fun _ h => h) hd ?_
  have := kk p e s m args below meth c C H locs ls I
  have e3 : gv_v ε (.ref (1000 + j)) = .ref (ε.2.2.2.2.1 j) := by
    show Value.ref (gv_as ε (1000 + j)) = _
    unfold gv_as
    rw [if_neg (by omega), Nat.add_sub_cancel_left]
  rw [List.map_cons, e3] at this
  exact this
theorem gv_xload {j : Nat} {i : Int32} (hd : decode M.2.1 pc = .ok (.iaload, 1)) (hj : j < 4) (hi : vp_in i (gv_x ε j).1) (kk : gv_G ε R M n0 Z (pc + 1) L (.int ((gv_x ε j).2 i.toNatClampNeg) :: st) sw cu su) : gv_G ε R M n0 Z pc L (.int i :: .ref (1000 + j) :: st) sw cu su := by
  intro p e s m args below meth c C H locs ls I
  have e3 : gv_v ε (.ref (1000 + j)) = .ref (ε.2.2.2.2.1 j) := by
    show Value.ref (gv_as ε (1000 + j)) = _
    unfold gv_as
    rw [if_neg (by omega), Nat.add_sub_cancel_left]
  rw [List.map_cons, List.map_cons, e3]
  exact va_ti C.1 C.2.1 (C.2.2.2.2.2.2.2.2.1.2.2.2.2.2 j hj) I.2.1 hi rfl hd (kk p e s m args below meth c C H locs ls I)
theorem gv_xlen {j : Nat} (hd : decode M.2.1 pc = .ok (.arraylength, 1)) (hj : j < 4) (kk : gv_G ε R M n0 Z (pc + 1) L (.int (nI (gv_x ε j).1) :: st) sw cu su) : gv_G ε R M n0 Z pc L (.ref (1000 + j) :: st) sw cu su := by
  intro p e s m args below meth c C H locs ls I
  have e3 : gv_v ε (.ref (1000 + j)) = .ref (ε.2.2.2.2.1 j) := by
    show Value.ref (gv_as ε (1000 + j)) = _
    unfold gv_as
    rw [if_neg (by omega), Nat.add_sub_cancel_left]
  rw [List.map_cons, e3]
  exact va_tlen C.1 C.2.1 (C.2.2.2.2.2.2.2.2.1.2.2.2.2.2 j hj) I.2.1 rfl hd (kk p e s m args below meth c C H locs ls I)
end GH
end
section
/-! what is made; calls; returns -/
section GN
variable {ε : gv_E} {R : Room} {M : gv_MR} {n0 : Nat} {Z : State → List Frame → Array Value → State → Prop} {pc : Nat} {L : List (Option Value)} {st : List Value} {sw : List va_E} {cu su : Nat}
/-- a new cell comes to stand at the next place -/
theorem gv_next {s : State} {H1 : Heap} {q : Nat} {x : va_E} (h1 : s.heap.size = ε.2.2.2.1 + n0) (h2 : sw.length = n0 + cu) (h3 : sw.length < 1000) (hP : va_P ε.2.1 vwCl (gv_w ε sw ++ [(q, x)]) H1) (hD : va_D (gv_A ε) (gv_w ε sw ++ [(q, x)])) (hz : H1.size ≤ s.heap.size + (cu + 1)) : q = gv_as ε sw.length := by
  have hat : (gv_w ε sw ++ [(q, x)])[sw.length]? = some (q, x) := by
    rw [List.getElem?_append_right (by rw [gv_w_len]; exact Nat.le_refl _), gv_w_len, Nat.sub_self]
    rfl
  have g1 : q < H1.size := (hP _ _ hat).lt
  have g2 : ε.2.2.2.1 ≤ q := hD.2 _ _ hat
  rw [gv_as_lt h3]
  rcases Nat.lt_or_ge q (ε.2.2.2.1 + sw.length) with z | z
  · exfalso
    have hj : q - ε.2.2.2.1 < sw.length := by omega
    have hat2 : (gv_w ε sw ++ [(q, x)])[q - ε.2.2.2.1]? = some (gv_as ε (q - ε.2.2.2.1), gv_e ε sw[q - ε.2.2.2.1]) := by
      rw [List.getElem?_append_left (by rw [gv_w_len]; exact hj)]
      exact gv_w_at (List.getElem?_eq_getElem hj)
    have := hD.1 _ _ _ _ hat2 hat (by show gv_as ε (q - ε.2.2.2.1) = q; rw [gv_as_lt (by omega)]; omega)
    omega
  · omega
def gv_N (own : String) (idx ci : Nat) (fs : List Value) : Prop := ∃ (C : String) (T : u_T) (N : Nat) (ty : Nat → FieldType), vwCl[ci]? = some (C, T, N) ∧ (∀ w ∈ u_ws C T N, w ∈ gv_W) ∧ (∀ k, k < N → parseFieldDescriptor (T k).2.2.1 = some (ty k)) ∧ Cond.classLink own idx C ∈ gv_W ∧ Cond.instantiable C N ∈ gv_W ∧ Cond.initialized C ∈ gv_W ∧ (∀ j, j < N → defaultValue (ty j) = vp_V fs j) ∧ fs.length = N
theorem gv_new {idx ci : Nat} {fs : List Value} (hd : decode M.2.1 pc = .ok (.new idx, 3)) (hw : gv_N M.1.cls idx ci fs) (hfs : fs.map (gv_v ε) = fs) (hlen : sw.length < 1000) (hc : cu + 1 ≤ R.cells) (hs : su + fs.length ≤ R.slots) (kk : gv_G ε R M n0 Z (pc + 3) L (.ref sw.length :: st) (sw ++ [.inr (ci, fs)]) (cu + 1) (su + fs.length)) : gv_G ε R M n0 Z pc L st sw cu su := by
  intro p e s m args below meth c C H locs ls I
  obtain ⟨Cn, T, N, ty, h1, h2, h3, h4, h5, h6, h7, h8⟩ := hw
  subst h8
  refine va_new (D := ε.2.1) C.1 C.2.1 C.2.2.2.2.2.1 h2 ty h3 C.2.2.2.2.1 (C.2.2.2.2.2.1 _ h4) (C.2.2.2.2.2.1 _ h5) (C.2.2.2.2.2.1 _ h6) C.2.2.2.2.2.2.2.2.1.1 I.1 (gv_D I.2.2.2.2) I.2.1 (fun q hq => ?_) h1 h7 hc hs hd (fun q H1 hP hD hS => ?_)
  · show ε.2.2.2.1 ≤ q
    have := C.2.2.2.2.2.2.2.2.2
    omega
  · intro T0 hT X
    have hq := gv_next C.2.2.2.2.2.2.2.2.2 I.2.2.2.1 hlen hP hD (by rw [← hT]; exact X.heapSize)
    subst hq
    refine kk p e s m args below meth c C H1 locs ls ⟨?_, hS, I.2.2.1, by rw [List.length_append]; show sw.length + 1 = _; rw [I.2.2.2.1]; rfl, by rw [List.length_append]; exact hlen⟩ T0 hT X
    rw [gv_w_push]
    show va_P ε.2.1 vwCl (gv_w ε sw ++ [(gv_as ε sw.length, .inr (ci, fs.map (gv_v ε)))]) H1
    rw [hfs]
    exact hP
theorem gv_newint {n : Int32} {N : Nat} (hd : decode M.2.1 pc = .ok (.newarray .int, 2)) (hw : Cond.arrayClass .int ∈ gv_W) (hn : ¬ n < 0) (hN : n.toNatClampNeg = N) (hb : N ≤ 100000) (hlen : sw.length < 1000) (hc : cu + 1 ≤ R.cells) (hs : su + N ≤ R.slots) (kk : gv_G ε R M n0 Z (pc + 2) L (.ref sw.length :: st) (sw ++ [.inl (0, N, .inl (fun _ => 0))]) (cu + 1) (su + N)) : gv_G ε R M n0 Z pc L (.int n :: st) sw cu su := by
  intro p e s m args below meth c C H locs ls I
  refine va_newa (D := ε.2.1) (atype := .int) (ty := .int) (a0 := (N, .inl (fun _ => 0))) C.1 C.2.1 (C.2.2.2.2.2.1 _ hw) rfl C.2.2.2.2.2.2.2.2.1.1 I.1 (gv_D I.2.2.2.2) I.2.1 (fun q hq => ?_) (fun cA => rfl) hn hN (by show N * 4 ≤ 536870912; omega) hc hs hd (fun q cA H1 hK hP hD hS => ?_)
  · show ε.2.2.2.1 ≤ q
    have := C.2.2.2.2.2.2.2.2.2
    omega
  · intro T0 hT X
    have hq := gv_next C.2.2.2.2.2.2.2.2.2 I.2.2.2.1 hlen hP hD (by rw [← hT]; exact X.heapSize)
    subst hq
    have hcA : cA = ε.2.2.1 0 := by
      have a1 : s.vm.findClass ("[" ++ FieldType.int.toString) = some cA := (hK.2 3 (cA, .int) rfl).2
      have a2 : s.vm.findClass ("[" ++ FieldType.int.toString) = some (ε.2.2.1 0) := (C.2.2.2.2.2.2.2.2.1.1.2 0 (ε.2.2.1 0, .int) rfl).2
      exact Option.some.inj (a1.symm.trans a2)
    subst hcA
    refine kk p e s m args below meth c C H1 locs ls ⟨?_, hS, I.2.2.1, by rw [List.length_append]; show sw.length + 1 = _; rw [I.2.2.2.1]; rfl, by rw [List.length_append]; exact hlen⟩ T0 hT X
    rw [gv_w_push]
    exact hP
theorem gv_newbool {n : Int32} {N : Nat} (hd : decode M.2.1 pc = .ok (.newarray .boolean, 2)) (hw : Cond.arrayClass .boolean ∈ gv_W) (hn : ¬ n < 0) (hN : n.toNatClampNeg = N) (hb : N ≤ 100000) (hlen : sw.length < 1000) (hc : cu + 1 ≤ R.cells) (hs : su + N ≤ R.slots) (kk : gv_G ε R M n0 Z (pc + 2) L (.ref sw.length :: st) (sw ++ [.inl (1, N, .inl (fun _ => 0))]) (cu + 1) (su + N)) : gv_G ε R M n0 Z pc L (.int n :: st) sw cu su := by
  intro p e s m args below meth c C H locs ls I
  refine va_newa (D := ε.2.1) (atype := .boolean) (ty := .boolean) (a0 := (N, .inl (fun _ => 0))) C.1 C.2.1 (C.2.2.2.2.2.1 _ hw) rfl C.2.2.2.2.2.2.2.2.1.1 I.1 (gv_D I.2.2.2.2) I.2.1 (fun q hq => ?_) (fun cA => rfl) hn hN (by show N * 1 ≤ 536870912; omega) hc hs hd (fun q cA H1 hK hP hD hS => ?_)
  · show ε.2.2.2.1 ≤ q
    have := C.2.2.2.2.2.2.2.2.2
    omega
  · intro T0 hT X
    have hq := gv_next C.2.2.2.2.2.2.2.2.2 I.2.2.2.1 hlen hP hD (by rw [← hT]; exact X.heapSize)
    subst hq
    have hcA : cA = ε.2.2.1 1 := by
      have a1 : s.vm.findClass ("[" ++ FieldType.boolean.toString) = some cA := (hK.2 3 (cA, .boolean) rfl).2
      have a2 : s.vm.findClass ("[" ++ FieldType.boolean.toString) = some (ε.2.2.1 1) := (C.2.2.2.2.2.2.2.2.1.1.2 1 (ε.2.2.1 1, .boolean) rfl).2
      exact Option.some.inj (a1.symm.trans a2)
    subst hcA
    refine kk p e s m args below meth c C H1 locs ls ⟨?_, hS, I.2.2.1, by rw [List.length_append]; show sw.length + 1 = _; rw [I.2.2.2.1]; rfl, by rw [List.length_append]; exact hlen⟩ T0 hT X
    rw [gv_w_push]
    exact hP
theorem gv_newrefs {idx : Nat} {n : Int32} {N : Nat} (hd : decode M.2.1 pc = .ok (.anewarray idx, 3)) (hw : Cond.classLink M.1.cls idx RX4 ∈ gv_W) (hn : ¬ n < 0) (hN : n.toNatClampNeg = N) (hb : N ≤ 100000) (hlen : sw.length < 1000) (hc : cu + 1 ≤ R.cells) (hs : su + N ≤ R.slots) (kk : gv_G ε R M n0 Z (pc + 3) L (.ref sw.length :: st) (sw ++ [.inl (2, N, .inr (.inr (.inr (.inr (fun _ => none)))))]) (cu + 1) (su + N)) : gv_G ε R M n0 Z pc L (.int n :: st) sw cu su := by
  intro p e s m args below meth c C H locs ls I
  refine va_newq (D := ε.2.1) (C := RX4) C.1 C.2.1 C.2.2.2.2.1 (C.2.2.2.2.2.1 _ hw) C.2.2.2.2.2.2.2.2.1.2.2.2.1 C.2.2.2.2.2.2.2.2.1.1 I.1 (gv_D I.2.2.2.2) I.2.1 (fun q hq => ?_) hn hN (by omega) hc hs hd (fun q cA H1 hK hP hD hS => ?_)
  · show ε.2.2.2.1 ≤ q
    have := C.2.2.2.2.2.2.2.2.2
    omega
  · intro T0 hT X
    have hq := gv_next C.2.2.2.2.2.2.2.2.2 I.2.2.2.1 hlen hP hD (by rw [← hT]; exact X.heapSize)
    subst hq
    have hcA : cA = ε.2.2.1 2 := by
      obtain ⟨-, -, -, -, -, a1⟩ := (hK.2 3 (cA, .object RX4) rfl).2
      obtain ⟨-, -, -, -, -, a2⟩ := (C.2.2.2.2.2.2.2.2.1.1.2 2 (ε.2.2.1 2, .object RX4) rfl).2
      exact Option.some.inj (a1.symm.trans a2)
    subst hcA
    refine kk p e s m args below meth c C H1 locs ls ⟨?_, hS, I.2.2.1, by rw [List.length_append]; show sw.length + 1 = _; rw [I.2.2.2.1]; rfl, by rw [List.length_append]; exact hlen⟩ T0 hT X
    rw [gv_w_push]
    exact hP
theorem gv_arraycopy {idx k0 k1 m0 m1 : Nat} {f g : Nat → Int32} {sp dp n : Int32} (hd : decode M.2.1 pc = .ok (.invokestatic idx, 3)) (hw : Cond.methodLink M.1.cls idx arraycopyName ∈ gv_W ∧ Cond.native arraycopyName ∈ gv_W ∧ Cond.static arraycopyName ∈ gv_W ∧ Cond.initialized "java/lang/System" ∈ gv_W) (h0 : sw[k0]? = some (.inl (0, m0, .inl f))) (h1 : sw[k1]? = some (.inl (0, m1, .inl g))) (q1 : ¬ sp < 0) (q2 : ¬ dp < 0) (q3 : ¬ n < 0) (q4 : sp.toNatClampNeg + n.toNatClampNeg ≤ m0) (q5 : dp.toNatClampNeg + n.toNatClampNeg ≤ m1) (hR : 1 ≤ R.frames ∧ 41 ≤ R.locals) (hst : (st.map (fun v => v.category)).sum ≤ 8)
    (kk : gv_G ε R M n0 Z (pc + 3) L st (sw.set k1 (.inl (0, m1, .inl (va_cpy f g sp.toNatClampNeg dp.toNatClampNeg n.toNatClampNeg)))) cu su) : gv_G ε R M n0 Z pc L (.int n :: .int dp :: .ref k1 :: .int sp :: .ref k0 :: st) sw cu su := by
  intro p e s m args below meth c C H locs ls I
  refine va_copyi (D := ε.2.1) (ty := .int) C.1 C.2.1 (by rw [C.2.2.2.1]; exact I.2.2.1.1.1.symm) C.2.2.2.2.1 (C.2.2.2.2.2.1 _ hw.1) (C.2.2.2.2.2.1 _ hw.2.1) (C.2.2.2.2.2.1 _ hw.2.2.1) (C.2.2.2.2.2.1 _ hw.2.2.2) C.2.2.2.2.2.2.2.2.1.1 I.1 (gv_D I.2.2.2.2) I.2.1 k0 k1 0 0 (gv_w_at h0) (gv_w_at h1) rfl rfl rfl q1 q2 q3 q4 q5 (fun _ _ => rfl) hR.1 ?_ hd (fun H1 locs1 hP hD hS => kk p e s m args below meth c C H1 locs1 ls (gv_stored I.2.2.1 I.2.2.2.1 I.2.2.2.2 hP hS))
  have e1 : ((st.map (gv_v ε)).map fun v => v.category) = st.map (fun v => v.category) := by
    rw [List.map_map]
    exact List.map_congr_left (fun v _ => gv_cat ε v)
  rw [e1]
  have e2 : nativeFrameWords "java/lang/System" "arraycopy" 5 ≤ 20 := by decide +kernel
  omega
end GN
end
section
/-! a method's contract, calls, returns -/
def gv_rm (d : Nat) (M : gv_MR) : Room := { frames := d, cells := M.2.2.2.2.1, slots := M.2.2.2.2.2, locals := 41 * d }
def gv_ws (M : gv_MR) : List Cond := .code M.1 M.2.1 M.2.2.1 M.2.2.2.1 :: gv_W
def gv_Qc (ε : gv_E) (n1 : Nat) (Qs : Option Value → List va_E → Prop) : Array Value → State → Outcome → State → Prop := fun _ s oc t => (∃ (r : Option Value) (sw' : List va_E), oc = .returned (r.map (gv_v ε)) ∧ Qs r sw' ∧ va_P ε.2.1 vwCl (gv_w ε sw') t.heap ∧ sw'.length = n1 ∧ sw'.length ≤ 1000) ∧ va_F (gv_A ε) s t
def gv_Pc (ε : gv_E) (As : List Value) (sw : List va_E) : Array Value → State → Prop := fun v U => v = (As.map (gv_v ε)).toArray ∧ gv_X ε U ∧ U.heap.size = ε.2.2.2.1 + sw.length ∧ va_P ε.2.1 vwCl (gv_w ε sw) U.heap ∧ sw.length ≤ 1000
def gv_S (ε : gv_E) (d : Nat) (M : gv_MR) (As : List Value) (sw : List va_E) (Qs : Option Value → List va_E → Prop) : Prop := Met ε.1 M.1 (gv_ws M) (gv_rm d M) (gv_Pc ε As sw) (gv_Qc ε (sw.length + M.2.2.2.2.1) Qs) M.2.2.2.2.1 M.2.2.2.2.2 (gv_A ε)
def gv_Z (ε : gv_E) (M : gv_MR) (n0 : Nat) (Qs : Option Value → List va_E → Prop) : State → List Frame → Array Value → State → Prop := fun s below args => MQ below (gv_Qc ε (n0 + M.2.2.2.2.1) Qs) args s M.2.2.2.2.1 M.2.2.2.2.2 (gv_A ε)
/-- the walk of a method at depth d -/
abbrev gv_M (ε : gv_E) (d : Nat) (M : gv_MR) (n0 : Nat) (Qs : Option Value → List va_E → Prop) := gv_G ε (gv_rm d M) M n0 (gv_Z ε M n0 Qs)
theorem gv_args_mem (vs : List Value) (h : ∀ v ∈ vs, v.category = 1) : ∀ (i j : Nat) (v : Value), vs[j]? = some v → (i + j, v) ∈ lv_args i vs := by
  induction vs with
  | nil => intro i j v hv; cases hv
  | cons w ws ih =>
    intro i j v hv
    have hw : ¬ w.category = 2 := by rw [h w List.mem_cons_self]; decide
    simp only [lv_args, if_neg hw]
    cases j with
    | zero =>
      cases hv
      exact List.mem_cons_self
    | succ j =>
      refine List.mem_cons_of_mem _ ?_
      have := ih (fun v hv => h v (List.mem_cons_of_mem _ hv)) (i + 1) j v hv
      rwa [show i + 1 + j = i + (j + 1) by omega] at this
theorem gv_sl_len (vs : List Value) (h : ∀ v ∈ vs, v.category = 1) : (lg_sl vs).length = vs.length := by
  induction vs with
  | nil => rfl
  | cons w ws ih =>
    have hw : ¬ w.category = 2 := by rw [h w List.mem_cons_self]; decide
    have : lg_sl (w :: ws) = .val w :: lg_sl ws := by simp [lg_sl, hw]
    rw [this, List.length_cons, List.length_cons, ih (fun v hv => h v (List.mem_cons_of_mem _ hv))]
def gv_L0 (As : List Value) (n : Nat) : List (Option Value) := As.map some ++ List.replicate (n - As.length) none
theorem gv_entry {ε : gv_E} {As : List Value} {n : Nat} (h : ∀ v ∈ As, v.category = 1) (hn : As.length ≤ n) : gv_has ε ((lg_sl (As.map (gv_v ε)) ++ List.replicate (n - (lg_sl (As.map (gv_v ε))).length) Slot.unset).toArray) n (gv_L0 As n) := by
  have h2 : ∀ v ∈ As.map (gv_v ε), v.category = 1 := by
    intro v hv
    obtain ⟨w, hw, rfl⟩ := List.mem_map.mp hv
    rw [gv_cat]
    exact h w hw
  have e1 := lv_entry (As.map (gv_v ε)) (n := n) (by rw [gv_sl_len _ h2, List.length_map]; exact hn)
  refine ⟨⟨e1.1, e1.2.1, fun q hq => ?_⟩, by simp [gv_L0]; omega⟩
  obtain ⟨v, h3, h4, -⟩ := gv_l_mem.mp hq
  have h5 : As[q.1]? = some v := by
    unfold gv_L0 at h3
    rcases Nat.lt_or_ge q.1 (As.map some).length with z | z
    · rw [List.getElem?_append_left z, List.getElem?_map] at h3
      cases h6 : As[q.1]? with
      | none => rw [h6] at h3; cases h3
      | some w =>
        rw [h6] at h3
        have : some (some w) = some (some v) := h3
        exact Option.some.inj this
    · rw [List.getElem?_append_right z, List.getElem?_replicate] at h3
      split at h3 <;> cases h3
  have := gv_args_mem _ h2 0 q.1 (gv_v ε v) (by rw [List.getElem?_map, h5]; rfl)
  rw [Nat.zero_add] at this
  have e : q = (q.1, gv_v ε v) := Prod.ext rfl h4
  rw [e]
  exact e1.2.2 _ this
/-- a method's contract out of its walk -/
theorem gv_S.intro {ε : gv_E} {d : Nat} {M : gv_MR} {As : List Value} {sw : List va_E} {Qs : Option Value → List va_E → Prop} (hy : plainName M.1.cls = true) (hc : ∀ v ∈ As, v.category = 1) (hn : As.length ≤ M.2.2.1) (k : gv_M ε d M sw.length Qs 0 (gv_L0 As M.2.2.1) [] sw 0 0) : gv_S ε d M As sw Qs := by
  refine Met.ofW (cc := M.2.1) (maxL := M.2.2.1) (ret := M.2.2.2.1) hy rfl ?_
  intro p e s m args below meth c s₁ B hml hv
  obtain ⟨rfl, hX, hz, hP, hle⟩ := hv
  have hts := atoms_spec (ws := gv_ws M) B.pre
  rw [lg_entry_eq]
  refine k p e s m _ below meth c ⟨B.exec, B.bytes, B.returns, hml, findClass_of_methodNamed B.named, fun w hw => hts w (List.mem_cons_of_mem _ hw), B.notSynchronized, fun h => (name_of_methodNamed B.named B.method).1.trans h, hX, hz⟩ s.heap [] _ ⟨hP, va_S.rf, gv_entry hc hn, rfl, hle⟩
section GR
variable {ε : gv_E} {R : Room} {M : gv_MR} {n0 d : Nat} {Qs : Option Value → List va_E → Prop} {Z : State → List Frame → Array Value → State → Prop} {pc : Nat} {L : List (Option Value)} {st : List Value} {sw : List va_E} {cu su : Nat}
theorem gv_ireturn {v : Int32} {ty : FieldType} (hd : decode M.2.1 pc = .ok (.ireturn, 1)) (hr : M.2.2.2.1 = some ty) (hn : narrow ty (.int v) = .int v) (hc : cu = M.2.2.2.2.1) (hs : su ≤ M.2.2.2.2.2) (hq : Qs (some (.int v)) sw) : gv_M ε d M n0 Qs pc L [.int v] sw cu su := by
  intro p e s m args below meth c C H locs ls I
  subst hc
  refine W.widen (k := M.2.2.2.2.1) (n := M.2.2.2.2.2) (Nat.le_refl _) hs ?_
  exact W.zret C.1 C.2.1 (C.2.2.1.trans hr) hn (fun t ht hW => ⟨⟨some (.int v), sw, rfl, hq, by rw [ht]; exact I.1, I.2.2.2.1, I.2.2.2.2⟩, I.2.1.F ht⟩) I.2.1.2.2 hd C.2.2.2.2.2.2.1
theorem gv_return (hd : decode M.2.1 pc = .ok (.return_, 1)) (hr : M.2.2.2.1 = none) (hc : cu = M.2.2.2.2.1) (hs : su ≤ M.2.2.2.2.2) (hq : Qs none sw) : gv_M ε d M n0 Qs pc L [] sw cu su := by
  intro p e s m args below meth c C H locs ls I
  subst hc
  refine W.widen (k := M.2.2.2.2.1) (n := M.2.2.2.2.2) (Nat.le_refl _) hs ?_
  exact W.vret C.1 C.2.1 (C.2.2.1.trans hr) (fun t ht hW => ⟨⟨none, sw, rfl, hq, by rw [ht]; exact I.1, I.2.2.2.1, I.2.2.2.2⟩, I.2.1.F ht⟩) I.2.1.2.2 hd C.2.2.2.2.2.2.1
theorem gv_objInit {idx k : Nat} (hd : decode M.2.1 pc = .ok (.invokespecial idx, 3)) (hw : Cond.methodLink M.1.cls idx objectInit ∈ gv_W ∧ Cond.instanceMethod objectInit ∈ gv_W ∧ Cond.code objectInit ⟨#[0xb1]⟩ 1 none ∈ gv_W) (hR : 1 ≤ R.frames ∧ 41 ≤ R.locals) (hst : (st.map (fun v => v.category)).sum ≤ 8) (kk : gv_G ε R M n0 Z (pc + 3) L st sw cu su) : gv_G ε R M n0 Z pc L (.ref k :: st) sw cu su := by
  intro p e s m args below meth c C H locs ls I
  refine W.objInit C.1 C.2.1 C.2.2.2.2.1 (C.2.2.2.2.2.1 _ hw.1) (C.2.2.2.2.2.1 _ hw.2.1) (C.2.2.2.2.2.1 _ hw.2.2) rfl (by rw [C.2.2.2.1]; exact I.2.2.1.1.1) rfl hd hR.1 ?_ (kk p e s m args below meth c C H locs ls I)
  have e1 : ((st.map (gv_v ε)).map fun v => v.category) = st.map (fun v => v.category) := by
    rw [List.map_map]
    exact List.map_congr_left (fun v _ => gv_cat ε v)
  have e2 := lv_room (m := m) (pc := pc) (ls := ls) (rest := (Value.ref k :: st).map (gv_v ε)) (st := st.map (gv_v ε)) (by rw [e1]; exact hst)
  have := hR.2
  exact Nat.le_trans (Nat.add_le_add_right e2 12) (by omega)
/-- what a call links -/
def gv_cB (M' : gv_MR) (n : Nat) : Prop := Cond.code M'.1 M'.2.1 M'.2.2.1 M'.2.2.2.1 ∈ gv_W ∧ Cond.initialized M'.1.cls ∈ gv_W ∧ M'.2.2.1 ≤ 22 ∧ M'.1.cls ≠ "java/lang/invoke/MethodHandle" ∧ M'.1.cls ≠ "java/lang/invoke/VarHandle" ∧ (parseMethodDescriptor M'.1.desc).map (fun d => d.parameters.length) = some n
def gv_cV (own : String) (idx : Nat) (M' : gv_MR) (n : Nat) : Prop := gv_cB M' n ∧ Cond.methodLink own idx M'.1 ∈ gv_W ∧ Cond.instanceMethod M'.1 ∈ gv_W ∧ Cond.selects M'.1.cls M'.1 M'.1 ∈ gv_W
def gv_cS (own : String) (idx : Nat) (M' : gv_MR) (n : Nat) : Prop := gv_cB M' n ∧ Cond.methodLink own idx M'.1 ∈ gv_W ∧ Cond.static M'.1 ∈ gv_W
def gv_cI (own : String) (idx : Nat) (M' : gv_MR) (n : Nat) : Prop := gv_cB M' n ∧ Cond.methodLink own idx M'.1 ∈ gv_W ∧ Cond.instanceMethod M'.1 ∈ gv_W ∧ M'.1.name = "<init>" ∧ M'.2.2.2.1 = none
def gv_cSN (own : String) (idx : Nat) (M' : gv_MR) (n : Nat) : Prop := gv_cB M' n ∧ (∃ host, Cond.methodLinkNest own idx M'.1 host ∈ lw_tbl) ∧ Cond.static M'.1 ∈ gv_W
def gv_cIN (own : String) (idx : Nat) (M' : gv_MR) (n : Nat) : Prop := gv_cB M' n ∧ (∃ host, Cond.methodLinkNest own idx M'.1 host ∈ lw_tbl) ∧ Cond.instanceMethod M'.1 ∈ gv_W ∧ M'.1.name = "<init>" ∧ M'.2.2.2.1 = none
theorem gv_good {M' : gv_MR} {n : Nat} (h : gv_cB M' n) : GoodIn gv_W (gv_ws M') := by
  intro w hw
  have hm : w ∈ gv_W := by
    rcases List.mem_cons.mp hw with rfl | q
    · exact h.1
    · exact q
  exact ⟨hm, good_of_word (List.mem_filter.mp hm).2⟩
theorem gv_Pc.blind {As : List Value} : FrameBlind (gv_Pc ε As sw) := by
  intro a U g mk h
  exact ⟨h.1, h.2.1.blind, h.2.2.1, h.2.2.2.1, h.2.2.2.2⟩
/-- what the callee finds -/
theorem gv_pre {p : Program} {s : State} {m : MethodId} {args : Array Value} {meth : Method} {c : Code} {H : Heap} {locs : List Loc} {ls : Array Slot} {As : List Value} (C : gv_C ε M n0 p s m args meth c) (I : gv_I ε M n0 s H locs ls L sw cu) (hz : H.size = ε.2.2.2.1 + sw.length) : ∀ U : State, U.heap = H → s.WarmedH U.vm → gv_Pc ε As sw (As.map (gv_v ε)).toArray U := by
  intro U hU hW
  refine ⟨rfl, C.2.2.2.2.2.2.2.2.1.moved hW (fun a h1 h2 => ?_), by rw [hU]; exact hz, by rw [hU]; exact I.1, I.2.2.2.2⟩
  rw [hU]
  exact I.2.1.2.1 a h1 h2
theorem gv_size {p : Program} {e : Env} {s T : State} {m : MethodId} {args : Array Value} {below : List Frame} {meth : Method} {c : Code} {H : Heap} {locs : List Loc} {ls : Array Slot} (C : gv_C ε M n0 p s m args meth c) (I : gv_I ε M n0 s H locs ls L sw cu) (hT : T.heap = H) (X : Stand p ε.1 e R s m args below meth c T locs cu su) : H.size = ε.2.2.2.1 + sw.length := by
  have h1 : H.size ≤ s.heap.size + cu := by rw [← hT]; exact X.heapSize
  have h2 := C.2.2.2.2.2.2.2.2.2
  have h3 := I.2.2.2.1
  have h4 := I.2.1.1
  have h5 : ε.2.2.2.1 + sw.length ≤ H.size := by
    rcases Nat.eq_zero_or_pos sw.length with z | z
    · omega
    · have hk : sw.length - 1 < sw.length := by omega
      have := (I.1 _ _ (gv_w_at (List.getElem?_eq_getElem hk))).lt
      have e1 : gv_as ε (sw.length - 1) = ε.2.2.2.1 + (sw.length - 1) := gv_as_lt (by have := I.2.2.2.2; omega)
      have e2 : gv_as ε (sw.length - 1) < H.size := this
      omega
  omega
/-- behind a call -/
theorem gv_after {p : Program} {e : Env} {s : State} {m : MethodId} {args : Array Value} {below : List Frame} {meth : Method} {c : Code} {H : Heap} {locs : List Loc} {ls : Array Slot} {rest : List Value} {st0 : List Value} {mc ms : Nat} {a : Array Value} (C : gv_C ε M n0 p s m args meth c) (I : gv_I ε M n0 s H locs ls L sw cu)
    (hr : va_Run p ε.1 e R s m args below meth c H locs cu su mc ms (F0 m pc ls st0) (rest.map (gv_v ε)) (gv_Qc ε (sw.length + mc) (fun r sw' => gv_G ε R M n0 Z (pc + 3) L (r.toList ++ rest) sw' (cu + mc) (su + ms)) a) (gv_A ε)) : W p ε.1 e R s m args below meth c H locs cu su (Z s below args) (F0 m pc ls st0) := by
  intro T hT X
  obtain ⟨v, s0, t, T', L2, h0, X', hL, e1, e2, ⟨⟨r, sw', hv, hG, hP, hn1, hn2⟩, hz, hk⟩, stp⟩ := hr T hT X
  cases hv
  rw [h0] at hz hk
  have I' : gv_I ε M n0 s T'.heap (locs ++ L2) ls L sw' (cu + mc) := by
    refine ⟨by rw [e1]; exact hP, ⟨Nat.le_trans I.2.1.1 (by rw [e1]; exact hz), fun q h1 h2 => ?_, fun q hq => ?_⟩, I.2.2.1, by rw [hn1, I.2.2.2.1]; omega, hn2⟩
    · rw [e1, hk q (Nat.lt_of_lt_of_le h1 I.2.1.1) h2]
      exact I.2.1.2.1 q h1 h2
    · rcases List.mem_append.mp hq with h | h
      · exact I.2.1.2.2 q h
      · exact hL q h
  have w := hG p e s m args below meth c C T'.heap (locs ++ L2) ls I' T' rfl X'
  obtain ⟨t2, a1, b1⟩ := w
  refine ⟨t2, stp t2 ?_, b1⟩
  have e4 : (r.toList ++ rest).map (gv_v ε) = (r.map (gv_v ε)).toList ++ rest.map (gv_v ε) := by cases r <;> simp
  rw [e4] at a1
  exact a1
theorem gv_invV {M' : gv_MR} {idx k ci n : Nat} {fs As : List Value} {rest : List Value} {C0 : String} {T0 : u_T} {N0 : Nat} (hd : decode M.2.1 pc = .ok (.invokevirtual idx, 3)) (hw : gv_cV M.1.cls idx M' n) (hn : As.length = n) (hst : st = As.reverse ++ .ref k :: rest) (hthis : sw[k]? = some (.inr (ci, fs))) (hci : vwCl[ci]? = some (C0, T0, N0)) (hC0 : C0 = M'.1.cls) (hR1 : d + 1 ≤ R.frames) (hR2 : 41 * d + 41 ≤ R.locals) (hR3 : cu + M'.2.2.2.2.1 ≤ R.cells) (hR4 : su + M'.2.2.2.2.2 ≤ R.slots) (h8 : (rest.map (fun v => v.category)).sum ≤ 8)
    (hS : gv_S ε d M' (.ref k :: As) sw (fun r sw' => gv_G ε R M n0 Z (pc + 3) L (r.toList ++ rest) sw' (cu + M'.2.2.2.2.1) (su + M'.2.2.2.2.2))) : gv_G ε R M n0 Z pc L st sw cu su := by
  intro p e s m args below meth c C H locs ls I
  subst hst
  subst hC0
  intro T hT X
  have hz := gv_size C I hT X
  obtain ⟨hB, hw1, hw2, hw3⟩ := hw
  obtain ⟨hb1, hb2, hb3, hb4, hb5, hb6⟩ := id hB
  have hts := C.2.2.2.2.2.1
  have e1 : ((rest.map (gv_v ε)).map fun v => v.category) = rest.map (fun v => v.category) := by
    rw [List.map_map]
    exact List.map_congr_left (fun v _ => gv_cat ε v)
  have e2 : (As.reverse ++ .ref k :: rest).map (gv_v ε) = (As.map (gv_v ε)).reverse ++ .ref (gv_as ε k) :: rest.map (gv_v ε) := by
    rw [List.map_append, List.map_reverse]
    rfl
  have cb : CallB R s args M.1.cls idx M'.1 M'.2.1 M'.2.2.1 M'.2.2.2.1 (gv_ws M') (gv_rm d M') M'.2.2.2.2.1 M'.2.2.2.2.2 n := callB_of n hts (gv_good hB) rfl rfl rfl (hts _ hb2) (hts _ hw1) ⟨hb4, hb5, hb6⟩ ⟨hR1, by show 8 + (M'.2.2.1 + 11) + 41 * d ≤ R.locals; omega⟩
  refine gv_after (mc := M'.2.2.2.2.1) (ms := M'.2.2.2.2.2) (rest := rest) C I (va_runV (nL := M.2.2.1) (As := As.map (gv_v ε)) (b := gv_as ε k) ⟨C.1, C.2.1, C.2.2.2.1, C.2.2.2.2.1, hts⟩ hS ⟨cb, hts _ hw2, hts _ hw3⟩ ⟨gv_Pc.blind, va_recv C.2.2.2.2.2.2.2.2.1.1 I.1 hci (gv_w_at hthis), gv_pre C I hz⟩ rfl (by rw [List.length_map]; exact hn) I.2.2.1.1.1 e2 (lv_room (by rw [e1]; exact h8)) hd ⟨hR3, hR4⟩) T hT X
theorem gv_invS {M' : gv_MR} {idx n : Nat} {As : List Value} {rest : List Value} (hd : decode M.2.1 pc = .ok (.invokestatic idx, 3)) (hw : gv_cS M.1.cls idx M' n) (hn : As.length = n) (hst : st = As.reverse ++ rest) (hR1 : d + 1 ≤ R.frames) (hR2 : 41 * d + 41 ≤ R.locals) (hR3 : cu + M'.2.2.2.2.1 ≤ R.cells) (hR4 : su + M'.2.2.2.2.2 ≤ R.slots) (h8 : (rest.map (fun v => v.category)).sum ≤ 8)
    (hS : gv_S ε d M' As sw (fun r sw' => gv_G ε R M n0 Z (pc + 3) L (r.toList ++ rest) sw' (cu + M'.2.2.2.2.1) (su + M'.2.2.2.2.2))) : gv_G ε R M n0 Z pc L st sw cu su := by
  intro p e s m args below meth c C H locs ls I
  subst hst
  intro T hT X
  have hz := gv_size C I hT X
  obtain ⟨hB, hw1, hw2⟩ := hw
  obtain ⟨hb1, hb2, hb3, hb4, hb5, hb6⟩ := id hB
  have hts := C.2.2.2.2.2.1
  have e1 : ((rest.map (gv_v ε)).map fun v => v.category) = rest.map (fun v => v.category) := by
    rw [List.map_map]
    exact List.map_congr_left (fun v _ => gv_cat ε v)
  have e2 : (As.reverse ++ rest).map (gv_v ε) = (As.map (gv_v ε)).reverse ++ rest.map (gv_v ε) := by
    rw [List.map_append, List.map_reverse]
  have cb : CallB R s args M.1.cls idx M'.1 M'.2.1 M'.2.2.1 M'.2.2.2.1 (gv_ws M') (gv_rm d M') M'.2.2.2.2.1 M'.2.2.2.2.2 n := callB_of n hts (gv_good hB) rfl rfl rfl (hts _ hb2) (hts _ hw1) ⟨hb4, hb5, hb6⟩ ⟨hR1, by show 8 + (M'.2.2.1 + 11) + 41 * d ≤ R.locals; omega⟩
  refine gv_after (mc := M'.2.2.2.2.1) (ms := M'.2.2.2.2.2) (rest := rest) C I (va_runS (nL := M.2.2.1) (As := As.map (gv_v ε)) ⟨C.1, C.2.1, C.2.2.2.1, C.2.2.2.2.1, hts⟩ hS ⟨cb, hts _ hw2⟩ ⟨gv_Pc.blind, gv_pre C I hz⟩ rfl (by rw [List.length_map]; exact hn) I.2.2.1.1.1 e2 (lv_room (by rw [e1]; exact h8)) hd ⟨hR3, hR4⟩) T hT X
theorem gv_invSN {M' : gv_MR} {idx n : Nat} {As : List Value} {rest : List Value} (hd : decode M.2.1 pc = .ok (.invokestatic idx, 3)) (hw : gv_cSN M.1.cls idx M' n) (hn : As.length = n) (hst : st = As.reverse ++ rest) (hR1 : d + 1 ≤ R.frames) (hR2 : 41 * d + 41 ≤ R.locals) (hR3 : cu + M'.2.2.2.2.1 ≤ R.cells) (hR4 : su + M'.2.2.2.2.2 ≤ R.slots) (h8 : (rest.map (fun v => v.category)).sum ≤ 8)
    (hS : gv_S ε d M' As sw (fun r sw' => gv_G ε R M n0 Z (pc + 3) L (r.toList ++ rest) sw' (cu + M'.2.2.2.2.1) (su + M'.2.2.2.2.2))) : gv_G ε R M n0 Z pc L st sw cu su := by
  intro p e s m args below meth c C H locs ls I
  subst hst
  intro T hT X
  have hz := gv_size C I hT X
  obtain ⟨hB, ⟨host, hw1⟩, hw2⟩ := hw
  obtain ⟨hb1, hb2, hb3, hb4, hb5, hb6⟩ := id hB
  have hts := C.2.2.2.2.2.1
  have e1 : ((rest.map (gv_v ε)).map fun v => v.category) = rest.map (fun v => v.category) := by
    rw [List.map_map]
    exact List.map_congr_left (fun v _ => gv_cat ε v)
  have e2 : (As.reverse ++ rest).map (gv_v ε) = (As.map (gv_v ε)).reverse ++ rest.map (gv_v ε) := by
    rw [List.map_append, List.map_reverse]
  have cb : va_CN R s args M.1.cls idx M'.1 host M'.2.1 M'.2.2.1 M'.2.2.2.1 (gv_ws M') (gv_rm d M') M'.2.2.2.2.1 M'.2.2.2.2.2 n := va_cnB n hts (gv_good hB) rfl rfl rfl (C.2.2.2.2.2.2.2.2.1.2.1 _ _ _ _ hw1) (hts _ hb2) ⟨hb4, hb5, hb6⟩ ⟨hR1, by show 8 + (M'.2.2.1 + 11) + 41 * d ≤ R.locals; omega⟩
  refine gv_after (mc := M'.2.2.2.2.1) (ms := M'.2.2.2.2.2) (rest := rest) C I (va_runSN (nL := M.2.2.1) (As := As.map (gv_v ε)) ⟨C.1, C.2.1, C.2.2.2.1, C.2.2.2.2.1, hts⟩ hS ⟨cb, hts _ hw2, trivial⟩ ⟨gv_Pc.blind, gv_pre C I hz⟩ rfl (by rw [List.length_map]; exact hn) I.2.2.1.1.1 e2 (lv_room (by rw [e1]; exact h8)) hd ⟨hR3, hR4⟩) T hT X
theorem gv_invI {M' : gv_MR} {idx k n : Nat} {As : List Value} {rest : List Value} (hd : decode M.2.1 pc = .ok (.invokespecial idx, 3)) (hw : gv_cI M.1.cls idx M' n) (hn : As.length = n) (hst : st = As.reverse ++ .ref k :: rest) (hR1 : d + 1 ≤ R.frames) (hR2 : 41 * d + 41 ≤ R.locals) (hR3 : cu + M'.2.2.2.2.1 ≤ R.cells) (hR4 : su + M'.2.2.2.2.2 ≤ R.slots) (h8 : (rest.map (fun v => v.category)).sum ≤ 8)
    (hS : gv_S ε d M' (.ref k :: As) sw (fun r sw' => gv_G ε R M n0 Z (pc + 3) L (r.toList ++ rest) sw' (cu + M'.2.2.2.2.1) (su + M'.2.2.2.2.2))) : gv_G ε R M n0 Z pc L st sw cu su := by
  intro p e s m args below meth c C H locs ls I
  subst hst
  intro T hT X
  have hz := gv_size C I hT X
  obtain ⟨hB, hw1, hw2, hw3, hw4⟩ := hw
  obtain ⟨hb1, hb2, hb3, hb4, hb5, hb6⟩ := id hB
  have hts := C.2.2.2.2.2.1
  have e1 : ((rest.map (gv_v ε)).map fun v => v.category) = rest.map (fun v => v.category) := by
    rw [List.map_map]
    exact List.map_congr_left (fun v _ => gv_cat ε v)
  have e2 : (As.reverse ++ .ref k :: rest).map (gv_v ε) = (As.map (gv_v ε)).reverse ++ .ref (gv_as ε k) :: rest.map (gv_v ε) := by
    rw [List.map_append, List.map_reverse]
    rfl
  have cb : CallB R s args M.1.cls idx M'.1 M'.2.1 M'.2.2.1 none (gv_ws M') (gv_rm d M') M'.2.2.2.2.1 M'.2.2.2.2.2 n := callB_of n hts (gv_good hB) (by unfold gv_ws; rw [hw4]) rfl rfl (hts _ hb2) (hts _ hw1) ⟨hb4, hb5, hb6⟩ ⟨hR1, by show 8 + (M'.2.2.1 + 11) + 41 * d ≤ R.locals; omega⟩
  refine gv_after (mc := M'.2.2.2.2.1) (ms := M'.2.2.2.2.2) (rest := rest) C I (va_runI (nL := M.2.2.1) (As := As.map (gv_v ε)) (b := gv_as ε k) ⟨C.1, C.2.1, C.2.2.2.1, C.2.2.2.2.1, hts⟩ hS ⟨cb, hw3, hts _ hw2⟩ ⟨gv_Pc.blind, gv_pre C I hz⟩ rfl (by rw [List.length_map]; exact hn) I.2.2.1.1.1 e2 (lv_room (by rw [e1]; exact h8)) hd ⟨hR3, hR4⟩) T hT X
theorem gv_invIN {M' : gv_MR} {idx k n : Nat} {As : List Value} {rest : List Value} (hd : decode M.2.1 pc = .ok (.invokespecial idx, 3)) (hw : gv_cIN M.1.cls idx M' n) (hn : As.length = n) (hst : st = As.reverse ++ .ref k :: rest) (hR1 : d + 1 ≤ R.frames) (hR2 : 41 * d + 41 ≤ R.locals) (hR3 : cu + M'.2.2.2.2.1 ≤ R.cells) (hR4 : su + M'.2.2.2.2.2 ≤ R.slots) (h8 : (rest.map (fun v => v.category)).sum ≤ 8)
    (hS : gv_S ε d M' (.ref k :: As) sw (fun r sw' => gv_G ε R M n0 Z (pc + 3) L (r.toList ++ rest) sw' (cu + M'.2.2.2.2.1) (su + M'.2.2.2.2.2))) : gv_G ε R M n0 Z pc L st sw cu su := by
  intro p e s m args below meth c C H locs ls I
  subst hst
  intro T hT X
  have hz := gv_size C I hT X
  obtain ⟨hB, ⟨host, hw1⟩, hw2, hw3, hw4⟩ := hw
  obtain ⟨hb1, hb2, hb3, hb4, hb5, hb6⟩ := id hB
  have hts := C.2.2.2.2.2.1
  have e1 : ((rest.map (gv_v ε)).map fun v => v.category) = rest.map (fun v => v.category) := by
    rw [List.map_map]
    exact List.map_congr_left (fun v _ => gv_cat ε v)
  have e2 : (As.reverse ++ .ref k :: rest).map (gv_v ε) = (As.map (gv_v ε)).reverse ++ .ref (gv_as ε k) :: rest.map (gv_v ε) := by
    rw [List.map_append, List.map_reverse]
    rfl
  have cb : va_CN R s args M.1.cls idx M'.1 host M'.2.1 M'.2.2.1 none (gv_ws M') (gv_rm d M') M'.2.2.2.2.1 M'.2.2.2.2.2 n := va_cnB n hts (gv_good hB) (by unfold gv_ws; rw [hw4]) rfl rfl (C.2.2.2.2.2.2.2.2.1.2.1 _ _ _ _ hw1) (hts _ hb2) ⟨hb4, hb5, hb6⟩ ⟨hR1, by show 8 + (M'.2.2.1 + 11) + 41 * d ≤ R.locals; omega⟩
  refine gv_after (mc := M'.2.2.2.2.1) (ms := M'.2.2.2.2.2) (rest := rest) C I (va_runIN (nL := M.2.2.1) (As := As.map (gv_v ε)) (b := gv_as ε k) ⟨C.1, C.2.1, C.2.2.2.1, C.2.2.2.2.1, hts⟩ hS ⟨cb, hw3, hts _ hw2⟩ ⟨gv_Pc.blind, gv_pre C I hz⟩ rfl (by rw [List.length_map]; exact hn) I.2.2.1.1.1 e2 (lv_room (by rw [e1]; exact h8)) hd ⟨hR3, hR4⟩) T hT X
end GR
end
section
/-! the methods, and what their instructions link -/
theorem gv_in (i : Nat) {w : Cond} (h : lw_tbl[i]? = some w) (hg : goodWord w = true) : w ∈ gv_W := List.mem_filter.mpr ⟨List.mem_of_getElem? h, hg⟩
def m_J6_bitCount_0f7a4 : gv_MR := (yJ6_bitCount_0f7a4, cJ6_bitCount_0f7a4, 1, (some .int), 0, 0)
def m_J7_fill_53178 : gv_MR := (yJ7_fill_53178, cJ7_fill_53178, 4, none, 0, 0)
def m_J9_abs_0f7a4 : gv_MR := (yJ9_abs_0f7a4, cJ9_abs_0f7a4, 1, (some .int), 0, 0)
def m_J9_max_7cf53 : gv_MR := (yJ9_max_7cf53, cJ9_max_7cf53, 2, (some .int), 0, 0)
def m_J9_min_7cf53 : gv_MR := (yJ9_min_7cf53, cJ9_min_7cf53, 2, (some .int), 0, 0)
def m_L_law : gv_MR := (yL_law, cL_law, 4, (some .boolean), 0, 0)
def m_X0_fromLeft : gv_MR := (yX0_fromLeft, cX0_fromLeft, 3, (some .int), 0, 0)
def m_X0_fromRight : gv_MR := (yX0_fromRight, cX0_fromRight, 3, (some .int), 0, 0)
def m_X0_init : gv_MR := (yX0_init, cX0_init, 1, none, 6, 204)
def m_X0_isUsed : gv_MR := (yX0_isUsed, cX0_isUsed, 2, (some .boolean), 0, 0)
def m_X0_leastFrom : gv_MR := (yX0_leastFrom, cX0_leastFrom, 3, (some .int), 0, 0)
def m_X0_lookAhead : gv_MR := (yX0_lookAhead, cX0_lookAhead, 3, none, 0, 0)
def m_X0_measure : gv_MR := (yX0_measure, cX0_measure, 8, none, 0, 0)
def m_X0_plan : gv_MR := (yX0_plan, cX0_plan, 5, none, 0, 0)
def m_X0_slot : gv_MR := (yX0_slot, cX0_slot, 3, (some .int), 0, 0)
def m_X0_walk : gv_MR := (yX0_walk, cX0_walk, 3, none, 0, 0)
def m_X0_widen : gv_MR := (yX0_widen, cX0_widen, 3, none, 0, 0)
def m_X1_deal : gv_MR := (yX1_deal, cX1_deal, 7, (some .int), 0, 0)
def m_X1_init : gv_MR := (yX1_init, cX1_init, 1, none, 2, 34)
def m_X2_init : gv_MR := (yX2_init, cX2_init, 1, none, 3, 30)
def m_X2_loseOldest : gv_MR := (yX2_loseOldest, cX2_loseOldest, 1, none, 0, 0)
def m_X2_note : gv_MR := (yX2_note, cX2_note, 4, none, 0, 0)
def m_X2_takeBack : gv_MR := (yX2_takeBack, cX2_takeBack, 4, (some .boolean), 0, 0)
def m_X3_accept : gv_MR := (yX3_accept, cX3_accept, 2, (some .boolean), 0, 0)
def m_X3_advance : gv_MR := (yX3_advance, cX3_advance, 1, none, 0, 0)
def m_X3_advanceOverNumber : gv_MR := (yX3_advanceOverNumber, cX3_advanceOverNumber, 3, none, 0, 0)
def m_X3_init : gv_MR := (yX3_init, cX3_init, 1, none, 1, 120)
def m_X3_isDigit : gv_MR := (yX3_isDigit, cX3_isDigit, 1, (some .boolean), 0, 0)
def m_X3_letterOf : gv_MR := (yX3_letterOf, cX3_letterOf, 1, (some .int), 0, 0)
def m_X3_read : gv_MR := (yX3_read, cX3_read, 3, (some .int), 0, 0)
def m_X3_readItem : gv_MR := (yX3_readItem, cX3_readItem, 2, (some .boolean), 0, 0)
def m_X3_readLine : gv_MR := (yX3_readLine, cX3_readLine, 4, (some .boolean), 0, 0)
def m_X3_readSetting : gv_MR := (yX3_readSetting, cX3_readSetting, 3, (some .boolean), 0, 0)
def m_X3_readShape : gv_MR := (yX3_readShape, cX3_readShape, 4, (some .boolean), 0, 0)
def m_X4_append : gv_MR := (yX4_append, cX4_append, 3, (some .boolean), 0, 0)
def m_X4_become : gv_MR := (yX4_become, cX4_become, 2, none, 0, 0)
def m_X4_begin : gv_MR := (yX4_begin, cX4_begin, 1, (some .boolean), 0, 0)
def m_X4_chop : gv_MR := (yX4_chop, cX4_chop, 2, (some .int), 0, 0)
def m_X4_dropLast : gv_MR := (yX4_dropLast, cX4_dropLast, 1, none, 0, 0)
def m_X4_hasLine : gv_MR := (yX4_hasLine, cX4_hasLine, 2, (some .boolean), 0, 0)
def m_X4_headAt : gv_MR := (yX4_headAt, cX4_headAt, 3, (some .int), 0, 0)
def m_X4_init : gv_MR := (yX4_init, cX4_init, 1, none, 4, 57)
def m_X4_inkAt : gv_MR := (yX4_inkAt, cX4_inkAt, 4, (some .int), 0, 0)
def m_X4_reset : gv_MR := (yX4_reset, cX4_reset, 2, none, 0, 0)
def m_X5_init : gv_MR := (yX5_init, cX5_init, 1, none, 2, 12)
def m_X5_note : gv_MR := (yX5_note, cX5_note, 3, (some .boolean), 0, 0)
def m_X6_amount : gv_MR := (yX6_amount, cX6_amount, 2, (some .int), 0, 0)
def m_X6_amountFrom : gv_MR := (yX6_amountFrom, cX6_amountFrom, 6, (some .int), 0, 0)
def m_X6_hasDot : gv_MR := (yX6_hasDot, cX6_hasDot, 3, (some .boolean), 0, 0)
def m_X6_init : gv_MR := (yX6_init, cX6_init, 1, none, 1, 24)
def m_X6_lay : gv_MR := (yX6_lay, cX6_lay, 4, none, 0, 0)
def m_X6_leastGap : gv_MR := (yX6_leastGap, cX6_leastGap, 5, (some .int), 0, 0)
def m_X6_total : gv_MR := (yX6_total, cX6_total, 3, (some .int), 0, 0)
def m_X7_allDots : gv_MR := (yX7_allDots, cX7_allDots, 3, (some .int), 0, 0)
def m_X7_allPasses : gv_MR := (yX7_allPasses, cX7_allPasses, 3, (some .int), 0, 0)
def m_X7_ask : gv_MR := (yX7_ask, cX7_ask, 6, (some .int), 0, 0)
def m_X7_back : gv_MR := (yX7_back, cX7_back, 2, (some .int), 0, 0)
def m_X7_clear : gv_MR := (yX7_clear, cX7_clear, 2, (some .int), 0, 0)
def m_X7_count : gv_MR := (yX7_count, cX7_count, 2, (some .int), 0, 0)
def m_X7_crowd : gv_MR := (yX7_crowd, cX7_crowd, 9, (some .int), 0, 0)
def m_X7_dots : gv_MR := (yX7_dots, cX7_dots, 3, (some .int), 0, 0)
def m_X7_draws : gv_MR := (yX7_draws, cX7_draws, 6, (some .int), 0, 0)
def m_X7_easy : gv_MR := (yX7_easy, cX7_easy, 4, (some .int), 0, 0)
def m_X7_explaining : gv_MR := (yX7_explaining, cX7_explaining, 6, (some .int), 0, 0)
def m_X7_forget : gv_MR := (yX7_forget, cX7_forget, 2, (some .int), 0, 0)
def m_X7_goes : gv_MR := (yX7_goes, cX7_goes, 4, (some .int), 0, 0)
def m_X7_init : gv_MR := (yX7_init, cX7_init, 2, none, 43, 701)
def m_X7_isColumn : gv_MR := (yX7_isColumn, cX7_isColumn, 1, (some .boolean), 0, 0)
def m_X7_isColumnOfLetter : gv_MR := (yX7_isColumnOfLetter, cX7_isColumnOfLetter, 2, (some .boolean), 0, 0)
def m_X7_isNeedle : gv_MR := (yX7_isNeedle, cX7_isNeedle, 1, (some .boolean), 0, 0)
def m_X7_isPlace : gv_MR := (yX7_isPlace, cX7_isPlace, 4, (some .boolean), 0, 0)
def m_X7_keep : gv_MR := (yX7_keep, cX7_keep, 2, (some .int), 0, 0)
def m_X7_letter : gv_MR := (yX7_letter, cX7_letter, 3, (some .int), 0, 0)
def m_X7_line : gv_MR := (yX7_line, cX7_line, 3, (some .int), 0, 0)
def m_X7_mayBeSet : gv_MR := (yX7_mayBeSet, cX7_mayBeSet, 2, (some .boolean), 0, 0)
def m_X7_page : gv_MR := (yX7_page, cX7_page, 3, (some .int), 0, 0)
def m_X7_pass : gv_MR := (yX7_pass, cX7_pass, 4, (some .int), 0, 0)
def m_X7_passes : gv_MR := (yX7_passes, cX7_passes, 2, (some .int), 0, 0)
def m_X7_passesOf : gv_MR := (yX7_passesOf, cX7_passesOf, 4, (some .int), 0, 0)
def m_X7_place : gv_MR := (yX7_place, cX7_place, 6, (some .int), 0, 0)
def m_X7_sees : gv_MR := (yX7_sees, cX7_sees, 3, (some .int), 0, 0)
def m_X7_sets : gv_MR := (yX7_sets, cX7_sets, 4, (some .int), 0, 0)
def m_X7_span : gv_MR := (yX7_span, cX7_span, 5, (some .int), 0, 0)
def m_X7_stands : gv_MR := (yX7_stands, cX7_stands, 4, (some .int), 0, 0)
def m_X7_strikes : gv_MR := (yX7_strikes, cX7_strikes, 3, (some .int), 0, 0)
def m_X7_suspects : gv_MR := (yX7_suspects, cX7_suspects, 3, (some .int), 0, 0)
def m_X7_type : gv_MR := (yX7_type, cX7_type, 2, (some .int), 0, 0)
def m_X7_types : gv_MR := (yX7_types, cX7_types, 4, (some .int), 0, 0)
def m_X7_undo : gv_MR := (yX7_undo, cX7_undo, 1, (some .int), 0, 0)
def m_X7_unlikeNumbers : gv_MR := (yX7_unlikeNumbers, cX7_unlikeNumbers, 5, (some .int), 0, 0)
def m_X7_unseen : gv_MR := (yX7_unseen, cX7_unseen, 1, (some .int), 0, 0)
def m_X7_way : gv_MR := (yX7_way, cX7_way, 2, (some .int), 0, 0)
def m_X7_wear : gv_MR := (yX7_wear, cX7_wear, 4, (some .int), 0, 0)
def m_X8_ask : gv_MR := (yX8_ask, cX8_ask, 6, (some .int), 0, 0)
def m_X8_back : gv_MR := (yX8_back, cX8_back, 3, (some .int), 0, 0)
def m_X8_begins : gv_MR := (yX8_begins, cX8_begins, 2, none, 0, 0)
def m_X8_blanks : gv_MR := (yX8_blanks, cX8_blanks, 1, none, 0, 0)
def m_X8_clear : gv_MR := (yX8_clear, cX8_clear, 2, (some .int), 0, 0)
def m_X8_columnsIn : gv_MR := (yX8_columnsIn, cX8_columnsIn, 9, (some .int), 0, 0)
def m_X8_columnsOf : gv_MR := (yX8_columnsOf, cX8_columnsOf, 5, (some .int), 0, 0)
def m_X8_count : gv_MR := (yX8_count, cX8_count, 2, (some .int), 0, 0)
def m_X8_crowd : gv_MR := (yX8_crowd, cX8_crowd, 9, (some .int), 0, 0)
def m_X8_dotMany : gv_MR := (yX8_dotMany, cX8_dotMany, 5, (some .int), 0, 0)
def m_X8_dots : gv_MR := (yX8_dots, cX8_dots, 3, (some .int), 0, 0)
def m_X8_dotsAt : gv_MR := (yX8_dotsAt, cX8_dotsAt, 4, (some .int), 0, 0)
def m_X8_draws : gv_MR := (yX8_draws, cX8_draws, 4, (some .int), 0, 0)
def m_X8_easy : gv_MR := (yX8_easy, cX8_easy, 3, (some .int), 0, 0)
def m_X8_far : gv_MR := (yX8_far, cX8_far, 2, (some .int), 0, 0)
def m_X8_forget : gv_MR := (yX8_forget, cX8_forget, 2, (some .int), 0, 0)
def m_X8_goes : gv_MR := (yX8_goes, cX8_goes, 5, (some .int), 0, 0)
def m_X8_has : gv_MR := (yX8_has, cX8_has, 2, (some .boolean), 0, 0)
def m_X8_headAt : gv_MR := (yX8_headAt, cX8_headAt, 3, (some .int), 0, 0)
def m_X8_highOf : gv_MR := (yX8_highOf, cX8_highOf, 7, (some .int), 0, 0)
def m_X8_in : gv_MR := (yX8_in, cX8_in, 3, (some .boolean), 0, 0)
def m_X8_init : gv_MR := (yX8_init, cX8_init, 1, none, 10, 1138)
def m_X8_isBack : gv_MR := (yX8_isBack, cX8_isBack, 2, (some .boolean), 0, 0)
def m_X8_isDot : gv_MR := (yX8_isDot, cX8_isDot, 2, (some .boolean), 0, 0)
def m_X8_isEasy : gv_MR := (yX8_isEasy, cX8_isEasy, 5, (some .boolean), 0, 0)
def m_X8_isFigure : gv_MR := (yX8_isFigure, cX8_isFigure, 2, (some .boolean), 0, 0)
def m_X8_isLine : gv_MR := (yX8_isLine, cX8_isLine, 2, (some .boolean), 0, 0)
def m_X8_keep : gv_MR := (yX8_keep, cX8_keep, 3, (some .int), 0, 0)
def m_X8_layPasses : gv_MR := (yX8_layPasses, cX8_layPasses, 4, none, 0, 0)
def m_X8_layWay : gv_MR := (yX8_layWay, cX8_layWay, 20, none, 0, 0)
def m_X8_lays : gv_MR := (yX8_lays, cX8_lays, 4, (some .int), 0, 0)
def m_X8_least : gv_MR := (yX8_least, cX8_least, 1, (some .int), 0, 0)
def m_X8_letter : gv_MR := (yX8_letter, cX8_letter, 3, (some .int), 0, 0)
def m_X8_line : gv_MR := (yX8_line, cX8_line, 3, (some .int), 0, 0)
def m_X8_lowOf : gv_MR := (yX8_lowOf, cX8_lowOf, 7, (some .int), 0, 0)
def m_X8_most : gv_MR := (yX8_most, cX8_most, 1, (some .int), 0, 0)
def m_X8_next : gv_MR := (yX8_next, cX8_next, 3, none, 0, 0)
def m_X8_number : gv_MR := (yX8_number, cX8_number, 4, (some .boolean), 0, 0)
def m_X8_ofLines : gv_MR := (yX8_ofLines, cX8_ofLines, 4, (some .int), 0, 0)
def m_X8_page : gv_MR := (yX8_page, cX8_page, 3, (some .int), 0, 0)
def m_X8_pass : gv_MR := (yX8_pass, cX8_pass, 5, (some .int), 0, 0)
def m_X8_passes : gv_MR := (yX8_passes, cX8_passes, 2, (some .int), 0, 0)
def m_X8_passesOf : gv_MR := (yX8_passesOf, cX8_passesOf, 5, (some .int), 0, 0)
def m_X8_place : gv_MR := (yX8_place, cX8_place, 7, (some .int), 0, 0)
def m_X8_readsItem : gv_MR := (yX8_readsItem, cX8_readsItem, 1, (some .boolean), 0, 0)
def m_X8_readsLetter : gv_MR := (yX8_readsLetter, cX8_readsLetter, 2, (some .boolean), 0, 0)
def m_X8_readsLine : gv_MR := (yX8_readsLine, cX8_readsLine, 2, (some .boolean), 0, 0)
def m_X8_remembers : gv_MR := (yX8_remembers, cX8_remembers, 2, none, 0, 0)
def m_X8_sees : gv_MR := (yX8_sees, cX8_sees, 3, (some .int), 0, 0)
def m_X8_sets : gv_MR := (yX8_sets, cX8_sets, 3, (some .int), 0, 0)
def m_X8_span : gv_MR := (yX8_span, cX8_span, 4, (some .int), 0, 0)
def m_X8_stands : gv_MR := (yX8_stands, cX8_stands, 4, (some .int), 0, 0)
def m_X8_stops : gv_MR := (yX8_stops, cX8_stops, 1, (some .boolean), 0, 0)
def m_X8_strikes : gv_MR := (yX8_strikes, cX8_strikes, 4, (some .int), 0, 0)
def m_X8_type : gv_MR := (yX8_type, cX8_type, 2, (some .int), 0, 0)
def m_X8_types : gv_MR := (yX8_types, cX8_types, 3, (some .int), 0, 0)
def m_X8_undo : gv_MR := (yX8_undo, cX8_undo, 2, (some .int), 0, 0)
def m_X8_unlike : gv_MR := (yX8_unlike, cX8_unlike, 7, (some .int), 0, 0)
def m_X8_unseen : gv_MR := (yX8_unseen, cX8_unseen, 1, (some .int), 0, 0)
def m_X8_unseenSet : gv_MR := (yX8_unseenSet, cX8_unseenSet, 5, (some .int), 0, 0)
def m_X8_way : gv_MR := (yX8_way, cX8_way, 4, (some .int), 0, 0)
def m_X8_wear : gv_MR := (yX8_wear, cX8_wear, 4, (some .int), 0, 0)
def m_X8_within : gv_MR := (yX8_within, cX8_within, 6, (some .int), 0, 0)
def m_X8_without : gv_MR := (yX8_without, cX8_without, 5, (some .int), 0, 0)
theorem gi_X0 : ∀ w ∈ u_ws RX0 TX0 9, w ∈ gv_W := by
  intro w hw
  obtain ⟨k, hk, rfl⟩ := List.mem_map.mp hw
  rw [List.mem_range] at hk
  match k, hk with
  | 0, _ => exact gv_in 213 (by decide +kernel) rfl
  | 1, _ => exact gv_in 215 (by decide +kernel) rfl
  | 2, _ => exact gv_in 217 (by decide +kernel) rfl
  | 3, _ => exact gv_in 219 (by decide +kernel) rfl
  | 4, _ => exact gv_in 221 (by decide +kernel) rfl
  | 5, _ => exact gv_in 223 (by decide +kernel) rfl
  | 6, _ => exact gv_in 225 (by decide +kernel) rfl
  | 7, _ => exact gv_in 227 (by decide +kernel) rfl
  | 8, _ => exact gv_in 229 (by decide +kernel) rfl
  | _ + 9, h => omega
theorem gi_X1 : ∀ w ∈ u_ws RX1 TX1 2, w ∈ gv_W := by
  intro w hw
  obtain ⟨k, hk, rfl⟩ := List.mem_map.mp hw
  rw [List.mem_range] at hk
  match k, hk with
  | 0, _ => exact gv_in 187 (by decide +kernel) rfl
  | 1, _ => exact gv_in 189 (by decide +kernel) rfl
  | _ + 2, h => omega
theorem gi_X2 : ∀ w ∈ u_ws RX2 TX2 4, w ∈ gv_W := by
  intro w hw
  obtain ⟨k, hk, rfl⟩ := List.mem_map.mp hw
  rw [List.mem_range] at hk
  match k, hk with
  | 0, _ => exact gv_in 137 (by decide +kernel) rfl
  | 1, _ => exact gv_in 139 (by decide +kernel) rfl
  | 2, _ => exact gv_in 141 (by decide +kernel) rfl
  | 3, _ => exact gv_in 143 (by decide +kernel) rfl
  | _ + 4, h => omega
theorem gi_X3 : ∀ w ∈ u_ws RX3 TX3 6, w ∈ gv_W := by
  intro w hw
  obtain ⟨k, hk, rfl⟩ := List.mem_map.mp hw
  rw [List.mem_range] at hk
  match k, hk with
  | 0, _ => exact gv_in 70 (by decide +kernel) rfl
  | 1, _ => exact gv_in 72 (by decide +kernel) rfl
  | 2, _ => exact gv_in 74 (by decide +kernel) rfl
  | 3, _ => exact gv_in 76 (by decide +kernel) rfl
  | 4, _ => exact gv_in 78 (by decide +kernel) rfl
  | 5, _ => exact gv_in 80 (by decide +kernel) rfl
  | _ + 6, h => omega
theorem gi_X4 : ∀ w ∈ u_ws RX4 TX4 5, w ∈ gv_W := by
  intro w hw
  obtain ⟨k, hk, rfl⟩ := List.mem_map.mp hw
  rw [List.mem_range] at hk
  match k, hk with
  | 0, _ => exact gv_in 115 (by decide +kernel) rfl
  | 1, _ => exact gv_in 117 (by decide +kernel) rfl
  | 2, _ => exact gv_in 119 (by decide +kernel) rfl
  | 3, _ => exact gv_in 121 (by decide +kernel) rfl
  | 4, _ => exact gv_in 123 (by decide +kernel) rfl
  | _ + 5, h => omega
theorem gi_X5 : ∀ w ∈ u_ws RX5 TX5 3, w ∈ gv_W := by
  intro w hw
  obtain ⟨k, hk, rfl⟩ := List.mem_map.mp hw
  rw [List.mem_range] at hk
  match k, hk with
  | 0, _ => exact gv_in 158 (by decide +kernel) rfl
  | 1, _ => exact gv_in 160 (by decide +kernel) rfl
  | 2, _ => exact gv_in 162 (by decide +kernel) rfl
  | _ + 3, h => omega
theorem gi_X6 : ∀ w ∈ u_ws RX6 TX6 1, w ∈ gv_W := by
  intro w hw
  obtain ⟨k, hk, rfl⟩ := List.mem_map.mp hw
  rw [List.mem_range] at hk
  match k, hk with
  | 0, _ => exact gv_in 173 (by decide +kernel) rfl
  | _ + 1, h => omega
theorem gi_X7 : ∀ w ∈ u_ws RX7 TX7 10, w ∈ gv_W := by
  intro w hw
  obtain ⟨k, hk, rfl⟩ := List.mem_map.mp hw
  rw [List.mem_range] at hk
  match k, hk with
  | 0, _ => exact gv_in 242 (by decide +kernel) rfl
  | 1, _ => exact gv_in 244 (by decide +kernel) rfl
  | 2, _ => exact gv_in 246 (by decide +kernel) rfl
  | 3, _ => exact gv_in 248 (by decide +kernel) rfl
  | 4, _ => exact gv_in 250 (by decide +kernel) rfl
  | 5, _ => exact gv_in 252 (by decide +kernel) rfl
  | 6, _ => exact gv_in 254 (by decide +kernel) rfl
  | 7, _ => exact gv_in 256 (by decide +kernel) rfl
  | 8, _ => exact gv_in 258 (by decide +kernel) rfl
  | 9, _ => exact gv_in 260 (by decide +kernel) rfl
  | _ + 10, h => omega
theorem gi_X8 : ∀ w ∈ u_ws RX8 TX8 20, w ∈ gv_W := by
  intro w hw
  obtain ⟨k, hk, rfl⟩ := List.mem_map.mp hw
  rw [List.mem_range] at hk
  match k, hk with
  | 0, _ => exact gv_in 644 (by decide +kernel) rfl
  | 1, _ => exact gv_in 646 (by decide +kernel) rfl
  | 2, _ => exact gv_in 648 (by decide +kernel) rfl
  | 3, _ => exact gv_in 650 (by decide +kernel) rfl
  | 4, _ => exact gv_in 652 (by decide +kernel) rfl
  | 5, _ => exact gv_in 654 (by decide +kernel) rfl
  | 6, _ => exact gv_in 656 (by decide +kernel) rfl
  | 7, _ => exact gv_in 658 (by decide +kernel) rfl
  | 8, _ => exact gv_in 660 (by decide +kernel) rfl
  | 9, _ => exact gv_in 662 (by decide +kernel) rfl
  | 10, _ => exact gv_in 664 (by decide +kernel) rfl
  | 11, _ => exact gv_in 666 (by decide +kernel) rfl
  | 12, _ => exact gv_in 668 (by decide +kernel) rfl
  | 13, _ => exact gv_in 670 (by decide +kernel) rfl
  | 14, _ => exact gv_in 672 (by decide +kernel) rfl
  | 15, _ => exact gv_in 674 (by decide +kernel) rfl
  | 16, _ => exact gv_in 676 (by decide +kernel) rfl
  | 17, _ => exact gv_in 678 (by decide +kernel) rfl
  | 18, _ => exact gv_in 680 (by decide +kernel) rfl
  | 19, _ => exact gv_in 682 (by decide +kernel) rfl
  | _ + 20, h => omega
theorem gb_J6_bitCount_0f7a4 : gv_cB m_J6_bitCount_0f7a4 1 := ⟨(gv_in 582 (by decide +kernel) rfl), (gv_in 48 (by decide +kernel) rfl), Nat.le_of_ble_eq_true rfl, by decide +kernel, by decide +kernel, by decide +kernel⟩
theorem gb_J7_fill_53178 : gv_cB m_J7_fill_53178 2 := ⟨(gv_in 98 (by decide +kernel) rfl), (gv_in 39 (by decide +kernel) rfl), Nat.le_of_ble_eq_true rfl, by decide +kernel, by decide +kernel, by decide +kernel⟩
theorem gb_J9_abs_0f7a4 : gv_cB m_J9_abs_0f7a4 1 := ⟨(gv_in 501 (by decide +kernel) rfl), (gv_in 47 (by decide +kernel) rfl), Nat.le_of_ble_eq_true rfl, by decide +kernel, by decide +kernel, by decide +kernel⟩
theorem gb_J9_max_7cf53 : gv_cB m_J9_max_7cf53 2 := ⟨(gv_in 433 (by decide +kernel) rfl), (gv_in 47 (by decide +kernel) rfl), Nat.le_of_ble_eq_true rfl, by decide +kernel, by decide +kernel, by decide +kernel⟩
theorem gb_J9_min_7cf53 : gv_cB m_J9_min_7cf53 2 := ⟨(gv_in 468 (by decide +kernel) rfl), (gv_in 47 (by decide +kernel) rfl), Nat.le_of_ble_eq_true rfl, by decide +kernel, by decide +kernel, by decide +kernel⟩
theorem gb_X0_fromLeft : gv_cB m_X0_fromLeft 2 := ⟨(gv_in 498 (by decide +kernel) rfl), (gv_in 44 (by decide +kernel) rfl), Nat.le_of_ble_eq_true rfl, by decide +kernel, by decide +kernel, by decide +kernel⟩
theorem gb_X0_fromRight : gv_cB m_X0_fromRight 2 := ⟨(gv_in 505 (by decide +kernel) rfl), (gv_in 44 (by decide +kernel) rfl), Nat.le_of_ble_eq_true rfl, by decide +kernel, by decide +kernel, by decide +kernel⟩
theorem gb_X0_init : gv_cB m_X0_init 0 := ⟨(gv_in 196 (by decide +kernel) rfl), (gv_in 44 (by decide +kernel) rfl), Nat.le_of_ble_eq_true rfl, by decide +kernel, by decide +kernel, by decide +kernel⟩
theorem gb_X0_isUsed : gv_cB m_X0_isUsed 1 := ⟨(gv_in 490 (by decide +kernel) rfl), (gv_in 44 (by decide +kernel) rfl), Nat.le_of_ble_eq_true rfl, by decide +kernel, by decide +kernel, by decide +kernel⟩
theorem gb_X0_leastFrom : gv_cB m_X0_leastFrom 2 := ⟨(gv_in 494 (by decide +kernel) rfl), (gv_in 44 (by decide +kernel) rfl), Nat.le_of_ble_eq_true rfl, by decide +kernel, by decide +kernel, by decide +kernel⟩
theorem gb_X0_lookAhead : gv_cB m_X0_lookAhead 0 := ⟨(gv_in 486 (by decide +kernel) rfl), (gv_in 44 (by decide +kernel) rfl), Nat.le_of_ble_eq_true rfl, by decide +kernel, by decide +kernel, by decide +kernel⟩
theorem gb_X0_measure : gv_cB m_X0_measure 4 := ⟨(gv_in 454 (by decide +kernel) rfl), (gv_in 44 (by decide +kernel) rfl), Nat.le_of_ble_eq_true rfl, by decide +kernel, by decide +kernel, by decide +kernel⟩
theorem gb_X0_plan : gv_cB m_X0_plan 3 := ⟨(gv_in 480 (by decide +kernel) rfl), (gv_in 44 (by decide +kernel) rfl), Nat.le_of_ble_eq_true rfl, by decide +kernel, by decide +kernel, by decide +kernel⟩
theorem gb_X0_slot : gv_cB m_X0_slot 2 := ⟨(gv_in 472 (by decide +kernel) rfl), (gv_in 44 (by decide +kernel) rfl), Nat.le_of_ble_eq_true rfl, by decide +kernel, by decide +kernel, by decide +kernel⟩
theorem gb_X0_walk : gv_cB m_X0_walk 0 := ⟨(gv_in 509 (by decide +kernel) rfl), (gv_in 44 (by decide +kernel) rfl), Nat.le_of_ble_eq_true rfl, by decide +kernel, by decide +kernel, by decide +kernel⟩
theorem gb_X0_widen : gv_cB m_X0_widen 2 := ⟨(gv_in 465 (by decide +kernel) rfl), (gv_in 44 (by decide +kernel) rfl), Nat.le_of_ble_eq_true rfl, by decide +kernel, by decide +kernel, by decide +kernel⟩
theorem gb_X1_deal : gv_cB m_X1_deal 3 := ⟨(gv_in 425 (by decide +kernel) rfl), (gv_in 43 (by decide +kernel) rfl), Nat.le_of_ble_eq_true rfl, by decide +kernel, by decide +kernel, by decide +kernel⟩
theorem gb_X1_init : gv_cB m_X1_init 0 := ⟨(gv_in 181 (by decide +kernel) rfl), (gv_in 43 (by decide +kernel) rfl), Nat.le_of_ble_eq_true rfl, by decide +kernel, by decide +kernel, by decide +kernel⟩
theorem gb_X2_init : gv_cB m_X2_init 0 := ⟨(gv_in 130 (by decide +kernel) rfl), (gv_in 40 (by decide +kernel) rfl), Nat.le_of_ble_eq_true rfl, by decide +kernel, by decide +kernel, by decide +kernel⟩
theorem gb_X2_loseOldest : gv_cB m_X2_loseOldest 0 := ⟨(gv_in 374 (by decide +kernel) rfl), (gv_in 40 (by decide +kernel) rfl), Nat.le_of_ble_eq_true rfl, by decide +kernel, by decide +kernel, by decide +kernel⟩
theorem gb_X2_note : gv_cB m_X2_note 3 := ⟨(gv_in 370 (by decide +kernel) rfl), (gv_in 40 (by decide +kernel) rfl), Nat.le_of_ble_eq_true rfl, by decide +kernel, by decide +kernel, by decide +kernel⟩
theorem gb_X2_takeBack : gv_cB m_X2_takeBack 1 := ⟨(gv_in 402 (by decide +kernel) rfl), (gv_in 40 (by decide +kernel) rfl), Nat.le_of_ble_eq_true rfl, by decide +kernel, by decide +kernel, by decide +kernel⟩
theorem gb_X3_accept : gv_cB m_X3_accept 1 := ⟨(gv_in 270 (by decide +kernel) rfl), (gv_in 37 (by decide +kernel) rfl), Nat.le_of_ble_eq_true rfl, by decide +kernel, by decide +kernel, by decide +kernel⟩
theorem gb_X3_advance : gv_cB m_X3_advance 0 := ⟨(gv_in 287 (by decide +kernel) rfl), (gv_in 37 (by decide +kernel) rfl), Nat.le_of_ble_eq_true rfl, by decide +kernel, by decide +kernel, by decide +kernel⟩
theorem gb_X3_advanceOverNumber : gv_cB m_X3_advanceOverNumber 0 := ⟨(gv_in 294 (by decide +kernel) rfl), (gv_in 37 (by decide +kernel) rfl), Nat.le_of_ble_eq_true rfl, by decide +kernel, by decide +kernel, by decide +kernel⟩
theorem gb_X3_init : gv_cB m_X3_init 0 := ⟨(gv_in 61 (by decide +kernel) rfl), (gv_in 37 (by decide +kernel) rfl), Nat.le_of_ble_eq_true rfl, by decide +kernel, by decide +kernel, by decide +kernel⟩
theorem gb_X3_isDigit : gv_cB m_X3_isDigit 1 := ⟨(gv_in 290 (by decide +kernel) rfl), (gv_in 37 (by decide +kernel) rfl), Nat.le_of_ble_eq_true rfl, by decide +kernel, by decide +kernel, by decide +kernel⟩
theorem gb_X3_letterOf : gv_cB m_X3_letterOf 1 := ⟨(gv_in 316 (by decide +kernel) rfl), (gv_in 37 (by decide +kernel) rfl), Nat.le_of_ble_eq_true rfl, by decide +kernel, by decide +kernel, by decide +kernel⟩
theorem gb_X3_read : gv_cB m_X3_read 1 := ⟨(gv_in 282 (by decide +kernel) rfl), (gv_in 37 (by decide +kernel) rfl), Nat.le_of_ble_eq_true rfl, by decide +kernel, by decide +kernel, by decide +kernel⟩
theorem gb_X3_readItem : gv_cB m_X3_readItem 1 := ⟨(gv_in 298 (by decide +kernel) rfl), (gv_in 37 (by decide +kernel) rfl), Nat.le_of_ble_eq_true rfl, by decide +kernel, by decide +kernel, by decide +kernel⟩
theorem gb_X3_readLine : gv_cB m_X3_readLine 1 := ⟨(gv_in 320 (by decide +kernel) rfl), (gv_in 37 (by decide +kernel) rfl), Nat.le_of_ble_eq_true rfl, by decide +kernel, by decide +kernel, by decide +kernel⟩
theorem gb_X3_readSetting : gv_cB m_X3_readSetting 2 := ⟨(gv_in 302 (by decide +kernel) rfl), (gv_in 37 (by decide +kernel) rfl), Nat.le_of_ble_eq_true rfl, by decide +kernel, by decide +kernel, by decide +kernel⟩
theorem gb_X3_readShape : gv_cB m_X3_readShape 1 := ⟨(gv_in 313 (by decide +kernel) rfl), (gv_in 37 (by decide +kernel) rfl), Nat.le_of_ble_eq_true rfl, by decide +kernel, by decide +kernel, by decide +kernel⟩
theorem gb_X4_append : gv_cB m_X4_append 2 := ⟨(gv_in 328 (by decide +kernel) rfl), (gv_in 38 (by decide +kernel) rfl), Nat.le_of_ble_eq_true rfl, by decide +kernel, by decide +kernel, by decide +kernel⟩
theorem gb_X4_become : gv_cB m_X4_become 1 := ⟨(gv_in 336 (by decide +kernel) rfl), (gv_in 38 (by decide +kernel) rfl), Nat.le_of_ble_eq_true rfl, by decide +kernel, by decide +kernel, by decide +kernel⟩
theorem gb_X4_begin : gv_cB m_X4_begin 0 := ⟨(gv_in 324 (by decide +kernel) rfl), (gv_in 38 (by decide +kernel) rfl), Nat.le_of_ble_eq_true rfl, by decide +kernel, by decide +kernel, by decide +kernel⟩
theorem gb_X4_chop : gv_cB m_X4_chop 1 := ⟨(gv_in 389 (by decide +kernel) rfl), (gv_in 38 (by decide +kernel) rfl), Nat.le_of_ble_eq_true rfl, by decide +kernel, by decide +kernel, by decide +kernel⟩
theorem gb_X4_dropLast : gv_cB m_X4_dropLast 0 := ⟨(gv_in 407 (by decide +kernel) rfl), (gv_in 38 (by decide +kernel) rfl), Nat.le_of_ble_eq_true rfl, by decide +kernel, by decide +kernel, by decide +kernel⟩
theorem gb_X4_hasLine : gv_cB m_X4_hasLine 1 := ⟨(gv_in 332 (by decide +kernel) rfl), (gv_in 38 (by decide +kernel) rfl), Nat.le_of_ble_eq_true rfl, by decide +kernel, by decide +kernel, by decide +kernel⟩
theorem gb_X4_headAt : gv_cB m_X4_headAt 2 := ⟨(gv_in 461 (by decide +kernel) rfl), (gv_in 38 (by decide +kernel) rfl), Nat.le_of_ble_eq_true rfl, by decide +kernel, by decide +kernel, by decide +kernel⟩
theorem gb_X4_init : gv_cB m_X4_init 0 := ⟨(gv_in 88 (by decide +kernel) rfl), (gv_in 38 (by decide +kernel) rfl), Nat.le_of_ble_eq_true rfl, by decide +kernel, by decide +kernel, by decide +kernel⟩
theorem gb_X4_inkAt : gv_cB m_X4_inkAt 2 := ⟨(gv_in 362 (by decide +kernel) rfl), (gv_in 38 (by decide +kernel) rfl), Nat.le_of_ble_eq_true rfl, by decide +kernel, by decide +kernel, by decide +kernel⟩
theorem gb_X4_reset : gv_cB m_X4_reset 0 := ⟨(gv_in 93 (by decide +kernel) rfl), (gv_in 38 (by decide +kernel) rfl), Nat.le_of_ble_eq_true rfl, by decide +kernel, by decide +kernel, by decide +kernel⟩
theorem gb_X5_init : gv_cB m_X5_init 0 := ⟨(gv_in 150 (by decide +kernel) rfl), (gv_in 41 (by decide +kernel) rfl), Nat.le_of_ble_eq_true rfl, by decide +kernel, by decide +kernel, by decide +kernel⟩
theorem gb_X5_note : gv_cB m_X5_note 2 := ⟨(gv_in 559 (by decide +kernel) rfl), (gv_in 41 (by decide +kernel) rfl), Nat.le_of_ble_eq_true rfl, by decide +kernel, by decide +kernel, by decide +kernel⟩
theorem gb_X6_amount : gv_cB m_X6_amount 1 := ⟨(gv_in 527 (by decide +kernel) rfl), (gv_in 42 (by decide +kernel) rfl), Nat.le_of_ble_eq_true rfl, by decide +kernel, by decide +kernel, by decide +kernel⟩
theorem gb_X6_amountFrom : gv_cB m_X6_amountFrom 3 := ⟨(gv_in 531 (by decide +kernel) rfl), (gv_in 42 (by decide +kernel) rfl), Nat.le_of_ble_eq_true rfl, by decide +kernel, by decide +kernel, by decide +kernel⟩
theorem gb_X6_hasDot : gv_cB m_X6_hasDot 2 := ⟨(gv_in 429 (by decide +kernel) rfl), (gv_in 42 (by decide +kernel) rfl), Nat.le_of_ble_eq_true rfl, by decide +kernel, by decide +kernel, by decide +kernel⟩
theorem gb_X6_init : gv_cB m_X6_init 0 := ⟨(gv_in 170 (by decide +kernel) rfl), (gv_in 42 (by decide +kernel) rfl), Nat.le_of_ble_eq_true rfl, by decide +kernel, by decide +kernel, by decide +kernel⟩
theorem gb_X6_lay : gv_cB m_X6_lay 2 := ⟨(gv_in 420 (by decide +kernel) rfl), (gv_in 42 (by decide +kernel) rfl), Nat.le_of_ble_eq_true rfl, by decide +kernel, by decide +kernel, by decide +kernel⟩
theorem gb_X6_leastGap : gv_cB m_X6_leastGap 1 := ⟨(gv_in 545 (by decide +kernel) rfl), (gv_in 42 (by decide +kernel) rfl), Nat.le_of_ble_eq_true rfl, by decide +kernel, by decide +kernel, by decide +kernel⟩
theorem gb_X6_total : gv_cB m_X6_total 0 := ⟨(gv_in 579 (by decide +kernel) rfl), (gv_in 42 (by decide +kernel) rfl), Nat.le_of_ble_eq_true rfl, by decide +kernel, by decide +kernel, by decide +kernel⟩
theorem gb_X7_allDots : gv_cB m_X7_allDots 0 := ⟨(gv_in 610 (by decide +kernel) rfl), (gv_in 36 (by decide +kernel) rfl), Nat.le_of_ble_eq_true rfl, by decide +kernel, by decide +kernel, by decide +kernel⟩
theorem gb_X7_allPasses : gv_cB m_X7_allPasses 0 := ⟨(gv_in 614 (by decide +kernel) rfl), (gv_in 36 (by decide +kernel) rfl), Nat.le_of_ble_eq_true rfl, by decide +kernel, by decide +kernel, by decide +kernel⟩
theorem gb_X7_ask : gv_cB m_X7_ask 0 := ⟨(gv_in 589 (by decide +kernel) rfl), (gv_in 36 (by decide +kernel) rfl), Nat.le_of_ble_eq_true rfl, by decide +kernel, by decide +kernel, by decide +kernel⟩
theorem gb_X7_back : gv_cB m_X7_back 1 := ⟨(gv_in 602 (by decide +kernel) rfl), (gv_in 36 (by decide +kernel) rfl), Nat.le_of_ble_eq_true rfl, by decide +kernel, by decide +kernel, by decide +kernel⟩
theorem gb_X7_clear : gv_cB m_X7_clear 0 := ⟨(gv_in 274 (by decide +kernel) rfl), (gv_in 36 (by decide +kernel) rfl), Nat.le_of_ble_eq_true rfl, by decide +kernel, by decide +kernel, by decide +kernel⟩
theorem gb_X7_count : gv_cB m_X7_count 1 := ⟨(gv_in 606 (by decide +kernel) rfl), (gv_in 36 (by decide +kernel) rfl), Nat.le_of_ble_eq_true rfl, by decide +kernel, by decide +kernel, by decide +kernel⟩
theorem gb_X7_crowd : gv_cB m_X7_crowd 2 := ⟨(gv_in 536 (by decide +kernel) rfl), (gv_in 36 (by decide +kernel) rfl), Nat.le_of_ble_eq_true rfl, by decide +kernel, by decide +kernel, by decide +kernel⟩
theorem gb_X7_dots : gv_cB m_X7_dots 2 := ⟨(gv_in 355 (by decide +kernel) rfl), (gv_in 36 (by decide +kernel) rfl), Nat.le_of_ble_eq_true rfl, by decide +kernel, by decide +kernel, by decide +kernel⟩
theorem gb_X7_draws : gv_cB m_X7_draws 3 := ⟨(gv_in 366 (by decide +kernel) rfl), (gv_in 36 (by decide +kernel) rfl), Nat.le_of_ble_eq_true rfl, by decide +kernel, by decide +kernel, by decide +kernel⟩
theorem gb_X7_easy : gv_cB m_X7_easy 1 := ⟨(gv_in 541 (by decide +kernel) rfl), (gv_in 36 (by decide +kernel) rfl), Nat.le_of_ble_eq_true rfl, by decide +kernel, by decide +kernel, by decide +kernel⟩
theorem gb_X7_explaining : gv_cB m_X7_explaining 2 := ⟨(gv_in 575 (by decide +kernel) rfl), (gv_in 36 (by decide +kernel) rfl), Nat.le_of_ble_eq_true rfl, by decide +kernel, by decide +kernel, by decide +kernel⟩
theorem gb_X7_forget : gv_cB m_X7_forget 0 := ⟨(gv_in 563 (by decide +kernel) rfl), (gv_in 36 (by decide +kernel) rfl), Nat.le_of_ble_eq_true rfl, by decide +kernel, by decide +kernel, by decide +kernel⟩
theorem gb_X7_goes : gv_cB m_X7_goes 2 := ⟨(gv_in 476 (by decide +kernel) rfl), (gv_in 36 (by decide +kernel) rfl), Nat.le_of_ble_eq_true rfl, by decide +kernel, by decide +kernel, by decide +kernel⟩
theorem gb_X7_init : gv_cB m_X7_init 0 := ⟨(gv_in 53 (by decide +kernel) rfl), (gv_in 36 (by decide +kernel) rfl), Nat.le_of_ble_eq_true rfl, by decide +kernel, by decide +kernel, by decide +kernel⟩
theorem gb_X7_isColumn : gv_cB m_X7_isColumn 1 := ⟨(gv_in 358 (by decide +kernel) rfl), (gv_in 36 (by decide +kernel) rfl), Nat.le_of_ble_eq_true rfl, by decide +kernel, by decide +kernel, by decide +kernel⟩
theorem gb_X7_isColumnOfLetter : gv_cB m_X7_isColumnOfLetter 2 := ⟨(gv_in 346 (by decide +kernel) rfl), (gv_in 36 (by decide +kernel) rfl), Nat.le_of_ble_eq_true rfl, by decide +kernel, by decide +kernel, by decide +kernel⟩
theorem gb_X7_isNeedle : gv_cB m_X7_isNeedle 1 := ⟨(gv_in 445 (by decide +kernel) rfl), (gv_in 36 (by decide +kernel) rfl), Nat.le_of_ble_eq_true rfl, by decide +kernel, by decide +kernel, by decide +kernel⟩
theorem gb_X7_isPlace : gv_cB m_X7_isPlace 3 := ⟨(gv_in 442 (by decide +kernel) rfl), (gv_in 36 (by decide +kernel) rfl), Nat.le_of_ble_eq_true rfl, by decide +kernel, by decide +kernel, by decide +kernel⟩
theorem gb_X7_keep : gv_cB m_X7_keep 1 := ⟨(gv_in 598 (by decide +kernel) rfl), (gv_in 36 (by decide +kernel) rfl), Nat.le_of_ble_eq_true rfl, by decide +kernel, by decide +kernel, by decide +kernel⟩
theorem gb_X7_letter : gv_cB m_X7_letter 2 := ⟨(gv_in 343 (by decide +kernel) rfl), (gv_in 36 (by decide +kernel) rfl), Nat.le_of_ble_eq_true rfl, by decide +kernel, by decide +kernel, by decide +kernel⟩
theorem gb_X7_line : gv_cB m_X7_line 2 := ⟨(gv_in 350 (by decide +kernel) rfl), (gv_in 36 (by decide +kernel) rfl), Nat.le_of_ble_eq_true rfl, by decide +kernel, by decide +kernel, by decide +kernel⟩
theorem gb_X7_mayBeSet : gv_cB m_X7_mayBeSet 2 := ⟨(gv_in 305 (by decide +kernel) rfl), (gv_in 36 (by decide +kernel) rfl), Nat.le_of_ble_eq_true rfl, by decide +kernel, by decide +kernel, by decide +kernel⟩
theorem gb_X7_page : gv_cB m_X7_page 0 := ⟨(gv_in 278 (by decide +kernel) rfl), (gv_in 36 (by decide +kernel) rfl), Nat.le_of_ble_eq_true rfl, by decide +kernel, by decide +kernel, by decide +kernel⟩
theorem gb_X7_pass : gv_cB m_X7_pass 3 := ⟨(gv_in 438 (by decide +kernel) rfl), (gv_in 36 (by decide +kernel) rfl), Nat.le_of_ble_eq_true rfl, by decide +kernel, by decide +kernel, by decide +kernel⟩
theorem gb_X7_passes : gv_cB m_X7_passes 1 := ⟨(gv_in 412 (by decide +kernel) rfl), (gv_in 36 (by decide +kernel) rfl), Nat.le_of_ble_eq_true rfl, by decide +kernel, by decide +kernel, by decide +kernel⟩
theorem gb_X7_passesOf : gv_cB m_X7_passesOf 1 := ⟨(gv_in 416 (by decide +kernel) rfl), (gv_in 36 (by decide +kernel) rfl), Nat.le_of_ble_eq_true rfl, by decide +kernel, by decide +kernel, by decide +kernel⟩
theorem gb_X7_place : gv_cB m_X7_place 2 := ⟨(gv_in 551 (by decide +kernel) rfl), (gv_in 36 (by decide +kernel) rfl), Nat.le_of_ble_eq_true rfl, by decide +kernel, by decide +kernel, by decide +kernel⟩
theorem gb_X7_sees : gv_cB m_X7_sees 2 := ⟨(gv_in 555 (by decide +kernel) rfl), (gv_in 36 (by decide +kernel) rfl), Nat.le_of_ble_eq_true rfl, by decide +kernel, by decide +kernel, by decide +kernel⟩
theorem gb_X7_sets : gv_cB m_X7_sets 2 := ⟨(gv_in 393 (by decide +kernel) rfl), (gv_in 36 (by decide +kernel) rfl), Nat.le_of_ble_eq_true rfl, by decide +kernel, by decide +kernel, by decide +kernel⟩
theorem gb_X7_span : gv_cB m_X7_span 3 := ⟨(gv_in 449 (by decide +kernel) rfl), (gv_in 36 (by decide +kernel) rfl), Nat.le_of_ble_eq_true rfl, by decide +kernel, by decide +kernel, by decide +kernel⟩
theorem gb_X7_stands : gv_cB m_X7_stands 3 := ⟨(gv_in 513 (by decide +kernel) rfl), (gv_in 36 (by decide +kernel) rfl), Nat.le_of_ble_eq_true rfl, by decide +kernel, by decide +kernel, by decide +kernel⟩
theorem gb_X7_strikes : gv_cB m_X7_strikes 1 := ⟨(gv_in 385 (by decide +kernel) rfl), (gv_in 36 (by decide +kernel) rfl), Nat.le_of_ble_eq_true rfl, by decide +kernel, by decide +kernel, by decide +kernel⟩
theorem gb_X7_suspects : gv_cB m_X7_suspects 0 := ⟨(gv_in 571 (by decide +kernel) rfl), (gv_in 36 (by decide +kernel) rfl), Nat.le_of_ble_eq_true rfl, by decide +kernel, by decide +kernel, by decide +kernel⟩
theorem gb_X7_type : gv_cB m_X7_type 1 := ⟨(gv_in 266 (by decide +kernel) rfl), (gv_in 36 (by decide +kernel) rfl), Nat.le_of_ble_eq_true rfl, by decide +kernel, by decide +kernel, by decide +kernel⟩
theorem gb_X7_types : gv_cB m_X7_types 2 := ⟨(gv_in 379 (by decide +kernel) rfl), (gv_in 36 (by decide +kernel) rfl), Nat.le_of_ble_eq_true rfl, by decide +kernel, by decide +kernel, by decide +kernel⟩
theorem gb_X7_undo : gv_cB m_X7_undo 0 := ⟨(gv_in 398 (by decide +kernel) rfl), (gv_in 36 (by decide +kernel) rfl), Nat.le_of_ble_eq_true rfl, by decide +kernel, by decide +kernel, by decide +kernel⟩
theorem gb_X7_unlikeNumbers : gv_cB m_X7_unlikeNumbers 2 := ⟨(gv_in 594 (by decide +kernel) rfl), (gv_in 36 (by decide +kernel) rfl), Nat.le_of_ble_eq_true rfl, by decide +kernel, by decide +kernel, by decide +kernel⟩
theorem gb_X7_unseen : gv_cB m_X7_unseen 0 := ⟨(gv_in 567 (by decide +kernel) rfl), (gv_in 36 (by decide +kernel) rfl), Nat.le_of_ble_eq_true rfl, by decide +kernel, by decide +kernel, by decide +kernel⟩
theorem gb_X7_way : gv_cB m_X7_way 1 := ⟨(gv_in 519 (by decide +kernel) rfl), (gv_in 36 (by decide +kernel) rfl), Nat.le_of_ble_eq_true rfl, by decide +kernel, by decide +kernel, by decide +kernel⟩
theorem gb_X7_wear : gv_cB m_X7_wear 1 := ⟨(gv_in 523 (by decide +kernel) rfl), (gv_in 36 (by decide +kernel) rfl), Nat.le_of_ble_eq_true rfl, by decide +kernel, by decide +kernel, by decide +kernel⟩
theorem gb_X8_ask : gv_cB m_X8_ask 0 := ⟨(gv_in 908 (by decide +kernel) rfl), (gv_in 45 (by decide +kernel) rfl), Nat.le_of_ble_eq_true rfl, by decide +kernel, by decide +kernel, by decide +kernel⟩
theorem gb_X8_back : gv_cB m_X8_back 1 := ⟨(gv_in 920 (by decide +kernel) rfl), (gv_in 45 (by decide +kernel) rfl), Nat.le_of_ble_eq_true rfl, by decide +kernel, by decide +kernel, by decide +kernel⟩
theorem gb_X8_begins : gv_cB m_X8_begins 1 := ⟨(gv_in 623 (by decide +kernel) rfl), (gv_in 45 (by decide +kernel) rfl), Nat.le_of_ble_eq_true rfl, by decide +kernel, by decide +kernel, by decide +kernel⟩
theorem gb_X8_blanks : gv_cB m_X8_blanks 0 := ⟨(gv_in 703 (by decide +kernel) rfl), (gv_in 45 (by decide +kernel) rfl), Nat.le_of_ble_eq_true rfl, by decide +kernel, by decide +kernel, by decide +kernel⟩
theorem gb_X8_clear : gv_cB m_X8_clear 0 := ⟨(gv_in 695 (by decide +kernel) rfl), (gv_in 45 (by decide +kernel) rfl), Nat.le_of_ble_eq_true rfl, by decide +kernel, by decide +kernel, by decide +kernel⟩
theorem gb_X8_columnsIn : gv_cB m_X8_columnsIn 3 := ⟨(gv_in 797 (by decide +kernel) rfl), (gv_in 45 (by decide +kernel) rfl), Nat.le_of_ble_eq_true rfl, by decide +kernel, by decide +kernel, by decide +kernel⟩
theorem gb_X8_columnsOf : gv_cB m_X8_columnsOf 2 := ⟨(gv_in 801 (by decide +kernel) rfl), (gv_in 45 (by decide +kernel) rfl), Nat.le_of_ble_eq_true rfl, by decide +kernel, by decide +kernel, by decide +kernel⟩
theorem gb_X8_count : gv_cB m_X8_count 1 := ⟨(gv_in 924 (by decide +kernel) rfl), (gv_in 45 (by decide +kernel) rfl), Nat.le_of_ble_eq_true rfl, by decide +kernel, by decide +kernel, by decide +kernel⟩
theorem gb_X8_crowd : gv_cB m_X8_crowd 2 := ⟨(gv_in 868 (by decide +kernel) rfl), (gv_in 45 (by decide +kernel) rfl), Nat.le_of_ble_eq_true rfl, by decide +kernel, by decide +kernel, by decide +kernel⟩
theorem gb_X8_dotMany : gv_cB m_X8_dotMany 2 := ⟨(gv_in 864 (by decide +kernel) rfl), (gv_in 45 (by decide +kernel) rfl), Nat.le_of_ble_eq_true rfl, by decide +kernel, by decide +kernel, by decide +kernel⟩
theorem gb_X8_dots : gv_cB m_X8_dots 2 := ⟨(gv_in 747 (by decide +kernel) rfl), (gv_in 45 (by decide +kernel) rfl), Nat.le_of_ble_eq_true rfl, by decide +kernel, by decide +kernel, by decide +kernel⟩
theorem gb_X8_dotsAt : gv_cB m_X8_dotsAt 2 := ⟨(gv_in 751 (by decide +kernel) rfl), (gv_in 45 (by decide +kernel) rfl), Nat.le_of_ble_eq_true rfl, by decide +kernel, by decide +kernel, by decide +kernel⟩
theorem gb_X8_draws : gv_cB m_X8_draws 3 := ⟨(gv_in 755 (by decide +kernel) rfl), (gv_in 45 (by decide +kernel) rfl), Nat.le_of_ble_eq_true rfl, by decide +kernel, by decide +kernel, by decide +kernel⟩
theorem gb_X8_easy : gv_cB m_X8_easy 1 := ⟨(gv_in 876 (by decide +kernel) rfl), (gv_in 45 (by decide +kernel) rfl), Nat.le_of_ble_eq_true rfl, by decide +kernel, by decide +kernel, by decide +kernel⟩
theorem gb_X8_far : gv_cB m_X8_far 2 := ⟨(gv_in 847 (by decide +kernel) rfl), (gv_in 45 (by decide +kernel) rfl), Nat.le_of_ble_eq_true rfl, by decide +kernel, by decide +kernel, by decide +kernel⟩
theorem gb_X8_forget : gv_cB m_X8_forget 0 := ⟨(gv_in 892 (by decide +kernel) rfl), (gv_in 45 (by decide +kernel) rfl), Nat.le_of_ble_eq_true rfl, by decide +kernel, by decide +kernel, by decide +kernel⟩
theorem gb_X8_goes : gv_cB m_X8_goes 2 := ⟨(gv_in 836 (by decide +kernel) rfl), (gv_in 45 (by decide +kernel) rfl), Nat.le_of_ble_eq_true rfl, by decide +kernel, by decide +kernel, by decide +kernel⟩
theorem gb_X8_has : gv_cB m_X8_has 2 := ⟨(gv_in 804 (by decide +kernel) rfl), (gv_in 45 (by decide +kernel) rfl), Nat.le_of_ble_eq_true rfl, by decide +kernel, by decide +kernel, by decide +kernel⟩
theorem gb_X8_headAt : gv_cB m_X8_headAt 2 := ⟨(gv_in 824 (by decide +kernel) rfl), (gv_in 45 (by decide +kernel) rfl), Nat.le_of_ble_eq_true rfl, by decide +kernel, by decide +kernel, by decide +kernel⟩
theorem gb_X8_highOf : gv_cB m_X8_highOf 2 := ⟨(gv_in 828 (by decide +kernel) rfl), (gv_in 45 (by decide +kernel) rfl), Nat.le_of_ble_eq_true rfl, by decide +kernel, by decide +kernel, by decide +kernel⟩
theorem gb_X8_in : gv_cB m_X8_in 3 := ⟨(gv_in 691 (by decide +kernel) rfl), (gv_in 45 (by decide +kernel) rfl), Nat.le_of_ble_eq_true rfl, by decide +kernel, by decide +kernel, by decide +kernel⟩
theorem gb_X8_init : gv_cB m_X8_init 0 := ⟨(gv_in 619 (by decide +kernel) rfl), (gv_in 45 (by decide +kernel) rfl), Nat.le_of_ble_eq_true rfl, by decide +kernel, by decide +kernel, by decide +kernel⟩
theorem gb_X8_isBack : gv_cB m_X8_isBack 1 := ⟨(gv_in 852 (by decide +kernel) rfl), (gv_in 45 (by decide +kernel) rfl), Nat.le_of_ble_eq_true rfl, by decide +kernel, by decide +kernel, by decide +kernel⟩
theorem gb_X8_isDot : gv_cB m_X8_isDot 2 := ⟨(gv_in 811 (by decide +kernel) rfl), (gv_in 45 (by decide +kernel) rfl), Nat.le_of_ble_eq_true rfl, by decide +kernel, by decide +kernel, by decide +kernel⟩
theorem gb_X8_isEasy : gv_cB m_X8_isEasy 2 := ⟨(gv_in 880 (by decide +kernel) rfl), (gv_in 45 (by decide +kernel) rfl), Nat.le_of_ble_eq_true rfl, by decide +kernel, by decide +kernel, by decide +kernel⟩
theorem gb_X8_isFigure : gv_cB m_X8_isFigure 1 := ⟨(gv_in 715 (by decide +kernel) rfl), (gv_in 45 (by decide +kernel) rfl), Nat.le_of_ble_eq_true rfl, by decide +kernel, by decide +kernel, by decide +kernel⟩
theorem gb_X8_isLine : gv_cB m_X8_isLine 1 := ⟨(gv_in 743 (by decide +kernel) rfl), (gv_in 45 (by decide +kernel) rfl), Nat.le_of_ble_eq_true rfl, by decide +kernel, by decide +kernel, by decide +kernel⟩
theorem gb_X8_keep : gv_cB m_X8_keep 1 := ⟨(gv_in 916 (by decide +kernel) rfl), (gv_in 45 (by decide +kernel) rfl), Nat.le_of_ble_eq_true rfl, by decide +kernel, by decide +kernel, by decide +kernel⟩
theorem gb_X8_layPasses : gv_cB m_X8_layPasses 0 := ⟨(gv_in 844 (by decide +kernel) rfl), (gv_in 45 (by decide +kernel) rfl), Nat.le_of_ble_eq_true rfl, by decide +kernel, by decide +kernel, by decide +kernel⟩
theorem gb_X8_layWay : gv_cB m_X8_layWay 0 := ⟨(gv_in 840 (by decide +kernel) rfl), (gv_in 45 (by decide +kernel) rfl), Nat.le_of_ble_eq_true rfl, by decide +kernel, by decide +kernel, by decide +kernel⟩
theorem gb_X8_lays : gv_cB m_X8_lays 2 := ⟨(gv_in 759 (by decide +kernel) rfl), (gv_in 45 (by decide +kernel) rfl), Nat.le_of_ble_eq_true rfl, by decide +kernel, by decide +kernel, by decide +kernel⟩
theorem gb_X8_least : gv_cB m_X8_least 1 := ⟨(gv_in 778 (by decide +kernel) rfl), (gv_in 45 (by decide +kernel) rfl), Nat.le_of_ble_eq_true rfl, by decide +kernel, by decide +kernel, by decide +kernel⟩
theorem gb_X8_letter : gv_cB m_X8_letter 2 := ⟨(gv_in 735 (by decide +kernel) rfl), (gv_in 45 (by decide +kernel) rfl), Nat.le_of_ble_eq_true rfl, by decide +kernel, by decide +kernel, by decide +kernel⟩
theorem gb_X8_line : gv_cB m_X8_line 2 := ⟨(gv_in 739 (by decide +kernel) rfl), (gv_in 45 (by decide +kernel) rfl), Nat.le_of_ble_eq_true rfl, by decide +kernel, by decide +kernel, by decide +kernel⟩
theorem gb_X8_lowOf : gv_cB m_X8_lowOf 2 := ⟨(gv_in 820 (by decide +kernel) rfl), (gv_in 45 (by decide +kernel) rfl), Nat.le_of_ble_eq_true rfl, by decide +kernel, by decide +kernel, by decide +kernel⟩
theorem gb_X8_most : gv_cB m_X8_most 1 := ⟨(gv_in 781 (by decide +kernel) rfl), (gv_in 45 (by decide +kernel) rfl), Nat.le_of_ble_eq_true rfl, by decide +kernel, by decide +kernel, by decide +kernel⟩
theorem gb_X8_next : gv_cB m_X8_next 0 := ⟨(gv_in 711 (by decide +kernel) rfl), (gv_in 45 (by decide +kernel) rfl), Nat.le_of_ble_eq_true rfl, by decide +kernel, by decide +kernel, by decide +kernel⟩
theorem gb_X8_number : gv_cB m_X8_number 3 := ⟨(gv_in 719 (by decide +kernel) rfl), (gv_in 45 (by decide +kernel) rfl), Nat.le_of_ble_eq_true rfl, by decide +kernel, by decide +kernel, by decide +kernel⟩
theorem gb_X8_ofLines : gv_cB m_X8_ofLines 1 := ⟨(gv_in 928 (by decide +kernel) rfl), (gv_in 45 (by decide +kernel) rfl), Nat.le_of_ble_eq_true rfl, by decide +kernel, by decide +kernel, by decide +kernel⟩
theorem gb_X8_page : gv_cB m_X8_page 0 := ⟨(gv_in 699 (by decide +kernel) rfl), (gv_in 45 (by decide +kernel) rfl), Nat.le_of_ble_eq_true rfl, by decide +kernel, by decide +kernel, by decide +kernel⟩
theorem gb_X8_pass : gv_cB m_X8_pass 3 := ⟨(gv_in 808 (by decide +kernel) rfl), (gv_in 45 (by decide +kernel) rfl), Nat.le_of_ble_eq_true rfl, by decide +kernel, by decide +kernel, by decide +kernel⟩
theorem gb_X8_passes : gv_cB m_X8_passes 1 := ⟨(gv_in 789 (by decide +kernel) rfl), (gv_in 45 (by decide +kernel) rfl), Nat.le_of_ble_eq_true rfl, by decide +kernel, by decide +kernel, by decide +kernel⟩
theorem gb_X8_passesOf : gv_cB m_X8_passesOf 1 := ⟨(gv_in 793 (by decide +kernel) rfl), (gv_in 45 (by decide +kernel) rfl), Nat.le_of_ble_eq_true rfl, by decide +kernel, by decide +kernel, by decide +kernel⟩
theorem gb_X8_place : gv_cB m_X8_place 2 := ⟨(gv_in 884 (by decide +kernel) rfl), (gv_in 45 (by decide +kernel) rfl), Nat.le_of_ble_eq_true rfl, by decide +kernel, by decide +kernel, by decide +kernel⟩
theorem gb_X8_readsItem : gv_cB m_X8_readsItem 0 := ⟨(gv_in 707 (by decide +kernel) rfl), (gv_in 45 (by decide +kernel) rfl), Nat.le_of_ble_eq_true rfl, by decide +kernel, by decide +kernel, by decide +kernel⟩
theorem gb_X8_readsLetter : gv_cB m_X8_readsLetter 0 := ⟨(gv_in 727 (by decide +kernel) rfl), (gv_in 45 (by decide +kernel) rfl), Nat.le_of_ble_eq_true rfl, by decide +kernel, by decide +kernel, by decide +kernel⟩
theorem gb_X8_readsLine : gv_cB m_X8_readsLine 0 := ⟨(gv_in 731 (by decide +kernel) rfl), (gv_in 45 (by decide +kernel) rfl), Nat.le_of_ble_eq_true rfl, by decide +kernel, by decide +kernel, by decide +kernel⟩
theorem gb_X8_remembers : gv_cB m_X8_remembers 0 := ⟨(gv_in 763 (by decide +kernel) rfl), (gv_in 45 (by decide +kernel) rfl), Nat.le_of_ble_eq_true rfl, by decide +kernel, by decide +kernel, by decide +kernel⟩
theorem gb_X8_sees : gv_cB m_X8_sees 2 := ⟨(gv_in 888 (by decide +kernel) rfl), (gv_in 45 (by decide +kernel) rfl), Nat.le_of_ble_eq_true rfl, by decide +kernel, by decide +kernel, by decide +kernel⟩
theorem gb_X8_sets : gv_cB m_X8_sets 2 := ⟨(gv_in 775 (by decide +kernel) rfl), (gv_in 45 (by decide +kernel) rfl), Nat.le_of_ble_eq_true rfl, by decide +kernel, by decide +kernel, by decide +kernel⟩
theorem gb_X8_span : gv_cB m_X8_span 3 := ⟨(gv_in 815 (by decide +kernel) rfl), (gv_in 45 (by decide +kernel) rfl), Nat.le_of_ble_eq_true rfl, by decide +kernel, by decide +kernel, by decide +kernel⟩
theorem gb_X8_stands : gv_cB m_X8_stands 3 := ⟨(gv_in 832 (by decide +kernel) rfl), (gv_in 45 (by decide +kernel) rfl), Nat.le_of_ble_eq_true rfl, by decide +kernel, by decide +kernel, by decide +kernel⟩
theorem gb_X8_stops : gv_cB m_X8_stops 0 := ⟨(gv_in 723 (by decide +kernel) rfl), (gv_in 45 (by decide +kernel) rfl), Nat.le_of_ble_eq_true rfl, by decide +kernel, by decide +kernel, by decide +kernel⟩
theorem gb_X8_strikes : gv_cB m_X8_strikes 1 := ⟨(gv_in 771 (by decide +kernel) rfl), (gv_in 45 (by decide +kernel) rfl), Nat.le_of_ble_eq_true rfl, by decide +kernel, by decide +kernel, by decide +kernel⟩
theorem gb_X8_type : gv_cB m_X8_type 1 := ⟨(gv_in 688 (by decide +kernel) rfl), (gv_in 45 (by decide +kernel) rfl), Nat.le_of_ble_eq_true rfl, by decide +kernel, by decide +kernel, by decide +kernel⟩
theorem gb_X8_types : gv_cB m_X8_types 2 := ⟨(gv_in 767 (by decide +kernel) rfl), (gv_in 45 (by decide +kernel) rfl), Nat.le_of_ble_eq_true rfl, by decide +kernel, by decide +kernel, by decide +kernel⟩
theorem gb_X8_undo : gv_cB m_X8_undo 0 := ⟨(gv_in 785 (by decide +kernel) rfl), (gv_in 45 (by decide +kernel) rfl), Nat.le_of_ble_eq_true rfl, by decide +kernel, by decide +kernel, by decide +kernel⟩
theorem gb_X8_unlike : gv_cB m_X8_unlike 2 := ⟨(gv_in 912 (by decide +kernel) rfl), (gv_in 45 (by decide +kernel) rfl), Nat.le_of_ble_eq_true rfl, by decide +kernel, by decide +kernel, by decide +kernel⟩
theorem gb_X8_unseen : gv_cB m_X8_unseen 0 := ⟨(gv_in 896 (by decide +kernel) rfl), (gv_in 45 (by decide +kernel) rfl), Nat.le_of_ble_eq_true rfl, by decide +kernel, by decide +kernel, by decide +kernel⟩
theorem gb_X8_unseenSet : gv_cB m_X8_unseenSet 0 := ⟨(gv_in 900 (by decide +kernel) rfl), (gv_in 45 (by decide +kernel) rfl), Nat.le_of_ble_eq_true rfl, by decide +kernel, by decide +kernel, by decide +kernel⟩
theorem gb_X8_way : gv_cB m_X8_way 1 := ⟨(gv_in 856 (by decide +kernel) rfl), (gv_in 45 (by decide +kernel) rfl), Nat.le_of_ble_eq_true rfl, by decide +kernel, by decide +kernel, by decide +kernel⟩
theorem gb_X8_wear : gv_cB m_X8_wear 1 := ⟨(gv_in 860 (by decide +kernel) rfl), (gv_in 45 (by decide +kernel) rfl), Nat.le_of_ble_eq_true rfl, by decide +kernel, by decide +kernel, by decide +kernel⟩
theorem gb_X8_within : gv_cB m_X8_within 3 := ⟨(gv_in 872 (by decide +kernel) rfl), (gv_in 45 (by decide +kernel) rfl), Nat.le_of_ble_eq_true rfl, by decide +kernel, by decide +kernel, by decide +kernel⟩
theorem gb_X8_without : gv_cB m_X8_without 2 := ⟨(gv_in 904 (by decide +kernel) rfl), (gv_in 45 (by decide +kernel) rfl), Nat.le_of_ble_eq_true rfl, by decide +kernel, by decide +kernel, by decide +kernel⟩
end
section
theorem gf_X7_12 : gv_F RX7 12 7 0 := ⟨RX7, TX7, 10, tyX7, rfl, by decide, gi_X7, (gv_in 232 (by decide +kernel) rfl), tyX7_ok, nmX7⟩
theorem gp_X7_12 {v : Value} (h1 : narrow (tyX7 0) v = v) (h2 : fits (tyX7 0) v = true) (h3 : (TX7 0).2.2.2 = false ∨ (TX7 0).1 = RX7) : gv_P RX7 12 7 0 v := ⟨RX7, TX7, 10, tyX7, rfl, by decide, gi_X7, (gv_in 232 (by decide +kernel) rfl), tyX7_ok, nmX7, h1, h2, h3⟩
theorem gf_X7_19 : gv_F RX7 19 7 1 := ⟨RX7, TX7, 10, tyX7, rfl, by decide, gi_X7, (gv_in 233 (by decide +kernel) rfl), tyX7_ok, nmX7⟩
theorem gp_X7_19 {v : Value} (h1 : narrow (tyX7 1) v = v) (h2 : fits (tyX7 1) v = true) (h3 : (TX7 1).2.2.2 = false ∨ (TX7 1).1 = RX7) : gv_P RX7 19 7 1 v := ⟨RX7, TX7, 10, tyX7, rfl, by decide, gi_X7, (gv_in 233 (by decide +kernel) rfl), tyX7_ok, nmX7, h1, h2, h3⟩
theorem gf_X7_23 : gv_F RX7 23 7 2 := ⟨RX7, TX7, 10, tyX7, rfl, by decide, gi_X7, (gv_in 234 (by decide +kernel) rfl), tyX7_ok, nmX7⟩
theorem gp_X7_23 {v : Value} (h1 : narrow (tyX7 2) v = v) (h2 : fits (tyX7 2) v = true) (h3 : (TX7 2).2.2.2 = false ∨ (TX7 2).1 = RX7) : gv_P RX7 23 7 2 v := ⟨RX7, TX7, 10, tyX7, rfl, by decide, gi_X7, (gv_in 234 (by decide +kernel) rfl), tyX7_ok, nmX7, h1, h2, h3⟩
theorem gf_X7_29 : gv_F RX7 29 7 3 := ⟨RX7, TX7, 10, tyX7, rfl, by decide, gi_X7, (gv_in 235 (by decide +kernel) rfl), tyX7_ok, nmX7⟩
theorem gp_X7_29 {v : Value} (h1 : narrow (tyX7 3) v = v) (h2 : fits (tyX7 3) v = true) (h3 : (TX7 3).2.2.2 = false ∨ (TX7 3).1 = RX7) : gv_P RX7 29 7 3 v := ⟨RX7, TX7, 10, tyX7, rfl, by decide, gi_X7, (gv_in 235 (by decide +kernel) rfl), tyX7_ok, nmX7, h1, h2, h3⟩
theorem gf_X7_36 : gv_F RX7 36 7 4 := ⟨RX7, TX7, 10, tyX7, rfl, by decide, gi_X7, (gv_in 236 (by decide +kernel) rfl), tyX7_ok, nmX7⟩
theorem gp_X7_36 {v : Value} (h1 : narrow (tyX7 4) v = v) (h2 : fits (tyX7 4) v = true) (h3 : (TX7 4).2.2.2 = false ∨ (TX7 4).1 = RX7) : gv_P RX7 36 7 4 v := ⟨RX7, TX7, 10, tyX7, rfl, by decide, gi_X7, (gv_in 236 (by decide +kernel) rfl), tyX7_ok, nmX7, h1, h2, h3⟩
theorem gf_X7_40 : gv_F RX7 40 7 5 := ⟨RX7, TX7, 10, tyX7, rfl, by decide, gi_X7, (gv_in 237 (by decide +kernel) rfl), tyX7_ok, nmX7⟩
theorem gp_X7_40 {v : Value} (h1 : narrow (tyX7 5) v = v) (h2 : fits (tyX7 5) v = true) (h3 : (TX7 5).2.2.2 = false ∨ (TX7 5).1 = RX7) : gv_P RX7 40 7 5 v := ⟨RX7, TX7, 10, tyX7, rfl, by decide, gi_X7, (gv_in 237 (by decide +kernel) rfl), tyX7_ok, nmX7, h1, h2, h3⟩
theorem gf_X7_44 : gv_F RX7 44 7 6 := ⟨RX7, TX7, 10, tyX7, rfl, by decide, gi_X7, (gv_in 238 (by decide +kernel) rfl), tyX7_ok, nmX7⟩
theorem gp_X7_44 {v : Value} (h1 : narrow (tyX7 6) v = v) (h2 : fits (tyX7 6) v = true) (h3 : (TX7 6).2.2.2 = false ∨ (TX7 6).1 = RX7) : gv_P RX7 44 7 6 v := ⟨RX7, TX7, 10, tyX7, rfl, by decide, gi_X7, (gv_in 238 (by decide +kernel) rfl), tyX7_ok, nmX7, h1, h2, h3⟩
theorem gf_X7_51 : gv_F RX7 51 7 7 := ⟨RX7, TX7, 10, tyX7, rfl, by decide, gi_X7, (gv_in 239 (by decide +kernel) rfl), tyX7_ok, nmX7⟩
theorem gp_X7_51 {v : Value} (h1 : narrow (tyX7 7) v = v) (h2 : fits (tyX7 7) v = true) (h3 : (TX7 7).2.2.2 = false ∨ (TX7 7).1 = RX7) : gv_P RX7 51 7 7 v := ⟨RX7, TX7, 10, tyX7, rfl, by decide, gi_X7, (gv_in 239 (by decide +kernel) rfl), tyX7_ok, nmX7, h1, h2, h3⟩
theorem gf_X7_58 : gv_F RX7 58 7 8 := ⟨RX7, TX7, 10, tyX7, rfl, by decide, gi_X7, (gv_in 240 (by decide +kernel) rfl), tyX7_ok, nmX7⟩
theorem gp_X7_58 {v : Value} (h1 : narrow (tyX7 8) v = v) (h2 : fits (tyX7 8) v = true) (h3 : (TX7 8).2.2.2 = false ∨ (TX7 8).1 = RX7) : gv_P RX7 58 7 8 v := ⟨RX7, TX7, 10, tyX7, rfl, by decide, gi_X7, (gv_in 240 (by decide +kernel) rfl), tyX7_ok, nmX7, h1, h2, h3⟩
theorem gf_X7_65 : gv_F RX7 65 7 9 := ⟨RX7, TX7, 10, tyX7, rfl, by decide, gi_X7, (gv_in 241 (by decide +kernel) rfl), tyX7_ok, nmX7⟩
theorem gp_X7_65 {v : Value} (h1 : narrow (tyX7 9) v = v) (h2 : fits (tyX7 9) v = true) (h3 : (TX7 9).2.2.2 = false ∨ (TX7 9).1 = RX7) : gv_P RX7 65 7 9 v := ⟨RX7, TX7, 10, tyX7, rfl, by decide, gi_X7, (gv_in 241 (by decide +kernel) rfl), tyX7_ok, nmX7, h1, h2, h3⟩
theorem gf_X7_73 : gv_F RX7 73 3 1 := ⟨RX3, TX3, 6, tyX3, rfl, by decide, gi_X3, (gv_in 65 (by decide +kernel) rfl), tyX3_ok, nmX3⟩
theorem gp_X7_73 {v : Value} (h1 : narrow (tyX3 1) v = v) (h2 : fits (tyX3 1) v = true) (h3 : (TX3 1).2.2.2 = false ∨ (TX3 1).1 = RX7) : gv_P RX7 73 3 1 v := ⟨RX3, TX3, 6, tyX3, rfl, by decide, gi_X3, (gv_in 65 (by decide +kernel) rfl), tyX3_ok, nmX3, h1, h2, h3⟩
theorem gf_X7_85 : gv_F RX7 85 2 3 := ⟨RX2, TX2, 4, tyX2, rfl, by decide, gi_X2, (gv_in 136 (by decide +kernel) rfl), tyX2_ok, nmX2⟩
theorem gp_X7_85 {v : Value} (h1 : narrow (tyX2 3) v = v) (h2 : fits (tyX2 3) v = true) (h3 : (TX2 3).2.2.2 = false ∨ (TX2 3).1 = RX7) : gv_P RX7 85 2 3 v := ⟨RX2, TX2, 4, tyX2, rfl, by decide, gi_X2, (gv_in 136 (by decide +kernel) rfl), tyX2_ok, nmX2, h1, h2, h3⟩
theorem gf_X7_88 : gv_F RX7 88 5 2 := ⟨RX5, TX5, 3, tyX5, rfl, by decide, gi_X5, (gv_in 157 (by decide +kernel) rfl), tyX5_ok, nmX5⟩
theorem gp_X7_88 {v : Value} (h1 : narrow (tyX5 2) v = v) (h2 : fits (tyX5 2) v = true) (h3 : (TX5 2).2.2.2 = false ∨ (TX5 2).1 = RX7) : gv_P RX7 88 5 2 v := ⟨RX5, TX5, 3, tyX5, rfl, by decide, gi_X5, (gv_in 157 (by decide +kernel) rfl), tyX5_ok, nmX5, h1, h2, h3⟩
theorem gf_X7_93 : gv_F RX7 93 4 1 := ⟨RX4, TX4, 5, tyX4, rfl, by decide, gi_X4, (gv_in 106 (by decide +kernel) rfl), tyX4_ok, nmX4⟩
theorem gp_X7_93 {v : Value} (h1 : narrow (tyX4 1) v = v) (h2 : fits (tyX4 1) v = true) (h3 : (TX4 1).2.2.2 = false ∨ (TX4 1).1 = RX7) : gv_P RX7 93 4 1 v := ⟨RX4, TX4, 5, tyX4, rfl, by decide, gi_X4, (gv_in 106 (by decide +kernel) rfl), tyX4_ok, nmX4, h1, h2, h3⟩
theorem gf_X7_100 : gv_F RX7 100 4 2 := ⟨RX4, TX4, 5, tyX4, rfl, by decide, gi_X4, (gv_in 109 (by decide +kernel) rfl), tyX4_ok, nmX4⟩
theorem gp_X7_100 {v : Value} (h1 : narrow (tyX4 2) v = v) (h2 : fits (tyX4 2) v = true) (h3 : (TX4 2).2.2.2 = false ∨ (TX4 2).1 = RX7) : gv_P RX7 100 4 2 v := ⟨RX4, TX4, 5, tyX4, rfl, by decide, gi_X4, (gv_in 109 (by decide +kernel) rfl), tyX4_ok, nmX4, h1, h2, h3⟩
theorem gf_X7_103 : gv_F RX7 103 4 3 := ⟨RX4, TX4, 5, tyX4, rfl, by decide, gi_X4, (gv_in 111 (by decide +kernel) rfl), tyX4_ok, nmX4⟩
theorem gp_X7_103 {v : Value} (h1 : narrow (tyX4 3) v = v) (h2 : fits (tyX4 3) v = true) (h3 : (TX4 3).2.2.2 = false ∨ (TX4 3).1 = RX7) : gv_P RX7 103 4 3 v := ⟨RX4, TX4, 5, tyX4, rfl, by decide, gi_X4, (gv_in 111 (by decide +kernel) rfl), tyX4_ok, nmX4, h1, h2, h3⟩
theorem gf_X7_117 : gv_F RX7 117 4 4 := ⟨RX4, TX4, 5, tyX4, rfl, by decide, gi_X4, (gv_in 114 (by decide +kernel) rfl), tyX4_ok, nmX4⟩
theorem gp_X7_117 {v : Value} (h1 : narrow (tyX4 4) v = v) (h2 : fits (tyX4 4) v = true) (h3 : (TX4 4).2.2.2 = false ∨ (TX4 4).1 = RX7) : gv_P RX7 117 4 4 v := ⟨RX4, TX4, 5, tyX4, rfl, by decide, gi_X4, (gv_in 114 (by decide +kernel) rfl), tyX4_ok, nmX4, h1, h2, h3⟩
theorem gf_X7_134 : gv_F RX7 134 4 0 := ⟨RX4, TX4, 5, tyX4, rfl, by decide, gi_X4, (gv_in 103 (by decide +kernel) rfl), tyX4_ok, nmX4⟩
theorem gp_X7_134 {v : Value} (h1 : narrow (tyX4 0) v = v) (h2 : fits (tyX4 0) v = true) (h3 : (TX4 0).2.2.2 = false ∨ (TX4 0).1 = RX7) : gv_P RX7 134 4 0 v := ⟨RX4, TX4, 5, tyX4, rfl, by decide, gi_X4, (gv_in 103 (by decide +kernel) rfl), tyX4_ok, nmX4, h1, h2, h3⟩
theorem gf_X7_156 : gv_F RX7 156 1 0 := ⟨RX1, TX1, 2, tyX1, rfl, by decide, gi_X1, (gv_in 185 (by decide +kernel) rfl), tyX1_ok, nmX1⟩
theorem gp_X7_156 {v : Value} (h1 : narrow (tyX1 0) v = v) (h2 : fits (tyX1 0) v = true) (h3 : (TX1 0).2.2.2 = false ∨ (TX1 0).1 = RX7) : gv_P RX7 156 1 0 v := ⟨RX1, TX1, 2, tyX1, rfl, by decide, gi_X1, (gv_in 185 (by decide +kernel) rfl), tyX1_ok, nmX1, h1, h2, h3⟩
theorem gf_X7_167 : gv_F RX7 167 0 1 := ⟨RX0, TX0, 9, tyX0, rfl, by decide, gi_X0, (gv_in 200 (by decide +kernel) rfl), tyX0_ok, nmX0⟩
theorem gp_X7_167 {v : Value} (h1 : narrow (tyX0 1) v = v) (h2 : fits (tyX0 1) v = true) (h3 : (TX0 1).2.2.2 = false ∨ (TX0 1).1 = RX7) : gv_P RX7 167 0 1 v := ⟨RX0, TX0, 9, tyX0, rfl, by decide, gi_X0, (gv_in 200 (by decide +kernel) rfl), tyX0_ok, nmX0, h1, h2, h3⟩
theorem gf_X7_170 : gv_F RX7 170 0 2 := ⟨RX0, TX0, 9, tyX0, rfl, by decide, gi_X0, (gv_in 202 (by decide +kernel) rfl), tyX0_ok, nmX0⟩
theorem gp_X7_170 {v : Value} (h1 : narrow (tyX0 2) v = v) (h2 : fits (tyX0 2) v = true) (h3 : (TX0 2).2.2.2 = false ∨ (TX0 2).1 = RX7) : gv_P RX7 170 0 2 v := ⟨RX0, TX0, 9, tyX0, rfl, by decide, gi_X0, (gv_in 202 (by decide +kernel) rfl), tyX0_ok, nmX0, h1, h2, h3⟩
theorem gf_X7_177 : gv_F RX7 177 0 3 := ⟨RX0, TX0, 9, tyX0, rfl, by decide, gi_X0, (gv_in 204 (by decide +kernel) rfl), tyX0_ok, nmX0⟩
theorem gp_X7_177 {v : Value} (h1 : narrow (tyX0 3) v = v) (h2 : fits (tyX0 3) v = true) (h3 : (TX0 3).2.2.2 = false ∨ (TX0 3).1 = RX7) : gv_P RX7 177 0 3 v := ⟨RX0, TX0, 9, tyX0, rfl, by decide, gi_X0, (gv_in 204 (by decide +kernel) rfl), tyX0_ok, nmX0, h1, h2, h3⟩
theorem gf_X7_186 : gv_F RX7 186 0 6 := ⟨RX0, TX0, 9, tyX0, rfl, by decide, gi_X0, (gv_in 208 (by decide +kernel) rfl), tyX0_ok, nmX0⟩
theorem gp_X7_186 {v : Value} (h1 : narrow (tyX0 6) v = v) (h2 : fits (tyX0 6) v = true) (h3 : (TX0 6).2.2.2 = false ∨ (TX0 6).1 = RX7) : gv_P RX7 186 0 6 v := ⟨RX0, TX0, 9, tyX0, rfl, by decide, gi_X0, (gv_in 208 (by decide +kernel) rfl), tyX0_ok, nmX0, h1, h2, h3⟩
theorem gf_X7_189 : gv_F RX7 189 0 7 := ⟨RX0, TX0, 9, tyX0, rfl, by decide, gi_X0, (gv_in 210 (by decide +kernel) rfl), tyX0_ok, nmX0⟩
theorem gp_X7_189 {v : Value} (h1 : narrow (tyX0 7) v = v) (h2 : fits (tyX0 7) v = true) (h3 : (TX0 7).2.2.2 = false ∨ (TX0 7).1 = RX7) : gv_P RX7 189 0 7 v := ⟨RX0, TX0, 9, tyX0, rfl, by decide, gi_X0, (gv_in 210 (by decide +kernel) rfl), tyX0_ok, nmX0, h1, h2, h3⟩
theorem gf_X7_192 : gv_F RX7 192 0 8 := ⟨RX0, TX0, 9, tyX0, rfl, by decide, gi_X0, (gv_in 212 (by decide +kernel) rfl), tyX0_ok, nmX0⟩
theorem gp_X7_192 {v : Value} (h1 : narrow (tyX0 8) v = v) (h2 : fits (tyX0 8) v = true) (h3 : (TX0 8).2.2.2 = false ∨ (TX0 8).1 = RX7) : gv_P RX7 192 0 8 v := ⟨RX0, TX0, 9, tyX0, rfl, by decide, gi_X0, (gv_in 212 (by decide +kernel) rfl), tyX0_ok, nmX0, h1, h2, h3⟩
theorem gf_X7_245 : gv_F RX7 245 5 0 := ⟨RX5, TX5, 3, tyX5, rfl, by decide, gi_X5, (gv_in 153 (by decide +kernel) rfl), tyX5_ok, nmX5⟩
theorem gp_X7_245 {v : Value} (h1 : narrow (tyX5 0) v = v) (h2 : fits (tyX5 0) v = true) (h3 : (TX5 0).2.2.2 = false ∨ (TX5 0).1 = RX7) : gv_P RX7 245 5 0 v := ⟨RX5, TX5, 3, tyX5, rfl, by decide, gi_X5, (gv_in 153 (by decide +kernel) rfl), tyX5_ok, nmX5, h1, h2, h3⟩
theorem gf_X7_247 : gv_F RX7 247 5 1 := ⟨RX5, TX5, 3, tyX5, rfl, by decide, gi_X5, (gv_in 155 (by decide +kernel) rfl), tyX5_ok, nmX5⟩
theorem gp_X7_247 {v : Value} (h1 : narrow (tyX5 1) v = v) (h2 : fits (tyX5 1) v = true) (h3 : (TX5 1).2.2.2 = false ∨ (TX5 1).1 = RX7) : gv_P RX7 247 5 1 v := ⟨RX5, TX5, 3, tyX5, rfl, by decide, gi_X5, (gv_in 155 (by decide +kernel) rfl), tyX5_ok, nmX5, h1, h2, h3⟩
theorem gf_X0_9 : gv_F RX0 9 0 0 := ⟨RX0, TX0, 9, tyX0, rfl, by decide, gi_X0, (gv_in 198 (by decide +kernel) rfl), tyX0_ok, nmX0⟩
theorem gp_X0_9 {v : Value} (h1 : narrow (tyX0 0) v = v) (h2 : fits (tyX0 0) v = true) (h3 : (TX0 0).2.2.2 = false ∨ (TX0 0).1 = RX0) : gv_P RX0 9 0 0 v := ⟨RX0, TX0, 9, tyX0, rfl, by decide, gi_X0, (gv_in 198 (by decide +kernel) rfl), tyX0_ok, nmX0, h1, h2, h3⟩
theorem gf_X0_15 : gv_F RX0 15 0 1 := ⟨RX0, TX0, 9, tyX0, rfl, by decide, gi_X0, (gv_in 199 (by decide +kernel) rfl), tyX0_ok, nmX0⟩
theorem gp_X0_15 {v : Value} (h1 : narrow (tyX0 1) v = v) (h2 : fits (tyX0 1) v = true) (h3 : (TX0 1).2.2.2 = false ∨ (TX0 1).1 = RX0) : gv_P RX0 15 0 1 v := ⟨RX0, TX0, 9, tyX0, rfl, by decide, gi_X0, (gv_in 199 (by decide +kernel) rfl), tyX0_ok, nmX0, h1, h2, h3⟩
theorem gf_X0_18 : gv_F RX0 18 0 2 := ⟨RX0, TX0, 9, tyX0, rfl, by decide, gi_X0, (gv_in 201 (by decide +kernel) rfl), tyX0_ok, nmX0⟩
theorem gp_X0_18 {v : Value} (h1 : narrow (tyX0 2) v = v) (h2 : fits (tyX0 2) v = true) (h3 : (TX0 2).2.2.2 = false ∨ (TX0 2).1 = RX0) : gv_P RX0 18 0 2 v := ⟨RX0, TX0, 9, tyX0, rfl, by decide, gi_X0, (gv_in 201 (by decide +kernel) rfl), tyX0_ok, nmX0, h1, h2, h3⟩
theorem gf_X0_21 : gv_F RX0 21 0 3 := ⟨RX0, TX0, 9, tyX0, rfl, by decide, gi_X0, (gv_in 203 (by decide +kernel) rfl), tyX0_ok, nmX0⟩
theorem gp_X0_21 {v : Value} (h1 : narrow (tyX0 3) v = v) (h2 : fits (tyX0 3) v = true) (h3 : (TX0 3).2.2.2 = false ∨ (TX0 3).1 = RX0) : gv_P RX0 21 0 3 v := ⟨RX0, TX0, 9, tyX0, rfl, by decide, gi_X0, (gv_in 203 (by decide +kernel) rfl), tyX0_ok, nmX0, h1, h2, h3⟩
theorem gf_X0_24 : gv_F RX0 24 0 4 := ⟨RX0, TX0, 9, tyX0, rfl, by decide, gi_X0, (gv_in 205 (by decide +kernel) rfl), tyX0_ok, nmX0⟩
theorem gp_X0_24 {v : Value} (h1 : narrow (tyX0 4) v = v) (h2 : fits (tyX0 4) v = true) (h3 : (TX0 4).2.2.2 = false ∨ (TX0 4).1 = RX0) : gv_P RX0 24 0 4 v := ⟨RX0, TX0, 9, tyX0, rfl, by decide, gi_X0, (gv_in 205 (by decide +kernel) rfl), tyX0_ok, nmX0, h1, h2, h3⟩
theorem gf_X0_27 : gv_F RX0 27 0 5 := ⟨RX0, TX0, 9, tyX0, rfl, by decide, gi_X0, (gv_in 206 (by decide +kernel) rfl), tyX0_ok, nmX0⟩
theorem gp_X0_27 {v : Value} (h1 : narrow (tyX0 5) v = v) (h2 : fits (tyX0 5) v = true) (h3 : (TX0 5).2.2.2 = false ∨ (TX0 5).1 = RX0) : gv_P RX0 27 0 5 v := ⟨RX0, TX0, 9, tyX0, rfl, by decide, gi_X0, (gv_in 206 (by decide +kernel) rfl), tyX0_ok, nmX0, h1, h2, h3⟩
theorem gf_X0_36 : gv_F RX0 36 4 0 := ⟨RX4, TX4, 5, tyX4, rfl, by decide, gi_X4, (gv_in 100 (by decide +kernel) rfl), tyX4_ok, nmX4⟩
theorem gp_X0_36 {v : Value} (h1 : narrow (tyX4 0) v = v) (h2 : fits (tyX4 0) v = true) (h3 : (TX4 0).2.2.2 = false ∨ (TX4 0).1 = RX0) : gv_P RX0 36 4 0 v := ⟨RX4, TX4, 5, tyX4, rfl, by decide, gi_X4, (gv_in 100 (by decide +kernel) rfl), tyX4_ok, nmX4, h1, h2, h3⟩
theorem gf_X0_53 : gv_F RX0 53 1 0 := ⟨RX1, TX1, 2, tyX1, rfl, by decide, gi_X1, (gv_in 184 (by decide +kernel) rfl), tyX1_ok, nmX1⟩
theorem gp_X0_53 {v : Value} (h1 : narrow (tyX1 0) v = v) (h2 : fits (tyX1 0) v = true) (h3 : (TX1 0).2.2.2 = false ∨ (TX1 0).1 = RX0) : gv_P RX0 53 1 0 v := ⟨RX1, TX1, 2, tyX1, rfl, by decide, gi_X1, (gv_in 184 (by decide +kernel) rfl), tyX1_ok, nmX1, h1, h2, h3⟩
theorem gf_X0_96 : gv_F RX0 96 0 6 := ⟨RX0, TX0, 9, tyX0, rfl, by decide, gi_X0, (gv_in 207 (by decide +kernel) rfl), tyX0_ok, nmX0⟩
theorem gp_X0_96 {v : Value} (h1 : narrow (tyX0 6) v = v) (h2 : fits (tyX0 6) v = true) (h3 : (TX0 6).2.2.2 = false ∨ (TX0 6).1 = RX0) : gv_P RX0 96 0 6 v := ⟨RX0, TX0, 9, tyX0, rfl, by decide, gi_X0, (gv_in 207 (by decide +kernel) rfl), tyX0_ok, nmX0, h1, h2, h3⟩
theorem gf_X0_100 : gv_F RX0 100 0 7 := ⟨RX0, TX0, 9, tyX0, rfl, by decide, gi_X0, (gv_in 209 (by decide +kernel) rfl), tyX0_ok, nmX0⟩
theorem gp_X0_100 {v : Value} (h1 : narrow (tyX0 7) v = v) (h2 : fits (tyX0 7) v = true) (h3 : (TX0 7).2.2.2 = false ∨ (TX0 7).1 = RX0) : gv_P RX0 100 0 7 v := ⟨RX0, TX0, 9, tyX0, rfl, by decide, gi_X0, (gv_in 209 (by decide +kernel) rfl), tyX0_ok, nmX0, h1, h2, h3⟩
theorem gf_X0_103 : gv_F RX0 103 0 8 := ⟨RX0, TX0, 9, tyX0, rfl, by decide, gi_X0, (gv_in 211 (by decide +kernel) rfl), tyX0_ok, nmX0⟩
theorem gp_X0_103 {v : Value} (h1 : narrow (tyX0 8) v = v) (h2 : fits (tyX0 8) v = true) (h3 : (TX0 8).2.2.2 = false ∨ (TX0 8).1 = RX0) : gv_P RX0 103 0 8 v := ⟨RX0, TX0, 9, tyX0, rfl, by decide, gi_X0, (gv_in 211 (by decide +kernel) rfl), tyX0_ok, nmX0, h1, h2, h3⟩
theorem gf_X1_9 : gv_F RX1 9 1 0 := ⟨RX1, TX1, 2, tyX1, rfl, by decide, gi_X1, (gv_in 183 (by decide +kernel) rfl), tyX1_ok, nmX1⟩
theorem gp_X1_9 {v : Value} (h1 : narrow (tyX1 0) v = v) (h2 : fits (tyX1 0) v = true) (h3 : (TX1 0).2.2.2 = false ∨ (TX1 0).1 = RX1) : gv_P RX1 9 1 0 v := ⟨RX1, TX1, 2, tyX1, rfl, by decide, gi_X1, (gv_in 183 (by decide +kernel) rfl), tyX1_ok, nmX1, h1, h2, h3⟩
theorem gf_X1_15 : gv_F RX1 15 1 1 := ⟨RX1, TX1, 2, tyX1, rfl, by decide, gi_X1, (gv_in 186 (by decide +kernel) rfl), tyX1_ok, nmX1⟩
theorem gp_X1_15 {v : Value} (h1 : narrow (tyX1 1) v = v) (h2 : fits (tyX1 1) v = true) (h3 : (TX1 1).2.2.2 = false ∨ (TX1 1).1 = RX1) : gv_P RX1 15 1 1 v := ⟨RX1, TX1, 2, tyX1, rfl, by decide, gi_X1, (gv_in 186 (by decide +kernel) rfl), tyX1_ok, nmX1, h1, h2, h3⟩
theorem gf_X2_9 : gv_F RX2 9 2 0 := ⟨RX2, TX2, 4, tyX2, rfl, by decide, gi_X2, (gv_in 132 (by decide +kernel) rfl), tyX2_ok, nmX2⟩
theorem gp_X2_9 {v : Value} (h1 : narrow (tyX2 0) v = v) (h2 : fits (tyX2 0) v = true) (h3 : (TX2 0).2.2.2 = false ∨ (TX2 0).1 = RX2) : gv_P RX2 9 2 0 v := ⟨RX2, TX2, 4, tyX2, rfl, by decide, gi_X2, (gv_in 132 (by decide +kernel) rfl), tyX2_ok, nmX2, h1, h2, h3⟩
theorem gf_X2_15 : gv_F RX2 15 2 1 := ⟨RX2, TX2, 4, tyX2, rfl, by decide, gi_X2, (gv_in 133 (by decide +kernel) rfl), tyX2_ok, nmX2⟩
theorem gp_X2_15 {v : Value} (h1 : narrow (tyX2 1) v = v) (h2 : fits (tyX2 1) v = true) (h3 : (TX2 1).2.2.2 = false ∨ (TX2 1).1 = RX2) : gv_P RX2 15 2 1 v := ⟨RX2, TX2, 4, tyX2, rfl, by decide, gi_X2, (gv_in 133 (by decide +kernel) rfl), tyX2_ok, nmX2, h1, h2, h3⟩
theorem gf_X2_18 : gv_F RX2 18 2 2 := ⟨RX2, TX2, 4, tyX2, rfl, by decide, gi_X2, (gv_in 134 (by decide +kernel) rfl), tyX2_ok, nmX2⟩
theorem gp_X2_18 {v : Value} (h1 : narrow (tyX2 2) v = v) (h2 : fits (tyX2 2) v = true) (h3 : (TX2 2).2.2.2 = false ∨ (TX2 2).1 = RX2) : gv_P RX2 18 2 2 v := ⟨RX2, TX2, 4, tyX2, rfl, by decide, gi_X2, (gv_in 134 (by decide +kernel) rfl), tyX2_ok, nmX2, h1, h2, h3⟩
theorem gf_X2_21 : gv_F RX2 21 2 3 := ⟨RX2, TX2, 4, tyX2, rfl, by decide, gi_X2, (gv_in 135 (by decide +kernel) rfl), tyX2_ok, nmX2⟩
theorem gp_X2_21 {v : Value} (h1 : narrow (tyX2 3) v = v) (h2 : fits (tyX2 3) v = true) (h3 : (TX2 3).2.2.2 = false ∨ (TX2 3).1 = RX2) : gv_P RX2 21 2 3 v := ⟨RX2, TX2, 4, tyX2, rfl, by decide, gi_X2, (gv_in 135 (by decide +kernel) rfl), tyX2_ok, nmX2, h1, h2, h3⟩
theorem gf_X2_34 : gv_F RX2 34 4 1 := ⟨RX4, TX4, 5, tyX4, rfl, by decide, gi_X4, (gv_in 105 (by decide +kernel) rfl), tyX4_ok, nmX4⟩
theorem gp_X2_34 {v : Value} (h1 : narrow (tyX4 1) v = v) (h2 : fits (tyX4 1) v = true) (h3 : (TX4 1).2.2.2 = false ∨ (TX4 1).1 = RX2) : gv_P RX2 34 4 1 v := ⟨RX4, TX4, 5, tyX4, rfl, by decide, gi_X4, (gv_in 105 (by decide +kernel) rfl), tyX4_ok, nmX4, h1, h2, h3⟩
theorem gf_X2_50 : gv_F RX2 50 4 0 := ⟨RX4, TX4, 5, tyX4, rfl, by decide, gi_X4, (gv_in 101 (by decide +kernel) rfl), tyX4_ok, nmX4⟩
theorem gp_X2_50 {v : Value} (h1 : narrow (tyX4 0) v = v) (h2 : fits (tyX4 0) v = true) (h3 : (TX4 0).2.2.2 = false ∨ (TX4 0).1 = RX2) : gv_P RX2 50 4 0 v := ⟨RX4, TX4, 5, tyX4, rfl, by decide, gi_X4, (gv_in 101 (by decide +kernel) rfl), tyX4_ok, nmX4, h1, h2, h3⟩
theorem gf_X3_9 : gv_F RX3 9 3 0 := ⟨RX3, TX3, 6, tyX3, rfl, by decide, gi_X3, (gv_in 63 (by decide +kernel) rfl), tyX3_ok, nmX3⟩
theorem gp_X3_9 {v : Value} (h1 : narrow (tyX3 0) v = v) (h2 : fits (tyX3 0) v = true) (h3 : (TX3 0).2.2.2 = false ∨ (TX3 0).1 = RX3) : gv_P RX3 9 3 0 v := ⟨RX3, TX3, 6, tyX3, rfl, by decide, gi_X3, (gv_in 63 (by decide +kernel) rfl), tyX3_ok, nmX3, h1, h2, h3⟩
theorem gf_X3_15 : gv_F RX3 15 3 1 := ⟨RX3, TX3, 6, tyX3, rfl, by decide, gi_X3, (gv_in 64 (by decide +kernel) rfl), tyX3_ok, nmX3⟩
theorem gp_X3_15 {v : Value} (h1 : narrow (tyX3 1) v = v) (h2 : fits (tyX3 1) v = true) (h3 : (TX3 1).2.2.2 = false ∨ (TX3 1).1 = RX3) : gv_P RX3 15 3 1 v := ⟨RX3, TX3, 6, tyX3, rfl, by decide, gi_X3, (gv_in 64 (by decide +kernel) rfl), tyX3_ok, nmX3, h1, h2, h3⟩
theorem gf_X3_24 : gv_F RX3 24 3 2 := ⟨RX3, TX3, 6, tyX3, rfl, by decide, gi_X3, (gv_in 66 (by decide +kernel) rfl), tyX3_ok, nmX3⟩
theorem gp_X3_24 {v : Value} (h1 : narrow (tyX3 2) v = v) (h2 : fits (tyX3 2) v = true) (h3 : (TX3 2).2.2.2 = false ∨ (TX3 2).1 = RX3) : gv_P RX3 24 3 2 v := ⟨RX3, TX3, 6, tyX3, rfl, by decide, gi_X3, (gv_in 66 (by decide +kernel) rfl), tyX3_ok, nmX3, h1, h2, h3⟩
theorem gf_X3_30 : gv_F RX3 30 3 4 := ⟨RX3, TX3, 6, tyX3, rfl, by decide, gi_X3, (gv_in 68 (by decide +kernel) rfl), tyX3_ok, nmX3⟩
theorem gp_X3_30 {v : Value} (h1 : narrow (tyX3 4) v = v) (h2 : fits (tyX3 4) v = true) (h3 : (TX3 4).2.2.2 = false ∨ (TX3 4).1 = RX3) : gv_P RX3 30 3 4 v := ⟨RX3, TX3, 6, tyX3, rfl, by decide, gi_X3, (gv_in 68 (by decide +kernel) rfl), tyX3_ok, nmX3, h1, h2, h3⟩
theorem gf_X3_37 : gv_F RX3 37 3 3 := ⟨RX3, TX3, 6, tyX3, rfl, by decide, gi_X3, (gv_in 67 (by decide +kernel) rfl), tyX3_ok, nmX3⟩
theorem gp_X3_37 {v : Value} (h1 : narrow (tyX3 3) v = v) (h2 : fits (tyX3 3) v = true) (h3 : (TX3 3).2.2.2 = false ∨ (TX3 3).1 = RX3) : gv_P RX3 37 3 3 v := ⟨RX3, TX3, 6, tyX3, rfl, by decide, gi_X3, (gv_in 67 (by decide +kernel) rfl), tyX3_ok, nmX3, h1, h2, h3⟩
theorem gf_X3_50 : gv_F RX3 50 3 5 := ⟨RX3, TX3, 6, tyX3, rfl, by decide, gi_X3, (gv_in 69 (by decide +kernel) rfl), tyX3_ok, nmX3⟩
theorem gp_X3_50 {v : Value} (h1 : narrow (tyX3 5) v = v) (h2 : fits (tyX3 5) v = true) (h3 : (TX3 5).2.2.2 = false ∨ (TX3 5).1 = RX3) : gv_P RX3 50 3 5 v := ⟨RX3, TX3, 6, tyX3, rfl, by decide, gi_X3, (gv_in 69 (by decide +kernel) rfl), tyX3_ok, nmX3, h1, h2, h3⟩
theorem gf_X3_57 : gv_F RX3 57 4 0 := ⟨RX4, TX4, 5, tyX4, rfl, by decide, gi_X4, (gv_in 102 (by decide +kernel) rfl), tyX4_ok, nmX4⟩
theorem gp_X3_57 {v : Value} (h1 : narrow (tyX4 0) v = v) (h2 : fits (tyX4 0) v = true) (h3 : (TX4 0).2.2.2 = false ∨ (TX4 0).1 = RX3) : gv_P RX3 57 4 0 v := ⟨RX4, TX4, 5, tyX4, rfl, by decide, gi_X4, (gv_in 102 (by decide +kernel) rfl), tyX4_ok, nmX4, h1, h2, h3⟩
theorem gf_X3_64 : gv_F RX3 64 4 1 := ⟨RX4, TX4, 5, tyX4, rfl, by decide, gi_X4, (gv_in 107 (by decide +kernel) rfl), tyX4_ok, nmX4⟩
theorem gp_X3_64 {v : Value} (h1 : narrow (tyX4 1) v = v) (h2 : fits (tyX4 1) v = true) (h3 : (TX4 1).2.2.2 = false ∨ (TX4 1).1 = RX3) : gv_P RX3 64 4 1 v := ⟨RX4, TX4, 5, tyX4, rfl, by decide, gi_X4, (gv_in 107 (by decide +kernel) rfl), tyX4_ok, nmX4, h1, h2, h3⟩
theorem gf_X3_71 : gv_F RX3 71 4 4 := ⟨RX4, TX4, 5, tyX4, rfl, by decide, gi_X4, (gv_in 113 (by decide +kernel) rfl), tyX4_ok, nmX4⟩
theorem gp_X3_71 {v : Value} (h1 : narrow (tyX4 4) v = v) (h2 : fits (tyX4 4) v = true) (h3 : (TX4 4).2.2.2 = false ∨ (TX4 4).1 = RX3) : gv_P RX3 71 4 4 v := ⟨RX4, TX4, 5, tyX4, rfl, by decide, gi_X4, (gv_in 113 (by decide +kernel) rfl), tyX4_ok, nmX4, h1, h2, h3⟩
theorem gf_X4_9 : gv_F RX4 9 4 0 := ⟨RX4, TX4, 5, tyX4, rfl, by decide, gi_X4, (gv_in 99 (by decide +kernel) rfl), tyX4_ok, nmX4⟩
theorem gp_X4_9 {v : Value} (h1 : narrow (tyX4 0) v = v) (h2 : fits (tyX4 0) v = true) (h3 : (TX4 0).2.2.2 = false ∨ (TX4 0).1 = RX4) : gv_P RX4 9 4 0 v := ⟨RX4, TX4, 5, tyX4, rfl, by decide, gi_X4, (gv_in 99 (by decide +kernel) rfl), tyX4_ok, nmX4, h1, h2, h3⟩
theorem gf_X4_15 : gv_F RX4 15 4 1 := ⟨RX4, TX4, 5, tyX4, rfl, by decide, gi_X4, (gv_in 104 (by decide +kernel) rfl), tyX4_ok, nmX4⟩
theorem gp_X4_15 {v : Value} (h1 : narrow (tyX4 1) v = v) (h2 : fits (tyX4 1) v = true) (h3 : (TX4 1).2.2.2 = false ∨ (TX4 1).1 = RX4) : gv_P RX4 15 4 1 v := ⟨RX4, TX4, 5, tyX4, rfl, by decide, gi_X4, (gv_in 104 (by decide +kernel) rfl), tyX4_ok, nmX4, h1, h2, h3⟩
theorem gf_X4_18 : gv_F RX4 18 4 2 := ⟨RX4, TX4, 5, tyX4, rfl, by decide, gi_X4, (gv_in 108 (by decide +kernel) rfl), tyX4_ok, nmX4⟩
theorem gp_X4_18 {v : Value} (h1 : narrow (tyX4 2) v = v) (h2 : fits (tyX4 2) v = true) (h3 : (TX4 2).2.2.2 = false ∨ (TX4 2).1 = RX4) : gv_P RX4 18 4 2 v := ⟨RX4, TX4, 5, tyX4, rfl, by decide, gi_X4, (gv_in 108 (by decide +kernel) rfl), tyX4_ok, nmX4, h1, h2, h3⟩
theorem gf_X4_21 : gv_F RX4 21 4 3 := ⟨RX4, TX4, 5, tyX4, rfl, by decide, gi_X4, (gv_in 110 (by decide +kernel) rfl), tyX4_ok, nmX4⟩
theorem gp_X4_21 {v : Value} (h1 : narrow (tyX4 3) v = v) (h2 : fits (tyX4 3) v = true) (h3 : (TX4 3).2.2.2 = false ∨ (TX4 3).1 = RX4) : gv_P RX4 21 4 3 v := ⟨RX4, TX4, 5, tyX4, rfl, by decide, gi_X4, (gv_in 110 (by decide +kernel) rfl), tyX4_ok, nmX4, h1, h2, h3⟩
theorem gf_X4_36 : gv_F RX4 36 4 4 := ⟨RX4, TX4, 5, tyX4, rfl, by decide, gi_X4, (gv_in 112 (by decide +kernel) rfl), tyX4_ok, nmX4⟩
theorem gp_X4_36 {v : Value} (h1 : narrow (tyX4 4) v = v) (h2 : fits (tyX4 4) v = true) (h3 : (TX4 4).2.2.2 = false ∨ (TX4 4).1 = RX4) : gv_P RX4 36 4 4 v := ⟨RX4, TX4, 5, tyX4, rfl, by decide, gi_X4, (gv_in 112 (by decide +kernel) rfl), tyX4_ok, nmX4, h1, h2, h3⟩
theorem gf_X5_9 : gv_F RX5 9 5 0 := ⟨RX5, TX5, 3, tyX5, rfl, by decide, gi_X5, (gv_in 152 (by decide +kernel) rfl), tyX5_ok, nmX5⟩
theorem gp_X5_9 {v : Value} (h1 : narrow (tyX5 0) v = v) (h2 : fits (tyX5 0) v = true) (h3 : (TX5 0).2.2.2 = false ∨ (TX5 0).1 = RX5) : gv_P RX5 9 5 0 v := ⟨RX5, TX5, 3, tyX5, rfl, by decide, gi_X5, (gv_in 152 (by decide +kernel) rfl), tyX5_ok, nmX5, h1, h2, h3⟩
theorem gf_X5_15 : gv_F RX5 15 5 1 := ⟨RX5, TX5, 3, tyX5, rfl, by decide, gi_X5, (gv_in 154 (by decide +kernel) rfl), tyX5_ok, nmX5⟩
theorem gp_X5_15 {v : Value} (h1 : narrow (tyX5 1) v = v) (h2 : fits (tyX5 1) v = true) (h3 : (TX5 1).2.2.2 = false ∨ (TX5 1).1 = RX5) : gv_P RX5 15 5 1 v := ⟨RX5, TX5, 3, tyX5, rfl, by decide, gi_X5, (gv_in 154 (by decide +kernel) rfl), tyX5_ok, nmX5, h1, h2, h3⟩
theorem gf_X5_18 : gv_F RX5 18 5 2 := ⟨RX5, TX5, 3, tyX5, rfl, by decide, gi_X5, (gv_in 156 (by decide +kernel) rfl), tyX5_ok, nmX5⟩
theorem gp_X5_18 {v : Value} (h1 : narrow (tyX5 2) v = v) (h2 : fits (tyX5 2) v = true) (h3 : (TX5 2).2.2.2 = false ∨ (TX5 2).1 = RX5) : gv_P RX5 18 5 2 v := ⟨RX5, TX5, 3, tyX5, rfl, by decide, gi_X5, (gv_in 156 (by decide +kernel) rfl), tyX5_ok, nmX5, h1, h2, h3⟩
theorem gf_X6_9 : gv_F RX6 9 6 0 := ⟨RX6, TX6, 1, tyX6, rfl, by decide, gi_X6, (gv_in 172 (by decide +kernel) rfl), tyX6_ok, nmX6⟩
theorem gp_X6_9 {v : Value} (h1 : narrow (tyX6 0) v = v) (h2 : fits (tyX6 0) v = true) (h3 : (TX6 0).2.2.2 = false ∨ (TX6 0).1 = RX6) : gv_P RX6 9 6 0 v := ⟨RX6, TX6, 1, tyX6, rfl, by decide, gi_X6, (gv_in 172 (by decide +kernel) rfl), tyX6_ok, nmX6, h1, h2, h3⟩
theorem gf_X8_7 : gv_F RX8 7 8 0 := ⟨RX8, TX8, 20, tyX8, rfl, by decide, gi_X8, (gv_in 624 (by decide +kernel) rfl), tyX8_ok, nmX8⟩
theorem gp_X8_7 {v : Value} (h1 : narrow (tyX8 0) v = v) (h2 : fits (tyX8 0) v = true) (h3 : (TX8 0).2.2.2 = false ∨ (TX8 0).1 = RX8) : gv_P RX8 7 8 0 v := ⟨RX8, TX8, 20, tyX8, rfl, by decide, gi_X8, (gv_in 624 (by decide +kernel) rfl), tyX8_ok, nmX8, h1, h2, h3⟩
theorem gf_X8_13 : gv_F RX8 13 8 3 := ⟨RX8, TX8, 20, tyX8, rfl, by decide, gi_X8, (gv_in 627 (by decide +kernel) rfl), tyX8_ok, nmX8⟩
theorem gp_X8_13 {v : Value} (h1 : narrow (tyX8 3) v = v) (h2 : fits (tyX8 3) v = true) (h3 : (TX8 3).2.2.2 = false ∨ (TX8 3).1 = RX8) : gv_P RX8 13 8 3 v := ⟨RX8, TX8, 20, tyX8, rfl, by decide, gi_X8, (gv_in 627 (by decide +kernel) rfl), tyX8_ok, nmX8, h1, h2, h3⟩
theorem gf_X8_16 : gv_F RX8 16 8 4 := ⟨RX8, TX8, 20, tyX8, rfl, by decide, gi_X8, (gv_in 628 (by decide +kernel) rfl), tyX8_ok, nmX8⟩
theorem gp_X8_16 {v : Value} (h1 : narrow (tyX8 4) v = v) (h2 : fits (tyX8 4) v = true) (h3 : (TX8 4).2.2.2 = false ∨ (TX8 4).1 = RX8) : gv_P RX8 16 8 4 v := ⟨RX8, TX8, 20, tyX8, rfl, by decide, gi_X8, (gv_in 628 (by decide +kernel) rfl), tyX8_ok, nmX8, h1, h2, h3⟩
theorem gf_X8_20 : gv_F RX8 20 8 5 := ⟨RX8, TX8, 20, tyX8, rfl, by decide, gi_X8, (gv_in 629 (by decide +kernel) rfl), tyX8_ok, nmX8⟩
theorem gp_X8_20 {v : Value} (h1 : narrow (tyX8 5) v = v) (h2 : fits (tyX8 5) v = true) (h3 : (TX8 5).2.2.2 = false ∨ (TX8 5).1 = RX8) : gv_P RX8 20 8 5 v := ⟨RX8, TX8, 20, tyX8, rfl, by decide, gi_X8, (gv_in 629 (by decide +kernel) rfl), tyX8_ok, nmX8, h1, h2, h3⟩
theorem gf_X8_23 : gv_F RX8 23 8 7 := ⟨RX8, TX8, 20, tyX8, rfl, by decide, gi_X8, (gv_in 631 (by decide +kernel) rfl), tyX8_ok, nmX8⟩
theorem gp_X8_23 {v : Value} (h1 : narrow (tyX8 7) v = v) (h2 : fits (tyX8 7) v = true) (h3 : (TX8 7).2.2.2 = false ∨ (TX8 7).1 = RX8) : gv_P RX8 23 8 7 v := ⟨RX8, TX8, 20, tyX8, rfl, by decide, gi_X8, (gv_in 631 (by decide +kernel) rfl), tyX8_ok, nmX8, h1, h2, h3⟩
theorem gf_X8_26 : gv_F RX8 26 8 11 := ⟨RX8, TX8, 20, tyX8, rfl, by decide, gi_X8, (gv_in 635 (by decide +kernel) rfl), tyX8_ok, nmX8⟩
theorem gp_X8_26 {v : Value} (h1 : narrow (tyX8 11) v = v) (h2 : fits (tyX8 11) v = true) (h3 : (TX8 11).2.2.2 = false ∨ (TX8 11).1 = RX8) : gv_P RX8 26 8 11 v := ⟨RX8, TX8, 20, tyX8, rfl, by decide, gi_X8, (gv_in 635 (by decide +kernel) rfl), tyX8_ok, nmX8, h1, h2, h3⟩
theorem gf_X8_29 : gv_F RX8 29 8 13 := ⟨RX8, TX8, 20, tyX8, rfl, by decide, gi_X8, (gv_in 637 (by decide +kernel) rfl), tyX8_ok, nmX8⟩
theorem gp_X8_29 {v : Value} (h1 : narrow (tyX8 13) v = v) (h2 : fits (tyX8 13) v = true) (h3 : (TX8 13).2.2.2 = false ∨ (TX8 13).1 = RX8) : gv_P RX8 29 8 13 v := ⟨RX8, TX8, 20, tyX8, rfl, by decide, gi_X8, (gv_in 637 (by decide +kernel) rfl), tyX8_ok, nmX8, h1, h2, h3⟩
theorem gf_X8_32 : gv_F RX8 32 8 14 := ⟨RX8, TX8, 20, tyX8, rfl, by decide, gi_X8, (gv_in 638 (by decide +kernel) rfl), tyX8_ok, nmX8⟩
theorem gp_X8_32 {v : Value} (h1 : narrow (tyX8 14) v = v) (h2 : fits (tyX8 14) v = true) (h3 : (TX8 14).2.2.2 = false ∨ (TX8 14).1 = RX8) : gv_P RX8 32 8 14 v := ⟨RX8, TX8, 20, tyX8, rfl, by decide, gi_X8, (gv_in 638 (by decide +kernel) rfl), tyX8_ok, nmX8, h1, h2, h3⟩
theorem gf_X8_35 : gv_F RX8 35 8 18 := ⟨RX8, TX8, 20, tyX8, rfl, by decide, gi_X8, (gv_in 642 (by decide +kernel) rfl), tyX8_ok, nmX8⟩
theorem gp_X8_35 {v : Value} (h1 : narrow (tyX8 18) v = v) (h2 : fits (tyX8 18) v = true) (h3 : (TX8 18).2.2.2 = false ∨ (TX8 18).1 = RX8) : gv_P RX8 35 8 18 v := ⟨RX8, TX8, 20, tyX8, rfl, by decide, gi_X8, (gv_in 642 (by decide +kernel) rfl), tyX8_ok, nmX8, h1, h2, h3⟩
theorem gf_X8_38 : gv_F RX8 38 8 19 := ⟨RX8, TX8, 20, tyX8, rfl, by decide, gi_X8, (gv_in 643 (by decide +kernel) rfl), tyX8_ok, nmX8⟩
theorem gp_X8_38 {v : Value} (h1 : narrow (tyX8 19) v = v) (h2 : fits (tyX8 19) v = true) (h3 : (TX8 19).2.2.2 = false ∨ (TX8 19).1 = RX8) : gv_P RX8 38 8 19 v := ⟨RX8, TX8, 20, tyX8, rfl, by decide, gi_X8, (gv_in 643 (by decide +kernel) rfl), tyX8_ok, nmX8, h1, h2, h3⟩
theorem gf_X8_49 : gv_F RX8 49 8 6 := ⟨RX8, TX8, 20, tyX8, rfl, by decide, gi_X8, (gv_in 630 (by decide +kernel) rfl), tyX8_ok, nmX8⟩
theorem gp_X8_49 {v : Value} (h1 : narrow (tyX8 6) v = v) (h2 : fits (tyX8 6) v = true) (h3 : (TX8 6).2.2.2 = false ∨ (TX8 6).1 = RX8) : gv_P RX8 49 8 6 v := ⟨RX8, TX8, 20, tyX8, rfl, by decide, gi_X8, (gv_in 630 (by decide +kernel) rfl), tyX8_ok, nmX8, h1, h2, h3⟩
theorem gf_X8_53 : gv_F RX8 53 8 8 := ⟨RX8, TX8, 20, tyX8, rfl, by decide, gi_X8, (gv_in 632 (by decide +kernel) rfl), tyX8_ok, nmX8⟩
theorem gp_X8_53 {v : Value} (h1 : narrow (tyX8 8) v = v) (h2 : fits (tyX8 8) v = true) (h3 : (TX8 8).2.2.2 = false ∨ (TX8 8).1 = RX8) : gv_P RX8 53 8 8 v := ⟨RX8, TX8, 20, tyX8, rfl, by decide, gi_X8, (gv_in 632 (by decide +kernel) rfl), tyX8_ok, nmX8, h1, h2, h3⟩
theorem gf_X8_59 : gv_F RX8 59 8 9 := ⟨RX8, TX8, 20, tyX8, rfl, by decide, gi_X8, (gv_in 633 (by decide +kernel) rfl), tyX8_ok, nmX8⟩
theorem gp_X8_59 {v : Value} (h1 : narrow (tyX8 9) v = v) (h2 : fits (tyX8 9) v = true) (h3 : (TX8 9).2.2.2 = false ∨ (TX8 9).1 = RX8) : gv_P RX8 59 8 9 v := ⟨RX8, TX8, 20, tyX8, rfl, by decide, gi_X8, (gv_in 633 (by decide +kernel) rfl), tyX8_ok, nmX8, h1, h2, h3⟩
theorem gf_X8_62 : gv_F RX8 62 8 10 := ⟨RX8, TX8, 20, tyX8, rfl, by decide, gi_X8, (gv_in 634 (by decide +kernel) rfl), tyX8_ok, nmX8⟩
theorem gp_X8_62 {v : Value} (h1 : narrow (tyX8 10) v = v) (h2 : fits (tyX8 10) v = true) (h3 : (TX8 10).2.2.2 = false ∨ (TX8 10).1 = RX8) : gv_P RX8 62 8 10 v := ⟨RX8, TX8, 20, tyX8, rfl, by decide, gi_X8, (gv_in 634 (by decide +kernel) rfl), tyX8_ok, nmX8, h1, h2, h3⟩
theorem gf_X8_88 : gv_F RX8 88 8 1 := ⟨RX8, TX8, 20, tyX8, rfl, by decide, gi_X8, (gv_in 625 (by decide +kernel) rfl), tyX8_ok, nmX8⟩
theorem gp_X8_88 {v : Value} (h1 : narrow (tyX8 1) v = v) (h2 : fits (tyX8 1) v = true) (h3 : (TX8 1).2.2.2 = false ∨ (TX8 1).1 = RX8) : gv_P RX8 88 8 1 v := ⟨RX8, TX8, 20, tyX8, rfl, by decide, gi_X8, (gv_in 625 (by decide +kernel) rfl), tyX8_ok, nmX8, h1, h2, h3⟩
theorem gf_X8_91 : gv_F RX8 91 8 17 := ⟨RX8, TX8, 20, tyX8, rfl, by decide, gi_X8, (gv_in 641 (by decide +kernel) rfl), tyX8_ok, nmX8⟩
theorem gp_X8_91 {v : Value} (h1 : narrow (tyX8 17) v = v) (h2 : fits (tyX8 17) v = true) (h3 : (TX8 17).2.2.2 = false ∨ (TX8 17).1 = RX8) : gv_P RX8 91 8 17 v := ⟨RX8, TX8, 20, tyX8, rfl, by decide, gi_X8, (gv_in 641 (by decide +kernel) rfl), tyX8_ok, nmX8, h1, h2, h3⟩
theorem gf_X8_101 : gv_F RX8 101 8 2 := ⟨RX8, TX8, 20, tyX8, rfl, by decide, gi_X8, (gv_in 626 (by decide +kernel) rfl), tyX8_ok, nmX8⟩
theorem gp_X8_101 {v : Value} (h1 : narrow (tyX8 2) v = v) (h2 : fits (tyX8 2) v = true) (h3 : (TX8 2).2.2.2 = false ∨ (TX8 2).1 = RX8) : gv_P RX8 101 8 2 v := ⟨RX8, TX8, 20, tyX8, rfl, by decide, gi_X8, (gv_in 626 (by decide +kernel) rfl), tyX8_ok, nmX8, h1, h2, h3⟩
theorem gf_X8_144 : gv_F RX8 144 8 12 := ⟨RX8, TX8, 20, tyX8, rfl, by decide, gi_X8, (gv_in 636 (by decide +kernel) rfl), tyX8_ok, nmX8⟩
theorem gp_X8_144 {v : Value} (h1 : narrow (tyX8 12) v = v) (h2 : fits (tyX8 12) v = true) (h3 : (TX8 12).2.2.2 = false ∨ (TX8 12).1 = RX8) : gv_P RX8 144 8 12 v := ⟨RX8, TX8, 20, tyX8, rfl, by decide, gi_X8, (gv_in 636 (by decide +kernel) rfl), tyX8_ok, nmX8, h1, h2, h3⟩
theorem gf_X8_155 : gv_F RX8 155 8 15 := ⟨RX8, TX8, 20, tyX8, rfl, by decide, gi_X8, (gv_in 639 (by decide +kernel) rfl), tyX8_ok, nmX8⟩
theorem gp_X8_155 {v : Value} (h1 : narrow (tyX8 15) v = v) (h2 : fits (tyX8 15) v = true) (h3 : (TX8 15).2.2.2 = false ∨ (TX8 15).1 = RX8) : gv_P RX8 155 8 15 v := ⟨RX8, TX8, 20, tyX8, rfl, by decide, gi_X8, (gv_in 639 (by decide +kernel) rfl), tyX8_ok, nmX8, h1, h2, h3⟩
theorem gf_X8_158 : gv_F RX8 158 8 16 := ⟨RX8, TX8, 20, tyX8, rfl, by decide, gi_X8, (gv_in 640 (by decide +kernel) rfl), tyX8_ok, nmX8⟩
theorem gp_X8_158 {v : Value} (h1 : narrow (tyX8 16) v = v) (h2 : fits (tyX8 16) v = true) (h3 : (TX8 16).2.2.2 = false ∨ (TX8 16).1 = RX8) : gv_P RX8 158 8 16 v := ⟨RX8, TX8, 20, tyX8, rfl, by decide, gi_X8, (gv_in 640 (by decide +kernel) rfl), tyX8_ok, nmX8, h1, h2, h3⟩
theorem gc_L_9 : gv_cI RL 9 m_X7_init 0 := ⟨gb_X7_init, (gv_in 51 (by decide +kernel) rfl), (gv_in 52 (by decide +kernel) rfl), by decide +kernel, rfl⟩
theorem gc_L_12 : gv_cI RL 12 m_X8_init 0 := ⟨gb_X8_init, (gv_in 617 (by decide +kernel) rfl), (gv_in 618 (by decide +kernel) rfl), by decide +kernel, rfl⟩
theorem gc_L_13 : gv_cV RL 13 m_X7_type 1 := ⟨gb_X7_type, (gv_in 263 (by decide +kernel) rfl), (gv_in 264 (by decide +kernel) rfl), (gv_in 265 (by decide +kernel) rfl)⟩
theorem gc_L_17 : gv_cV RL 17 m_X8_type 1 := ⟨gb_X8_type, (gv_in 685 (by decide +kernel) rfl), (gv_in 686 (by decide +kernel) rfl), (gv_in 687 (by decide +kernel) rfl)⟩
theorem gc_L_18 : gv_cV RL 18 m_X7_clear 0 := ⟨gb_X7_clear, (gv_in 271 (by decide +kernel) rfl), (gv_in 272 (by decide +kernel) rfl), (gv_in 273 (by decide +kernel) rfl)⟩
theorem gc_L_22 : gv_cV RL 22 m_X8_clear 0 := ⟨gb_X8_clear, (gv_in 692 (by decide +kernel) rfl), (gv_in 693 (by decide +kernel) rfl), (gv_in 694 (by decide +kernel) rfl)⟩
theorem gc_L_23 : gv_cV RL 23 m_X7_page 0 := ⟨gb_X7_page, (gv_in 275 (by decide +kernel) rfl), (gv_in 276 (by decide +kernel) rfl), (gv_in 277 (by decide +kernel) rfl)⟩
theorem gc_L_26 : gv_cV RL 26 m_X8_page 0 := ⟨gb_X8_page, (gv_in 696 (by decide +kernel) rfl), (gv_in 697 (by decide +kernel) rfl), (gv_in 698 (by decide +kernel) rfl)⟩
theorem gc_L_27 : gv_cV RL 27 m_X7_letter 2 := ⟨gb_X7_letter, (gv_in 340 (by decide +kernel) rfl), (gv_in 341 (by decide +kernel) rfl), (gv_in 342 (by decide +kernel) rfl)⟩
theorem gc_L_31 : gv_cV RL 31 m_X8_letter 2 := ⟨gb_X8_letter, (gv_in 732 (by decide +kernel) rfl), (gv_in 733 (by decide +kernel) rfl), (gv_in 734 (by decide +kernel) rfl)⟩
theorem gc_L_32 : gv_cV RL 32 m_X7_line 2 := ⟨gb_X7_line, (gv_in 347 (by decide +kernel) rfl), (gv_in 348 (by decide +kernel) rfl), (gv_in 349 (by decide +kernel) rfl)⟩
theorem gc_L_35 : gv_cV RL 35 m_X8_line 2 := ⟨gb_X8_line, (gv_in 736 (by decide +kernel) rfl), (gv_in 737 (by decide +kernel) rfl), (gv_in 738 (by decide +kernel) rfl)⟩
theorem gc_L_36 : gv_cV RL 36 m_X7_dots 2 := ⟨gb_X7_dots, (gv_in 352 (by decide +kernel) rfl), (gv_in 353 (by decide +kernel) rfl), (gv_in 354 (by decide +kernel) rfl)⟩
theorem gc_L_39 : gv_cV RL 39 m_X8_dots 2 := ⟨gb_X8_dots, (gv_in 744 (by decide +kernel) rfl), (gv_in 745 (by decide +kernel) rfl), (gv_in 746 (by decide +kernel) rfl)⟩
theorem gc_L_40 : gv_cV RL 40 m_X7_draws 3 := ⟨gb_X7_draws, (gv_in 363 (by decide +kernel) rfl), (gv_in 364 (by decide +kernel) rfl), (gv_in 365 (by decide +kernel) rfl)⟩
theorem gc_L_44 : gv_cV RL 44 m_X8_draws 3 := ⟨gb_X8_draws, (gv_in 752 (by decide +kernel) rfl), (gv_in 753 (by decide +kernel) rfl), (gv_in 754 (by decide +kernel) rfl)⟩
theorem gc_L_45 : gv_cV RL 45 m_X7_types 2 := ⟨gb_X7_types, (gv_in 376 (by decide +kernel) rfl), (gv_in 377 (by decide +kernel) rfl), (gv_in 378 (by decide +kernel) rfl)⟩
theorem gc_L_48 : gv_cV RL 48 m_X8_types 2 := ⟨gb_X8_types, (gv_in 764 (by decide +kernel) rfl), (gv_in 765 (by decide +kernel) rfl), (gv_in 766 (by decide +kernel) rfl)⟩
theorem gc_L_49 : gv_cV RL 49 m_X7_strikes 1 := ⟨gb_X7_strikes, (gv_in 382 (by decide +kernel) rfl), (gv_in 383 (by decide +kernel) rfl), (gv_in 384 (by decide +kernel) rfl)⟩
theorem gc_L_52 : gv_cV RL 52 m_X8_strikes 1 := ⟨gb_X8_strikes, (gv_in 768 (by decide +kernel) rfl), (gv_in 769 (by decide +kernel) rfl), (gv_in 770 (by decide +kernel) rfl)⟩
theorem gc_L_53 : gv_cV RL 53 m_X7_sets 2 := ⟨gb_X7_sets, (gv_in 390 (by decide +kernel) rfl), (gv_in 391 (by decide +kernel) rfl), (gv_in 392 (by decide +kernel) rfl)⟩
theorem gc_L_56 : gv_cV RL 56 m_X8_sets 2 := ⟨gb_X8_sets, (gv_in 772 (by decide +kernel) rfl), (gv_in 773 (by decide +kernel) rfl), (gv_in 774 (by decide +kernel) rfl)⟩
theorem gc_L_57 : gv_cV RL 57 m_X7_undo 0 := ⟨gb_X7_undo, (gv_in 395 (by decide +kernel) rfl), (gv_in 396 (by decide +kernel) rfl), (gv_in 397 (by decide +kernel) rfl)⟩
theorem gc_L_60 : gv_cV RL 60 m_X8_undo 0 := ⟨gb_X8_undo, (gv_in 782 (by decide +kernel) rfl), (gv_in 783 (by decide +kernel) rfl), (gv_in 784 (by decide +kernel) rfl)⟩
theorem gc_L_61 : gv_cV RL 61 m_X7_passes 1 := ⟨gb_X7_passes, (gv_in 409 (by decide +kernel) rfl), (gv_in 410 (by decide +kernel) rfl), (gv_in 411 (by decide +kernel) rfl)⟩
theorem gc_L_64 : gv_cV RL 64 m_X8_passes 1 := ⟨gb_X8_passes, (gv_in 786 (by decide +kernel) rfl), (gv_in 787 (by decide +kernel) rfl), (gv_in 788 (by decide +kernel) rfl)⟩
theorem gc_L_65 : gv_cV RL 65 m_X7_pass 3 := ⟨gb_X7_pass, (gv_in 435 (by decide +kernel) rfl), (gv_in 436 (by decide +kernel) rfl), (gv_in 437 (by decide +kernel) rfl)⟩
theorem gc_L_68 : gv_cV RL 68 m_X8_pass 3 := ⟨gb_X8_pass, (gv_in 805 (by decide +kernel) rfl), (gv_in 806 (by decide +kernel) rfl), (gv_in 807 (by decide +kernel) rfl)⟩
theorem gc_L_69 : gv_cV RL 69 m_X7_span 3 := ⟨gb_X7_span, (gv_in 446 (by decide +kernel) rfl), (gv_in 447 (by decide +kernel) rfl), (gv_in 448 (by decide +kernel) rfl)⟩
theorem gc_L_72 : gv_cV RL 72 m_X8_span 3 := ⟨gb_X8_span, (gv_in 812 (by decide +kernel) rfl), (gv_in 813 (by decide +kernel) rfl), (gv_in 814 (by decide +kernel) rfl)⟩
theorem gc_L_73 : gv_cV RL 73 m_X7_goes 2 := ⟨gb_X7_goes, (gv_in 473 (by decide +kernel) rfl), (gv_in 474 (by decide +kernel) rfl), (gv_in 475 (by decide +kernel) rfl)⟩
theorem gc_L_76 : gv_cV RL 76 m_X8_goes 2 := ⟨gb_X8_goes, (gv_in 833 (by decide +kernel) rfl), (gv_in 834 (by decide +kernel) rfl), (gv_in 835 (by decide +kernel) rfl)⟩
theorem gc_L_77 : gv_cV RL 77 m_X7_stands 3 := ⟨gb_X7_stands, (gv_in 510 (by decide +kernel) rfl), (gv_in 511 (by decide +kernel) rfl), (gv_in 512 (by decide +kernel) rfl)⟩
theorem gc_L_80 : gv_cV RL 80 m_X8_stands 3 := ⟨gb_X8_stands, (gv_in 829 (by decide +kernel) rfl), (gv_in 830 (by decide +kernel) rfl), (gv_in 831 (by decide +kernel) rfl)⟩
theorem gc_L_81 : gv_cV RL 81 m_X7_way 1 := ⟨gb_X7_way, (gv_in 516 (by decide +kernel) rfl), (gv_in 517 (by decide +kernel) rfl), (gv_in 518 (by decide +kernel) rfl)⟩
theorem gc_L_84 : gv_cV RL 84 m_X8_way 1 := ⟨gb_X8_way, (gv_in 853 (by decide +kernel) rfl), (gv_in 854 (by decide +kernel) rfl), (gv_in 855 (by decide +kernel) rfl)⟩
theorem gc_L_85 : gv_cV RL 85 m_X7_wear 1 := ⟨gb_X7_wear, (gv_in 520 (by decide +kernel) rfl), (gv_in 521 (by decide +kernel) rfl), (gv_in 522 (by decide +kernel) rfl)⟩
theorem gc_L_88 : gv_cV RL 88 m_X8_wear 1 := ⟨gb_X8_wear, (gv_in 857 (by decide +kernel) rfl), (gv_in 858 (by decide +kernel) rfl), (gv_in 859 (by decide +kernel) rfl)⟩
theorem gc_L_89 : gv_cV RL 89 m_X7_crowd 2 := ⟨gb_X7_crowd, (gv_in 533 (by decide +kernel) rfl), (gv_in 534 (by decide +kernel) rfl), (gv_in 535 (by decide +kernel) rfl)⟩
theorem gc_L_92 : gv_cV RL 92 m_X8_crowd 2 := ⟨gb_X8_crowd, (gv_in 865 (by decide +kernel) rfl), (gv_in 866 (by decide +kernel) rfl), (gv_in 867 (by decide +kernel) rfl)⟩
theorem gc_L_93 : gv_cV RL 93 m_X7_easy 1 := ⟨gb_X7_easy, (gv_in 538 (by decide +kernel) rfl), (gv_in 539 (by decide +kernel) rfl), (gv_in 540 (by decide +kernel) rfl)⟩
theorem gc_L_96 : gv_cV RL 96 m_X8_easy 1 := ⟨gb_X8_easy, (gv_in 873 (by decide +kernel) rfl), (gv_in 874 (by decide +kernel) rfl), (gv_in 875 (by decide +kernel) rfl)⟩
theorem gc_L_97 : gv_cV RL 97 m_X7_place 2 := ⟨gb_X7_place, (gv_in 548 (by decide +kernel) rfl), (gv_in 549 (by decide +kernel) rfl), (gv_in 550 (by decide +kernel) rfl)⟩
theorem gc_L_100 : gv_cV RL 100 m_X8_place 2 := ⟨gb_X8_place, (gv_in 881 (by decide +kernel) rfl), (gv_in 882 (by decide +kernel) rfl), (gv_in 883 (by decide +kernel) rfl)⟩
theorem gc_L_101 : gv_cV RL 101 m_X7_sees 2 := ⟨gb_X7_sees, (gv_in 552 (by decide +kernel) rfl), (gv_in 553 (by decide +kernel) rfl), (gv_in 554 (by decide +kernel) rfl)⟩
theorem gc_L_104 : gv_cV RL 104 m_X8_sees 2 := ⟨gb_X8_sees, (gv_in 885 (by decide +kernel) rfl), (gv_in 886 (by decide +kernel) rfl), (gv_in 887 (by decide +kernel) rfl)⟩
theorem gc_L_105 : gv_cV RL 105 m_X7_forget 0 := ⟨gb_X7_forget, (gv_in 560 (by decide +kernel) rfl), (gv_in 561 (by decide +kernel) rfl), (gv_in 562 (by decide +kernel) rfl)⟩
theorem gc_L_108 : gv_cV RL 108 m_X8_forget 0 := ⟨gb_X8_forget, (gv_in 889 (by decide +kernel) rfl), (gv_in 890 (by decide +kernel) rfl), (gv_in 891 (by decide +kernel) rfl)⟩
theorem gc_L_109 : gv_cV RL 109 m_X7_unseen 0 := ⟨gb_X7_unseen, (gv_in 564 (by decide +kernel) rfl), (gv_in 565 (by decide +kernel) rfl), (gv_in 566 (by decide +kernel) rfl)⟩
theorem gc_L_112 : gv_cV RL 112 m_X8_unseen 0 := ⟨gb_X8_unseen, (gv_in 893 (by decide +kernel) rfl), (gv_in 894 (by decide +kernel) rfl), (gv_in 895 (by decide +kernel) rfl)⟩
theorem gc_L_113 : gv_cV RL 113 m_X7_ask 0 := ⟨gb_X7_ask, (gv_in 586 (by decide +kernel) rfl), (gv_in 587 (by decide +kernel) rfl), (gv_in 588 (by decide +kernel) rfl)⟩
theorem gc_L_116 : gv_cV RL 116 m_X8_ask 0 := ⟨gb_X8_ask, (gv_in 905 (by decide +kernel) rfl), (gv_in 906 (by decide +kernel) rfl), (gv_in 907 (by decide +kernel) rfl)⟩
theorem gc_L_117 : gv_cV RL 117 m_X7_keep 1 := ⟨gb_X7_keep, (gv_in 595 (by decide +kernel) rfl), (gv_in 596 (by decide +kernel) rfl), (gv_in 597 (by decide +kernel) rfl)⟩
theorem gc_L_120 : gv_cV RL 120 m_X8_keep 1 := ⟨gb_X8_keep, (gv_in 913 (by decide +kernel) rfl), (gv_in 914 (by decide +kernel) rfl), (gv_in 915 (by decide +kernel) rfl)⟩
theorem gc_L_121 : gv_cV RL 121 m_X7_back 1 := ⟨gb_X7_back, (gv_in 599 (by decide +kernel) rfl), (gv_in 600 (by decide +kernel) rfl), (gv_in 601 (by decide +kernel) rfl)⟩
theorem gc_L_124 : gv_cV RL 124 m_X8_back 1 := ⟨gb_X8_back, (gv_in 917 (by decide +kernel) rfl), (gv_in 918 (by decide +kernel) rfl), (gv_in 919 (by decide +kernel) rfl)⟩
theorem gc_L_125 : gv_cV RL 125 m_X7_count 1 := ⟨gb_X7_count, (gv_in 603 (by decide +kernel) rfl), (gv_in 604 (by decide +kernel) rfl), (gv_in 605 (by decide +kernel) rfl)⟩
theorem gc_L_128 : gv_cV RL 128 m_X8_count 1 := ⟨gb_X8_count, (gv_in 921 (by decide +kernel) rfl), (gv_in 922 (by decide +kernel) rfl), (gv_in 923 (by decide +kernel) rfl)⟩
theorem gc_X0_92 : gv_cS RX0 92 m_J9_abs_0f7a4 1 := ⟨gb_J9_abs_0f7a4, (gv_in 499 (by decide +kernel) rfl), (gv_in 500 (by decide +kernel) rfl)⟩
theorem gc_X0_3 : Cond.methodLink RX0 3 objectInit ∈ gv_W ∧ Cond.instanceMethod objectInit ∈ gv_W ∧ Cond.code objectInit ⟨#[0xb1]⟩ 1 none ∈ gv_W := ⟨(gv_in 197 (by decide +kernel) rfl), (gv_in 55 (by decide +kernel) rfl), (gv_in 56 (by decide +kernel) rfl)⟩
theorem gc_X0_86 : gv_cV RX0 86 m_X0_fromLeft 2 := ⟨gb_X0_fromLeft, (gv_in 495 (by decide +kernel) rfl), (gv_in 496 (by decide +kernel) rfl), (gv_in 497 (by decide +kernel) rfl)⟩
theorem gc_X0_89 : gv_cV RX0 89 m_X0_fromRight 2 := ⟨gb_X0_fromRight, (gv_in 502 (by decide +kernel) rfl), (gv_in 503 (by decide +kernel) rfl), (gv_in 504 (by decide +kernel) rfl)⟩
theorem gc_X0_63 : gv_cS RX0 63 m_J9_min_7cf53 2 := ⟨gb_J9_min_7cf53, (gv_in 466 (by decide +kernel) rfl), (gv_in 467 (by decide +kernel) rfl)⟩
theorem gc_X0_80 : gv_cV RX0 80 m_X0_isUsed 1 := ⟨gb_X0_isUsed, (gv_in 487 (by decide +kernel) rfl), (gv_in 488 (by decide +kernel) rfl), (gv_in 489 (by decide +kernel) rfl)⟩
theorem gc_X0_83 : gv_cV RX0 83 m_X0_leastFrom 2 := ⟨gb_X0_leastFrom, (gv_in 491 (by decide +kernel) rfl), (gv_in 492 (by decide +kernel) rfl), (gv_in 493 (by decide +kernel) rfl)⟩
theorem gc_X0_30 : gv_cV RX0 30 m_X6_lay 2 := ⟨gb_X6_lay, (gv_in 455 (by decide +kernel) rfl), (gv_in 418 (by decide +kernel) rfl), (gv_in 419 (by decide +kernel) rfl)⟩
theorem gc_X0_41 : gv_cV RX0 41 m_X1_deal 3 := ⟨gb_X1_deal, (gv_in 456 (by decide +kernel) rfl), (gv_in 423 (by decide +kernel) rfl), (gv_in 424 (by decide +kernel) rfl)⟩
theorem gc_X0_47 : gv_cS RX0 47 m_J9_max_7cf53 2 := ⟨gb_J9_max_7cf53, (gv_in 457 (by decide +kernel) rfl), (gv_in 432 (by decide +kernel) rfl)⟩
theorem gc_X0_56 : gv_cV RX0 56 m_X4_headAt 2 := ⟨gb_X4_headAt, (gv_in 458 (by decide +kernel) rfl), (gv_in 459 (by decide +kernel) rfl), (gv_in 460 (by decide +kernel) rfl)⟩
theorem gc_X0_59 : gv_cV RX0 59 m_X0_widen 2 := ⟨gb_X0_widen, (gv_in 462 (by decide +kernel) rfl), (gv_in 463 (by decide +kernel) rfl), (gv_in 464 (by decide +kernel) rfl)⟩
theorem gc_X0_66 : gv_cV RX0 66 m_X4_hasLine 1 := ⟨gb_X4_hasLine, (gv_in 481 (by decide +kernel) rfl), (gv_in 330 (by decide +kernel) rfl), (gv_in 331 (by decide +kernel) rfl)⟩
theorem gc_X0_70 : gv_cV RX0 70 m_X0_measure 4 := ⟨gb_X0_measure, (gv_in 482 (by decide +kernel) rfl), (gv_in 452 (by decide +kernel) rfl), (gv_in 453 (by decide +kernel) rfl)⟩
theorem gc_X0_74 : gv_cV RX0 74 m_X0_lookAhead 0 := ⟨gb_X0_lookAhead, (gv_in 483 (by decide +kernel) rfl), (gv_in 484 (by decide +kernel) rfl), (gv_in 485 (by decide +kernel) rfl)⟩
theorem gc_X0_77 : gv_cV RX0 77 m_X0_walk 0 := ⟨gb_X0_walk, (gv_in 506 (by decide +kernel) rfl), (gv_in 507 (by decide +kernel) rfl), (gv_in 508 (by decide +kernel) rfl)⟩
theorem gc_X1_18 : gv_cV RX1 18 m_X6_hasDot 2 := ⟨gb_X6_hasDot, (gv_in 426 (by decide +kernel) rfl), (gv_in 427 (by decide +kernel) rfl), (gv_in 428 (by decide +kernel) rfl)⟩
theorem gc_X1_24 : gv_cS RX1 24 m_J9_max_7cf53 2 := ⟨gb_J9_max_7cf53, (gv_in 431 (by decide +kernel) rfl), (gv_in 432 (by decide +kernel) rfl)⟩
theorem gc_X1_3 : Cond.methodLink RX1 3 objectInit ∈ gv_W ∧ Cond.instanceMethod objectInit ∈ gv_W ∧ Cond.code objectInit ⟨#[0xb1]⟩ 1 none ∈ gv_W := ⟨(gv_in 182 (by decide +kernel) rfl), (gv_in 55 (by decide +kernel) rfl), (gv_in 56 (by decide +kernel) rfl)⟩
theorem gc_X2_3 : Cond.methodLink RX2 3 objectInit ∈ gv_W ∧ Cond.instanceMethod objectInit ∈ gv_W ∧ Cond.code objectInit ⟨#[0xb1]⟩ 1 none ∈ gv_W := ⟨(gv_in 131 (by decide +kernel) rfl), (gv_in 55 (by decide +kernel) rfl), (gv_in 56 (by decide +kernel) rfl)⟩
theorem gc_X2_28 : Cond.methodLink RX2 28 arraycopyName ∈ gv_W ∧ Cond.native arraycopyName ∈ gv_W ∧ Cond.static arraycopyName ∈ gv_W ∧ Cond.initialized "java/lang/System" ∈ gv_W := ⟨(gv_in 375 (by decide +kernel) rfl), (gv_in 339 (by decide +kernel) rfl), (gv_in 338 (by decide +kernel) rfl), (gv_in 46 (by decide +kernel) rfl)⟩
theorem gc_X2_25 : gv_cV RX2 25 m_X2_loseOldest 0 := ⟨gb_X2_loseOldest, (gv_in 371 (by decide +kernel) rfl), (gv_in 372 (by decide +kernel) rfl), (gv_in 373 (by decide +kernel) rfl)⟩
theorem gc_X2_39 : gv_cV RX2 39 m_X4_chop 1 := ⟨gb_X4_chop, (gv_in 403 (by decide +kernel) rfl), (gv_in 387 (by decide +kernel) rfl), (gv_in 388 (by decide +kernel) rfl)⟩
theorem gc_X2_43 : gv_cV RX2 43 m_X4_dropLast 0 := ⟨gb_X4_dropLast, (gv_in 404 (by decide +kernel) rfl), (gv_in 405 (by decide +kernel) rfl), (gv_in 406 (by decide +kernel) rfl)⟩
theorem gc_X2_46 : gv_cV RX2 46 m_X4_append 2 := ⟨gb_X4_append, (gv_in 408 (by decide +kernel) rfl), (gv_in 326 (by decide +kernel) rfl), (gv_in 327 (by decide +kernel) rfl)⟩
theorem gc_X3_77 : gv_cS RX3 77 m_X3_isDigit 1 := ⟨gb_X3_isDigit, (gv_in 288 (by decide +kernel) rfl), (gv_in 289 (by decide +kernel) rfl)⟩
theorem gc_X3_81 : gv_cV RX3 81 m_X3_advanceOverNumber 0 := ⟨gb_X3_advanceOverNumber, (gv_in 291 (by decide +kernel) rfl), (gv_in 292 (by decide +kernel) rfl), (gv_in 293 (by decide +kernel) rfl)⟩
theorem gc_X3_3 : Cond.methodLink RX3 3 objectInit ∈ gv_W ∧ Cond.instanceMethod objectInit ∈ gv_W ∧ Cond.code objectInit ⟨#[0xb1]⟩ 1 none ∈ gv_W := ⟨(gv_in 62 (by decide +kernel) rfl), (gv_in 55 (by decide +kernel) rfl), (gv_in 56 (by decide +kernel) rfl)⟩
theorem gc_X3_19 : gv_cV RX3 19 m_X4_reset 0 := ⟨gb_X4_reset, (gv_in 283 (by decide +kernel) rfl), (gv_in 91 (by decide +kernel) rfl), (gv_in 92 (by decide +kernel) rfl)⟩
theorem gc_X3_27 : gv_cV RX3 27 m_X3_advance 0 := ⟨gb_X3_advance, (gv_in 284 (by decide +kernel) rfl), (gv_in 285 (by decide +kernel) rfl), (gv_in 286 (by decide +kernel) rfl)⟩
theorem gc_X3_33 : gv_cV RX3 33 m_X3_readItem 1 := ⟨gb_X3_readItem, (gv_in 295 (by decide +kernel) rfl), (gv_in 296 (by decide +kernel) rfl), (gv_in 297 (by decide +kernel) rfl)⟩
theorem gc_X3_40 : gv_cV RX3 40 m_X3_readSetting 2 := ⟨gb_X3_readSetting, (gv_in 299 (by decide +kernel) rfl), (gv_in 300 (by decide +kernel) rfl), (gv_in 301 (by decide +kernel) rfl)⟩
theorem gc_X3_44 : gv_cV RX3 44 m_X3_readShape 1 := ⟨gb_X3_readShape, (gv_in 310 (by decide +kernel) rfl), (gv_in 311 (by decide +kernel) rfl), (gv_in 312 (by decide +kernel) rfl)⟩
theorem gc_X3_47 : gv_cV RX3 47 m_X3_readLine 1 := ⟨gb_X3_readLine, (gv_in 317 (by decide +kernel) rfl), (gv_in 318 (by decide +kernel) rfl), (gv_in 319 (by decide +kernel) rfl)⟩
theorem gc_X3_67 : gv_cV RX3 67 m_X4_begin 0 := ⟨gb_X4_begin, (gv_in 321 (by decide +kernel) rfl), (gv_in 322 (by decide +kernel) rfl), (gv_in 323 (by decide +kernel) rfl)⟩
theorem gc_X3_60 : gv_cS RX3 60 m_X3_letterOf 1 := ⟨gb_X3_letterOf, (gv_in 314 (by decide +kernel) rfl), (gv_in 315 (by decide +kernel) rfl)⟩
theorem gc_X3_74 : gv_cV RX3 74 m_X4_append 2 := ⟨gb_X4_append, (gv_in 325 (by decide +kernel) rfl), (gv_in 326 (by decide +kernel) rfl), (gv_in 327 (by decide +kernel) rfl)⟩
theorem gc_X3_53 : gv_cSN RX3 53 m_X7_mayBeSet 2 := ⟨gb_X7_mayBeSet, ⟨"StrikePasses", List.mem_of_getElem? (i := 303) (by decide +kernel)⟩, (gv_in 304 (by decide +kernel) rfl)⟩
theorem gc_X4_46 : gv_cV RX4 46 m_X4_hasLine 1 := ⟨gb_X4_hasLine, (gv_in 329 (by decide +kernel) rfl), (gv_in 330 (by decide +kernel) rfl), (gv_in 331 (by decide +kernel) rfl)⟩
theorem gc_X4_40 : Cond.methodLink RX4 40 arraycopyName ∈ gv_W ∧ Cond.native arraycopyName ∈ gv_W ∧ Cond.static arraycopyName ∈ gv_W ∧ Cond.initialized "java/lang/System" ∈ gv_W := ⟨(gv_in 337 (by decide +kernel) rfl), (gv_in 339 (by decide +kernel) rfl), (gv_in 338 (by decide +kernel) rfl), (gv_in 46 (by decide +kernel) rfl)⟩
theorem gc_X4_3 : Cond.methodLink RX4 3 objectInit ∈ gv_W ∧ Cond.instanceMethod objectInit ∈ gv_W ∧ Cond.code objectInit ⟨#[0xb1]⟩ 1 none ∈ gv_W := ⟨(gv_in 89 (by decide +kernel) rfl), (gv_in 55 (by decide +kernel) rfl), (gv_in 56 (by decide +kernel) rfl)⟩
theorem gc_X4_24 : gv_cV RX4 24 m_X4_reset 0 := ⟨gb_X4_reset, (gv_in 90 (by decide +kernel) rfl), (gv_in 91 (by decide +kernel) rfl), (gv_in 92 (by decide +kernel) rfl)⟩
theorem gc_X4_30 : gv_cS RX4 30 m_J7_fill_53178 2 := ⟨gb_J7_fill_53178, (gv_in 96 (by decide +kernel) rfl), (gv_in 97 (by decide +kernel) rfl)⟩
theorem gc_X5_3 : Cond.methodLink RX5 3 objectInit ∈ gv_W ∧ Cond.instanceMethod objectInit ∈ gv_W ∧ Cond.code objectInit ⟨#[0xb1]⟩ 1 none ∈ gv_W := ⟨(gv_in 151 (by decide +kernel) rfl), (gv_in 55 (by decide +kernel) rfl), (gv_in 56 (by decide +kernel) rfl)⟩
theorem gc_X6_31 : gv_cV RX6 31 m_X6_amountFrom 3 := ⟨gb_X6_amountFrom, (gv_in 528 (by decide +kernel) rfl), (gv_in 529 (by decide +kernel) rfl), (gv_in 530 (by decide +kernel) rfl)⟩
theorem gc_X6_35 : gv_cV RX6 35 m_X6_hasDot 2 := ⟨gb_X6_hasDot, (gv_in 532 (by decide +kernel) rfl), (gv_in 427 (by decide +kernel) rfl), (gv_in 428 (by decide +kernel) rfl)⟩
theorem gc_X6_21 : gv_cSN RX6 21 m_X7_isColumn 1 := ⟨gb_X7_isColumn, ⟨"StrikePasses", List.mem_of_getElem? (i := 430) (by decide +kernel)⟩, (gv_in 357 (by decide +kernel) rfl)⟩
theorem gc_X6_3 : Cond.methodLink RX6 3 objectInit ∈ gv_W ∧ Cond.instanceMethod objectInit ∈ gv_W ∧ Cond.code objectInit ⟨#[0xb1]⟩ 1 none ∈ gv_W := ⟨(gv_in 171 (by decide +kernel) rfl), (gv_in 55 (by decide +kernel) rfl), (gv_in 56 (by decide +kernel) rfl)⟩
theorem gc_X6_15 : gv_cV RX6 15 m_X4_inkAt 2 := ⟨gb_X4_inkAt, (gv_in 421 (by decide +kernel) rfl), (gv_in 360 (by decide +kernel) rfl), (gv_in 361 (by decide +kernel) rfl)⟩
theorem gc_X6_39 : gv_cS RX6 39 m_J9_min_7cf53 2 := ⟨gb_J9_min_7cf53, (gv_in 546 (by decide +kernel) rfl), (gv_in 467 (by decide +kernel) rfl)⟩
theorem gc_X6_25 : gv_cS RX6 25 m_J6_bitCount_0f7a4 1 := ⟨gb_J6_bitCount_0f7a4, (gv_in 580 (by decide +kernel) rfl), (gv_in 581 (by decide +kernel) rfl)⟩
theorem gc_X7_148 : gv_cV RX7 148 m_X6_lay 2 := ⟨gb_X6_lay, (gv_in 417 (by decide +kernel) rfl), (gv_in 418 (by decide +kernel) rfl), (gv_in 419 (by decide +kernel) rfl)⟩
theorem gc_X7_242 : gv_cV RX7 242 m_X6_total 0 := ⟨gb_X6_total, (gv_in 576 (by decide +kernel) rfl), (gv_in 577 (by decide +kernel) rfl), (gv_in 578 (by decide +kernel) rfl)⟩
theorem gc_X7_141 : gv_cV RX7 141 m_X7_passesOf 1 := ⟨gb_X7_passesOf, (gv_in 413 (by decide +kernel) rfl), (gv_in 415 (by decide +kernel) rfl), (gv_in 0 (by decide +kernel) rfl)⟩
theorem gc_X7_215 : gv_cV RX7 215 m_X7_suspects 0 := ⟨gb_X7_suspects, (gv_in 568 (by decide +kernel) rfl), (gv_in 570 (by decide +kernel) rfl), (gv_in 2 (by decide +kernel) rfl)⟩
theorem gc_X7_219 : gv_cS RX7 219 m_J6_bitCount_0f7a4 1 := ⟨gb_J6_bitCount_0f7a4, (gv_in 590 (by decide +kernel) rfl), (gv_in 581 (by decide +kernel) rfl)⟩
theorem gc_X7_224 : gv_cV RX7 224 m_X7_unlikeNumbers 2 := ⟨gb_X7_unlikeNumbers, (gv_in 591 (by decide +kernel) rfl), (gv_in 593 (by decide +kernel) rfl), (gv_in 4 (by decide +kernel) rfl)⟩
theorem gc_X7_81 : gv_cV RX7 81 m_X4_become 1 := ⟨gb_X4_become, (gv_in 333 (by decide +kernel) rfl), (gv_in 334 (by decide +kernel) rfl), (gv_in 335 (by decide +kernel) rfl)⟩
theorem gc_X7_227 : gv_cV RX7 227 m_X7_allDots 0 := ⟨gb_X7_allDots, (gv_in 607 (by decide +kernel) rfl), (gv_in 609 (by decide +kernel) rfl), (gv_in 5 (by decide +kernel) rfl)⟩
theorem gc_X7_230 : gv_cV RX7 230 m_X7_allPasses 0 := ⟨gb_X7_allPasses, (gv_in 611 (by decide +kernel) rfl), (gv_in 613 (by decide +kernel) rfl), (gv_in 6 (by decide +kernel) rfl)⟩
theorem gc_X7_97 : gv_cV RX7 97 m_X4_hasLine 1 := ⟨gb_X4_hasLine, (gv_in 351 (by decide +kernel) rfl), (gv_in 330 (by decide +kernel) rfl), (gv_in 331 (by decide +kernel) rfl)⟩
theorem gc_X7_201 : gv_cV RX7 201 m_X6_amountFrom 3 := ⟨gb_X6_amountFrom, (gv_in 537 (by decide +kernel) rfl), (gv_in 529 (by decide +kernel) rfl), (gv_in 530 (by decide +kernel) rfl)⟩
theorem gc_X7_106 : gv_cS RX7 106 m_X7_isColumn 1 := ⟨gb_X7_isColumn, (gv_in 356 (by decide +kernel) rfl), (gv_in 357 (by decide +kernel) rfl)⟩
theorem gc_X7_109 : gv_cV RX7 109 m_X4_inkAt 2 := ⟨gb_X4_inkAt, (gv_in 359 (by decide +kernel) rfl), (gv_in 360 (by decide +kernel) rfl), (gv_in 361 (by decide +kernel) rfl)⟩
theorem gc_X7_89 : gv_cS RX7 89 m_X7_isColumnOfLetter 2 := ⟨gb_X7_isColumnOfLetter, (gv_in 344 (by decide +kernel) rfl), (gv_in 345 (by decide +kernel) rfl)⟩
theorem gc_X7_113 : gv_cV RX7 113 m_X2_note 3 := ⟨gb_X2_note, (gv_in 367 (by decide +kernel) rfl), (gv_in 368 (by decide +kernel) rfl), (gv_in 369 (by decide +kernel) rfl)⟩
theorem gc_X7_205 : gv_cV RX7 205 m_X6_leastGap 1 := ⟨gb_X6_leastGap, (gv_in 542 (by decide +kernel) rfl), (gv_in 543 (by decide +kernel) rfl), (gv_in 544 (by decide +kernel) rfl)⟩
theorem gc_X7_208 : gv_cS RX7 208 m_J9_min_7cf53 2 := ⟨gb_J9_min_7cf53, (gv_in 547 (by decide +kernel) rfl), (gv_in 467 (by decide +kernel) rfl)⟩
theorem gc_X7_198 : gv_cV RX7 198 m_X6_amount 1 := ⟨gb_X6_amount, (gv_in 524 (by decide +kernel) rfl), (gv_in 525 (by decide +kernel) rfl), (gv_in 526 (by decide +kernel) rfl)⟩
theorem gc_X7_173 : gv_cV RX7 173 m_X0_plan 3 := ⟨gb_X0_plan, (gv_in 477 (by decide +kernel) rfl), (gv_in 478 (by decide +kernel) rfl), (gv_in 479 (by decide +kernel) rfl)⟩
theorem gc_X7_164 : gv_cV RX7 164 m_X0_slot 2 := ⟨gb_X0_slot, (gv_in 469 (by decide +kernel) rfl), (gv_in 470 (by decide +kernel) rfl), (gv_in 471 (by decide +kernel) rfl)⟩
theorem gc_X7_3 : Cond.methodLink RX7 3 objectInit ∈ gv_W ∧ Cond.instanceMethod objectInit ∈ gv_W ∧ Cond.code objectInit ⟨#[0xb1]⟩ 1 none ∈ gv_W := ⟨(gv_in 54 (by decide +kernel) rfl), (gv_in 55 (by decide +kernel) rfl), (gv_in 56 (by decide +kernel) rfl)⟩
theorem gc_X7_11 : gv_cIN RX7 11 m_X3_init 0 := ⟨gb_X3_init, ⟨"StrikePasses", List.mem_of_getElem? (i := 59) (by decide +kernel)⟩, (gv_in 60 (by decide +kernel) rfl), by decide +kernel, rfl⟩
theorem gc_X7_18 : gv_cI RX7 18 m_X4_init 0 := ⟨gb_X4_init, (gv_in 86 (by decide +kernel) rfl), (gv_in 87 (by decide +kernel) rfl), by decide +kernel, rfl⟩
theorem gc_X7_28 : gv_cIN RX7 28 m_X2_init 0 := ⟨gb_X2_init, ⟨"StrikePasses", List.mem_of_getElem? (i := 128) (by decide +kernel)⟩, (gv_in 129 (by decide +kernel) rfl), by decide +kernel, rfl⟩
theorem gc_X7_35 : gv_cIN RX7 35 m_X5_init 0 := ⟨gb_X5_init, ⟨"StrikePasses", List.mem_of_getElem? (i := 148) (by decide +kernel)⟩, (gv_in 149 (by decide +kernel) rfl), by decide +kernel, rfl⟩
theorem gc_X7_50 : gv_cIN RX7 50 m_X6_init 0 := ⟨gb_X6_init, ⟨"StrikePasses", List.mem_of_getElem? (i := 168) (by decide +kernel)⟩, (gv_in 169 (by decide +kernel) rfl), by decide +kernel, rfl⟩
theorem gc_X7_57 : gv_cIN RX7 57 m_X1_init 0 := ⟨gb_X1_init, ⟨"StrikePasses", List.mem_of_getElem? (i := 179) (by decide +kernel)⟩, (gv_in 180 (by decide +kernel) rfl), by decide +kernel, rfl⟩
theorem gc_X7_64 : gv_cIN RX7 64 m_X0_init 0 := ⟨gb_X0_init, ⟨"StrikePasses", List.mem_of_getElem? (i := 194) (by decide +kernel)⟩, (gv_in 195 (by decide +kernel) rfl), by decide +kernel, rfl⟩
theorem gc_X7_195 : gv_cS RX7 195 m_X7_isNeedle 1 := ⟨gb_X7_isNeedle, (gv_in 443 (by decide +kernel) rfl), (gv_in 444 (by decide +kernel) rfl)⟩
theorem gc_X7_77 : gv_cV RX7 77 m_X3_read 1 := ⟨gb_X3_read, (gv_in 279 (by decide +kernel) rfl), (gv_in 280 (by decide +kernel) rfl), (gv_in 281 (by decide +kernel) rfl)⟩
theorem gc_X7_144 : gv_cV RX7 144 m_X7_isPlace 3 := ⟨gb_X7_isPlace, (gv_in 439 (by decide +kernel) rfl), (gv_in 441 (by decide +kernel) rfl), (gv_in 1 (by decide +kernel) rfl)⟩
theorem gc_X7_152 : gv_cV RX7 152 m_X1_deal 3 := ⟨gb_X1_deal, (gv_in 422 (by decide +kernel) rfl), (gv_in 423 (by decide +kernel) rfl), (gv_in 424 (by decide +kernel) rfl)⟩
theorem gc_X7_239 : gv_cS RX7 239 m_J9_max_7cf53 2 := ⟨gb_J9_max_7cf53, (gv_in 434 (by decide +kernel) rfl), (gv_in 432 (by decide +kernel) rfl)⟩
theorem gc_X7_213 : gv_cV RX7 213 m_X5_note 2 := ⟨gb_X5_note, (gv_in 556 (by decide +kernel) rfl), (gv_in 557 (by decide +kernel) rfl), (gv_in 558 (by decide +kernel) rfl)⟩
theorem gc_X7_131 : gv_cS RX7 131 m_X7_mayBeSet 2 := ⟨gb_X7_mayBeSet, (gv_in 394 (by decide +kernel) rfl), (gv_in 304 (by decide +kernel) rfl)⟩
theorem gc_X7_160 : gv_cV RX7 160 m_X0_measure 4 := ⟨gb_X0_measure, (gv_in 451 (by decide +kernel) rfl), (gv_in 452 (by decide +kernel) rfl), (gv_in 453 (by decide +kernel) rfl)⟩
theorem gc_X7_180 : gv_cV RX7 180 m_X6_hasDot 2 := ⟨gb_X6_hasDot, (gv_in 514 (by decide +kernel) rfl), (gv_in 427 (by decide +kernel) rfl), (gv_in 428 (by decide +kernel) rfl)⟩
theorem gc_X7_183 : gv_cV RX7 183 m_X4_headAt 2 := ⟨gb_X4_headAt, (gv_in 515 (by decide +kernel) rfl), (gv_in 459 (by decide +kernel) rfl), (gv_in 460 (by decide +kernel) rfl)⟩
theorem gc_X7_127 : gv_cV RX7 127 m_X4_chop 1 := ⟨gb_X4_chop, (gv_in 386 (by decide +kernel) rfl), (gv_in 387 (by decide +kernel) rfl), (gv_in 388 (by decide +kernel) rfl)⟩
theorem gc_X7_250 : gv_cV RX7 250 m_X7_explaining 2 := ⟨gb_X7_explaining, (gv_in 572 (by decide +kernel) rfl), (gv_in 574 (by decide +kernel) rfl), (gv_in 3 (by decide +kernel) rfl)⟩
theorem gc_X7_69 : gv_cV RX7 69 m_X3_accept 1 := ⟨gb_X3_accept, (gv_in 267 (by decide +kernel) rfl), (gv_in 268 (by decide +kernel) rfl), (gv_in 269 (by decide +kernel) rfl)⟩
theorem gc_X7_120 : gv_cV RX7 120 m_X4_begin 0 := ⟨gb_X4_begin, (gv_in 380 (by decide +kernel) rfl), (gv_in 322 (by decide +kernel) rfl), (gv_in 323 (by decide +kernel) rfl)⟩
theorem gc_X7_124 : gv_cV RX7 124 m_X4_append 2 := ⟨gb_X4_append, (gv_in 381 (by decide +kernel) rfl), (gv_in 326 (by decide +kernel) rfl), (gv_in 327 (by decide +kernel) rfl)⟩
theorem gc_X7_137 : gv_cV RX7 137 m_X2_takeBack 1 := ⟨gb_X2_takeBack, (gv_in 399 (by decide +kernel) rfl), (gv_in 400 (by decide +kernel) rfl), (gv_in 401 (by decide +kernel) rfl)⟩
theorem gc_X8_180 : gv_cV RX8 180 m_X8_unseenSet 0 := ⟨gb_X8_unseenSet, (gv_in 897 (by decide +kernel) rfl), (gv_in 899 (by decide +kernel) rfl), (gv_in 31 (by decide +kernel) rfl)⟩
theorem gc_X8_184 : gv_cV RX8 184 m_X8_unlike 2 := ⟨gb_X8_unlike, (gv_in 909 (by decide +kernel) rfl), (gv_in 911 (by decide +kernel) rfl), (gv_in 33 (by decide +kernel) rfl)⟩
theorem gc_X8_45 : gv_cS RX8 45 m_X8_in 3 := ⟨gb_X8_in, (gv_in 689 (by decide +kernel) rfl), (gv_in 690 (by decide +kernel) rfl)⟩
theorem gc_X8_121 : gv_cV RX8 121 m_X8_columnsOf 2 := ⟨gb_X8_columnsOf, (gv_in 798 (by decide +kernel) rfl), (gv_in 800 (by decide +kernel) rfl), (gv_in 21 (by decide +kernel) rfl)⟩
theorem gc_X8_117 : gv_cS RX8 117 m_X8_has 2 := ⟨gb_X8_has, (gv_in 802 (by decide +kernel) rfl), (gv_in 803 (by decide +kernel) rfl)⟩
theorem gc_X8_97 : gv_cV RX8 97 m_X8_dotsAt 2 := ⟨gb_X8_dotsAt, (gv_in 748 (by decide +kernel) rfl), (gv_in 750 (by decide +kernel) rfl), (gv_in 16 (by decide +kernel) rfl)⟩
theorem gc_X8_187 : gv_cV RX8 187 m_X8_ofLines 1 := ⟨gb_X8_ofLines, (gv_in 925 (by decide +kernel) rfl), (gv_in 927 (by decide +kernel) rfl), (gv_in 34 (by decide +kernel) rfl)⟩
theorem gc_X8_94 : gv_cV RX8 94 m_X8_isLine 1 := ⟨gb_X8_isLine, (gv_in 740 (by decide +kernel) rfl), (gv_in 742 (by decide +kernel) rfl), (gv_in 15 (by decide +kernel) rfl)⟩
theorem gc_X8_171 : gv_cV RX8 171 m_X8_within 3 := ⟨gb_X8_within, (gv_in 869 (by decide +kernel) rfl), (gv_in 871 (by decide +kernel) rfl), (gv_in 29 (by decide +kernel) rfl)⟩
theorem gc_X8_107 : gv_cV RX8 107 m_X8_lays 2 := ⟨gb_X8_lays, (gv_in 756 (by decide +kernel) rfl), (gv_in 758 (by decide +kernel) rfl), (gv_in 17 (by decide +kernel) rfl)⟩
theorem gc_X8_174 : gv_cV RX8 174 m_X8_isEasy 2 := ⟨gb_X8_isEasy, (gv_in 877 (by decide +kernel) rfl), (gv_in 879 (by decide +kernel) rfl), (gv_in 30 (by decide +kernel) rfl)⟩
theorem gc_X8_128 : gv_cV RX8 128 m_X8_passesOf 1 := ⟨gb_X8_passesOf, (gv_in 790 (by decide +kernel) rfl), (gv_in 792 (by decide +kernel) rfl), (gv_in 19 (by decide +kernel) rfl)⟩
theorem gc_X8_162 : gv_cV RX8 162 m_X8_layWay 0 := ⟨gb_X8_layWay, (gv_in 837 (by decide +kernel) rfl), (gv_in 839 (by decide +kernel) rfl), (gv_in 25 (by decide +kernel) rfl)⟩
theorem gc_X8_165 : gv_cV RX8 165 m_X8_isBack 1 := ⟨gb_X8_isBack, (gv_in 849 (by decide +kernel) rfl), (gv_in 851 (by decide +kernel) rfl), (gv_in 27 (by decide +kernel) rfl)⟩
theorem gc_X8_124 : gv_cV RX8 124 m_X8_columnsIn 3 := ⟨gb_X8_columnsIn, (gv_in 794 (by decide +kernel) rfl), (gv_in 796 (by decide +kernel) rfl), (gv_in 20 (by decide +kernel) rfl)⟩
theorem gc_X8_134 : gv_cV RX8 134 m_X8_headAt 2 := ⟨gb_X8_headAt, (gv_in 821 (by decide +kernel) rfl), (gv_in 823 (by decide +kernel) rfl), (gv_in 23 (by decide +kernel) rfl)⟩
theorem gc_X8_1 : Cond.methodLink RX8 1 objectInit ∈ gv_W ∧ Cond.instanceMethod objectInit ∈ gv_W ∧ Cond.code objectInit ⟨#[0xb1]⟩ 1 none ∈ gv_W := ⟨(gv_in 620 (by decide +kernel) rfl), (gv_in 55 (by decide +kernel) rfl), (gv_in 56 (by decide +kernel) rfl)⟩
theorem gc_X8_41 : gv_cS RX8 41 m_X8_begins 1 := ⟨gb_X8_begins, (gv_in 621 (by decide +kernel) rfl), (gv_in 622 (by decide +kernel) rfl)⟩
theorem gc_X8_138 : gv_cV RX8 138 m_X8_lowOf 2 := ⟨gb_X8_lowOf, (gv_in 817 (by decide +kernel) rfl), (gv_in 819 (by decide +kernel) rfl), (gv_in 22 (by decide +kernel) rfl)⟩
theorem gc_X8_141 : gv_cV RX8 141 m_X8_highOf 2 := ⟨gb_X8_highOf, (gv_in 825 (by decide +kernel) rfl), (gv_in 827 (by decide +kernel) rfl), (gv_in 24 (by decide +kernel) rfl)⟩
theorem gc_X8_147 : gv_cV RX8 147 m_X8_layPasses 0 := ⟨gb_X8_layPasses, (gv_in 841 (by decide +kernel) rfl), (gv_in 843 (by decide +kernel) rfl), (gv_in 26 (by decide +kernel) rfl)⟩
theorem gc_X8_150 : gv_cS RX8 150 m_X8_far 2 := ⟨gb_X8_far, (gv_in 845 (by decide +kernel) rfl), (gv_in 846 (by decide +kernel) rfl)⟩
theorem gc_X8_104 : gv_cV RX8 104 m_X8_remembers 0 := ⟨gb_X8_remembers, (gv_in 760 (by decide +kernel) rfl), (gv_in 762 (by decide +kernel) rfl), (gv_in 18 (by decide +kernel) rfl)⟩
theorem gc_X8_56 : gv_cV RX8 56 m_X8_blanks 0 := ⟨gb_X8_blanks, (gv_in 700 (by decide +kernel) rfl), (gv_in 702 (by decide +kernel) rfl), (gv_in 7 (by decide +kernel) rfl)⟩
theorem gc_X8_65 : gv_cV RX8 65 m_X8_isFigure 1 := ⟨gb_X8_isFigure, (gv_in 712 (by decide +kernel) rfl), (gv_in 714 (by decide +kernel) rfl), (gv_in 10 (by decide +kernel) rfl)⟩
theorem gc_X8_69 : gv_cV RX8 69 m_X8_next 0 := ⟨gb_X8_next, (gv_in 708 (by decide +kernel) rfl), (gv_in 710 (by decide +kernel) rfl), (gv_in 9 (by decide +kernel) rfl)⟩
theorem gc_X8_177 : gv_cV RX8 177 m_X8_without 2 := ⟨gb_X8_without, (gv_in 901 (by decide +kernel) rfl), (gv_in 903 (by decide +kernel) rfl), (gv_in 32 (by decide +kernel) rfl)⟩
theorem gc_X8_85 : gv_cV RX8 85 m_X8_readsItem 0 := ⟨gb_X8_readsItem, (gv_in 704 (by decide +kernel) rfl), (gv_in 706 (by decide +kernel) rfl), (gv_in 8 (by decide +kernel) rfl)⟩
theorem gc_X8_131 : gv_cS RX8 131 m_X8_isDot 2 := ⟨gb_X8_isDot, (gv_in 809 (by decide +kernel) rfl), (gv_in 810 (by decide +kernel) rfl)⟩
theorem gc_X8_72 : gv_cV RX8 72 m_X8_number 3 := ⟨gb_X8_number, (gv_in 716 (by decide +kernel) rfl), (gv_in 718 (by decide +kernel) rfl), (gv_in 11 (by decide +kernel) rfl)⟩
theorem gc_X8_75 : gv_cV RX8 75 m_X8_stops 0 := ⟨gb_X8_stops, (gv_in 720 (by decide +kernel) rfl), (gv_in 722 (by decide +kernel) rfl), (gv_in 12 (by decide +kernel) rfl)⟩
theorem gc_X8_79 : gv_cV RX8 79 m_X8_readsLetter 0 := ⟨gb_X8_readsLetter, (gv_in 724 (by decide +kernel) rfl), (gv_in 726 (by decide +kernel) rfl), (gv_in 13 (by decide +kernel) rfl)⟩
theorem gc_X8_82 : gv_cV RX8 82 m_X8_readsLine 0 := ⟨gb_X8_readsLine, (gv_in 728 (by decide +kernel) rfl), (gv_in 730 (by decide +kernel) rfl), (gv_in 14 (by decide +kernel) rfl)⟩
theorem gc_X8_110 : gv_cS RX8 110 m_X8_least 1 := ⟨gb_X8_least, (gv_in 776 (by decide +kernel) rfl), (gv_in 777 (by decide +kernel) rfl)⟩
theorem gc_X8_114 : gv_cS RX8 114 m_X8_most 1 := ⟨gb_X8_most, (gv_in 779 (by decide +kernel) rfl), (gv_in 780 (by decide +kernel) rfl)⟩
theorem gc_X8_168 : gv_cV RX8 168 m_X8_dotMany 2 := ⟨gb_X8_dotMany, (gv_in 861 (by decide +kernel) rfl), (gv_in 863 (by decide +kernel) rfl), (gv_in 28 (by decide +kernel) rfl)⟩
end
section
/-! rules with places by natural numbers -/
section GQ
variable {ε : gv_E} {R : Room} {M : gv_MR} {n0 : Nat} {Z : State → List Frame → Array Value → State → Prop} {pc : Nat} {L : List (Option Value)} {st : List Value} {sw : List va_E} {cu su : Nat}
theorem gv_getstaticN {idx j : Nat} {host : String} (hd : decode M.2.1 pc = .ok (.getstatic idx, 3)) (hj : j < 3) (hw : Cond.fieldLinkNest M.1.cls idx RX7 (gv_nm j) "[I" host ∈ lw_tbl) (kk : gv_G ε R M n0 Z (pc + 3) L (.ref (1000 + j) :: st) sw cu su) : gv_G ε R M n0 Z pc L st sw cu su := by
  intro p e s m args below meth c C H locs ls I
  refine va_getsN C.1 C.2.1 (C.2.2.2.2.2.2.2.2.1.2.2.2.2.1 j hj) I.2.1 C.2.2.2.2.1 (va_Nw.use rfl (C.2.2.2.2.2.2.2.2.1.2.2.1 _ _ _ _ _ _ hw)) (fun _ h => h) hd ?_
  have := kk p e s m args below meth c C H locs ls I
  have e3 : gv_v ε (.ref (1000 + j)) = .ref (ε.2.2.2.2.1 j) := by
    show Value.ref (gv_as ε (1000 + j)) = _
    unfold gv_as
    rw [if_neg (by omega), Nat.add_sub_cancel_left]
  rw [List.map_cons, e3] at this
  exact this
theorem gv_ialoadJ {k n : Nat} {f : Nat → Int32} {i : Int32} (hd : decode M.2.1 pc = .ok (.iaload, 1)) (hk : sw[k]? = some (.inl (0, n, .inl f))) (j : Nat) (hj : j < n) (hi : i = nI j) (hn : n < 2 ^ 31) (kk : gv_G ε R M n0 Z (pc + 1) L (.int (f j) :: st) sw cu su) : gv_G ε R M n0 Z pc L (.int i :: .ref k :: st) sw cu su := by
  subst hi
  refine gv_iaload hd hk (vp_in_nI hj hn) ?_
  rw [nI_clamp (by omega)]
  exact kk
theorem gv_iastoreJ {k n : Nat} {f : Nat → Int32} {i x : Int32} (hd : decode M.2.1 pc = .ok (.iastore, 1)) (hk : sw[k]? = some (.inl (0, n, .inl f))) (j : Nat) (hj : j < n) (hi : i = nI j) (hn : n < 2 ^ 31) (kk : gv_G ε R M n0 Z (pc + 1) L st (sw.set k (.inl (0, n, .inl (upd f j x)))) cu su) : gv_G ε R M n0 Z pc L (.int x :: .int i :: .ref k :: st) sw cu su := by
  subst hi
  refine gv_iastore hd hk (vp_in_nI hj hn) ?_
  rw [nI_clamp (by omega)]
  exact kk
theorem gv_xloadJ {j : Nat} {i : Int32} (hd : decode M.2.1 pc = .ok (.iaload, 1)) (hj : j < 4) (q : Nat) (hq : q < (gv_x ε j).1) (hi : i = nI q) (hn : (gv_x ε j).1 < 2 ^ 31) (kk : gv_G ε R M n0 Z (pc + 1) L (.int ((gv_x ε j).2 q) :: st) sw cu su) : gv_G ε R M n0 Z pc L (.int i :: .ref (1000 + j) :: st) sw cu su := by
  subst hi
  refine gv_xload hd hj (vp_in_nI hq hn) ?_
  rw [nI_clamp (by omega)]
  exact kk
end GQ
theorem gv_dflt (N : Nat) (ty : Nat → FieldType) (fs : List Value) (h : (List.range N).all (fun j => decide (defaultValue (ty j) = vp_V fs j)) = true) : ∀ j, j < N → defaultValue (ty j) = vp_V fs j := fun j hj => of_decide_eq_true (List.all_eq_true.mp h j (List.mem_range.mpr hj))
end
section
section GT
variable {ε : gv_E} {R : Room} {n0 d : Nat} {Z : State → List Frame → Array Value → State → Prop} {Qs : Option Value → List va_E → Prop} {L : List (Option Value)} {st : List Value} {sw : List va_E} {cu su : Nat}
theorem t_X4_append_0 {a1 a2 : Option Value} {x : Nat} (k : gv_G ε R m_X4_append n0 Z 1 [some (.ref x), a1, a2] (.ref x :: st) sw cu su) : gv_G ε R m_X4_append n0 Z 0 [some (.ref x), a1, a2] st sw cu su := gv_aload_n (by decide +kernel : decode cX4_append 0 = .ok (.aload_n 0, 1)) rfl rfl k
theorem t_X4_append_1 {a0 a2 : Option Value} {x : Int32} (k : gv_G ε R m_X4_append n0 Z 2 [a0, some (.int x), a2] (.int x :: st) sw cu su) : gv_G ε R m_X4_append n0 Z 1 [a0, some (.int x), a2] st sw cu su := gv_iload_n (by decide +kernel : decode cX4_append 1 = .ok (.iload_n 1, 1)) rfl rfl k
theorem t_X4_append_2 {v0 : Value} {k : Nat} {fs : List Value} (hk : sw[k]? = some (.inr (4, fs))) (h8 : (st.map (fun v => v.category)).sum ≤ 8) (hS : gv_S ε d m_X4_hasLine (.ref k :: [v0]) sw (fun r sw' => gv_G ε (gv_rm (d + 1) m_X4_append) m_X4_append n0 Z 5 L (r.toList ++ st) sw' 0 0)) : gv_G ε (gv_rm (d + 1) m_X4_append) m_X4_append n0 Z 2 L (v0 :: .ref k :: st) sw 0 0 := gv_invV (As := [v0]) (d := d) (by decide +kernel : decode cX4_append 2 = .ok (.invokevirtual 46, 3)) gc_X4_46 rfl rfl hk (rfl : vwCl[4]? = some (RX4, TX4, 5)) rfl (Nat.le_refl _) (Nat.le_refl _) (Nat.le_refl _) (Nat.le_refl _) h8 hS
theorem t_X4_append_5 {x : Int32} (kt : x = 0 → gv_G ε R m_X4_append n0 Z 19 L st sw cu su) (kf : ¬ (x = 0) → gv_G ε R m_X4_append n0 Z 8 L st sw cu su) : gv_G ε R m_X4_append n0 Z 5 L (.int x :: st) sw cu su := gv_if_eq (by decide +kernel : decode cX4_append 5 = .ok (.ifCond .eq 14, 3)) (by decide +kernel) kt kf
theorem t_X4_append_8 {a1 a2 : Option Value} {x : Nat} (k : gv_G ε R m_X4_append n0 Z 9 [some (.ref x), a1, a2] (.ref x :: st) sw cu su) : gv_G ε R m_X4_append n0 Z 8 [some (.ref x), a1, a2] st sw cu su := gv_aload_n (by decide +kernel : decode cX4_append 8 = .ok (.aload_n 0, 1)) rfl rfl k
theorem t_X4_append_9 {k : Nat} {fs : List Value} {v : Value} (hk : sw[k]? = some (.inr (4, fs))) (hv : fs[2]? = some v) (kk : gv_G ε R m_X4_append n0 Z 12 L (v :: st) sw cu su) : gv_G ε R m_X4_append n0 Z 9 L (.ref k :: st) sw cu su := gv_getfield (by decide +kernel : decode cX4_append 9 = .ok (.getfield 18, 3)) gf_X4_18 hk hv kk
theorem t_X4_append_12 {a0 a2 : Option Value} {x : Int32} (k : gv_G ε R m_X4_append n0 Z 13 [a0, some (.int x), a2] (.int x :: st) sw cu su) : gv_G ε R m_X4_append n0 Z 12 [a0, some (.int x), a2] st sw cu su := gv_iload_n (by decide +kernel : decode cX4_append 12 = .ok (.iload_n 1, 1)) rfl rfl k
theorem t_X4_append_13 {k n : Nat} {f : Nat → Int32} {i : Int32} (hk : sw[k]? = some (.inl (0, n, .inl f))) (j : Nat) (hj : j < n) (hi : i = nI j) (hn : n < 2 ^ 31) (kk : gv_G ε R m_X4_append n0 Z 14 L (.int (f j) :: st) sw cu su) : gv_G ε R m_X4_append n0 Z 13 L (.int i :: .ref k :: st) sw cu su := gv_ialoadJ (by decide +kernel : decode cX4_append 13 = .ok (.iaload, 1)) hk j hj hi hn kk
theorem t_X4_append_14 (k : gv_G ε R m_X4_append n0 Z 16 L (.int 8 :: st) sw cu su) : gv_G ε R m_X4_append n0 Z 14 L (st) sw cu su := gv_bipush (by decide +kernel : decode cX4_append 14 = .ok (.bipush 8, 2)) (by decide +kernel) k
theorem t_X4_append_16 {x y : Int32} (kt : x < y → gv_G ε R m_X4_append n0 Z 21 L st sw cu su) (kf : ¬ (x < y) → gv_G ε R m_X4_append n0 Z 19 L st sw cu su) : gv_G ε R m_X4_append n0 Z 16 L (.int y :: .int x :: st) sw cu su := gv_icmp_lt (by decide +kernel : decode cX4_append 16 = .ok (.if_icmp .lt 5, 3)) (by decide +kernel) kt kf
theorem t_X4_append_19 (k : gv_G ε R m_X4_append n0 Z 20 L (.int 0 :: st) sw cu su) : gv_G ε R m_X4_append n0 Z 19 L (st) sw cu su := gv_iconst (by decide +kernel : decode cX4_append 19 = .ok (.iconst 0, 1)) (by decide +kernel) k
theorem t_X4_append_20 {v : Int32} (hn : narrow .boolean (.int v) = .int v) (hq : Qs (some (.int v)) sw) : gv_M ε d m_X4_append n0 Qs 20 L [.int v] sw 0 0 := gv_ireturn (by decide +kernel : decode cX4_append 20 = .ok (.ireturn, 1)) rfl hn rfl (Nat.zero_le _) hq
theorem t_X4_append_21 {a1 a2 : Option Value} {x : Nat} (k : gv_G ε R m_X4_append n0 Z 22 [some (.ref x), a1, a2] (.ref x :: st) sw cu su) : gv_G ε R m_X4_append n0 Z 21 [some (.ref x), a1, a2] st sw cu su := gv_aload_n (by decide +kernel : decode cX4_append 21 = .ok (.aload_n 0, 1)) rfl rfl k
theorem t_X4_append_22 {k : Nat} {fs : List Value} {v : Value} (hk : sw[k]? = some (.inr (4, fs))) (hv : fs[3]? = some v) (kk : gv_G ε R m_X4_append n0 Z 25 L (v :: st) sw cu su) : gv_G ε R m_X4_append n0 Z 22 L (.ref k :: st) sw cu su := gv_getfield (by decide +kernel : decode cX4_append 22 = .ok (.getfield 21, 3)) gf_X4_21 hk hv kk
theorem t_X4_append_25 {a0 a2 : Option Value} {x : Int32} (k : gv_G ε R m_X4_append n0 Z 26 [a0, some (.int x), a2] (.int x :: st) sw cu su) : gv_G ε R m_X4_append n0 Z 25 [a0, some (.int x), a2] st sw cu su := gv_iload_n (by decide +kernel : decode cX4_append 25 = .ok (.iload_n 1, 1)) rfl rfl k
theorem t_X4_append_26 (k : gv_G ε R m_X4_append n0 Z 28 L (.int 8 :: st) sw cu su) : gv_G ε R m_X4_append n0 Z 26 L (st) sw cu su := gv_bipush (by decide +kernel : decode cX4_append 26 = .ok (.bipush 8, 2)) (by decide +kernel) k
theorem t_X4_append_28 {x y : Int32} (k : gv_G ε R m_X4_append n0 Z 29 L (.int (x * y) :: st) sw cu su) : gv_G ε R m_X4_append n0 Z 28 L (.int y :: .int x :: st) sw cu su := gv_imul (by decide +kernel : decode cX4_append 28 = .ok (.imul, 1)) k
theorem t_X4_append_29 {a1 a2 : Option Value} {x : Nat} (k : gv_G ε R m_X4_append n0 Z 30 [some (.ref x), a1, a2] (.ref x :: st) sw cu su) : gv_G ε R m_X4_append n0 Z 29 [some (.ref x), a1, a2] st sw cu su := gv_aload_n (by decide +kernel : decode cX4_append 29 = .ok (.aload_n 0, 1)) rfl rfl k
theorem t_X4_append_30 {k : Nat} {fs : List Value} {v : Value} (hk : sw[k]? = some (.inr (4, fs))) (hv : fs[2]? = some v) (kk : gv_G ε R m_X4_append n0 Z 33 L (v :: st) sw cu su) : gv_G ε R m_X4_append n0 Z 30 L (.ref k :: st) sw cu su := gv_getfield (by decide +kernel : decode cX4_append 30 = .ok (.getfield 18, 3)) gf_X4_18 hk hv kk
theorem t_X4_append_33 {a0 a2 : Option Value} {x : Int32} (k : gv_G ε R m_X4_append n0 Z 34 [a0, some (.int x), a2] (.int x :: st) sw cu su) : gv_G ε R m_X4_append n0 Z 33 [a0, some (.int x), a2] st sw cu su := gv_iload_n (by decide +kernel : decode cX4_append 33 = .ok (.iload_n 1, 1)) rfl rfl k
theorem t_X4_append_34 {k n : Nat} {f : Nat → Int32} {i : Int32} (hk : sw[k]? = some (.inl (0, n, .inl f))) (j : Nat) (hj : j < n) (hi : i = nI j) (hn : n < 2 ^ 31) (kk : gv_G ε R m_X4_append n0 Z 35 L (.int (f j) :: st) sw cu su) : gv_G ε R m_X4_append n0 Z 34 L (.int i :: .ref k :: st) sw cu su := gv_ialoadJ (by decide +kernel : decode cX4_append 34 = .ok (.iaload, 1)) hk j hj hi hn kk
theorem t_X4_append_35 {x y : Int32} (k : gv_G ε R m_X4_append n0 Z 36 L (.int (x + y) :: st) sw cu su) : gv_G ε R m_X4_append n0 Z 35 L (.int y :: .int x :: st) sw cu su := gv_iadd (by decide +kernel : decode cX4_append 35 = .ok (.iadd, 1)) k
theorem t_X4_append_36 {a0 a1 : Option Value} {x : Int32} (k : gv_G ε R m_X4_append n0 Z 37 [a0, a1, some (.int x)] (.int x :: st) sw cu su) : gv_G ε R m_X4_append n0 Z 36 [a0, a1, some (.int x)] st sw cu su := gv_iload_n (by decide +kernel : decode cX4_append 36 = .ok (.iload_n 2, 1)) rfl rfl k
theorem t_X4_append_37 {k n : Nat} {f : Nat → Int32} {i x : Int32} (hk : sw[k]? = some (.inl (0, n, .inl f))) (j : Nat) (hj : j < n) (hi : i = nI j) (hn : n < 2 ^ 31) (kk : gv_G ε R m_X4_append n0 Z 38 L st (sw.set k (.inl (0, n, .inl (upd f j x)))) cu su) : gv_G ε R m_X4_append n0 Z 37 L (.int x :: .int i :: .ref k :: st) sw cu su := gv_iastoreJ (by decide +kernel : decode cX4_append 37 = .ok (.iastore, 1)) hk j hj hi hn kk
theorem t_X4_append_38 {a1 a2 : Option Value} {x : Nat} (k : gv_G ε R m_X4_append n0 Z 39 [some (.ref x), a1, a2] (.ref x :: st) sw cu su) : gv_G ε R m_X4_append n0 Z 38 [some (.ref x), a1, a2] st sw cu su := gv_aload_n (by decide +kernel : decode cX4_append 38 = .ok (.aload_n 0, 1)) rfl rfl k
theorem t_X4_append_39 {k : Nat} {fs : List Value} {v : Value} (hk : sw[k]? = some (.inr (4, fs))) (hv : fs[2]? = some v) (kk : gv_G ε R m_X4_append n0 Z 42 L (v :: st) sw cu su) : gv_G ε R m_X4_append n0 Z 39 L (.ref k :: st) sw cu su := gv_getfield (by decide +kernel : decode cX4_append 39 = .ok (.getfield 18, 3)) gf_X4_18 hk hv kk
theorem t_X4_append_42 {a0 a2 : Option Value} {x : Int32} (k : gv_G ε R m_X4_append n0 Z 43 [a0, some (.int x), a2] (.int x :: st) sw cu su) : gv_G ε R m_X4_append n0 Z 42 [a0, some (.int x), a2] st sw cu su := gv_iload_n (by decide +kernel : decode cX4_append 42 = .ok (.iload_n 1, 1)) rfl rfl k
theorem t_X4_append_43 {v u : Value} (h : v.category = 1) (h2 : u.category = 1) (k : gv_G ε R m_X4_append n0 Z 44 L (v :: u :: v :: u :: st) sw cu su) : gv_G ε R m_X4_append n0 Z 43 L (v :: u :: st) sw cu su := gv_dup2 (by decide +kernel : decode cX4_append 43 = .ok (.dup2, 1)) h h2 k
theorem t_X4_append_44 {k n : Nat} {f : Nat → Int32} {i : Int32} (hk : sw[k]? = some (.inl (0, n, .inl f))) (j : Nat) (hj : j < n) (hi : i = nI j) (hn : n < 2 ^ 31) (kk : gv_G ε R m_X4_append n0 Z 45 L (.int (f j) :: st) sw cu su) : gv_G ε R m_X4_append n0 Z 44 L (.int i :: .ref k :: st) sw cu su := gv_ialoadJ (by decide +kernel : decode cX4_append 44 = .ok (.iaload, 1)) hk j hj hi hn kk
theorem t_X4_append_45 (k : gv_G ε R m_X4_append n0 Z 46 L (.int 1 :: st) sw cu su) : gv_G ε R m_X4_append n0 Z 45 L (st) sw cu su := gv_iconst (by decide +kernel : decode cX4_append 45 = .ok (.iconst 1, 1)) (by decide +kernel) k
theorem t_X4_append_46 {x y : Int32} (k : gv_G ε R m_X4_append n0 Z 47 L (.int (x + y) :: st) sw cu su) : gv_G ε R m_X4_append n0 Z 46 L (.int y :: .int x :: st) sw cu su := gv_iadd (by decide +kernel : decode cX4_append 46 = .ok (.iadd, 1)) k
theorem t_X4_append_47 {k n : Nat} {f : Nat → Int32} {i x : Int32} (hk : sw[k]? = some (.inl (0, n, .inl f))) (j : Nat) (hj : j < n) (hi : i = nI j) (hn : n < 2 ^ 31) (kk : gv_G ε R m_X4_append n0 Z 48 L st (sw.set k (.inl (0, n, .inl (upd f j x)))) cu su) : gv_G ε R m_X4_append n0 Z 47 L (.int x :: .int i :: .ref k :: st) sw cu su := gv_iastoreJ (by decide +kernel : decode cX4_append 47 = .ok (.iastore, 1)) hk j hj hi hn kk
theorem t_X4_append_48 (k : gv_G ε R m_X4_append n0 Z 49 L (.int 1 :: st) sw cu su) : gv_G ε R m_X4_append n0 Z 48 L (st) sw cu su := gv_iconst (by decide +kernel : decode cX4_append 48 = .ok (.iconst 1, 1)) (by decide +kernel) k
theorem t_X4_append_49 {v : Int32} (hn : narrow .boolean (.int v) = .int v) (hq : Qs (some (.int v)) sw) : gv_M ε d m_X4_append n0 Qs 49 L [.int v] sw 0 0 := gv_ireturn (by decide +kernel : decode cX4_append 49 = .ok (.ireturn, 1)) rfl hn rfl (Nat.zero_le _) hq
theorem t_X4_become_0 {a0 : Option Value} {x : Nat} (k : gv_G ε R m_X4_become n0 Z 1 [a0, some (.ref x)] (.ref x :: st) sw cu su) : gv_G ε R m_X4_become n0 Z 0 [a0, some (.ref x)] st sw cu su := gv_aload_n (by decide +kernel : decode cX4_become 0 = .ok (.aload_n 1, 1)) rfl rfl k
theorem t_X4_become_1 {k : Nat} {fs : List Value} {v : Value} (hk : sw[k]? = some (.inr (4, fs))) (hv : fs[0]? = some v) (kk : gv_G ε R m_X4_become n0 Z 4 L (v :: st) sw cu su) : gv_G ε R m_X4_become n0 Z 1 L (.ref k :: st) sw cu su := gv_getfield (by decide +kernel : decode cX4_become 1 = .ok (.getfield 9, 3)) gf_X4_9 hk hv kk
theorem t_X4_become_4 (k : gv_G ε R m_X4_become n0 Z 5 L (.int 0 :: st) sw cu su) : gv_G ε R m_X4_become n0 Z 4 L (st) sw cu su := gv_iconst (by decide +kernel : decode cX4_become 4 = .ok (.iconst 0, 1)) (by decide +kernel) k
theorem t_X4_become_5 {a1 : Option Value} {x : Nat} (k : gv_G ε R m_X4_become n0 Z 6 [some (.ref x), a1] (.ref x :: st) sw cu su) : gv_G ε R m_X4_become n0 Z 5 [some (.ref x), a1] st sw cu su := gv_aload_n (by decide +kernel : decode cX4_become 5 = .ok (.aload_n 0, 1)) rfl rfl k
theorem t_X4_become_6 {k : Nat} {fs : List Value} {v : Value} (hk : sw[k]? = some (.inr (4, fs))) (hv : fs[0]? = some v) (kk : gv_G ε R m_X4_become n0 Z 9 L (v :: st) sw cu su) : gv_G ε R m_X4_become n0 Z 6 L (.ref k :: st) sw cu su := gv_getfield (by decide +kernel : decode cX4_become 6 = .ok (.getfield 9, 3)) gf_X4_9 hk hv kk
theorem t_X4_become_9 (k : gv_G ε R m_X4_become n0 Z 10 L (.int 0 :: st) sw cu su) : gv_G ε R m_X4_become n0 Z 9 L (st) sw cu su := gv_iconst (by decide +kernel : decode cX4_become 9 = .ok (.iconst 0, 1)) (by decide +kernel) k
theorem t_X4_become_10 (k : gv_G ε R m_X4_become n0 Z 11 L (.int 3 :: st) sw cu su) : gv_G ε R m_X4_become n0 Z 10 L (st) sw cu su := gv_iconst (by decide +kernel : decode cX4_become 10 = .ok (.iconst 3, 1)) (by decide +kernel) k
theorem t_X4_become_11 {k0 k1 m0 m1 : Nat} {f g : Nat → Int32} {sp dp n : Int32} (h0 : sw[k0]? = some (.inl (0, m0, .inl f))) (h1 : sw[k1]? = some (.inl (0, m1, .inl g))) (q1 : ¬ sp < 0) (q2 : ¬ dp < 0) (q3 : ¬ n < 0) (q4 : sp.toNatClampNeg + n.toNatClampNeg ≤ m0) (q5 : dp.toNatClampNeg + n.toNatClampNeg ≤ m1) (hR : 1 ≤ R.frames ∧ 41 ≤ R.locals) (h8 : (st.map (fun v => v.category)).sum ≤ 8) (kk : gv_G ε R m_X4_become n0 Z 14 L st (sw.set k1 (.inl (0, m1, .inl (va_cpy f g sp.toNatClampNeg dp.toNatClampNeg n.toNatClampNeg)))) cu su) : gv_G ε R m_X4_become n0 Z 11 L (.int n :: .int dp :: .ref k1 :: .int sp :: .ref k0 :: st) sw cu su := gv_arraycopy (by decide +kernel : decode cX4_become 11 = .ok (.invokestatic 40, 3)) gc_X4_40 h0 h1 q1 q2 q3 q4 q5 hR h8 kk
theorem t_X4_become_14 {a0 : Option Value} {x : Nat} (k : gv_G ε R m_X4_become n0 Z 15 [a0, some (.ref x)] (.ref x :: st) sw cu su) : gv_G ε R m_X4_become n0 Z 14 [a0, some (.ref x)] st sw cu su := gv_aload_n (by decide +kernel : decode cX4_become 14 = .ok (.aload_n 1, 1)) rfl rfl k
theorem t_X4_become_15 {k : Nat} {fs : List Value} {v : Value} (hk : sw[k]? = some (.inr (4, fs))) (hv : fs[1]? = some v) (kk : gv_G ε R m_X4_become n0 Z 18 L (v :: st) sw cu su) : gv_G ε R m_X4_become n0 Z 15 L (.ref k :: st) sw cu su := gv_getfield (by decide +kernel : decode cX4_become 15 = .ok (.getfield 15, 3)) gf_X4_15 hk hv kk
theorem t_X4_become_18 (k : gv_G ε R m_X4_become n0 Z 19 L (.int 0 :: st) sw cu su) : gv_G ε R m_X4_become n0 Z 18 L (st) sw cu su := gv_iconst (by decide +kernel : decode cX4_become 18 = .ok (.iconst 0, 1)) (by decide +kernel) k
theorem t_X4_become_19 {a1 : Option Value} {x : Nat} (k : gv_G ε R m_X4_become n0 Z 20 [some (.ref x), a1] (.ref x :: st) sw cu su) : gv_G ε R m_X4_become n0 Z 19 [some (.ref x), a1] st sw cu su := gv_aload_n (by decide +kernel : decode cX4_become 19 = .ok (.aload_n 0, 1)) rfl rfl k
theorem t_X4_become_20 {k : Nat} {fs : List Value} {v : Value} (hk : sw[k]? = some (.inr (4, fs))) (hv : fs[1]? = some v) (kk : gv_G ε R m_X4_become n0 Z 23 L (v :: st) sw cu su) : gv_G ε R m_X4_become n0 Z 20 L (.ref k :: st) sw cu su := gv_getfield (by decide +kernel : decode cX4_become 20 = .ok (.getfield 15, 3)) gf_X4_15 hk hv kk
theorem t_X4_become_23 (k : gv_G ε R m_X4_become n0 Z 24 L (.int 0 :: st) sw cu su) : gv_G ε R m_X4_become n0 Z 23 L (st) sw cu su := gv_iconst (by decide +kernel : decode cX4_become 23 = .ok (.iconst 0, 1)) (by decide +kernel) k
theorem t_X4_become_24 (k : gv_G ε R m_X4_become n0 Z 26 L (.int 18 :: st) sw cu su) : gv_G ε R m_X4_become n0 Z 24 L (st) sw cu su := gv_bipush (by decide +kernel : decode cX4_become 24 = .ok (.bipush 18, 2)) (by decide +kernel) k
theorem t_X4_become_26 {k0 k1 m0 m1 : Nat} {f g : Nat → Int32} {sp dp n : Int32} (h0 : sw[k0]? = some (.inl (0, m0, .inl f))) (h1 : sw[k1]? = some (.inl (0, m1, .inl g))) (q1 : ¬ sp < 0) (q2 : ¬ dp < 0) (q3 : ¬ n < 0) (q4 : sp.toNatClampNeg + n.toNatClampNeg ≤ m0) (q5 : dp.toNatClampNeg + n.toNatClampNeg ≤ m1) (hR : 1 ≤ R.frames ∧ 41 ≤ R.locals) (h8 : (st.map (fun v => v.category)).sum ≤ 8) (kk : gv_G ε R m_X4_become n0 Z 29 L st (sw.set k1 (.inl (0, m1, .inl (va_cpy f g sp.toNatClampNeg dp.toNatClampNeg n.toNatClampNeg)))) cu su) : gv_G ε R m_X4_become n0 Z 26 L (.int n :: .int dp :: .ref k1 :: .int sp :: .ref k0 :: st) sw cu su := gv_arraycopy (by decide +kernel : decode cX4_become 26 = .ok (.invokestatic 40, 3)) gc_X4_40 h0 h1 q1 q2 q3 q4 q5 hR h8 kk
theorem t_X4_become_29 {a0 : Option Value} {x : Nat} (k : gv_G ε R m_X4_become n0 Z 30 [a0, some (.ref x)] (.ref x :: st) sw cu su) : gv_G ε R m_X4_become n0 Z 29 [a0, some (.ref x)] st sw cu su := gv_aload_n (by decide +kernel : decode cX4_become 29 = .ok (.aload_n 1, 1)) rfl rfl k
theorem t_X4_become_30 {k : Nat} {fs : List Value} {v : Value} (hk : sw[k]? = some (.inr (4, fs))) (hv : fs[2]? = some v) (kk : gv_G ε R m_X4_become n0 Z 33 L (v :: st) sw cu su) : gv_G ε R m_X4_become n0 Z 30 L (.ref k :: st) sw cu su := gv_getfield (by decide +kernel : decode cX4_become 30 = .ok (.getfield 18, 3)) gf_X4_18 hk hv kk
theorem t_X4_become_33 (k : gv_G ε R m_X4_become n0 Z 34 L (.int 0 :: st) sw cu su) : gv_G ε R m_X4_become n0 Z 33 L (st) sw cu su := gv_iconst (by decide +kernel : decode cX4_become 33 = .ok (.iconst 0, 1)) (by decide +kernel) k
theorem t_X4_become_34 {a1 : Option Value} {x : Nat} (k : gv_G ε R m_X4_become n0 Z 35 [some (.ref x), a1] (.ref x :: st) sw cu su) : gv_G ε R m_X4_become n0 Z 34 [some (.ref x), a1] st sw cu su := gv_aload_n (by decide +kernel : decode cX4_become 34 = .ok (.aload_n 0, 1)) rfl rfl k
theorem t_X4_become_35 {k : Nat} {fs : List Value} {v : Value} (hk : sw[k]? = some (.inr (4, fs))) (hv : fs[2]? = some v) (kk : gv_G ε R m_X4_become n0 Z 38 L (v :: st) sw cu su) : gv_G ε R m_X4_become n0 Z 35 L (.ref k :: st) sw cu su := gv_getfield (by decide +kernel : decode cX4_become 35 = .ok (.getfield 18, 3)) gf_X4_18 hk hv kk
theorem t_X4_become_38 (k : gv_G ε R m_X4_become n0 Z 39 L (.int 0 :: st) sw cu su) : gv_G ε R m_X4_become n0 Z 38 L (st) sw cu su := gv_iconst (by decide +kernel : decode cX4_become 38 = .ok (.iconst 0, 1)) (by decide +kernel) k
theorem t_X4_become_39 (k : gv_G ε R m_X4_become n0 Z 40 L (.int 4 :: st) sw cu su) : gv_G ε R m_X4_become n0 Z 39 L (st) sw cu su := gv_iconst (by decide +kernel : decode cX4_become 39 = .ok (.iconst 4, 1)) (by decide +kernel) k
theorem t_X4_become_40 {k0 k1 m0 m1 : Nat} {f g : Nat → Int32} {sp dp n : Int32} (h0 : sw[k0]? = some (.inl (0, m0, .inl f))) (h1 : sw[k1]? = some (.inl (0, m1, .inl g))) (q1 : ¬ sp < 0) (q2 : ¬ dp < 0) (q3 : ¬ n < 0) (q4 : sp.toNatClampNeg + n.toNatClampNeg ≤ m0) (q5 : dp.toNatClampNeg + n.toNatClampNeg ≤ m1) (hR : 1 ≤ R.frames ∧ 41 ≤ R.locals) (h8 : (st.map (fun v => v.category)).sum ≤ 8) (kk : gv_G ε R m_X4_become n0 Z 43 L st (sw.set k1 (.inl (0, m1, .inl (va_cpy f g sp.toNatClampNeg dp.toNatClampNeg n.toNatClampNeg)))) cu su) : gv_G ε R m_X4_become n0 Z 40 L (.int n :: .int dp :: .ref k1 :: .int sp :: .ref k0 :: st) sw cu su := gv_arraycopy (by decide +kernel : decode cX4_become 40 = .ok (.invokestatic 40, 3)) gc_X4_40 h0 h1 q1 q2 q3 q4 q5 hR h8 kk
theorem t_X4_become_43 {a0 : Option Value} {x : Nat} (k : gv_G ε R m_X4_become n0 Z 44 [a0, some (.ref x)] (.ref x :: st) sw cu su) : gv_G ε R m_X4_become n0 Z 43 [a0, some (.ref x)] st sw cu su := gv_aload_n (by decide +kernel : decode cX4_become 43 = .ok (.aload_n 1, 1)) rfl rfl k
theorem t_X4_become_44 {k : Nat} {fs : List Value} {v : Value} (hk : sw[k]? = some (.inr (4, fs))) (hv : fs[3]? = some v) (kk : gv_G ε R m_X4_become n0 Z 47 L (v :: st) sw cu su) : gv_G ε R m_X4_become n0 Z 44 L (.ref k :: st) sw cu su := gv_getfield (by decide +kernel : decode cX4_become 44 = .ok (.getfield 21, 3)) gf_X4_21 hk hv kk
theorem t_X4_become_47 (k : gv_G ε R m_X4_become n0 Z 48 L (.int 0 :: st) sw cu su) : gv_G ε R m_X4_become n0 Z 47 L (st) sw cu su := gv_iconst (by decide +kernel : decode cX4_become 47 = .ok (.iconst 0, 1)) (by decide +kernel) k
theorem t_X4_become_48 {a1 : Option Value} {x : Nat} (k : gv_G ε R m_X4_become n0 Z 49 [some (.ref x), a1] (.ref x :: st) sw cu su) : gv_G ε R m_X4_become n0 Z 48 [some (.ref x), a1] st sw cu su := gv_aload_n (by decide +kernel : decode cX4_become 48 = .ok (.aload_n 0, 1)) rfl rfl k
theorem t_X4_become_49 {k : Nat} {fs : List Value} {v : Value} (hk : sw[k]? = some (.inr (4, fs))) (hv : fs[3]? = some v) (kk : gv_G ε R m_X4_become n0 Z 52 L (v :: st) sw cu su) : gv_G ε R m_X4_become n0 Z 49 L (.ref k :: st) sw cu su := gv_getfield (by decide +kernel : decode cX4_become 49 = .ok (.getfield 21, 3)) gf_X4_21 hk hv kk
theorem t_X4_become_52 (k : gv_G ε R m_X4_become n0 Z 53 L (.int 0 :: st) sw cu su) : gv_G ε R m_X4_become n0 Z 52 L (st) sw cu su := gv_iconst (by decide +kernel : decode cX4_become 52 = .ok (.iconst 0, 1)) (by decide +kernel) k
theorem t_X4_become_53 (k : gv_G ε R m_X4_become n0 Z 55 L (.int 32 :: st) sw cu su) : gv_G ε R m_X4_become n0 Z 53 L (st) sw cu su := gv_bipush (by decide +kernel : decode cX4_become 53 = .ok (.bipush 32, 2)) (by decide +kernel) k
theorem t_X4_become_55 {k0 k1 m0 m1 : Nat} {f g : Nat → Int32} {sp dp n : Int32} (h0 : sw[k0]? = some (.inl (0, m0, .inl f))) (h1 : sw[k1]? = some (.inl (0, m1, .inl g))) (q1 : ¬ sp < 0) (q2 : ¬ dp < 0) (q3 : ¬ n < 0) (q4 : sp.toNatClampNeg + n.toNatClampNeg ≤ m0) (q5 : dp.toNatClampNeg + n.toNatClampNeg ≤ m1) (hR : 1 ≤ R.frames ∧ 41 ≤ R.locals) (h8 : (st.map (fun v => v.category)).sum ≤ 8) (kk : gv_G ε R m_X4_become n0 Z 58 L st (sw.set k1 (.inl (0, m1, .inl (va_cpy f g sp.toNatClampNeg dp.toNatClampNeg n.toNatClampNeg)))) cu su) : gv_G ε R m_X4_become n0 Z 55 L (.int n :: .int dp :: .ref k1 :: .int sp :: .ref k0 :: st) sw cu su := gv_arraycopy (by decide +kernel : decode cX4_become 55 = .ok (.invokestatic 40, 3)) gc_X4_40 h0 h1 q1 q2 q3 q4 q5 hR h8 kk
theorem t_X4_become_58 {a1 : Option Value} {x : Nat} (k : gv_G ε R m_X4_become n0 Z 59 [some (.ref x), a1] (.ref x :: st) sw cu su) : gv_G ε R m_X4_become n0 Z 58 [some (.ref x), a1] st sw cu su := gv_aload_n (by decide +kernel : decode cX4_become 58 = .ok (.aload_n 0, 1)) rfl rfl k
theorem t_X4_become_59 {a0 : Option Value} {x : Nat} (k : gv_G ε R m_X4_become n0 Z 60 [a0, some (.ref x)] (.ref x :: st) sw cu su) : gv_G ε R m_X4_become n0 Z 59 [a0, some (.ref x)] st sw cu su := gv_aload_n (by decide +kernel : decode cX4_become 59 = .ok (.aload_n 1, 1)) rfl rfl k
theorem t_X4_become_60 {k : Nat} {fs : List Value} {v : Value} (hk : sw[k]? = some (.inr (4, fs))) (hv : fs[4]? = some v) (kk : gv_G ε R m_X4_become n0 Z 63 L (v :: st) sw cu su) : gv_G ε R m_X4_become n0 Z 60 L (.ref k :: st) sw cu su := gv_getfield (by decide +kernel : decode cX4_become 60 = .ok (.getfield 36, 3)) gf_X4_36 hk hv kk
theorem t_X4_become_63 {k : Nat} {fs : List Value} {x : Int32} (hk : sw[k]? = some (.inr (4, fs))) (hv : fs.length = 5) (kk : gv_G ε R m_X4_become n0 Z 66 L st (sw.set k (.inr (4, fs.set 4 (.int x)))) cu su) : gv_G ε R m_X4_become n0 Z 63 L (.int x :: .ref k :: st) sw cu su := gv_putfield (by decide +kernel : decode cX4_become 63 = .ok (.putfield 36, 3)) (gp_X4_36 rfl rfl (Or.inl rfl)) (Or.inl ⟨_, _, _, rfl, rfl⟩) hk (by rw [hv]; decide) kk
theorem t_X4_become_66 (hs : su ≤ 0) (hq : Qs none sw) : gv_M ε d m_X4_become n0 Qs 66 L [] sw 0 su := gv_return (by decide +kernel : decode cX4_become 66 = .ok (.return_, 1)) rfl rfl hs hq
theorem t_X4_begin_0 {x : Nat} (k : gv_G ε R m_X4_begin n0 Z 1 [some (.ref x)] (.ref x :: st) sw cu su) : gv_G ε R m_X4_begin n0 Z 0 [some (.ref x)] st sw cu su := gv_aload_n (by decide +kernel : decode cX4_begin 0 = .ok (.aload_n 0, 1)) rfl rfl k
theorem t_X4_begin_1 {k : Nat} {fs : List Value} {v : Value} (hk : sw[k]? = some (.inr (4, fs))) (hv : fs[4]? = some v) (kk : gv_G ε R m_X4_begin n0 Z 4 L (v :: st) sw cu su) : gv_G ε R m_X4_begin n0 Z 1 L (.ref k :: st) sw cu su := gv_getfield (by decide +kernel : decode cX4_begin 1 = .ok (.getfield 36, 3)) gf_X4_36 hk hv kk
theorem t_X4_begin_4 (k : gv_G ε R m_X4_begin n0 Z 5 L (.int 4 :: st) sw cu su) : gv_G ε R m_X4_begin n0 Z 4 L (st) sw cu su := gv_iconst (by decide +kernel : decode cX4_begin 4 = .ok (.iconst 4, 1)) (by decide +kernel) k
theorem t_X4_begin_5 {x y : Int32} (kt : x < y → gv_G ε R m_X4_begin n0 Z 10 L st sw cu su) (kf : ¬ (x < y) → gv_G ε R m_X4_begin n0 Z 8 L st sw cu su) : gv_G ε R m_X4_begin n0 Z 5 L (.int y :: .int x :: st) sw cu su := gv_icmp_lt (by decide +kernel : decode cX4_begin 5 = .ok (.if_icmp .lt 5, 3)) (by decide +kernel) kt kf
theorem t_X4_begin_8 (k : gv_G ε R m_X4_begin n0 Z 9 L (.int 0 :: st) sw cu su) : gv_G ε R m_X4_begin n0 Z 8 L (st) sw cu su := gv_iconst (by decide +kernel : decode cX4_begin 8 = .ok (.iconst 0, 1)) (by decide +kernel) k
theorem t_X4_begin_9 {v : Int32} (hn : narrow .boolean (.int v) = .int v) (hq : Qs (some (.int v)) sw) : gv_M ε d m_X4_begin n0 Qs 9 L [.int v] sw 0 0 := gv_ireturn (by decide +kernel : decode cX4_begin 9 = .ok (.ireturn, 1)) rfl hn rfl (Nat.zero_le _) hq
theorem t_X4_begin_10 {x : Nat} (k : gv_G ε R m_X4_begin n0 Z 11 [some (.ref x)] (.ref x :: st) sw cu su) : gv_G ε R m_X4_begin n0 Z 10 [some (.ref x)] st sw cu su := gv_aload_n (by decide +kernel : decode cX4_begin 10 = .ok (.aload_n 0, 1)) rfl rfl k
theorem t_X4_begin_11 {k : Nat} {fs : List Value} {v : Value} (hk : sw[k]? = some (.inr (4, fs))) (hv : fs[2]? = some v) (kk : gv_G ε R m_X4_begin n0 Z 14 L (v :: st) sw cu su) : gv_G ε R m_X4_begin n0 Z 11 L (.ref k :: st) sw cu su := gv_getfield (by decide +kernel : decode cX4_begin 11 = .ok (.getfield 18, 3)) gf_X4_18 hk hv kk
theorem t_X4_begin_14 {x : Nat} (k : gv_G ε R m_X4_begin n0 Z 15 [some (.ref x)] (.ref x :: st) sw cu su) : gv_G ε R m_X4_begin n0 Z 14 [some (.ref x)] st sw cu su := gv_aload_n (by decide +kernel : decode cX4_begin 14 = .ok (.aload_n 0, 1)) rfl rfl k
theorem t_X4_begin_15 {k : Nat} {fs : List Value} {v : Value} (hk : sw[k]? = some (.inr (4, fs))) (hv : fs[4]? = some v) (kk : gv_G ε R m_X4_begin n0 Z 18 L (v :: st) sw cu su) : gv_G ε R m_X4_begin n0 Z 15 L (.ref k :: st) sw cu su := gv_getfield (by decide +kernel : decode cX4_begin 15 = .ok (.getfield 36, 3)) gf_X4_36 hk hv kk
theorem t_X4_begin_18 (k : gv_G ε R m_X4_begin n0 Z 19 L (.int 0 :: st) sw cu su) : gv_G ε R m_X4_begin n0 Z 18 L (st) sw cu su := gv_iconst (by decide +kernel : decode cX4_begin 18 = .ok (.iconst 0, 1)) (by decide +kernel) k
theorem t_X4_begin_19 {k n : Nat} {f : Nat → Int32} {i x : Int32} (hk : sw[k]? = some (.inl (0, n, .inl f))) (j : Nat) (hj : j < n) (hi : i = nI j) (hn : n < 2 ^ 31) (kk : gv_G ε R m_X4_begin n0 Z 20 L st (sw.set k (.inl (0, n, .inl (upd f j x)))) cu su) : gv_G ε R m_X4_begin n0 Z 19 L (.int x :: .int i :: .ref k :: st) sw cu su := gv_iastoreJ (by decide +kernel : decode cX4_begin 19 = .ok (.iastore, 1)) hk j hj hi hn kk
theorem t_X4_begin_20 {x : Nat} (k : gv_G ε R m_X4_begin n0 Z 21 [some (.ref x)] (.ref x :: st) sw cu su) : gv_G ε R m_X4_begin n0 Z 20 [some (.ref x)] st sw cu su := gv_aload_n (by decide +kernel : decode cX4_begin 20 = .ok (.aload_n 0, 1)) rfl rfl k
theorem t_X4_begin_21 {v : Value} (h : v.category = 1) (k : gv_G ε R m_X4_begin n0 Z 22 L (v :: v :: st) sw cu su) : gv_G ε R m_X4_begin n0 Z 21 L (v :: st) sw cu su := gv_dup (by decide +kernel : decode cX4_begin 21 = .ok (.dup, 1)) h k
theorem t_X4_begin_22 {k : Nat} {fs : List Value} {v : Value} (hk : sw[k]? = some (.inr (4, fs))) (hv : fs[4]? = some v) (kk : gv_G ε R m_X4_begin n0 Z 25 L (v :: st) sw cu su) : gv_G ε R m_X4_begin n0 Z 22 L (.ref k :: st) sw cu su := gv_getfield (by decide +kernel : decode cX4_begin 22 = .ok (.getfield 36, 3)) gf_X4_36 hk hv kk
theorem t_X4_begin_25 (k : gv_G ε R m_X4_begin n0 Z 26 L (.int 1 :: st) sw cu su) : gv_G ε R m_X4_begin n0 Z 25 L (st) sw cu su := gv_iconst (by decide +kernel : decode cX4_begin 25 = .ok (.iconst 1, 1)) (by decide +kernel) k
theorem t_X4_begin_26 {x y : Int32} (k : gv_G ε R m_X4_begin n0 Z 27 L (.int (x + y) :: st) sw cu su) : gv_G ε R m_X4_begin n0 Z 26 L (.int y :: .int x :: st) sw cu su := gv_iadd (by decide +kernel : decode cX4_begin 26 = .ok (.iadd, 1)) k
theorem t_X4_begin_27 {k : Nat} {fs : List Value} {x : Int32} (hk : sw[k]? = some (.inr (4, fs))) (hv : fs.length = 5) (kk : gv_G ε R m_X4_begin n0 Z 30 L st (sw.set k (.inr (4, fs.set 4 (.int x)))) cu su) : gv_G ε R m_X4_begin n0 Z 27 L (.int x :: .ref k :: st) sw cu su := gv_putfield (by decide +kernel : decode cX4_begin 27 = .ok (.putfield 36, 3)) (gp_X4_36 rfl rfl (Or.inl rfl)) (Or.inl ⟨_, _, _, rfl, rfl⟩) hk (by rw [hv]; decide) kk
theorem t_X4_begin_30 (k : gv_G ε R m_X4_begin n0 Z 31 L (.int 1 :: st) sw cu su) : gv_G ε R m_X4_begin n0 Z 30 L (st) sw cu su := gv_iconst (by decide +kernel : decode cX4_begin 30 = .ok (.iconst 1, 1)) (by decide +kernel) k
theorem t_X4_begin_31 {v : Int32} (hn : narrow .boolean (.int v) = .int v) (hq : Qs (some (.int v)) sw) : gv_M ε d m_X4_begin n0 Qs 31 L [.int v] sw 0 0 := gv_ireturn (by decide +kernel : decode cX4_begin 31 = .ok (.ireturn, 1)) rfl hn rfl (Nat.zero_le _) hq
theorem t_X4_chop_0 {a1 : Option Value} {x : Nat} (k : gv_G ε R m_X4_chop n0 Z 1 [some (.ref x), a1] (.ref x :: st) sw cu su) : gv_G ε R m_X4_chop n0 Z 0 [some (.ref x), a1] st sw cu su := gv_aload_n (by decide +kernel : decode cX4_chop 0 = .ok (.aload_n 0, 1)) rfl rfl k
theorem t_X4_chop_1 {a0 : Option Value} {x : Int32} (k : gv_G ε R m_X4_chop n0 Z 2 [a0, some (.int x)] (.int x :: st) sw cu su) : gv_G ε R m_X4_chop n0 Z 1 [a0, some (.int x)] st sw cu su := gv_iload_n (by decide +kernel : decode cX4_chop 1 = .ok (.iload_n 1, 1)) rfl rfl k
theorem t_X4_chop_2 {v0 : Value} {k : Nat} {fs : List Value} (hk : sw[k]? = some (.inr (4, fs))) (h8 : (st.map (fun v => v.category)).sum ≤ 8) (hS : gv_S ε d m_X4_hasLine (.ref k :: [v0]) sw (fun r sw' => gv_G ε (gv_rm (d + 1) m_X4_chop) m_X4_chop n0 Z 5 L (r.toList ++ st) sw' 0 0)) : gv_G ε (gv_rm (d + 1) m_X4_chop) m_X4_chop n0 Z 2 L (v0 :: .ref k :: st) sw 0 0 := gv_invV (As := [v0]) (d := d) (by decide +kernel : decode cX4_chop 2 = .ok (.invokevirtual 46, 3)) gc_X4_46 rfl rfl hk (rfl : vwCl[4]? = some (RX4, TX4, 5)) rfl (Nat.le_refl _) (Nat.le_refl _) (Nat.le_refl _) (Nat.le_refl _) h8 hS
theorem t_X4_chop_5 {x : Int32} (kt : x = 0 → gv_G ε R m_X4_chop n0 Z 17 L st sw cu su) (kf : ¬ (x = 0) → gv_G ε R m_X4_chop n0 Z 8 L st sw cu su) : gv_G ε R m_X4_chop n0 Z 5 L (.int x :: st) sw cu su := gv_if_eq (by decide +kernel : decode cX4_chop 5 = .ok (.ifCond .eq 12, 3)) (by decide +kernel) kt kf
theorem t_X4_chop_8 {a1 : Option Value} {x : Nat} (k : gv_G ε R m_X4_chop n0 Z 9 [some (.ref x), a1] (.ref x :: st) sw cu su) : gv_G ε R m_X4_chop n0 Z 8 [some (.ref x), a1] st sw cu su := gv_aload_n (by decide +kernel : decode cX4_chop 8 = .ok (.aload_n 0, 1)) rfl rfl k
theorem t_X4_chop_9 {k : Nat} {fs : List Value} {v : Value} (hk : sw[k]? = some (.inr (4, fs))) (hv : fs[2]? = some v) (kk : gv_G ε R m_X4_chop n0 Z 12 L (v :: st) sw cu su) : gv_G ε R m_X4_chop n0 Z 9 L (.ref k :: st) sw cu su := gv_getfield (by decide +kernel : decode cX4_chop 9 = .ok (.getfield 18, 3)) gf_X4_18 hk hv kk
theorem t_X4_chop_12 {a0 : Option Value} {x : Int32} (k : gv_G ε R m_X4_chop n0 Z 13 [a0, some (.int x)] (.int x :: st) sw cu su) : gv_G ε R m_X4_chop n0 Z 12 [a0, some (.int x)] st sw cu su := gv_iload_n (by decide +kernel : decode cX4_chop 12 = .ok (.iload_n 1, 1)) rfl rfl k
theorem t_X4_chop_13 {k n : Nat} {f : Nat → Int32} {i : Int32} (hk : sw[k]? = some (.inl (0, n, .inl f))) (j : Nat) (hj : j < n) (hi : i = nI j) (hn : n < 2 ^ 31) (kk : gv_G ε R m_X4_chop n0 Z 14 L (.int (f j) :: st) sw cu su) : gv_G ε R m_X4_chop n0 Z 13 L (.int i :: .ref k :: st) sw cu su := gv_ialoadJ (by decide +kernel : decode cX4_chop 13 = .ok (.iaload, 1)) hk j hj hi hn kk
theorem t_X4_chop_14 {x : Int32} (kt : 0 < x → gv_G ε R m_X4_chop n0 Z 20 L st sw cu su) (kf : ¬ (0 < x) → gv_G ε R m_X4_chop n0 Z 17 L st sw cu su) : gv_G ε R m_X4_chop n0 Z 14 L (.int x :: st) sw cu su := gv_if_gt (by decide +kernel : decode cX4_chop 14 = .ok (.ifCond .gt 6, 3)) (by decide +kernel) kt kf
theorem t_X4_chop_17 (k : gv_G ε R m_X4_chop n0 Z 19 L (.int (-9) :: st) sw cu su) : gv_G ε R m_X4_chop n0 Z 17 L (st) sw cu su := gv_bipush (by decide +kernel : decode cX4_chop 17 = .ok (.bipush (-9), 2)) (by decide +kernel) k
theorem t_X4_chop_19 {v : Int32} (hq : Qs (some (.int v)) sw) : gv_M ε d m_X4_chop n0 Qs 19 L [.int v] sw 0 0 := gv_ireturn (by decide +kernel : decode cX4_chop 19 = .ok (.ireturn, 1)) rfl rfl rfl (Nat.zero_le _) hq
theorem t_X4_chop_20 {a1 : Option Value} {x : Nat} (k : gv_G ε R m_X4_chop n0 Z 21 [some (.ref x), a1] (.ref x :: st) sw cu su) : gv_G ε R m_X4_chop n0 Z 20 [some (.ref x), a1] st sw cu su := gv_aload_n (by decide +kernel : decode cX4_chop 20 = .ok (.aload_n 0, 1)) rfl rfl k
theorem t_X4_chop_21 {k : Nat} {fs : List Value} {v : Value} (hk : sw[k]? = some (.inr (4, fs))) (hv : fs[2]? = some v) (kk : gv_G ε R m_X4_chop n0 Z 24 L (v :: st) sw cu su) : gv_G ε R m_X4_chop n0 Z 21 L (.ref k :: st) sw cu su := gv_getfield (by decide +kernel : decode cX4_chop 21 = .ok (.getfield 18, 3)) gf_X4_18 hk hv kk
theorem t_X4_chop_24 {a0 : Option Value} {x : Int32} (k : gv_G ε R m_X4_chop n0 Z 25 [a0, some (.int x)] (.int x :: st) sw cu su) : gv_G ε R m_X4_chop n0 Z 24 [a0, some (.int x)] st sw cu su := gv_iload_n (by decide +kernel : decode cX4_chop 24 = .ok (.iload_n 1, 1)) rfl rfl k
theorem t_X4_chop_25 {v u : Value} (h : v.category = 1) (h2 : u.category = 1) (k : gv_G ε R m_X4_chop n0 Z 26 L (v :: u :: v :: u :: st) sw cu su) : gv_G ε R m_X4_chop n0 Z 25 L (v :: u :: st) sw cu su := gv_dup2 (by decide +kernel : decode cX4_chop 25 = .ok (.dup2, 1)) h h2 k
theorem t_X4_chop_26 {k n : Nat} {f : Nat → Int32} {i : Int32} (hk : sw[k]? = some (.inl (0, n, .inl f))) (j : Nat) (hj : j < n) (hi : i = nI j) (hn : n < 2 ^ 31) (kk : gv_G ε R m_X4_chop n0 Z 27 L (.int (f j) :: st) sw cu su) : gv_G ε R m_X4_chop n0 Z 26 L (.int i :: .ref k :: st) sw cu su := gv_ialoadJ (by decide +kernel : decode cX4_chop 26 = .ok (.iaload, 1)) hk j hj hi hn kk
theorem t_X4_chop_27 (k : gv_G ε R m_X4_chop n0 Z 28 L (.int 1 :: st) sw cu su) : gv_G ε R m_X4_chop n0 Z 27 L (st) sw cu su := gv_iconst (by decide +kernel : decode cX4_chop 27 = .ok (.iconst 1, 1)) (by decide +kernel) k
theorem t_X4_chop_28 {x y : Int32} (k : gv_G ε R m_X4_chop n0 Z 29 L (.int (x - y) :: st) sw cu su) : gv_G ε R m_X4_chop n0 Z 28 L (.int y :: .int x :: st) sw cu su := gv_isub (by decide +kernel : decode cX4_chop 28 = .ok (.isub, 1)) k
theorem t_X4_chop_29 {k n : Nat} {f : Nat → Int32} {i x : Int32} (hk : sw[k]? = some (.inl (0, n, .inl f))) (j : Nat) (hj : j < n) (hi : i = nI j) (hn : n < 2 ^ 31) (kk : gv_G ε R m_X4_chop n0 Z 30 L st (sw.set k (.inl (0, n, .inl (upd f j x)))) cu su) : gv_G ε R m_X4_chop n0 Z 29 L (.int x :: .int i :: .ref k :: st) sw cu su := gv_iastoreJ (by decide +kernel : decode cX4_chop 29 = .ok (.iastore, 1)) hk j hj hi hn kk
theorem t_X4_chop_30 {a1 : Option Value} {x : Nat} (k : gv_G ε R m_X4_chop n0 Z 31 [some (.ref x), a1] (.ref x :: st) sw cu su) : gv_G ε R m_X4_chop n0 Z 30 [some (.ref x), a1] st sw cu su := gv_aload_n (by decide +kernel : decode cX4_chop 30 = .ok (.aload_n 0, 1)) rfl rfl k
theorem t_X4_chop_31 {k : Nat} {fs : List Value} {v : Value} (hk : sw[k]? = some (.inr (4, fs))) (hv : fs[3]? = some v) (kk : gv_G ε R m_X4_chop n0 Z 34 L (v :: st) sw cu su) : gv_G ε R m_X4_chop n0 Z 31 L (.ref k :: st) sw cu su := gv_getfield (by decide +kernel : decode cX4_chop 31 = .ok (.getfield 21, 3)) gf_X4_21 hk hv kk
theorem t_X4_chop_34 {a0 : Option Value} {x : Int32} (k : gv_G ε R m_X4_chop n0 Z 35 [a0, some (.int x)] (.int x :: st) sw cu su) : gv_G ε R m_X4_chop n0 Z 34 [a0, some (.int x)] st sw cu su := gv_iload_n (by decide +kernel : decode cX4_chop 34 = .ok (.iload_n 1, 1)) rfl rfl k
theorem t_X4_chop_35 (k : gv_G ε R m_X4_chop n0 Z 37 L (.int 8 :: st) sw cu su) : gv_G ε R m_X4_chop n0 Z 35 L (st) sw cu su := gv_bipush (by decide +kernel : decode cX4_chop 35 = .ok (.bipush 8, 2)) (by decide +kernel) k
theorem t_X4_chop_37 {x y : Int32} (k : gv_G ε R m_X4_chop n0 Z 38 L (.int (x * y) :: st) sw cu su) : gv_G ε R m_X4_chop n0 Z 37 L (.int y :: .int x :: st) sw cu su := gv_imul (by decide +kernel : decode cX4_chop 37 = .ok (.imul, 1)) k
theorem t_X4_chop_38 {a1 : Option Value} {x : Nat} (k : gv_G ε R m_X4_chop n0 Z 39 [some (.ref x), a1] (.ref x :: st) sw cu su) : gv_G ε R m_X4_chop n0 Z 38 [some (.ref x), a1] st sw cu su := gv_aload_n (by decide +kernel : decode cX4_chop 38 = .ok (.aload_n 0, 1)) rfl rfl k
theorem t_X4_chop_39 {k : Nat} {fs : List Value} {v : Value} (hk : sw[k]? = some (.inr (4, fs))) (hv : fs[2]? = some v) (kk : gv_G ε R m_X4_chop n0 Z 42 L (v :: st) sw cu su) : gv_G ε R m_X4_chop n0 Z 39 L (.ref k :: st) sw cu su := gv_getfield (by decide +kernel : decode cX4_chop 39 = .ok (.getfield 18, 3)) gf_X4_18 hk hv kk
theorem t_X4_chop_42 {a0 : Option Value} {x : Int32} (k : gv_G ε R m_X4_chop n0 Z 43 [a0, some (.int x)] (.int x :: st) sw cu su) : gv_G ε R m_X4_chop n0 Z 42 [a0, some (.int x)] st sw cu su := gv_iload_n (by decide +kernel : decode cX4_chop 42 = .ok (.iload_n 1, 1)) rfl rfl k
theorem t_X4_chop_43 {k n : Nat} {f : Nat → Int32} {i : Int32} (hk : sw[k]? = some (.inl (0, n, .inl f))) (j : Nat) (hj : j < n) (hi : i = nI j) (hn : n < 2 ^ 31) (kk : gv_G ε R m_X4_chop n0 Z 44 L (.int (f j) :: st) sw cu su) : gv_G ε R m_X4_chop n0 Z 43 L (.int i :: .ref k :: st) sw cu su := gv_ialoadJ (by decide +kernel : decode cX4_chop 43 = .ok (.iaload, 1)) hk j hj hi hn kk
theorem t_X4_chop_44 {x y : Int32} (k : gv_G ε R m_X4_chop n0 Z 45 L (.int (x + y) :: st) sw cu su) : gv_G ε R m_X4_chop n0 Z 44 L (.int y :: .int x :: st) sw cu su := gv_iadd (by decide +kernel : decode cX4_chop 44 = .ok (.iadd, 1)) k
theorem t_X4_chop_45 {k n : Nat} {f : Nat → Int32} {i : Int32} (hk : sw[k]? = some (.inl (0, n, .inl f))) (j : Nat) (hj : j < n) (hi : i = nI j) (hn : n < 2 ^ 31) (kk : gv_G ε R m_X4_chop n0 Z 46 L (.int (f j) :: st) sw cu su) : gv_G ε R m_X4_chop n0 Z 45 L (.int i :: .ref k :: st) sw cu su := gv_ialoadJ (by decide +kernel : decode cX4_chop 45 = .ok (.iaload, 1)) hk j hj hi hn kk
theorem t_X4_chop_46 {v : Int32} (hq : Qs (some (.int v)) sw) : gv_M ε d m_X4_chop n0 Qs 46 L [.int v] sw 0 0 := gv_ireturn (by decide +kernel : decode cX4_chop 46 = .ok (.ireturn, 1)) rfl rfl rfl (Nat.zero_le _) hq
theorem t_X4_dropLast_0 {x : Nat} (k : gv_G ε R m_X4_dropLast n0 Z 1 [some (.ref x)] (.ref x :: st) sw cu su) : gv_G ε R m_X4_dropLast n0 Z 0 [some (.ref x)] st sw cu su := gv_aload_n (by decide +kernel : decode cX4_dropLast 0 = .ok (.aload_n 0, 1)) rfl rfl k
theorem t_X4_dropLast_1 {k : Nat} {fs : List Value} {v : Value} (hk : sw[k]? = some (.inr (4, fs))) (hv : fs[4]? = some v) (kk : gv_G ε R m_X4_dropLast n0 Z 4 L (v :: st) sw cu su) : gv_G ε R m_X4_dropLast n0 Z 1 L (.ref k :: st) sw cu su := gv_getfield (by decide +kernel : decode cX4_dropLast 1 = .ok (.getfield 36, 3)) gf_X4_36 hk hv kk
theorem t_X4_dropLast_4 {x : Int32} (kt : x ≤ 0 → gv_G ε R m_X4_dropLast n0 Z 17 L st sw cu su) (kf : ¬ (x ≤ 0) → gv_G ε R m_X4_dropLast n0 Z 7 L st sw cu su) : gv_G ε R m_X4_dropLast n0 Z 4 L (.int x :: st) sw cu su := gv_if_le (by decide +kernel : decode cX4_dropLast 4 = .ok (.ifCond .le 13, 3)) (by decide +kernel) kt kf
theorem t_X4_dropLast_7 {x : Nat} (k : gv_G ε R m_X4_dropLast n0 Z 8 [some (.ref x)] (.ref x :: st) sw cu su) : gv_G ε R m_X4_dropLast n0 Z 7 [some (.ref x)] st sw cu su := gv_aload_n (by decide +kernel : decode cX4_dropLast 7 = .ok (.aload_n 0, 1)) rfl rfl k
theorem t_X4_dropLast_8 {v : Value} (h : v.category = 1) (k : gv_G ε R m_X4_dropLast n0 Z 9 L (v :: v :: st) sw cu su) : gv_G ε R m_X4_dropLast n0 Z 8 L (v :: st) sw cu su := gv_dup (by decide +kernel : decode cX4_dropLast 8 = .ok (.dup, 1)) h k
theorem t_X4_dropLast_9 {k : Nat} {fs : List Value} {v : Value} (hk : sw[k]? = some (.inr (4, fs))) (hv : fs[4]? = some v) (kk : gv_G ε R m_X4_dropLast n0 Z 12 L (v :: st) sw cu su) : gv_G ε R m_X4_dropLast n0 Z 9 L (.ref k :: st) sw cu su := gv_getfield (by decide +kernel : decode cX4_dropLast 9 = .ok (.getfield 36, 3)) gf_X4_36 hk hv kk
theorem t_X4_dropLast_12 (k : gv_G ε R m_X4_dropLast n0 Z 13 L (.int 1 :: st) sw cu su) : gv_G ε R m_X4_dropLast n0 Z 12 L (st) sw cu su := gv_iconst (by decide +kernel : decode cX4_dropLast 12 = .ok (.iconst 1, 1)) (by decide +kernel) k
theorem t_X4_dropLast_13 {x y : Int32} (k : gv_G ε R m_X4_dropLast n0 Z 14 L (.int (x - y) :: st) sw cu su) : gv_G ε R m_X4_dropLast n0 Z 13 L (.int y :: .int x :: st) sw cu su := gv_isub (by decide +kernel : decode cX4_dropLast 13 = .ok (.isub, 1)) k
theorem t_X4_dropLast_14 {k : Nat} {fs : List Value} {x : Int32} (hk : sw[k]? = some (.inr (4, fs))) (hv : fs.length = 5) (kk : gv_G ε R m_X4_dropLast n0 Z 17 L st (sw.set k (.inr (4, fs.set 4 (.int x)))) cu su) : gv_G ε R m_X4_dropLast n0 Z 14 L (.int x :: .ref k :: st) sw cu su := gv_putfield (by decide +kernel : decode cX4_dropLast 14 = .ok (.putfield 36, 3)) (gp_X4_36 rfl rfl (Or.inl rfl)) (Or.inl ⟨_, _, _, rfl, rfl⟩) hk (by rw [hv]; decide) kk
theorem t_X4_dropLast_17 (hs : su ≤ 0) (hq : Qs none sw) : gv_M ε d m_X4_dropLast n0 Qs 17 L [] sw 0 su := gv_return (by decide +kernel : decode cX4_dropLast 17 = .ok (.return_, 1)) rfl rfl hs hq
theorem t_X4_hasLine_0 {a0 : Option Value} {x : Int32} (k : gv_G ε R m_X4_hasLine n0 Z 1 [a0, some (.int x)] (.int x :: st) sw cu su) : gv_G ε R m_X4_hasLine n0 Z 0 [a0, some (.int x)] st sw cu su := gv_iload_n (by decide +kernel : decode cX4_hasLine 0 = .ok (.iload_n 1, 1)) rfl rfl k
theorem t_X4_hasLine_1 {x : Int32} (kt : x < 0 → gv_G ε R m_X4_hasLine n0 Z 16 L st sw cu su) (kf : ¬ (x < 0) → gv_G ε R m_X4_hasLine n0 Z 4 L st sw cu su) : gv_G ε R m_X4_hasLine n0 Z 1 L (.int x :: st) sw cu su := gv_if_lt (by decide +kernel : decode cX4_hasLine 1 = .ok (.ifCond .lt 15, 3)) (by decide +kernel) kt kf
theorem t_X4_hasLine_4 {a0 : Option Value} {x : Int32} (k : gv_G ε R m_X4_hasLine n0 Z 5 [a0, some (.int x)] (.int x :: st) sw cu su) : gv_G ε R m_X4_hasLine n0 Z 4 [a0, some (.int x)] st sw cu su := gv_iload_n (by decide +kernel : decode cX4_hasLine 4 = .ok (.iload_n 1, 1)) rfl rfl k
theorem t_X4_hasLine_5 {a1 : Option Value} {x : Nat} (k : gv_G ε R m_X4_hasLine n0 Z 6 [some (.ref x), a1] (.ref x :: st) sw cu su) : gv_G ε R m_X4_hasLine n0 Z 5 [some (.ref x), a1] st sw cu su := gv_aload_n (by decide +kernel : decode cX4_hasLine 5 = .ok (.aload_n 0, 1)) rfl rfl k
theorem t_X4_hasLine_6 {k : Nat} {fs : List Value} {v : Value} (hk : sw[k]? = some (.inr (4, fs))) (hv : fs[4]? = some v) (kk : gv_G ε R m_X4_hasLine n0 Z 9 L (v :: st) sw cu su) : gv_G ε R m_X4_hasLine n0 Z 6 L (.ref k :: st) sw cu su := gv_getfield (by decide +kernel : decode cX4_hasLine 6 = .ok (.getfield 36, 3)) gf_X4_36 hk hv kk
theorem t_X4_hasLine_9 {x y : Int32} (kt : y ≤ x → gv_G ε R m_X4_hasLine n0 Z 16 L st sw cu su) (kf : ¬ (y ≤ x) → gv_G ε R m_X4_hasLine n0 Z 12 L st sw cu su) : gv_G ε R m_X4_hasLine n0 Z 9 L (.int y :: .int x :: st) sw cu su := gv_icmp_ge (by decide +kernel : decode cX4_hasLine 9 = .ok (.if_icmp .ge 7, 3)) (by decide +kernel) kt kf
theorem t_X4_hasLine_12 (k : gv_G ε R m_X4_hasLine n0 Z 13 L (.int 1 :: st) sw cu su) : gv_G ε R m_X4_hasLine n0 Z 12 L (st) sw cu su := gv_iconst (by decide +kernel : decode cX4_hasLine 12 = .ok (.iconst 1, 1)) (by decide +kernel) k
theorem t_X4_hasLine_13 (k : gv_G ε R m_X4_hasLine n0 Z 17 L st sw cu su) : gv_G ε R m_X4_hasLine n0 Z 13 L st sw cu su := gv_goto (by decide +kernel : decode cX4_hasLine 13 = .ok (.goto 4, 3)) (by decide +kernel) k
theorem t_X4_hasLine_16 (k : gv_G ε R m_X4_hasLine n0 Z 17 L (.int 0 :: st) sw cu su) : gv_G ε R m_X4_hasLine n0 Z 16 L (st) sw cu su := gv_iconst (by decide +kernel : decode cX4_hasLine 16 = .ok (.iconst 0, 1)) (by decide +kernel) k
theorem t_X4_hasLine_17 {v : Int32} (hn : narrow .boolean (.int v) = .int v) (hq : Qs (some (.int v)) sw) : gv_M ε d m_X4_hasLine n0 Qs 17 L [.int v] sw 0 0 := gv_ireturn (by decide +kernel : decode cX4_hasLine 17 = .ok (.ireturn, 1)) rfl hn rfl (Nat.zero_le _) hq
theorem t_X4_headAt_0 {a0 a2 : Option Value} {x : Int32} (k : gv_G ε R m_X4_headAt n0 Z 1 [a0, some (.int x), a2] (.int x :: st) sw cu su) : gv_G ε R m_X4_headAt n0 Z 0 [a0, some (.int x), a2] st sw cu su := gv_iload_n (by decide +kernel : decode cX4_headAt 0 = .ok (.iload_n 1, 1)) rfl rfl k
theorem t_X4_headAt_1 (k : gv_G ε R m_X4_headAt n0 Z 2 L (.int 2 :: st) sw cu su) : gv_G ε R m_X4_headAt n0 Z 1 L (st) sw cu su := gv_iconst (by decide +kernel : decode cX4_headAt 1 = .ok (.iconst 2, 1)) (by decide +kernel) k
theorem t_X4_headAt_2 {x y : Int32} (h : ¬ y = 0) (k : gv_G ε R m_X4_headAt n0 Z 3 L (.int (x - x / y * y) :: st) sw cu su) : gv_G ε R m_X4_headAt n0 Z 2 L (.int y :: .int x :: st) sw cu su := gv_irem (by decide +kernel : decode cX4_headAt 2 = .ok (.irem, 1)) h k
theorem t_X4_headAt_3 {x : Int32} (kt : ¬ x = 0 → gv_G ε R m_X4_headAt n0 Z 10 L st sw cu su) (kf : x = 0 → gv_G ε R m_X4_headAt n0 Z 6 L st sw cu su) : gv_G ε R m_X4_headAt n0 Z 3 L (.int x :: st) sw cu su := gv_if_ne (by decide +kernel : decode cX4_headAt 3 = .ok (.ifCond .ne 7, 3)) (by decide +kernel) kt kf
theorem t_X4_headAt_6 {a0 a1 : Option Value} {x : Int32} (k : gv_G ε R m_X4_headAt n0 Z 7 [a0, a1, some (.int x)] (.int x :: st) sw cu su) : gv_G ε R m_X4_headAt n0 Z 6 [a0, a1, some (.int x)] st sw cu su := gv_iload_n (by decide +kernel : decode cX4_headAt 6 = .ok (.iload_n 2, 1)) rfl rfl k
theorem t_X4_headAt_7 (k : gv_G ε R m_X4_headAt n0 Z 18 L st sw cu su) : gv_G ε R m_X4_headAt n0 Z 7 L st sw cu su := gv_goto (by decide +kernel : decode cX4_headAt 7 = .ok (.goto 11, 3)) (by decide +kernel) k
theorem t_X4_headAt_10 {a0 a1 : Option Value} {x : Int32} (k : gv_G ε R m_X4_headAt n0 Z 11 [a0, a1, some (.int x)] (.int x :: st) sw cu su) : gv_G ε R m_X4_headAt n0 Z 10 [a0, a1, some (.int x)] st sw cu su := gv_iload_n (by decide +kernel : decode cX4_headAt 10 = .ok (.iload_n 2, 1)) rfl rfl k
theorem t_X4_headAt_11 {a1 a2 : Option Value} {x : Nat} (k : gv_G ε R m_X4_headAt n0 Z 12 [some (.ref x), a1, a2] (.ref x :: st) sw cu su) : gv_G ε R m_X4_headAt n0 Z 11 [some (.ref x), a1, a2] st sw cu su := gv_aload_n (by decide +kernel : decode cX4_headAt 11 = .ok (.aload_n 0, 1)) rfl rfl k
theorem t_X4_headAt_12 {k : Nat} {fs : List Value} {v : Value} (hk : sw[k]? = some (.inr (4, fs))) (hv : fs[0]? = some v) (kk : gv_G ε R m_X4_headAt n0 Z 15 L (v :: st) sw cu su) : gv_G ε R m_X4_headAt n0 Z 12 L (.ref k :: st) sw cu su := gv_getfield (by decide +kernel : decode cX4_headAt 12 = .ok (.getfield 9, 3)) gf_X4_9 hk hv kk
theorem t_X4_headAt_15 (k : gv_G ε R m_X4_headAt n0 Z 16 L (.int 0 :: st) sw cu su) : gv_G ε R m_X4_headAt n0 Z 15 L (st) sw cu su := gv_iconst (by decide +kernel : decode cX4_headAt 15 = .ok (.iconst 0, 1)) (by decide +kernel) k
theorem t_X4_headAt_16 {k n : Nat} {f : Nat → Int32} {i : Int32} (hk : sw[k]? = some (.inl (0, n, .inl f))) (j : Nat) (hj : j < n) (hi : i = nI j) (hn : n < 2 ^ 31) (kk : gv_G ε R m_X4_headAt n0 Z 17 L (.int (f j) :: st) sw cu su) : gv_G ε R m_X4_headAt n0 Z 16 L (.int i :: .ref k :: st) sw cu su := gv_ialoadJ (by decide +kernel : decode cX4_headAt 16 = .ok (.iaload, 1)) hk j hj hi hn kk
theorem t_X4_headAt_17 {x y : Int32} (k : gv_G ε R m_X4_headAt n0 Z 18 L (.int (x - y) :: st) sw cu su) : gv_G ε R m_X4_headAt n0 Z 17 L (.int y :: .int x :: st) sw cu su := gv_isub (by decide +kernel : decode cX4_headAt 17 = .ok (.isub, 1)) k
theorem t_X4_headAt_18 {v : Int32} (hq : Qs (some (.int v)) sw) : gv_M ε d m_X4_headAt n0 Qs 18 L [.int v] sw 0 0 := gv_ireturn (by decide +kernel : decode cX4_headAt 18 = .ok (.ireturn, 1)) rfl rfl rfl (Nat.zero_le _) hq
theorem t_X4_init_0 {x : Nat} (k : gv_G ε R m_X4_init n0 Z 1 [some (.ref x)] (.ref x :: st) sw cu su) : gv_G ε R m_X4_init n0 Z 0 [some (.ref x)] st sw cu su := gv_aload_n (by decide +kernel : decode cX4_init 0 = .ok (.aload_n 0, 1)) rfl rfl k
theorem t_X4_init_1 {k : Nat} (hR : 1 ≤ R.frames ∧ 41 ≤ R.locals) (h8 : (st.map (fun v => v.category)).sum ≤ 8) (kk : gv_G ε R m_X4_init n0 Z 4 L st sw cu su) : gv_G ε R m_X4_init n0 Z 1 L (.ref k :: st) sw cu su := gv_objInit (by decide +kernel : decode cX4_init 1 = .ok (.invokespecial 3, 3)) gc_X4_3 hR h8 kk
theorem t_X4_init_4 {x : Nat} (k : gv_G ε R m_X4_init n0 Z 5 [some (.ref x)] (.ref x :: st) sw cu su) : gv_G ε R m_X4_init n0 Z 4 [some (.ref x)] st sw cu su := gv_aload_n (by decide +kernel : decode cX4_init 4 = .ok (.aload_n 0, 1)) rfl rfl k
theorem t_X4_init_5 (k : gv_G ε R m_X4_init n0 Z 6 L (.int 3 :: st) sw cu su) : gv_G ε R m_X4_init n0 Z 5 L (st) sw cu su := gv_iconst (by decide +kernel : decode cX4_init 5 = .ok (.iconst 3, 1)) (by decide +kernel) k
theorem t_X4_init_6 {n : Int32} {N : Nat} (hn : ¬ n < 0) (hN : n.toNatClampNeg = N) (hb : N ≤ 100000) (hlen : sw.length < 1000) (hc : cu + 1 ≤ R.cells) (hs : su + N ≤ R.slots) (kk : gv_G ε R m_X4_init n0 Z 8 L (.ref sw.length :: st) (sw ++ [.inl (0, N, .inl (fun _ => 0))]) (cu + 1) (su + N)) : gv_G ε R m_X4_init n0 Z 6 L (.int n :: st) sw cu su := gv_newint (by decide +kernel : decode cX4_init 6 = .ok (.newarray .int, 2)) (gv_in 83 (by decide +kernel) rfl) hn hN hb hlen hc hs kk
theorem t_X4_init_8 {k r : Nat} {fs : List Value} (hk : sw[k]? = some (.inr (4, fs))) (hv : fs.length = 5) (kk : gv_G ε R m_X4_init n0 Z 11 L st (sw.set k (.inr (4, fs.set 0 (.ref r)))) cu su) : gv_G ε R m_X4_init n0 Z 8 L (.ref r :: .ref k :: st) sw cu su := gv_putfield (by decide +kernel : decode cX4_init 8 = .ok (.putfield 9, 3)) (gp_X4_9 rfl rfl (Or.inr rfl)) (Or.inr rfl) hk (by rw [hv]; decide) kk
theorem t_X4_init_11 {x : Nat} (k : gv_G ε R m_X4_init n0 Z 12 [some (.ref x)] (.ref x :: st) sw cu su) : gv_G ε R m_X4_init n0 Z 11 [some (.ref x)] st sw cu su := gv_aload_n (by decide +kernel : decode cX4_init 11 = .ok (.aload_n 0, 1)) rfl rfl k
theorem t_X4_init_12 (k : gv_G ε R m_X4_init n0 Z 14 L (.int 18 :: st) sw cu su) : gv_G ε R m_X4_init n0 Z 12 L (st) sw cu su := gv_bipush (by decide +kernel : decode cX4_init 12 = .ok (.bipush 18, 2)) (by decide +kernel) k
theorem t_X4_init_14 {n : Int32} {N : Nat} (hn : ¬ n < 0) (hN : n.toNatClampNeg = N) (hb : N ≤ 100000) (hlen : sw.length < 1000) (hc : cu + 1 ≤ R.cells) (hs : su + N ≤ R.slots) (kk : gv_G ε R m_X4_init n0 Z 16 L (.ref sw.length :: st) (sw ++ [.inl (0, N, .inl (fun _ => 0))]) (cu + 1) (su + N)) : gv_G ε R m_X4_init n0 Z 14 L (.int n :: st) sw cu su := gv_newint (by decide +kernel : decode cX4_init 14 = .ok (.newarray .int, 2)) (gv_in 83 (by decide +kernel) rfl) hn hN hb hlen hc hs kk
theorem t_X4_init_16 {k r : Nat} {fs : List Value} (hk : sw[k]? = some (.inr (4, fs))) (hv : fs.length = 5) (kk : gv_G ε R m_X4_init n0 Z 19 L st (sw.set k (.inr (4, fs.set 1 (.ref r)))) cu su) : gv_G ε R m_X4_init n0 Z 16 L (.ref r :: .ref k :: st) sw cu su := gv_putfield (by decide +kernel : decode cX4_init 16 = .ok (.putfield 15, 3)) (gp_X4_15 rfl rfl (Or.inr rfl)) (Or.inr rfl) hk (by rw [hv]; decide) kk
theorem t_X4_init_19 {x : Nat} (k : gv_G ε R m_X4_init n0 Z 20 [some (.ref x)] (.ref x :: st) sw cu su) : gv_G ε R m_X4_init n0 Z 19 [some (.ref x)] st sw cu su := gv_aload_n (by decide +kernel : decode cX4_init 19 = .ok (.aload_n 0, 1)) rfl rfl k
theorem t_X4_init_20 (k : gv_G ε R m_X4_init n0 Z 21 L (.int 4 :: st) sw cu su) : gv_G ε R m_X4_init n0 Z 20 L (st) sw cu su := gv_iconst (by decide +kernel : decode cX4_init 20 = .ok (.iconst 4, 1)) (by decide +kernel) k
theorem t_X4_init_21 {n : Int32} {N : Nat} (hn : ¬ n < 0) (hN : n.toNatClampNeg = N) (hb : N ≤ 100000) (hlen : sw.length < 1000) (hc : cu + 1 ≤ R.cells) (hs : su + N ≤ R.slots) (kk : gv_G ε R m_X4_init n0 Z 23 L (.ref sw.length :: st) (sw ++ [.inl (0, N, .inl (fun _ => 0))]) (cu + 1) (su + N)) : gv_G ε R m_X4_init n0 Z 21 L (.int n :: st) sw cu su := gv_newint (by decide +kernel : decode cX4_init 21 = .ok (.newarray .int, 2)) (gv_in 83 (by decide +kernel) rfl) hn hN hb hlen hc hs kk
theorem t_X4_init_23 {k r : Nat} {fs : List Value} (hk : sw[k]? = some (.inr (4, fs))) (hv : fs.length = 5) (kk : gv_G ε R m_X4_init n0 Z 26 L st (sw.set k (.inr (4, fs.set 2 (.ref r)))) cu su) : gv_G ε R m_X4_init n0 Z 23 L (.ref r :: .ref k :: st) sw cu su := gv_putfield (by decide +kernel : decode cX4_init 23 = .ok (.putfield 18, 3)) (gp_X4_18 rfl rfl (Or.inr rfl)) (Or.inr rfl) hk (by rw [hv]; decide) kk
theorem t_X4_init_26 {x : Nat} (k : gv_G ε R m_X4_init n0 Z 27 [some (.ref x)] (.ref x :: st) sw cu su) : gv_G ε R m_X4_init n0 Z 26 [some (.ref x)] st sw cu su := gv_aload_n (by decide +kernel : decode cX4_init 26 = .ok (.aload_n 0, 1)) rfl rfl k
theorem t_X4_init_27 (k : gv_G ε R m_X4_init n0 Z 29 L (.int 32 :: st) sw cu su) : gv_G ε R m_X4_init n0 Z 27 L (st) sw cu su := gv_bipush (by decide +kernel : decode cX4_init 27 = .ok (.bipush 32, 2)) (by decide +kernel) k
theorem t_X4_init_29 {n : Int32} {N : Nat} (hn : ¬ n < 0) (hN : n.toNatClampNeg = N) (hb : N ≤ 100000) (hlen : sw.length < 1000) (hc : cu + 1 ≤ R.cells) (hs : su + N ≤ R.slots) (kk : gv_G ε R m_X4_init n0 Z 31 L (.ref sw.length :: st) (sw ++ [.inl (0, N, .inl (fun _ => 0))]) (cu + 1) (su + N)) : gv_G ε R m_X4_init n0 Z 29 L (.int n :: st) sw cu su := gv_newint (by decide +kernel : decode cX4_init 29 = .ok (.newarray .int, 2)) (gv_in 83 (by decide +kernel) rfl) hn hN hb hlen hc hs kk
theorem t_X4_init_31 {k r : Nat} {fs : List Value} (hk : sw[k]? = some (.inr (4, fs))) (hv : fs.length = 5) (kk : gv_G ε R m_X4_init n0 Z 34 L st (sw.set k (.inr (4, fs.set 3 (.ref r)))) cu su) : gv_G ε R m_X4_init n0 Z 31 L (.ref r :: .ref k :: st) sw cu su := gv_putfield (by decide +kernel : decode cX4_init 31 = .ok (.putfield 21, 3)) (gp_X4_21 rfl rfl (Or.inr rfl)) (Or.inr rfl) hk (by rw [hv]; decide) kk
theorem t_X4_init_34 {x : Nat} (k : gv_G ε R m_X4_init n0 Z 35 [some (.ref x)] (.ref x :: st) sw cu su) : gv_G ε R m_X4_init n0 Z 34 [some (.ref x)] st sw cu su := gv_aload_n (by decide +kernel : decode cX4_init 34 = .ok (.aload_n 0, 1)) rfl rfl k
theorem t_X4_init_35 {k : Nat} {fs : List Value} (hk : sw[k]? = some (.inr (4, fs))) (hc : cu + 0 ≤ 4) (hs : su + 0 ≤ 57) (h8 : (st.map (fun v => v.category)).sum ≤ 8) (hS : gv_S ε d m_X4_reset (.ref k :: []) sw (fun r sw' => gv_G ε (gv_rm (d + 1) m_X4_init) m_X4_init n0 Z 38 L (r.toList ++ st) sw' (cu + 0) (su + 0))) : gv_G ε (gv_rm (d + 1) m_X4_init) m_X4_init n0 Z 35 L (.ref k :: st) sw cu su := gv_invV (As := []) (d := d) (by decide +kernel : decode cX4_init 35 = .ok (.invokevirtual 24, 3)) gc_X4_24 rfl rfl hk (rfl : vwCl[4]? = some (RX4, TX4, 5)) rfl (Nat.le_refl _) (Nat.le_refl _) hc hs h8 hS
theorem t_X4_init_38 (hs : su ≤ 57) (hq : Qs none sw) : gv_M ε d m_X4_init n0 Qs 38 L [] sw 4 su := gv_return (by decide +kernel : decode cX4_init 38 = .ok (.return_, 1)) rfl rfl hs hq
theorem t_X4_inkAt_0 {a1 a2 a3 : Option Value} {x : Nat} (k : gv_G ε R m_X4_inkAt n0 Z 1 [some (.ref x), a1, a2, a3] (.ref x :: st) sw cu su) : gv_G ε R m_X4_inkAt n0 Z 0 [some (.ref x), a1, a2, a3] st sw cu su := gv_aload_n (by decide +kernel : decode cX4_inkAt 0 = .ok (.aload_n 0, 1)) rfl rfl k
theorem t_X4_inkAt_1 {a0 a2 a3 : Option Value} {x : Int32} (k : gv_G ε R m_X4_inkAt n0 Z 2 [a0, some (.int x), a2, a3] (.int x :: st) sw cu su) : gv_G ε R m_X4_inkAt n0 Z 1 [a0, some (.int x), a2, a3] st sw cu su := gv_iload_n (by decide +kernel : decode cX4_inkAt 1 = .ok (.iload_n 1, 1)) rfl rfl k
theorem t_X4_inkAt_2 {v0 : Value} {k : Nat} {fs : List Value} (hk : sw[k]? = some (.inr (4, fs))) (h8 : (st.map (fun v => v.category)).sum ≤ 8) (hS : gv_S ε d m_X4_hasLine (.ref k :: [v0]) sw (fun r sw' => gv_G ε (gv_rm (d + 1) m_X4_inkAt) m_X4_inkAt n0 Z 5 L (r.toList ++ st) sw' 0 0)) : gv_G ε (gv_rm (d + 1) m_X4_inkAt) m_X4_inkAt n0 Z 2 L (v0 :: .ref k :: st) sw 0 0 := gv_invV (As := [v0]) (d := d) (by decide +kernel : decode cX4_inkAt 2 = .ok (.invokevirtual 46, 3)) gc_X4_46 rfl rfl hk (rfl : vwCl[4]? = some (RX4, TX4, 5)) rfl (Nat.le_refl _) (Nat.le_refl _) (Nat.le_refl _) (Nat.le_refl _) h8 hS
theorem t_X4_inkAt_5 {x : Int32} (kt : x = 0 → gv_G ε R m_X4_inkAt n0 Z 24 L st sw cu su) (kf : ¬ (x = 0) → gv_G ε R m_X4_inkAt n0 Z 8 L st sw cu su) : gv_G ε R m_X4_inkAt n0 Z 5 L (.int x :: st) sw cu su := gv_if_eq (by decide +kernel : decode cX4_inkAt 5 = .ok (.ifCond .eq 19, 3)) (by decide +kernel) kt kf
theorem t_X4_inkAt_8 {a0 a1 a3 : Option Value} {x : Int32} (k : gv_G ε R m_X4_inkAt n0 Z 9 [a0, a1, some (.int x), a3] (.int x :: st) sw cu su) : gv_G ε R m_X4_inkAt n0 Z 8 [a0, a1, some (.int x), a3] st sw cu su := gv_iload_n (by decide +kernel : decode cX4_inkAt 8 = .ok (.iload_n 2, 1)) rfl rfl k
theorem t_X4_inkAt_9 {x : Int32} (kt : x < 0 → gv_G ε R m_X4_inkAt n0 Z 24 L st sw cu su) (kf : ¬ (x < 0) → gv_G ε R m_X4_inkAt n0 Z 12 L st sw cu su) : gv_G ε R m_X4_inkAt n0 Z 9 L (.int x :: st) sw cu su := gv_if_lt (by decide +kernel : decode cX4_inkAt 9 = .ok (.ifCond .lt 15, 3)) (by decide +kernel) kt kf
theorem t_X4_inkAt_12 {a0 a1 a3 : Option Value} {x : Int32} (k : gv_G ε R m_X4_inkAt n0 Z 13 [a0, a1, some (.int x), a3] (.int x :: st) sw cu su) : gv_G ε R m_X4_inkAt n0 Z 12 [a0, a1, some (.int x), a3] st sw cu su := gv_iload_n (by decide +kernel : decode cX4_inkAt 12 = .ok (.iload_n 2, 1)) rfl rfl k
theorem t_X4_inkAt_13 {a1 a2 a3 : Option Value} {x : Nat} (k : gv_G ε R m_X4_inkAt n0 Z 14 [some (.ref x), a1, a2, a3] (.ref x :: st) sw cu su) : gv_G ε R m_X4_inkAt n0 Z 13 [some (.ref x), a1, a2, a3] st sw cu su := gv_aload_n (by decide +kernel : decode cX4_inkAt 13 = .ok (.aload_n 0, 1)) rfl rfl k
theorem t_X4_inkAt_14 {k : Nat} {fs : List Value} {v : Value} (hk : sw[k]? = some (.inr (4, fs))) (hv : fs[2]? = some v) (kk : gv_G ε R m_X4_inkAt n0 Z 17 L (v :: st) sw cu su) : gv_G ε R m_X4_inkAt n0 Z 14 L (.ref k :: st) sw cu su := gv_getfield (by decide +kernel : decode cX4_inkAt 14 = .ok (.getfield 18, 3)) gf_X4_18 hk hv kk
theorem t_X4_inkAt_17 {a0 a2 a3 : Option Value} {x : Int32} (k : gv_G ε R m_X4_inkAt n0 Z 18 [a0, some (.int x), a2, a3] (.int x :: st) sw cu su) : gv_G ε R m_X4_inkAt n0 Z 17 [a0, some (.int x), a2, a3] st sw cu su := gv_iload_n (by decide +kernel : decode cX4_inkAt 17 = .ok (.iload_n 1, 1)) rfl rfl k
theorem t_X4_inkAt_18 {k n : Nat} {f : Nat → Int32} {i : Int32} (hk : sw[k]? = some (.inl (0, n, .inl f))) (j : Nat) (hj : j < n) (hi : i = nI j) (hn : n < 2 ^ 31) (kk : gv_G ε R m_X4_inkAt n0 Z 19 L (.int (f j) :: st) sw cu su) : gv_G ε R m_X4_inkAt n0 Z 18 L (.int i :: .ref k :: st) sw cu su := gv_ialoadJ (by decide +kernel : decode cX4_inkAt 18 = .ok (.iaload, 1)) hk j hj hi hn kk
theorem t_X4_inkAt_19 (k : gv_G ε R m_X4_inkAt n0 Z 20 L (.int 3 :: st) sw cu su) : gv_G ε R m_X4_inkAt n0 Z 19 L (st) sw cu su := gv_iconst (by decide +kernel : decode cX4_inkAt 19 = .ok (.iconst 3, 1)) (by decide +kernel) k
theorem t_X4_inkAt_20 {x y : Int32} (k : gv_G ε R m_X4_inkAt n0 Z 21 L (.int (x * y) :: st) sw cu su) : gv_G ε R m_X4_inkAt n0 Z 20 L (.int y :: .int x :: st) sw cu su := gv_imul (by decide +kernel : decode cX4_inkAt 20 = .ok (.imul, 1)) k
theorem t_X4_inkAt_21 {x y : Int32} (kt : x < y → gv_G ε R m_X4_inkAt n0 Z 26 L st sw cu su) (kf : ¬ (x < y) → gv_G ε R m_X4_inkAt n0 Z 24 L st sw cu su) : gv_G ε R m_X4_inkAt n0 Z 21 L (.int y :: .int x :: st) sw cu su := gv_icmp_lt (by decide +kernel : decode cX4_inkAt 21 = .ok (.if_icmp .lt 5, 3)) (by decide +kernel) kt kf
theorem t_X4_inkAt_24 (k : gv_G ε R m_X4_inkAt n0 Z 25 L (.int 0 :: st) sw cu su) : gv_G ε R m_X4_inkAt n0 Z 24 L (st) sw cu su := gv_iconst (by decide +kernel : decode cX4_inkAt 24 = .ok (.iconst 0, 1)) (by decide +kernel) k
theorem t_X4_inkAt_25 {v : Int32} (hq : Qs (some (.int v)) sw) : gv_M ε d m_X4_inkAt n0 Qs 25 L [.int v] sw 0 0 := gv_ireturn (by decide +kernel : decode cX4_inkAt 25 = .ok (.ireturn, 1)) rfl rfl rfl (Nat.zero_le _) hq
theorem t_X4_inkAt_26 {a1 a2 a3 : Option Value} {x : Nat} (k : gv_G ε R m_X4_inkAt n0 Z 27 [some (.ref x), a1, a2, a3] (.ref x :: st) sw cu su) : gv_G ε R m_X4_inkAt n0 Z 26 [some (.ref x), a1, a2, a3] st sw cu su := gv_aload_n (by decide +kernel : decode cX4_inkAt 26 = .ok (.aload_n 0, 1)) rfl rfl k
theorem t_X4_inkAt_27 {k : Nat} {fs : List Value} {v : Value} (hk : sw[k]? = some (.inr (4, fs))) (hv : fs[3]? = some v) (kk : gv_G ε R m_X4_inkAt n0 Z 30 L (v :: st) sw cu su) : gv_G ε R m_X4_inkAt n0 Z 27 L (.ref k :: st) sw cu su := gv_getfield (by decide +kernel : decode cX4_inkAt 27 = .ok (.getfield 21, 3)) gf_X4_21 hk hv kk
theorem t_X4_inkAt_30 {a0 a2 a3 : Option Value} {x : Int32} (k : gv_G ε R m_X4_inkAt n0 Z 31 [a0, some (.int x), a2, a3] (.int x :: st) sw cu su) : gv_G ε R m_X4_inkAt n0 Z 30 [a0, some (.int x), a2, a3] st sw cu su := gv_iload_n (by decide +kernel : decode cX4_inkAt 30 = .ok (.iload_n 1, 1)) rfl rfl k
theorem t_X4_inkAt_31 (k : gv_G ε R m_X4_inkAt n0 Z 33 L (.int 8 :: st) sw cu su) : gv_G ε R m_X4_inkAt n0 Z 31 L (st) sw cu su := gv_bipush (by decide +kernel : decode cX4_inkAt 31 = .ok (.bipush 8, 2)) (by decide +kernel) k
theorem t_X4_inkAt_33 {x y : Int32} (k : gv_G ε R m_X4_inkAt n0 Z 34 L (.int (x * y) :: st) sw cu su) : gv_G ε R m_X4_inkAt n0 Z 33 L (.int y :: .int x :: st) sw cu su := gv_imul (by decide +kernel : decode cX4_inkAt 33 = .ok (.imul, 1)) k
theorem t_X4_inkAt_34 {a0 a1 a3 : Option Value} {x : Int32} (k : gv_G ε R m_X4_inkAt n0 Z 35 [a0, a1, some (.int x), a3] (.int x :: st) sw cu su) : gv_G ε R m_X4_inkAt n0 Z 34 [a0, a1, some (.int x), a3] st sw cu su := gv_iload_n (by decide +kernel : decode cX4_inkAt 34 = .ok (.iload_n 2, 1)) rfl rfl k
theorem t_X4_inkAt_35 (k : gv_G ε R m_X4_inkAt n0 Z 36 L (.int 3 :: st) sw cu su) : gv_G ε R m_X4_inkAt n0 Z 35 L (st) sw cu su := gv_iconst (by decide +kernel : decode cX4_inkAt 35 = .ok (.iconst 3, 1)) (by decide +kernel) k
theorem t_X4_inkAt_36 {x y : Int32} (h : ¬ y = 0) (k : gv_G ε R m_X4_inkAt n0 Z 37 L (.int (x / y) :: st) sw cu su) : gv_G ε R m_X4_inkAt n0 Z 36 L (.int y :: .int x :: st) sw cu su := gv_idiv (by decide +kernel : decode cX4_inkAt 36 = .ok (.idiv, 1)) h k
theorem t_X4_inkAt_37 {x y : Int32} (k : gv_G ε R m_X4_inkAt n0 Z 38 L (.int (x + y) :: st) sw cu su) : gv_G ε R m_X4_inkAt n0 Z 37 L (.int y :: .int x :: st) sw cu su := gv_iadd (by decide +kernel : decode cX4_inkAt 37 = .ok (.iadd, 1)) k
theorem t_X4_inkAt_38 {k n : Nat} {f : Nat → Int32} {i : Int32} (hk : sw[k]? = some (.inl (0, n, .inl f))) (j : Nat) (hj : j < n) (hi : i = nI j) (hn : n < 2 ^ 31) (kk : gv_G ε R m_X4_inkAt n0 Z 39 L (.int (f j) :: st) sw cu su) : gv_G ε R m_X4_inkAt n0 Z 38 L (.int i :: .ref k :: st) sw cu su := gv_ialoadJ (by decide +kernel : decode cX4_inkAt 38 = .ok (.iaload, 1)) hk j hj hi hn kk
theorem t_X4_inkAt_39 {a0 a1 a2 a3 : Option Value} {x : Int32} (k : gv_G ε R m_X4_inkAt n0 Z 40 [a0, a1, a2, some (.int x)] st sw cu su) : gv_G ε R m_X4_inkAt n0 Z 39 [a0, a1, a2, a3] (.int x :: st) sw cu su := gv_istore_n (by decide +kernel : decode cX4_inkAt 39 = .ok (.istore_n 3, 1)) rfl (Nat.le_of_ble_eq_true rfl) rfl k
theorem t_X4_inkAt_40 {a0 a1 a2 : Option Value} {x : Int32} (k : gv_G ε R m_X4_inkAt n0 Z 41 [a0, a1, a2, some (.int x)] (.int x :: st) sw cu su) : gv_G ε R m_X4_inkAt n0 Z 40 [a0, a1, a2, some (.int x)] st sw cu su := gv_iload_n (by decide +kernel : decode cX4_inkAt 40 = .ok (.iload_n 3, 1)) rfl rfl k
theorem t_X4_inkAt_41 {x : Int32} (kt : x < 0 → gv_G ε R m_X4_inkAt n0 Z 50 L st sw cu su) (kf : ¬ (x < 0) → gv_G ε R m_X4_inkAt n0 Z 44 L st sw cu su) : gv_G ε R m_X4_inkAt n0 Z 41 L (.int x :: st) sw cu su := gv_if_lt (by decide +kernel : decode cX4_inkAt 41 = .ok (.ifCond .lt 9, 3)) (by decide +kernel) kt kf
theorem t_X4_inkAt_44 {a0 a1 a2 : Option Value} {x : Int32} (k : gv_G ε R m_X4_inkAt n0 Z 45 [a0, a1, a2, some (.int x)] (.int x :: st) sw cu su) : gv_G ε R m_X4_inkAt n0 Z 44 [a0, a1, a2, some (.int x)] st sw cu su := gv_iload_n (by decide +kernel : decode cX4_inkAt 44 = .ok (.iload_n 3, 1)) rfl rfl k
theorem t_X4_inkAt_45 (k : gv_G ε R m_X4_inkAt n0 Z 47 L (.int 6 :: st) sw cu su) : gv_G ε R m_X4_inkAt n0 Z 45 L (st) sw cu su := gv_bipush (by decide +kernel : decode cX4_inkAt 45 = .ok (.bipush 6, 2)) (by decide +kernel) k
theorem t_X4_inkAt_47 {x y : Int32} (kt : x < y → gv_G ε R m_X4_inkAt n0 Z 52 L st sw cu su) (kf : ¬ (x < y) → gv_G ε R m_X4_inkAt n0 Z 50 L st sw cu su) : gv_G ε R m_X4_inkAt n0 Z 47 L (.int y :: .int x :: st) sw cu su := gv_icmp_lt (by decide +kernel : decode cX4_inkAt 47 = .ok (.if_icmp .lt 5, 3)) (by decide +kernel) kt kf
theorem t_X4_inkAt_50 (k : gv_G ε R m_X4_inkAt n0 Z 51 L (.int 0 :: st) sw cu su) : gv_G ε R m_X4_inkAt n0 Z 50 L (st) sw cu su := gv_iconst (by decide +kernel : decode cX4_inkAt 50 = .ok (.iconst 0, 1)) (by decide +kernel) k
theorem t_X4_inkAt_51 {v : Int32} (hq : Qs (some (.int v)) sw) : gv_M ε d m_X4_inkAt n0 Qs 51 L [.int v] sw 0 0 := gv_ireturn (by decide +kernel : decode cX4_inkAt 51 = .ok (.ireturn, 1)) rfl rfl rfl (Nat.zero_le _) hq
theorem t_X4_inkAt_52 {a1 a2 a3 : Option Value} {x : Nat} (k : gv_G ε R m_X4_inkAt n0 Z 53 [some (.ref x), a1, a2, a3] (.ref x :: st) sw cu su) : gv_G ε R m_X4_inkAt n0 Z 52 [some (.ref x), a1, a2, a3] st sw cu su := gv_aload_n (by decide +kernel : decode cX4_inkAt 52 = .ok (.aload_n 0, 1)) rfl rfl k
theorem t_X4_inkAt_53 {k : Nat} {fs : List Value} {v : Value} (hk : sw[k]? = some (.inr (4, fs))) (hv : fs[1]? = some v) (kk : gv_G ε R m_X4_inkAt n0 Z 56 L (v :: st) sw cu su) : gv_G ε R m_X4_inkAt n0 Z 53 L (.ref k :: st) sw cu su := gv_getfield (by decide +kernel : decode cX4_inkAt 53 = .ok (.getfield 15, 3)) gf_X4_15 hk hv kk
theorem t_X4_inkAt_56 {a0 a1 a2 : Option Value} {x : Int32} (k : gv_G ε R m_X4_inkAt n0 Z 57 [a0, a1, a2, some (.int x)] (.int x :: st) sw cu su) : gv_G ε R m_X4_inkAt n0 Z 56 [a0, a1, a2, some (.int x)] st sw cu su := gv_iload_n (by decide +kernel : decode cX4_inkAt 56 = .ok (.iload_n 3, 1)) rfl rfl k
theorem t_X4_inkAt_57 (k : gv_G ε R m_X4_inkAt n0 Z 58 L (.int 3 :: st) sw cu su) : gv_G ε R m_X4_inkAt n0 Z 57 L (st) sw cu su := gv_iconst (by decide +kernel : decode cX4_inkAt 57 = .ok (.iconst 3, 1)) (by decide +kernel) k
theorem t_X4_inkAt_58 {x y : Int32} (k : gv_G ε R m_X4_inkAt n0 Z 59 L (.int (x * y) :: st) sw cu su) : gv_G ε R m_X4_inkAt n0 Z 58 L (.int y :: .int x :: st) sw cu su := gv_imul (by decide +kernel : decode cX4_inkAt 58 = .ok (.imul, 1)) k
theorem t_X4_inkAt_59 {a0 a1 a3 : Option Value} {x : Int32} (k : gv_G ε R m_X4_inkAt n0 Z 60 [a0, a1, some (.int x), a3] (.int x :: st) sw cu su) : gv_G ε R m_X4_inkAt n0 Z 59 [a0, a1, some (.int x), a3] st sw cu su := gv_iload_n (by decide +kernel : decode cX4_inkAt 59 = .ok (.iload_n 2, 1)) rfl rfl k
theorem t_X4_inkAt_60 (k : gv_G ε R m_X4_inkAt n0 Z 61 L (.int 3 :: st) sw cu su) : gv_G ε R m_X4_inkAt n0 Z 60 L (st) sw cu su := gv_iconst (by decide +kernel : decode cX4_inkAt 60 = .ok (.iconst 3, 1)) (by decide +kernel) k
theorem t_X4_inkAt_61 {x y : Int32} (h : ¬ y = 0) (k : gv_G ε R m_X4_inkAt n0 Z 62 L (.int (x - x / y * y) :: st) sw cu su) : gv_G ε R m_X4_inkAt n0 Z 61 L (.int y :: .int x :: st) sw cu su := gv_irem (by decide +kernel : decode cX4_inkAt 61 = .ok (.irem, 1)) h k
theorem t_X4_inkAt_62 {x y : Int32} (k : gv_G ε R m_X4_inkAt n0 Z 63 L (.int (x + y) :: st) sw cu su) : gv_G ε R m_X4_inkAt n0 Z 62 L (.int y :: .int x :: st) sw cu su := gv_iadd (by decide +kernel : decode cX4_inkAt 62 = .ok (.iadd, 1)) k
theorem t_X4_inkAt_63 {k n : Nat} {f : Nat → Int32} {i : Int32} (hk : sw[k]? = some (.inl (0, n, .inl f))) (j : Nat) (hj : j < n) (hi : i = nI j) (hn : n < 2 ^ 31) (kk : gv_G ε R m_X4_inkAt n0 Z 64 L (.int (f j) :: st) sw cu su) : gv_G ε R m_X4_inkAt n0 Z 63 L (.int i :: .ref k :: st) sw cu su := gv_ialoadJ (by decide +kernel : decode cX4_inkAt 63 = .ok (.iaload, 1)) hk j hj hi hn kk
theorem t_X4_inkAt_64 {v : Int32} (hq : Qs (some (.int v)) sw) : gv_M ε d m_X4_inkAt n0 Qs 64 L [.int v] sw 0 0 := gv_ireturn (by decide +kernel : decode cX4_inkAt 64 = .ok (.ireturn, 1)) rfl rfl rfl (Nat.zero_le _) hq
theorem t_X4_reset_0 (k : gv_G ε R m_X4_reset n0 Z 1 L (.int 0 :: st) sw cu su) : gv_G ε R m_X4_reset n0 Z 0 L (st) sw cu su := gv_iconst (by decide +kernel : decode cX4_reset 0 = .ok (.iconst 0, 1)) (by decide +kernel) k
theorem t_X4_reset_1 {a0 a1 : Option Value} {x : Int32} (k : gv_G ε R m_X4_reset n0 Z 2 [a0, some (.int x)] st sw cu su) : gv_G ε R m_X4_reset n0 Z 1 [a0, a1] (.int x :: st) sw cu su := gv_istore_n (by decide +kernel : decode cX4_reset 1 = .ok (.istore_n 1, 1)) rfl (Nat.le_of_ble_eq_true rfl) rfl k
theorem t_X4_reset_2 {a0 : Option Value} {x : Int32} (k : gv_G ε R m_X4_reset n0 Z 3 [a0, some (.int x)] (.int x :: st) sw cu su) : gv_G ε R m_X4_reset n0 Z 2 [a0, some (.int x)] st sw cu su := gv_iload_n (by decide +kernel : decode cX4_reset 2 = .ok (.iload_n 1, 1)) rfl rfl k
theorem t_X4_reset_3 (k : gv_G ε R m_X4_reset n0 Z 4 L (.int 3 :: st) sw cu su) : gv_G ε R m_X4_reset n0 Z 3 L (st) sw cu su := gv_iconst (by decide +kernel : decode cX4_reset 3 = .ok (.iconst 3, 1)) (by decide +kernel) k
theorem t_X4_reset_4 {x y : Int32} (kt : y ≤ x → gv_G ε R m_X4_reset n0 Z 24 L st sw cu su) (kf : ¬ (y ≤ x) → gv_G ε R m_X4_reset n0 Z 7 L st sw cu su) : gv_G ε R m_X4_reset n0 Z 4 L (.int y :: .int x :: st) sw cu su := gv_icmp_ge (by decide +kernel : decode cX4_reset 4 = .ok (.if_icmp .ge 20, 3)) (by decide +kernel) kt kf
theorem t_X4_reset_7 {a1 : Option Value} {x : Nat} (k : gv_G ε R m_X4_reset n0 Z 8 [some (.ref x), a1] (.ref x :: st) sw cu su) : gv_G ε R m_X4_reset n0 Z 7 [some (.ref x), a1] st sw cu su := gv_aload_n (by decide +kernel : decode cX4_reset 7 = .ok (.aload_n 0, 1)) rfl rfl k
theorem t_X4_reset_8 {k : Nat} {fs : List Value} {v : Value} (hk : sw[k]? = some (.inr (4, fs))) (hv : fs[0]? = some v) (kk : gv_G ε R m_X4_reset n0 Z 11 L (v :: st) sw cu su) : gv_G ε R m_X4_reset n0 Z 8 L (.ref k :: st) sw cu su := gv_getfield (by decide +kernel : decode cX4_reset 8 = .ok (.getfield 9, 3)) gf_X4_9 hk hv kk
theorem t_X4_reset_11 {a0 : Option Value} {x : Int32} (k : gv_G ε R m_X4_reset n0 Z 12 [a0, some (.int x)] (.int x :: st) sw cu su) : gv_G ε R m_X4_reset n0 Z 11 [a0, some (.int x)] st sw cu su := gv_iload_n (by decide +kernel : decode cX4_reset 11 = .ok (.iload_n 1, 1)) rfl rfl k
theorem t_X4_reset_12 (k : gv_G ε R m_X4_reset n0 Z 15 L (.ref 1000 :: st) sw cu su) : gv_G ε R m_X4_reset n0 Z 12 L st sw cu su := gv_getstaticN (by decide +kernel : decode cX4_reset 12 = .ok (.getstatic 27, 3)) (by decide : 0 < 3) (host := "StrikePasses") (List.mem_of_getElem? (i := 94) (by decide +kernel)) k
theorem t_X4_reset_15 {a0 : Option Value} {x : Int32} (k : gv_G ε R m_X4_reset n0 Z 16 [a0, some (.int x)] (.int x :: st) sw cu su) : gv_G ε R m_X4_reset n0 Z 15 [a0, some (.int x)] st sw cu su := gv_iload_n (by decide +kernel : decode cX4_reset 15 = .ok (.iload_n 1, 1)) rfl rfl k
theorem t_X4_reset_16 {k n : Nat} {f : Nat → Int32} {i : Int32} (hk : sw[k]? = some (.inl (0, n, .inl f))) (j : Nat) (hj : j < n) (hi : i = nI j) (hn : n < 2 ^ 31) (kk : gv_G ε R m_X4_reset n0 Z 17 L (.int (f j) :: st) sw cu su) : gv_G ε R m_X4_reset n0 Z 16 L (.int i :: .ref k :: st) sw cu su := gv_ialoadJ (by decide +kernel : decode cX4_reset 16 = .ok (.iaload, 1)) hk j hj hi hn kk
theorem t_X4_reset_16_x {j : Nat} {i : Int32} (hj : j < 4) (q : Nat) (hq : q < (gv_x ε j).1) (hi : i = nI q) (hn : (gv_x ε j).1 < 2 ^ 31) (kk : gv_G ε R m_X4_reset n0 Z 17 L (.int ((gv_x ε j).2 q) :: st) sw cu su) : gv_G ε R m_X4_reset n0 Z 16 L (.int i :: .ref (1000 + j) :: st) sw cu su := gv_xloadJ (by decide +kernel : decode cX4_reset 16 = .ok (.iaload, 1)) hj q hq hi hn kk
theorem t_X4_reset_17 {k n : Nat} {f : Nat → Int32} {i x : Int32} (hk : sw[k]? = some (.inl (0, n, .inl f))) (j : Nat) (hj : j < n) (hi : i = nI j) (hn : n < 2 ^ 31) (kk : gv_G ε R m_X4_reset n0 Z 18 L st (sw.set k (.inl (0, n, .inl (upd f j x)))) cu su) : gv_G ε R m_X4_reset n0 Z 17 L (.int x :: .int i :: .ref k :: st) sw cu su := gv_iastoreJ (by decide +kernel : decode cX4_reset 17 = .ok (.iastore, 1)) hk j hj hi hn kk
theorem t_X4_reset_18 {a0 : Option Value} {x : Int32} (k : gv_G ε R m_X4_reset n0 Z 21 [a0, some (.int (x + 1))] st sw cu su) : gv_G ε R m_X4_reset n0 Z 18 [a0, some (.int x)] st sw cu su := gv_iinc (by decide +kernel : decode cX4_reset 18 = .ok (.iinc 1 1, 3)) rfl (by rw [show Int32.ofInt 1 = 1 by decide +kernel]) rfl k
theorem t_X4_reset_21 (k : gv_G ε R m_X4_reset n0 Z 2 L st sw cu su) : gv_G ε R m_X4_reset n0 Z 21 L st sw cu su := gv_goto (by decide +kernel : decode cX4_reset 21 = .ok (.goto (-19), 3)) (by decide +kernel) k
theorem t_X4_reset_24 {a1 : Option Value} {x : Nat} (k : gv_G ε R m_X4_reset n0 Z 25 [some (.ref x), a1] (.ref x :: st) sw cu su) : gv_G ε R m_X4_reset n0 Z 24 [some (.ref x), a1] st sw cu su := gv_aload_n (by decide +kernel : decode cX4_reset 24 = .ok (.aload_n 0, 1)) rfl rfl k
theorem t_X4_reset_25 {k : Nat} {fs : List Value} {v : Value} (hk : sw[k]? = some (.inr (4, fs))) (hv : fs[1]? = some v) (kk : gv_G ε R m_X4_reset n0 Z 28 L (v :: st) sw cu su) : gv_G ε R m_X4_reset n0 Z 25 L (.ref k :: st) sw cu su := gv_getfield (by decide +kernel : decode cX4_reset 25 = .ok (.getfield 15, 3)) gf_X4_15 hk hv kk
theorem t_X4_reset_28 (k : gv_G ε R m_X4_reset n0 Z 29 L (.int 0 :: st) sw cu su) : gv_G ε R m_X4_reset n0 Z 28 L (st) sw cu su := gv_iconst (by decide +kernel : decode cX4_reset 28 = .ok (.iconst 0, 1)) (by decide +kernel) k
theorem t_X4_reset_29 {v0 v1 : Value} (h8 : (st.map (fun v => v.category)).sum ≤ 8) (hS : gv_S ε d m_J7_fill_53178 [v0, v1] sw (fun r sw' => gv_G ε (gv_rm (d + 1) m_X4_reset) m_X4_reset n0 Z 32 L (r.toList ++ st) sw' 0 0)) : gv_G ε (gv_rm (d + 1) m_X4_reset) m_X4_reset n0 Z 29 L (v1 :: v0 :: st) sw 0 0 := gv_invS (As := [v0, v1]) (d := d) (by decide +kernel : decode cX4_reset 29 = .ok (.invokestatic 30, 3)) gc_X4_30 rfl rfl (Nat.le_refl _) (Nat.le_refl _) (Nat.le_refl _) (Nat.le_refl _) h8 hS
theorem t_X4_reset_32 {a1 : Option Value} {x : Nat} (k : gv_G ε R m_X4_reset n0 Z 33 [some (.ref x), a1] (.ref x :: st) sw cu su) : gv_G ε R m_X4_reset n0 Z 32 [some (.ref x), a1] st sw cu su := gv_aload_n (by decide +kernel : decode cX4_reset 32 = .ok (.aload_n 0, 1)) rfl rfl k
theorem t_X4_reset_33 (k : gv_G ε R m_X4_reset n0 Z 34 L (.int 0 :: st) sw cu su) : gv_G ε R m_X4_reset n0 Z 33 L (st) sw cu su := gv_iconst (by decide +kernel : decode cX4_reset 33 = .ok (.iconst 0, 1)) (by decide +kernel) k
theorem t_X4_reset_34 {k : Nat} {fs : List Value} {x : Int32} (hk : sw[k]? = some (.inr (4, fs))) (hv : fs.length = 5) (kk : gv_G ε R m_X4_reset n0 Z 37 L st (sw.set k (.inr (4, fs.set 4 (.int x)))) cu su) : gv_G ε R m_X4_reset n0 Z 34 L (.int x :: .ref k :: st) sw cu su := gv_putfield (by decide +kernel : decode cX4_reset 34 = .ok (.putfield 36, 3)) (gp_X4_36 rfl rfl (Or.inl rfl)) (Or.inl ⟨_, _, _, rfl, rfl⟩) hk (by rw [hv]; decide) kk
theorem t_X4_reset_37 (hs : su ≤ 0) (hq : Qs none sw) : gv_M ε d m_X4_reset n0 Qs 37 L [] sw 0 su := gv_return (by decide +kernel : decode cX4_reset 37 = .ok (.return_, 1)) rfl rfl hs hq
end GT
end
