/-! rows and sheets change alike; the parser on rows -/
section R
variable {s : shT} {r : Nat → Nat}
theorem Rel_set (h : Rel s r) {p w : Nat} (hp : p < 3) : Rel (shSet s p w) (up r p w) := by
  obtain ⟨h1, h2, h3, h4, h5⟩ := h
  refine ⟨fun i hi => ?_, fun j hj => ?_, ?_, fun l hl => ?_, fun l k hl hk => ?_⟩
  · show up r p w i = up s.1 p w i
    unfold up
    split
    · rfl
    · exact h1 i hi
  · rw [up_ne (by omega)]; exact h2 j hj
  · rw [up_ne (by omega)]; exact h3
  · rw [up_ne (by omega)]; exact h4 l hl
  · rw [up_ne (by omega)]; exact h5 l k hl hk
theorem shOk_set (h : shOk s) {p w : Nat} (hr : rgOk p w) : shOk (shSet s p w) := by
  obtain ⟨o1, o2, o3, o4, o5, o6, o7⟩ := h
  refine ⟨?_, ?_, ?_, o4, o5, o6, o7⟩
  · show up s.1 p w 0 ≤ 4
    unfold up
    rcases hr with ⟨a, b⟩ | ⟨a, b⟩ | ⟨a, b⟩ <;> subst a <;> simp <;> omega
  · show up s.1 p w 1 ≤ 9
    unfold up
    rcases hr with ⟨a, b⟩ | ⟨a, b⟩ | ⟨a, b⟩ <;> subst a <;> simp <;> omega
  · show 1 ≤ up s.1 p w 2 ∧ up s.1 p w 2 ≤ 72
    unfold up
    rcases hr with ⟨a, b⟩ | ⟨a, b⟩ | ⟨a, b⟩ <;> subst a <;> simp <;> omega
theorem Rel_draw (h : Rel s r) {p w : Nat} (hp : p < 18) : Rel (shDraw s p w) (up r (3 + p) w) := by
  obtain ⟨h1, h2, h3, h4, h5⟩ := h
  refine ⟨fun i hi => ?_, fun j hj => ?_, ?_, fun l hl => ?_, fun l k hl hk => ?_⟩
  · rw [up_ne (by omega)]; exact h1 i hi
  · show up r (3 + p) w (3 + j) = up s.2.1 p w j
    by_cases e : j = p
    · subst e
      rw [up_at, up_at]
    · rw [up_ne (by omega), up_ne e]
      exact h2 j hj
  · rw [up_ne (by omega)]; exact h3
  · rw [up_ne (by omega)]; exact h4 l hl
  · rw [up_ne (by omega)]; exact h5 l k hl hk
theorem shOk_draw (h : shOk s) {p w : Nat} (hw : w ≤ 255) : shOk (shDraw s p w) := by
  obtain ⟨o1, o2, o3, o4, o5, o6, o7⟩ := h
  refine ⟨o1, o2, o3, fun j hj => ?_, o5, o6, o7⟩
  show up s.2.1 p w j ≤ 255
  unfold up
  split
  · exact hw
  · exact o4 j hj
theorem Rel_beg (h : Rel s r) (hl : s.2.2.2.2 < 4) : Rel (shBeg s) (up r 21 (s.2.2.2.2 + 1)) := by
  obtain ⟨h1, h2, h3, h4, h5⟩ := h
  refine ⟨fun i hi => ?_, fun j hj => ?_, ?_, fun l hl => ?_, fun l k hl hk => ?_⟩
  · rw [up_ne (by omega)]; exact h1 i hi
  · rw [up_ne (by omega)]; exact h2 j hj
  · exact up_at _ _ _
  · rw [up_ne (by omega), h4 l hl]
    show _ = if l < s.2.2.2.2 + 1 then up s.2.2.1 s.2.2.2.2 0 l else 0
    by_cases e : l = s.2.2.2.2
    · subst e
      rw [if_neg (by omega), if_pos (by omega), up_at]
    · by_cases q : l < s.2.2.2.2
      · rw [if_pos q, if_pos (by omega), up_ne e]
      · rw [if_neg q, if_neg (by omega)]
  · rw [up_ne (by omega), h5 l k hl hk]
    show _ = if l < s.2.2.2.2 + 1 ∧ k < up s.2.2.1 s.2.2.2.2 0 l then s.2.2.2.1 (8 * l + k) else 0
    by_cases e : l = s.2.2.2.2
    · subst e
      rw [if_neg (by omega), if_neg (fun z => by rw [up_at] at z; omega)]
    · rw [up_ne e]
      by_cases q : l < s.2.2.2.2 ∧ k < s.2.2.1 l
      · rw [if_pos q, if_pos ⟨by omega, q.2⟩]
      · rw [if_neg q, if_neg (fun z => q ⟨by omega, z.2⟩)]
theorem shOk_beg (h : shOk s) (hl : s.2.2.2.2 < 4) : shOk (shBeg s) := by
  obtain ⟨o1, o2, o3, o4, o5, o6, o7⟩ := h
  refine ⟨o1, o2, o3, o4, hl, fun l hl => ?_, fun l k hl hk => ?_⟩
  · show up s.2.2.1 s.2.2.2.2 0 l ≤ 8
    have hl : l < s.2.2.2.2 + 1 := hl
    by_cases e : l = s.2.2.2.2
    · rw [e, up_at]; omega
    · rw [up_ne e]; exact o6 l (by omega)
  · have hl : l < s.2.2.2.2 + 1 := hl
    have hk : k < up s.2.2.1 s.2.2.2.2 0 l := hk
    by_cases e : l = s.2.2.2.2
    · rw [e, up_at] at hk; omega
    · rw [up_ne e] at hk; exact o7 l k (by omega) hk
theorem Rel_app (h : Rel s r) (ho : shOk s) {l g : Nat} (hl : l < s.2.2.2.2) (hlen : s.2.2.1 l < 8) : Rel (shApp s l g) (up (up r (26 + 8 * l + s.2.2.1 l) g) (22 + l) (s.2.2.1 l + 1)) := by
  obtain ⟨h1, h2, h3, h4, h5⟩ := h
  have hl4 := ho.2.2.2.2.1
  refine ⟨fun i hi => ?_, fun j hj => ?_, ?_, fun l' hl' => ?_, fun l' k hl' hk => ?_⟩
  · rw [up_ne (by omega), up_ne (by omega)]; exact h1 i hi
  · rw [up_ne (by omega), up_ne (by omega)]; exact h2 j hj
  · rw [up_ne (by omega), up_ne (by omega)]; exact h3
  · show _ = if l' < s.2.2.2.2 then up s.2.2.1 l (s.2.2.1 l + 1) l' else 0
    by_cases e : l' = l
    · subst e
      rw [up_at, up_at, if_pos hl]
    · rw [up_ne (by omega), up_ne (by omega), up_ne e]
      exact h4 l' hl'
  · show _ = if l' < s.2.2.2.2 ∧ k < up s.2.2.1 l (s.2.2.1 l + 1) l' then up s.2.2.2.1 (8 * l + s.2.2.1 l) g (8 * l' + k) else 0
    rw [up_ne (by omega)]
    by_cases e : l' = l
    · subst e
      rw [up_at]
      by_cases q : k = s.2.2.1 l'
      · subst q
        rw [up_at, up_at, if_pos ⟨hl, by omega⟩]
      · rw [up_ne (by omega), up_ne (by omega), h5 l' k hl' hk]
        by_cases z : k < s.2.2.1 l'
        · rw [if_pos ⟨hl, z⟩, if_pos ⟨hl, by omega⟩]
        · rw [if_neg (fun y => z y.2), if_neg (fun y => by omega)]
    · rw [up_ne (by omega), up_ne e, up_ne (by omega)]
      exact h5 l' k hl' hk
theorem shOk_app (ho : shOk s) {l g : Nat} (hl : l < s.2.2.2.2) (hlen : s.2.2.1 l < 8) (hg : g ≤ 6) : shOk (shApp s l g) := by
  obtain ⟨o1, o2, o3, o4, o5, o6, o7⟩ := ho
  refine ⟨o1, o2, o3, o4, o5, fun l' hl' => ?_, fun l' k hl' hk => ?_⟩
  · show up s.2.2.1 l (s.2.2.1 l + 1) l' ≤ 8
    by_cases e : l' = l
    · rw [e, up_at]; omega
    · rw [up_ne e]; exact o6 l' hl'
  · have hk : k < up s.2.2.1 l (s.2.2.1 l + 1) l' := hk
    have a := o6 l' hl'
    show up s.2.2.2.1 (8 * l + s.2.2.1 l) g (8 * l' + k) ≤ 6
    by_cases q : 8 * l' + k = 8 * l + s.2.2.1 l
    · rw [q, up_at]; exact hg
    · rw [up_ne q]
      by_cases e : l' = l
      · subst e
        rw [up_at] at hk
        exact o7 l' k hl' (by omega)
      · rw [up_ne e] at hk
        exact o7 l' k hl' hk
theorem Rel_ch (h : Rel s r) (ho : shOk s) {l : Nat} (hl : l < s.2.2.2.2) (hlen : 0 < s.2.2.1 l) : Rel (shCh s l) (skR r l) := by
  obtain ⟨h1, h2, h3, h4, h5⟩ := h
  have hl4 := ho.2.2.2.2.1
  have h8 := ho.2.2.2.2.2.1 l hl
  have e22 : r (22 + l) = s.2.2.1 l := by rw [h4 l (by omega), if_pos hl]
  unfold skR
  rw [e22]
  refine ⟨fun i hi => ?_, fun j hj => ?_, ?_, fun l' hl' => ?_, fun l' k hl' hk => ?_⟩
  · rw [up_ne (by omega), up_ne (by omega)]; exact h1 i hi
  · rw [up_ne (by omega), up_ne (by omega)]; exact h2 j hj
  · rw [up_ne (by omega), up_ne (by omega)]; exact h3
  · show _ = if l' < s.2.2.2.2 then up s.2.2.1 l (s.2.2.1 l - 1) l' else 0
    rw [up_ne (by omega)]
    by_cases e : l' = l
    · subst e
      rw [up_at, up_at, if_pos hl]
    · rw [up_ne (by omega), up_ne e]
      exact h4 l' hl'
  · show _ = if l' < s.2.2.2.2 ∧ k < up s.2.2.1 l (s.2.2.1 l - 1) l' then s.2.2.2.1 (8 * l' + k) else 0
    by_cases e : l' = l
    · subst e
      rw [up_at]
      by_cases q : k = s.2.2.1 l' - 1
      · subst q
        rw [up_at, if_neg (fun y => by omega)]
      · rw [up_ne (by omega), up_ne (by omega), h5 l' k hl' hk]
        by_cases z : k < s.2.2.1 l'
        · rw [if_pos ⟨hl, z⟩, if_pos ⟨hl, by omega⟩]
        · rw [if_neg (fun y => z y.2), if_neg (fun y => by omega)]
    · rw [up_ne (by omega), up_ne (by omega), up_ne e]
      exact h5 l' k hl' hk
theorem shOk_ch (ho : shOk s) {l : Nat} (hl : l < s.2.2.2.2) : shOk (shCh s l) := by
  obtain ⟨o1, o2, o3, o4, o5, o6, o7⟩ := ho
  refine ⟨o1, o2, o3, o4, o5, fun l' hl' => ?_, fun l' k hl' hk => ?_⟩
  · show up s.2.2.1 l (s.2.2.1 l - 1) l' ≤ 8
    by_cases e : l' = l
    · rw [e, up_at]
      have := o6 l hl
      omega
    · rw [up_ne e]; exact o6 l' hl'
  · have hk : k < up s.2.2.1 l (s.2.2.1 l - 1) l' := hk
    by_cases e : l' = l
    · subst e
      rw [up_at] at hk
      exact o7 l' k hl' (by omega)
    · rw [up_ne e] at hk
      exact o7 l' k hl' hk
def drR (r : Nat → Nat) : Nat → Nat := fun i => if i = 21 then r 21 - 1 else if i = 22 + (r 21 - 1) ∨ (26 + 8 * (r 21 - 1) ≤ i ∧ i < 34 + 8 * (r 21 - 1)) then 0 else r i
theorem Rel_drop (h : Rel s r) (ho : shOk s) (hl : 0 < s.2.2.2.2) : Rel (shDrop s) (drR r) := by
  obtain ⟨h1, h2, h3, h4, h5⟩ := h
  have hl4 := ho.2.2.2.2.1
  refine ⟨fun i hi => ?_, fun j hj => ?_, ?_, fun l' hl' => ?_, fun l' k hl' hk => ?_⟩
  · unfold drR
    rw [if_neg (by omega), if_neg (by omega)]
    exact h1 i hi
  · unfold drR
    rw [if_neg (by omega), if_neg (by omega)]
    exact h2 j hj
  · unfold drR
    rw [if_pos rfl, h3]
    rfl
  · show drR r (22 + l') = if l' < s.2.2.2.2 - 1 then s.2.2.1 l' else 0
    unfold drR
    rw [if_neg (by omega), h3]
    by_cases e : l' = s.2.2.2.2 - 1
    · rw [if_pos (by omega), if_neg (by omega)]
    · rw [if_neg (by omega), h4 l' hl']
      by_cases q : l' < s.2.2.2.2
      · rw [if_pos q, if_pos (by omega)]
      · rw [if_neg q, if_neg (by omega)]
  · show drR r (26 + 8 * l' + k) = if l' < s.2.2.2.2 - 1 ∧ k < s.2.2.1 l' then s.2.2.2.1 (8 * l' + k) else 0
    unfold drR
    rw [if_neg (by omega), h3]
    by_cases e : l' = s.2.2.2.2 - 1
    · rw [if_pos (by omega), if_neg (by omega)]
    · rw [if_neg (by omega), h5 l' k hl' hk]
      by_cases q : l' < s.2.2.2.2 ∧ k < s.2.2.1 l'
      · rw [if_pos q, if_pos ⟨by omega, q.2⟩]
      · rw [if_neg q, if_neg (fun z => q ⟨by omega, z.2⟩)]
theorem shOk_drop (ho : shOk s) : shOk (shDrop s) := by
  obtain ⟨o1, o2, o3, o4, o5, o6, o7⟩ := ho
  refine ⟨o1, o2, o3, o4, ?_, fun l' hl' => ?_, fun l' k hl' hk => ?_⟩
  · show s.2.2.2.2 - 1 ≤ 4
    omega
  · have hl' : l' < s.2.2.2.2 - 1 := hl'
    exact o6 l' (by omega)
  · have hl' : l' < s.2.2.2.2 - 1 := hl'
    exact o7 l' k (by omega) hk
theorem Rel_cp {t : shT} (h : Rel s r) (ho : shOk s) : Rel (shCp s t) r := by
  obtain ⟨h1, h2, h3, h4, h5⟩ := h
  have hl4 := ho.2.2.2.2.1
  refine ⟨fun i hi => ?_, fun j hj => ?_, h3, fun l hl => ?_, fun l k hl hk => ?_⟩
  · show r i = va_cpy s.1 t.1 0 0 3 i
    rw [cpy_in _ _ hi]; exact h1 i hi
  · show r (3 + j) = va_cpy s.2.1 t.2.1 0 0 18 j
    rw [cpy_in _ _ hj]; exact h2 j hj
  · show r (22 + l) = if l < s.2.2.2.2 then va_cpy s.2.2.1 t.2.2.1 0 0 4 l else 0
    rw [cpy_in _ _ hl]; exact h4 l hl
  · show r (26 + 8 * l + k) = if l < s.2.2.2.2 ∧ k < va_cpy s.2.2.1 t.2.2.1 0 0 4 l then va_cpy s.2.2.2.1 t.2.2.2.1 0 0 32 (8 * l + k) else 0
    rw [cpy_in _ _ hl, cpy_in _ _ (by omega)]; exact h5 l k hl hk
theorem shOk_cp {t : shT} (ho : shOk s) : shOk (shCp s t) := by
  obtain ⟨o1, o2, o3, o4, o5, o6, o7⟩ := ho
  refine ⟨?_, ?_, ?_, fun j hj => ?_, o5, fun l hl => ?_, fun l k hl hk => ?_⟩
  · show va_cpy s.1 t.1 0 0 3 0 ≤ 4
    rw [cpy_in _ _ (by decide)]; exact o1
  · show va_cpy s.1 t.1 0 0 3 1 ≤ 9
    rw [cpy_in _ _ (by decide)]; exact o2
  · show 1 ≤ va_cpy s.1 t.1 0 0 3 2 ∧ va_cpy s.1 t.1 0 0 3 2 ≤ 72
    rw [cpy_in _ _ (by decide)]; exact o3
  · show va_cpy s.2.1 t.2.1 0 0 18 j ≤ 255
    rw [cpy_in _ _ hj]; exact o4 j hj
  · have hl : l < s.2.2.2.2 := hl
    show va_cpy s.2.2.1 t.2.2.1 0 0 4 l ≤ 8
    rw [cpy_in _ _ (by omega)]; exact o6 l hl
  · have hl : l < s.2.2.2.2 := hl
    have hk : k < va_cpy s.2.2.1 t.2.2.1 0 0 4 l := hk
    rw [cpy_in _ _ (by omega)] at hk
    have := o6 l hl
    show va_cpy s.2.2.2.1 t.2.2.2.1 0 0 32 (8 * l + k) ≤ 6
    rw [cpy_in _ _ (by omega)]; exact o7 l k hl hk
end R
/-! the parser -/
abbrev PR : Type := Bool × Nat × Nat × (Nat → Nat)
def pNum (T : Nat → Nat) (n lo hi a p : Nat) (rd : Nat → Nat) : PR := (decide (1000 + lo ≤ tkC T n p ∧ tkC T n p ≤ 1000 + hi), bl T n p, tkN T n p, if 1000 + lo ≤ tkC T n p ∧ tkC T n p ≤ 1000 + hi then up rd a (tkC T n p - 1000) else rd)
def pStop (T : Nat → Nat) (n p : Nat) (rd : Nat → Nat) : PR := (decide (tkC T n p = 59), bl T n p, tkN T n p, rd)
def thn (x : PR) (f : Nat → (Nat → Nat) → PR) : PR := if x.1 = true then f x.2.2.1 x.2.2.2 else x
theorem thn_t {x : PR} {f : Nat → (Nat → Nat) → PR} (h : x.1 = true) : thn x f = f x.2.2.1 x.2.2.2 := if_pos h
theorem thn_f {x : PR} {f : Nat → (Nat → Nat) → PR} (h : ¬ x.1 = true) : thn x f = x := if_neg h
abbrev loP (w : Nat) : Nat := if w = 2 then 1 else 0
abbrev hiP (w : Nat) : Nat := if w = 0 then 4 else if w = 1 then 9 else 72
theorem hiP_le (w : Nat) : hiP w ≤ 72 := by
  unfold hiP
  split
  · omega
  · split <;> omega
theorem rg_iff {p w : Nat} (hp : p < 3) : rgOk p w ↔ loP p ≤ w ∧ w ≤ hiP p := by
  unfold rgOk loP hiP
  have : p = 0 ∨ p = 1 ∨ p = 2 := by omega
  rcases this with e | e | e <;> subst e <;> simp <;> omega
def pSet (T : Nat → Nat) (n w p : Nat) (rd : Nat → Nat) : PR := thn (pNum T n (loP w) (hiP w) w p rd) (pStop T n)
def pShape (T : Nat → Nat) (n p : Nat) (rd : Nat → Nat) : PR := if 97 ≤ tkC T n p ∧ tkC T n p ≤ 102 then thn (thn (thn (pNum T n 0 255 (3 + 3 * (tkC T n p - 97)) (tkN T n p) rd) (pNum T n 0 255 (3 + 3 * (tkC T n p - 97) + 1))) (pNum T n 0 255 (3 + 3 * (tkC T n p - 97) + 2))) (pStop T n) else (false, bl T n p, tkN T n p, rd)
def pLin (T : Nat → Nat) (n l : Nat) : Nat → Nat → (Nat → Nat) → PR
  | 0, p, rd => (false, bl T n p, tkN T n p, rd)
  | f + 1, p, rd => if tkC T n p = 46 ∨ (97 ≤ tkC T n p ∧ tkC T n p ≤ 102) then (if rd (22 + l) = 8 then (false, bl T n p, tkN T n p, rd) else pLin T n l f (tkN T n p) (up (up rd (26 + 8 * l + rd (22 + l)) (if tkC T n p = 46 then 6 else tkC T n p - 97)) (22 + l) (rd (22 + l) + 1))) else (decide (tkC T n p = 59), bl T n p, tkN T n p, rd)
theorem pLin_s (T : Nat → Nat) (n l f p : Nat) (rd : Nat → Nat) : pLin T n l (f + 1) p rd = if tkC T n p = 46 ∨ (97 ≤ tkC T n p ∧ tkC T n p ≤ 102) then (if rd (22 + l) = 8 then (false, bl T n p, tkN T n p, rd) else pLin T n l f (tkN T n p) (up (up rd (26 + 8 * l + rd (22 + l)) (if tkC T n p = 46 then 6 else tkC T n p - 97)) (22 + l) (rd (22 + l) + 1))) else (decide (tkC T n p = 59), bl T n p, tkN T n p, rd) := rfl
/-- st: where the token of the line's own letter begins -/
def pLine (T : Nat → Nat) (n st p : Nat) (rd : Nat → Nat) : PR := if rd 21 = 4 then (false, st, p, rd) else pLin T n (rd 21) 9 p (up rd 21 (rd 21 + 1))
def pItem (T : Nat → Nat) (n p : Nat) (rd : Nat → Nat) : PR := if tkC T n p = 103 then pSet T n 0 (tkN T n p) rd else if tkC T n p = 114 then pSet T n 1 (tkN T n p) rd else if tkC T n p = 110 then pSet T n 2 (tkN T n p) rd else if tkC T n p = 100 then pShape T n (tkN T n p) rd else if tkC T n p = 108 then pLine T n (bl T n p) (tkN T n p) rd else (false, bl T n p, tkN T n p, rd)
/-- how many items, or where the fault is -/
def pAll (T : Nat → Nat) (n : Nat) : Nat → Nat → Nat → (Nat → Nat) → Bool × Nat × (Nat → Nat)
  | 0, _, _, rd => (false, 0, rd)
  | f + 1, k, p, rd => if tkC T n p = 3000 then (true, k, rd) else if (pItem T n p rd).1 = true then pAll T n f (k + 1) (pItem T n p rd).2.2.1 (pItem T n p rd).2.2.2 else (false, (pItem T n p rd).2.1, rd)
theorem pAll_s (T : Nat → Nat) (n f k p : Nat) (rd : Nat → Nat) : pAll T n (f + 1) k p rd = if tkC T n p = 3000 then (true, k, rd) else if (pItem T n p rd).1 = true then pAll T n f (k + 1) (pItem T n p rd).2.2.1 (pItem T n p rd).2.2.2 else (false, (pItem T n p rd).2.1, rd) := rfl
def bgR : Nat → Nat := fun i => if i = 0 then 2 else if i = 1 then 1 else if i = 2 then 12 else 0
