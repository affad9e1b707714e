/-! the reference: what startSending and newFrame make of the arrays -/
def ssF (F : Nat → Nat → Int32) (d sn ln : Nat) : Nat → Nat → Int32 := va_up (va_up (va_up (va_up (va_up (va_up F 10 (va_cpy (F 7) (upd (F 10) (41 * d) (nI ln)) (40 * (6 * d)) (41 * d + 1) ln)) 8 (upd (F 8) d (nI (ln + 1)))) 9 (upd (F 9) d (nI 0))) 5 (upd (F 5) d (nI (sn - 1)))) 6 (va_cpy (F 6) (F 6) (6 * d + 1) (6 * d) (sn - 1))) 7 (va_cpy (F 7) (F 7) (40 * (6 * d) + 40) (40 * (6 * d)) (40 * (sn - 1)))
def nfF (F : Nat → Nat → Int32) (d : Nat) (pp : Bool) (at_ sl_ : Nat) (tu : Bool) : Nat → Nat → Int32 := va_up (va_up (va_up (va_up (va_up (va_up F 11 (upd (F 11) d (nI (nxt (!pp) (sl_ - at_))))) 12 (upd (F 12) d (nI (cond pp 4 3)))) 13 (upd (F 13) d (bI (decide (at_ = 0))))) 14 (va_cpy (F 10) (F 14) (41 * d + at_) (13 * d) (nxt (!pp) (sl_ - at_)))) 9 (upd (F 9) d (nI (at_ + nxt (!pp) (sl_ - at_))))) 22 (upd (F 22) d (bI (!tu)))
theorem ss_9 (F : Nat → Nat → Int32) (d sn ln : Nat) : ssF F d sn ln 9 d = nI 0 := by show upd (F 9) d (nI 0) d = _; rw [pk_us]
theorem ss_8 (F : Nat → Nat → Int32) (d sn ln : Nat) : ssF F d sn ln 8 d = nI (ln + 1) := by show upd (F 8) d (nI (ln + 1)) d = _; rw [pk_us]
theorem up_1 {α : Type} {F : Nat → α} {i : Nat} {a : α} (ha : F i = a) : F = va_up F i a := by subst ha; rw [up_self]
/-! the air, as the reference makes it -/
theorem wrL_push0 {f : Nat → Int32} {k : Nat} {l : List Bool} {b : Bool} (hk : k = l.length) : upd (wrL f 0 l) k (bI b) = wrL f 0 (l ++ [b]) := by
  subst hk
  have := wrL_push (f := f) (lo := 0) (l := l) (b := b)
  rw [Nat.zero_add] at this
  exact this
theorem wrL_in0 {f : Nat → Int32} {l : List Bool} {i : Nat} (h : i < l.length) : wrL f 0 l i = bI (l.getD i false) := by
  have := wrL_in (f := f) (lo := 0) h
  rw [Nat.zero_add] at this
  exact this
theorem whz_getD {l : List Bool} {ck st i : Nat} (hi : i < l.length) (hs : st + l.length ≤ 168) : (whz l (wt ck) st).getD i false = (l.getD i false ^^ wb ck (st + i)) := by
  unfold whz wh
  rw [List.getD_eq_getElem?_getD, List.getElem?_mapIdx, List.getElem?_eq_getElem hi]
  simp only [Option.map_some, Option.getD_some, hi, if_true]
  rw [wt_getD (by omega), List.getD_eq_getElem?_getD, List.getElem?_eq_getElem hi]
  rfl
theorem sl_getD {l : List Bool} {st n i : Nat} (h : i < n) : (sl l st n).getD i false = l.getD (st + i) false := by simp [sl, h]
theorem sl_all (l : List Bool) : sl l 0 l.length = l := by
  apply List.ext_getElem
  · rw [sl_len]
  · intro i h1 h2
    simp [sl, h2]
theorem sl_sl (l : List Bool) (st n : Nat) : sl (sl l st n) 0 n = sl l st n := by
  have := sl_all (sl l st n)
  rw [sl_len] at this
  exact this
theorem f15_sl (l : List Bool) (t : Nat) : sl (f15 l t) 0 15 = sl l (10 * t) 10 ++ rb (crc 53 5 (sl l (10 * t) 10)) 5 := by
  have h : (f15 l t).length = 15 := by simp [f15, sl_len, rb_len]
  have := sl_all (f15 l t)
  rw [h] at this
  rw [this, f15, List.nil_append, sl_sl]
theorem up_c02 {F : Nat → Nat → Int32} {a b a' : Nat → Int32} : va_up (va_up (va_up F 0 a) 2 b) 0 a' = va_up (va_up F 0 a') 2 b := by rw [up_comm _ (by decide : (2 : Nat) ≠ 0), bx_uu]
