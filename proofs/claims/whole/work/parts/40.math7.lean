/-! the reference: what hear reads and writes -/
theorem majL_getD {a : List Bool} {n i : Nat} (h : i < n) : (majL a n).getD i false = maj (a.getD (3 * i) false) (a.getD (3 * i + 1) false) (a.getD (3 * i + 2) false) := by simp [majL, h]
theorem tH_getD {ck i : Nat} {a : List Bool} (h : i < 18) : (tH ck a).getD i false = (maj (a.getD (3 * i) false) (a.getD (3 * i + 1) false) (a.getD (3 * i + 2) false) ^^ wb ck i) := by
  rw [tH, whz_getD (by rw [majL_len]; exact h) (by rw [majL_len]; omega), majL_getD h, Nat.zero_add]
theorem tH_sl (ck : Nat) (a : List Bool) : sl (tH ck a) 0 18 = tH ck a := by
  have := sl_all (tH ck a)
  rw [tH_len] at this
  exact this
theorem wrL_same {f : Nat → Int32} {l : List Bool} (h : ∀ i, i < l.length → f i = bI (l.getD i false)) : wrL f 0 l = f := by
  funext j
  by_cases hj : j < l.length
  · rw [wrL_in0 hj, h j hj]
  · rw [wrL_hi (by omega)]
theorem wrL_set {f : Nat → Int32} {lo : Nat} {l : List Bool} {j : Nat} {b : Bool} (h : j < l.length) : upd (wrL f lo l) (lo + j) (bI b) = wrL f lo (l.set j b) := by
  funext i
  by_cases hi : i = lo + j
  · subst hi
    rw [pk_us, wrL_in (by rw [List.length_set]; exact h)]
    simp [h]
  · rw [pk_un hi]
    unfold wrL
    rw [List.length_set]
    by_cases h1 : lo ≤ i ∧ i < lo + l.length
    · rw [if_pos h1, if_pos h1]
      congr 1
      rw [List.getD_eq_getElem?_getD, List.getD_eq_getElem?_getD, List.getElem?_set_ne (by omega)]
    · rw [if_neg h1, if_neg h1]
theorem wrL_flip {f : Nat → Int32} {l : List Bool} {j : Nat} (h : j < l.length) : upd (wrL f 0 l) j (bI (!l.getD j false)) = wrL f 0 (l.modify j (fun b => !b)) := by
  have := wrL_set (f := f) (lo := 0) (b := !l.getD j false) h
  rw [Nat.zero_add] at this
  rw [this, modify_in h]
theorem wrL_over {f : Nat → Int32} {lo : Nat} {l l2 : List Bool} (h : l.length = l2.length) : wrL (wrL f lo l) lo l2 = wrL f lo l2 := by
  funext j
  unfold wrL
  rw [h]
  by_cases h1 : lo ≤ j ∧ j < lo + l2.length
  · rw [if_pos h1, if_pos h1]
  · rw [if_neg h1, if_neg h1, if_neg h1]
theorem wrL_swap {f : Nat → Int32} {p : Nat} {X Y : List Bool} (h : X.length ≤ p) : wrL (wrL f 0 X) p Y = wrL (wrL f p Y) 0 X := by
  funext j
  unfold wrL
  by_cases h1 : p ≤ j ∧ j < p + Y.length
  · rw [if_pos h1, if_neg (by omega), if_pos h1]
  · rw [if_neg h1]
    by_cases h2 : 0 ≤ j ∧ j < 0 + X.length
    · rw [if_pos h2, if_pos h2]
    · rw [if_neg h2, if_neg h2, if_neg h1]
theorem upd_same {f : Nat → Int32} {k : Nat} {x : Int32} (h : f k = x) : upd f k x = f := by
  funext j
  by_cases e : j = k
  · subst e; rw [pk_us, h]
  · rw [pk_un e]
theorem upd_upd {f : Nat → Int32} {k : Nat} {x y : Int32} : upd (upd f k x) k y = upd f k y := by
  funext j
  by_cases e : j = k
  · subst e; rw [pk_us, pk_us]
  · rw [pk_un e, pk_un e, pk_un e]
theorem bI_and (x y : Bool) : bI x &&& bI y = bI (x && y) := by cases x <;> cases y <;> decide
theorem fx_len (f : List Bool) : (fx f).length = f.length := by
  unfold fx
  split
  · rfl
  · exact mf_len f
theorem up_c227 {F : Nat → Nat → Int32} {a b c : Nat → Int32} : va_up (va_up (va_up F 2 a) 27 b) 2 c = va_up (va_up F 2 c) 27 b := by rw [up_comm _ (by decide : (27 : Nat) ≠ 2), bx_uu]
theorem rd0 {g : Nat → Int32} {L : List Bool} {k i : Nat} (hk : k ≤ L.length) (hi : i < (sl L 0 k).length) : wrL g 0 L (0 + i) = bI ((sl L 0 k).getD i false) := by
  rw [sl_len] at hi
  rw [Nat.zero_add, wrL_in0 (by omega), sl_getD hi, Nat.zero_add]
theorem rd1 {g : Nat → Int32} {L : List Bool} {st n i : Nat} (hk : st + n ≤ L.length) (hi : i < n) : wrL g 0 L (st + i) = bI ((sl L st n).getD i false) := by
  rw [wrL_in0 (by omega), sl_getD hi]
theorem rd2 {g : Nat → Int32} {L : List Bool} {st n i : Nat} (hk : st + n ≤ L.length) (hi : i < n) : wrL g 0 L (st + i) = bI (L.getD (st + i) false) := wrL_in0 (by omega)
def ldi (kd : Nat) (a : List Bool) : List Bool := if kd = 3 then tkL a ((a.length - 54) / 15) else [] ++ sl a 54 (a.length - 54)
def ldl (kd ck : Nat) (a : List Bool) : List Bool := whz (ldi kd a) (wt ck) 18
def lds (kd : Nat) (a : List Bool) : Bool := if kd = 3 then tkS a ((a.length - 54) / 15) else true
def ldn (kd : Nat) (a : List Bool) : Nat := if kd = 3 then 0 + tkC a ((a.length - 54) / 15) else 0
theorem tL_ld (ck : Nat) (a : List Bool) : tL ck a = ldl (toN (tH ck a) 3 4) ck a := rfl
theorem tSo_ld (ck : Nat) (a : List Bool) : tSo ck a = lds (toN (tH ck a) 3 4) a := rfl
theorem tCr_ld (ck : Nat) (a : List Bool) : tCr ck a = ldn (toN (tH ck a) 3 4) a := rfl
theorem ldi_le {kd : Nat} {a : List Bool} (h : a.length ≤ 204) : (ldi kd a).length ≤ 150 := by
  unfold ldi
  split
  · rw [tkL_len]; omega
  · rw [List.nil_append, sl_len]; omega
theorem ldi_3 (a : List Bool) : ldi 3 a = tkL a ((a.length - 54) / 15) := by rw [ldi, if_pos rfl]
theorem ldi_4 (a : List Bool) : ldi 4 a = sl a 54 (a.length - 54) := by rw [ldi, if_neg (by decide), List.nil_append]
theorem lds_3 (a : List Bool) : lds 3 a = tkS a ((a.length - 54) / 15) := by rw [lds, if_pos rfl]
theorem lds_4 (a : List Bool) : lds 4 a = true := by rw [lds, if_neg (by decide)]
theorem ldn_3 (a : List Bool) : ldn 3 a = tkC a ((a.length - 54) / 15) := by rw [ldn, if_pos rfl, Nat.zero_add]
theorem ldn_4 (a : List Bool) : ldn 4 a = 0 := by rw [ldn, if_neg (by decide)]
theorem ldl_len (kd ck : Nat) (a : List Bool) : (ldl kd ck a).length = (ldi kd a).length := by rw [ldl, whz_len]
theorem ldOK_short {l : List Bool} (h : l.length < 24 + 8 * (toN l 0 8 / 4)) : ldOK l = false := by
  unfold ldOK
  rw [decide_eq_false (by omega), Bool.false_and]
theorem ldOK_0 {l : List Bool} (h : toN l 0 8 / 4 = 0) : ldOK l = false := by
  unfold ldOK
  rw [h]
  simp
theorem toN_lo (l : List Bool) : toN l 0 8 % 4 = (l.getD 0 false).toNat + 2 * (l.getD 1 false).toNat := by
  simp only [toN, Nat.zero_add]
  cases l.getD 0 false <;> cases l.getD 1 false <;> simp only [Bool.toNat_true, Bool.toNat_false] <;> omega
theorem ldOK_eq {l : List Bool} (h : l.getD 0 false = l.getD 1 false) : ldOK l = false := by
  have e : (decide (toN l 0 8 % 4 = 2) || decide (toN l 0 8 % 4 = 1)) = false := by
    rw [toN_lo, h]
    cases l.getD 1 false <;> rfl
  unfold ldOK
  rw [e]
  simp
theorem ldOK_r {l : List Bool} (h0 : ¬ toN l 0 8 / 4 = 0) (h1 : 24 + 8 * (toN l 0 8 / 4) ≤ l.length) (h2 : ¬ l.getD 0 false = l.getD 1 false) : decide (sl l (8 + 8 * (toN l 0 8 / 4)) 16 = rb (crc 69665 16 (sl l 0 (8 + 8 * (toN l 0 8 / 4)))) 16) = ldOK l := by
  have e : (decide (toN l 0 8 % 4 = 2) || decide (toN l 0 8 % 4 = 1)) = true := by
    rw [toN_lo]
    revert h2
    cases l.getD 0 false <;> cases l.getD 1 false <;> simp
  unfold ldOK
  rw [e, decide_eq_true (by omega : 8 + 8 * (toN l 0 8 / 4) + 16 ≤ l.length), decide_eq_true h0, Bool.true_and, Bool.true_and, Bool.true_and]
theorem rd3 {g : Nat → Int32} {L : List Bool} {k i : Nat} (hk : k ≤ L.length) (hi : i < (sl L 0 k).length) : wrL g 15 L (15 + i) = bI ((sl L 0 k).getD i false) := by
  rw [sl_len] at hi
  rw [wrL_in (by omega), sl_getD hi, Nat.zero_add]
theorem rd4 {g : Nat → Int32} {L : List Bool} {q st n i : Nat} (hq : q = 15 + st) (hk : st + n ≤ L.length) (hi : i < n) : wrL g 15 L (q + i) = bI ((sl L st n).getD i false) := by
  rw [hq, Nat.add_assoc, wrL_in (by omega), sl_getD hi]
theorem rd5 {g : Nat → Int32} {L : List Bool} {n i : Nat} (hk : n ≤ L.length) (hi : i < n) : wrL g 15 L (15 + i) = bI (L.getD (0 + i) false) := by
  rw [wrL_in (by omega), Nat.zero_add]
/-- bytes written from a place on -/
def wrN (f : Nat → Int32) (lo : Nat) (l : List Nat) : Nat → Int32 := fun j => if lo ≤ j ∧ j < lo + l.length then nI (l.getD (j - lo) 0) else f j
theorem wrN_nil (f : Nat → Int32) (lo : Nat) : wrN f lo [] = f := by
  funext j
  unfold wrN
  rw [if_neg (by simp)]
theorem wrN_in {f : Nat → Int32} {lo : Nat} {l : List Nat} {i : Nat} (h : i < l.length) : wrN f lo l (lo + i) = nI (l.getD i 0) := by
  unfold wrN
  rw [if_pos ⟨by omega, by omega⟩, Nat.add_sub_cancel_left]
theorem wrN_out {f : Nat → Int32} {lo : Nat} {l : List Nat} {j : Nat} (h : j < lo ∨ lo + l.length ≤ j) : wrN f lo l j = f j := by
  unfold wrN
  rw [if_neg (by omega)]
theorem wrN_push {f : Nat → Int32} {lo q : Nat} {l : List Nat} {b : Nat} (hq : q = lo + l.length) : upd (wrN f lo l) q (nI b) = wrN f lo (l ++ [b]) := by
  subst hq
  funext j
  by_cases h : j = lo + l.length
  · subst h
    rw [pk_us, wrN_in (by simp)]
    simp
  · rw [pk_un h]
    by_cases h1 : lo ≤ j ∧ j < lo + l.length
    · unfold wrN
      rw [if_pos h1, if_pos ⟨h1.1, by rw [List.length_append, List.length_singleton]; omega⟩]
      congr 1
      rw [List.getD_eq_getElem?_getD, List.getD_eq_getElem?_getD, List.getElem?_append_left (by omega)]
    · unfold wrN
      rw [if_neg h1, if_neg (by rw [List.length_append, List.length_singleton]; omega)]
theorem ldY_getD {l : List Bool} {k i : Nat} (h : i < k) : (ldY l k).getD i 0 = toN l (8 * (i + 1)) 8 := by simp [ldY, h]
theorem up_c2019 {F : Nat → Nat → Int32} {a b c d : Nat → Int32} : va_up (va_up (va_up (va_up F 20 a) 19 b) 20 c) 19 d = va_up (va_up F 20 c) 19 d := by rw [up_comm _ (by decide : (19 : Nat) ≠ 20), bx_uu, bx_uu]
/-- what finish makes of the arrays -/
def finF (F : Nat → Nat → Int32) (d g du tn dr : Nat) : Nat → Nat → Int32 := if g < du then F else if du < g ∨ tn = 6 then va_up (va_up F 26 (upd (F 26) d (nI (dr + 1)))) 18 (upd (F 18) d (-1)) else va_up (va_up (va_up (va_up F 16 (upd (F 16) (6 * d + tn) (nI g))) 17 (va_cpy (F 20) (F 17) (320 * d) (255 * (6 * d + tn)) g)) 15 (upd (F 15) d (nI (tn + 1)))) 18 (upd (F 18) d (-1))
