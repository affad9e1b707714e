/-! the reference: what speak writes -/
theorem hdB_eq (ad k : Nat) (a t : Bool) : hdB ad k a t = hd10 ad k a t ++ rb (crc 423 8 (hd10 ad k a t)) 8 := by
  have := sl_all (hd10 ad k a t)
  rw [hd10_len] at this
  rw [hdB, this]
theorem ldB_eq (mk : Nat) (b : List Nat) : ldB mk b = ldp mk b b.length ++ rb (crc 69665 16 (ldp mk b b.length)) 16 := by rw [ldB, sl_all]
theorem ldp_0 (mk : Nat) (b : List Nat) : ldp mk b 0 = nb (4 * b.length + mk) 8 := by simp [ldp]
theorem nb_b (x : Bool) : nb x.toNat 1 = [x] := by cases x <;> rfl
theorem wrL_r {f : Nat → Int32} {a b : List Bool} {n i : Nat} (ha : a.length = n) (hi : i < b.length) : wrL f 0 (a ++ b) (n + i) = bI (b.getD i false) := by
  rw [wrL_in0 (by rw [List.length_append]; omega), List.getD_eq_getElem?_getD, List.getElem?_append_right (by omega), show n + i - a.length = i by omega, ← List.getD_eq_getElem?_getD]
theorem wrL_l {f : Nat → Int32} {a b : List Bool} {n i : Nat} (ha : a.length = n) (hi : i < n) : wrL f 0 (a ++ b) i = bI (a.getD i false) := by
  rw [wrL_in0 (by rw [List.length_append]; omega), List.getD_eq_getElem?_getD, List.getElem?_append_left (by omega), ← List.getD_eq_getElem?_getD]
theorem airW_3 (ck ad : Nat) (a t : Bool) (mk : Nat) (b : List Nat) : airW ck ad 3 a t mk b = thr (whz (hdB ad 3 a t) (wt ck) 0) 54 ++ tens (whz (ldB mk b) (wt ck) 18) (((ldB mk b).length + 9) / 10) := by
  unfold airW airB
  rw [if_pos rfl]
theorem airW_4 (ck ad : Nat) (a t : Bool) (mk : Nat) (b : List Nat) : airW ck ad 4 a t mk b = thr (whz (hdB ad 4 a t) (wt ck) 0) 54 ++ sl (whz (ldB mk b) (wt ck) 18) 0 (ldB mk b).length := by
  unfold airW airB
  rw [if_neg (by decide), if_pos rfl]
theorem airW_0 (ck ad k : Nat) (hk : k < 3) (a t : Bool) (mk : Nat) (b : List Nat) : airW ck ad k a t mk b = thr (whz (hdB ad k a t) (wt ck) 0) 54 := by
  unfold airW airB
  rw [if_neg (by omega), if_neg (by omega), List.append_nil]
theorem airW_l3 (ck ad : Nat) (a t : Bool) (mk : Nat) (b : List Nat) : (airW ck ad 3 a t mk b).length = 54 + 15 * (((ldB mk b).length + 9) / 10) := by rw [airW_3, List.length_append, thr_len, tens_len]
theorem airW_l4 (ck ad : Nat) (a t : Bool) (mk : Nat) (b : List Nat) : (airW ck ad 4 a t mk b).length = 54 + (ldB mk b).length := by rw [airW_4, List.length_append, thr_len, sl_len]
theorem airW_l0 (ck ad k : Nat) (hk : k < 3) (a t : Bool) (mk : Nat) (b : List Nat) : (airW ck ad k a t mk b).length = 54 := by rw [airW_0 _ _ _ hk, thr_len]
theorem up_c202 {F : Nat → Nat → Int32} {a b c : Nat → Int32} : va_up (va_up (va_up F 2 a) 0 b) 2 c = va_up (va_up F 0 b) 2 c := by rw [up_comm F (by decide : (2 : Nat) ≠ 0), bx_uu]
theorem up_c20 {F : Nat → Nat → Int32} {a b : Nat → Int32} : va_up (va_up F 2 a) 0 b = va_up (va_up F 0 b) 2 a := up_comm F (by decide) a b
theorem tN_lt (b : Bool) : b.toNat < 2 ^ 31 := by cases b <;> decide
