/-! MY MATHEMATICS: rows of bits and of bytes, remainders -/
def mrg {α : Type} (c : α → Int32) (l : List α) (g : Nat → Int32) : Nat → Int32 := fun j => match l[j]? with
  | some b => c b
  | none => g j
theorem mrg_lt {α : Type} {c : α → Int32} {l : List α} {g : Nat → Int32} {j : Nat} (h : j < l.length) : mrg c l g j = c l[j] := by simp [mrg, h]
theorem mrg_getD {α : Type} {c : α → Int32} {l : List α} {g : Nat → Int32} {j : Nat} (d : α) (h : j < l.length) : mrg c l g j = c (l.getD j d) := by simp [mrg, h]
theorem mrg_nil {α : Type} {c : α → Int32} {g : Nat → Int32} : mrg c ([] : List α) g = g := by funext j; simp [mrg]
theorem mrg_push {α : Type} {c : α → Int32} {l : List α} {g : Nat → Int32} {b : α} : upd (mrg c l g) l.length (c b) = mrg c (l ++ [b]) g := by
  funext j
  by_cases h : j = l.length
  · subst h
    rw [pk_us]
    simp [mrg]
  · rw [pk_un h]
    by_cases h2 : j < l.length
    · simp [mrg, List.getElem?_append_left h2]
    · have e1 : l[j]? = none := by simp; omega
      have e2 : (l ++ [b])[j]? = none := by simp; omega
      simp only [mrg, e1, e2]
theorem mrg_set {α : Type} {c : α → Int32} {l : List α} {g : Nat → Int32} {b : α} {j : Nat} (h : j < l.length) : upd (mrg c l g) j (c b) = mrg c (l.set j b) g := by
  funext i
  by_cases hi : i = j
  · subst hi
    rw [pk_us]
    simp [mrg, h]
  · rw [pk_un hi]
    have : (l.set j b)[i]? = l[i]? := by rw [List.getElem?_set]; simp; omega
    simp only [mrg, this]
/-- n bits from the place st on, zeros behind the end -/
def sl (l : List Bool) (st n : Nat) : List Bool := (List.range n).map (fun i => l.getD (st + i) false)
theorem sl_0 (l : List Bool) (st : Nat) : sl l st 0 = [] := rfl
theorem sl_succ (l : List Bool) (st n : Nat) : sl l st (n + 1) = sl l st n ++ [l.getD (st + n) false] := by simp [sl, List.range_succ]
theorem sl_len (l : List Bool) (st n : Nat) : (sl l st n).length = n := by simp [sl]
/-- a number's n bits, lowest first; highest first -/
def nb (m n : Nat) : List Bool := (List.range n).map (fun i => m.testBit i)
theorem nb_succ (m n : Nat) : nb m (n + 1) = nb m n ++ [m.testBit n] := by simp [nb, List.range_succ]
theorem nb_len (m n : Nat) : (nb m n).length = n := by simp [nb]
def rbp (m n k : Nat) : List Bool := (List.range k).map (fun i => m.testBit (n - 1 - i))
def rb (m n : Nat) : List Bool := rbp m n n
theorem rbp_succ (m n k : Nat) : rbp m n (k + 1) = rbp m n k ++ [m.testBit (n - 1 - k)] := by simp [rbp, List.range_succ]
theorem rbp_len (m n k : Nat) : (rbp m n k).length = k := by simp [rbp]
theorem rb_len (m n : Nat) : (rb m n).length = n := rbp_len m n n
theorem bit_N (m : Nat) : nI (m &&& 1) = bI (m.testBit 0) := by
  rw [Nat.and_one_is_mod, Nat.testBit_zero]
  rcases Nat.mod_two_eq_zero_or_one m with h | h <;> rw [h] <;> rfl
theorem bit_B (x : Bool) : bI x &&& nI 1 = bI x := by cases x <;> decide
theorem bit_shr (m i : Nat) : (m / 2 ^ i).testBit 0 = m.testBit i := by rw [Nat.testBit_div_two_pow]; simp
/-- the number that n bits from the place st on are -/
def toN (l : List Bool) (st : Nat) : Nat → Nat
  | 0 => 0
  | n + 1 => toN l st n + (l.getD (st + n) false).toNat * 2 ^ n
theorem toN_lt (l : List Bool) (st n : Nat) : toN l st n < 2 ^ n := by
  induction n with
  | zero => simp [toN]
  | succ n ih =>
    rw [toN, Nat.pow_succ]
    cases l.getD (st + n) false <;> simp <;> omega
theorem toN_or (l : List Bool) (st n : Nat) : toN l st n ||| ((l.getD (st + n) false).toNat * 2 ^ n) = toN l st (n + 1) := by
  rw [toN]
  have h := Nat.two_pow_add_eq_or_of_lt (toN_lt l st n) (l.getD (st + n) false).toNat
  rw [Nat.or_comm, Nat.mul_comm, ← h, Nat.add_comm]
/-- division by g, n bits of remainder -/
def crS (g n r : Nat) (b : Bool) : Nat := if ((r * 2 ^ 1) ^^^ (b.toNat * 2 ^ n)).testBit n then ((r * 2 ^ 1) ^^^ (b.toNat * 2 ^ n)) ^^^ g else (r * 2 ^ 1) ^^^ (b.toNat * 2 ^ n)
def crc (g n : Nat) (l : List Bool) : Nat := l.foldl (crS g n) 0
theorem crc_push (g n : Nat) (l : List Bool) (b : Bool) : crc g n (l ++ [b]) = crS g n (crc g n l) b := by simp [crc]
theorem crT_lt {n r : Nat} (b : Bool) (hr : r < 2 ^ n) : (r * 2 ^ 1) ^^^ (b.toNat * 2 ^ n) < 2 ^ (n + 1) := by
  apply Nat.xor_lt_two_pow
  · rw [Nat.pow_succ]; omega
  · cases b <;> simp [Nat.pow_succ] <;> omega
theorem lt_of_top {x n : Nat} (h : x < 2 ^ (n + 1)) (ht : x.testBit n = false) : x < 2 ^ n := by
  apply Nat.lt_pow_two_of_testBit
  intro j hj
  by_cases e : j = n
  · rw [e]; exact ht
  · exact Nat.testBit_lt_two_pow (Nat.lt_of_lt_of_le h (Nat.pow_le_pow_right (by decide) (by omega)))
theorem crS_lt {g n r : Nat} (b : Bool) (hr : r < 2 ^ n) (hg : g < 2 ^ (n + 1)) (hn : g.testBit n = true) : crS g n r b < 2 ^ n := by
  have h1 := crT_lt b hr
  unfold crS
  split
  · rename_i h
    refine lt_of_top (Nat.xor_lt_two_pow h1 hg) ?_
    rw [Nat.testBit_xor, h, hn]; rfl
  · rename_i h
    exact lt_of_top h1 (by simpa using h)
theorem crc_lt {g n : Nat} (hg : g < 2 ^ (n + 1)) (hn : g.testBit n = true) (l : List Bool) : crc g n l < 2 ^ n := by
  suffices h : ∀ (l : List Bool) (r : Nat), r < 2 ^ n → l.foldl (crS g n) r < 2 ^ n from h l 0 (Nat.two_pow_pos n)
  intro l
  induction l with
  | nil => intro r hr; exact hr
  | cons b t ih => intro r hr; exact ih _ (crS_lt b hr hg hn)
