/-! THE REFERENCE: its object, its remainders -/
def bX (K : Nat → ClassId) (h : Nat) (ar : Nat → Nat) (ad ck bi lo : Nat) (F : Nat → Nat → Int32) : va_W :=
  [(h, .inr (iMod, [.int (nI ad), .int (nI ck), .int (nI bi), .ref (ar 0), .ref (ar 1), .int (nI lo), .ref (ar 2), .ref (ar 3), .ref (ar 4), .ref (ar 5), .ref (ar 6), .ref (ar 7), .ref (ar 8), .ref (ar 9), .ref (ar 10), .ref (ar 11), .ref (ar 12), .ref (ar 13), .ref (ar 14), .ref (ar 15), .ref (ar 16), .ref (ar 17), .ref (ar 18), .ref (ar 19), .ref (ar 20), .ref (ar 21), .ref (ar 22), .ref (ar 23), .ref (ar 24), .ref (ar 25), .ref (ar 26), .ref (ar 27)])),
   (ar 0, .inl (K 0, 256, .inl (F 0))), (ar 1, .inl (K 0, 400, .inl (F 1))), (ar 2, .inl (K 0, 400, .inl (F 2))), (ar 3, .inl (K 0, 2, .inl (F 3))), (ar 4, .inl (K 0, 80, .inl (F 4))), (ar 5, .inl (K 0, 2, .inl (F 5))), (ar 6, .inl (K 0, 12, .inl (F 6))), (ar 7, .inl (K 0, 480, .inl (F 7))), (ar 8, .inl (K 0, 2, .inl (F 8))), (ar 9, .inl (K 0, 2, .inl (F 9))), (ar 10, .inl (K 0, 82, .inl (F 10))), (ar 11, .inl (K 0, 2, .inl (F 11))), (ar 12, .inl (K 0, 2, .inl (F 12))), (ar 13, .inl (K 3, 2, .inl (F 13))), (ar 14, .inl (K 0, 26, .inl (F 14))), (ar 15, .inl (K 0, 2, .inl (F 15))), (ar 16, .inl (K 0, 12, .inl (F 16))), (ar 17, .inl (K 0, 3060, .inl (F 17))), (ar 18, .inl (K 0, 2, .inl (F 18))), (ar 19, .inl (K 0, 2, .inl (F 19))), (ar 20, .inl (K 0, 640, .inl (F 20))), (ar 21, .inl (K 3, 2, .inl (F 21))), (ar 22, .inl (K 0, 2, .inl (F 22))), (ar 23, .inl (K 0, 2, .inl (F 23))), (ar 24, .inl (K 3, 2, .inl (F 24))), (ar 25, .inl (K 3, 2, .inl (F 25))), (ar 26, .inl (K 0, 2, .inl (F 26))), (ar 27, .inl (K 0, 2, .inl (F 27)))]
/-- twice, by g -/
def tw (g n v : Nat) : Nat := if v / 2 ^ (n - 1) = 1 then (v * 2 ^ 1) ^^^ g else v * 2 ^ 1
def pw (g n : Nat) : Nat → Nat
  | 0 => 1
  | k + 1 => tw g n (pw g n k)
theorem top_bit {n v : Nat} (hn : 1 ≤ n) (hv : v < 2 ^ n) : v / 2 ^ (n - 1) = 1 ↔ v.testBit (n - 1) = true := by
  rw [Nat.testBit_eq_decide_div_mod_eq]
  have h1 : v / 2 ^ (n - 1) < 2 := by
    rw [Nat.div_lt_iff_lt_mul (Nat.two_pow_pos _), ← Nat.pow_succ']
    rw [show (n - 1).succ = n by omega]; exact hv
  constructor
  · intro h; rw [h]; rfl
  · intro h
    have h2 := of_decide_eq_true h
    generalize v / 2 ^ (n - 1) = z at h1 h2 ⊢
    omega
theorem m2_bit (v i : Nat) : (v * 2 ^ 1).testBit i = (decide (1 ≤ i) && v.testBit (i - 1)) := by
  rw [Nat.testBit_mul_two_pow]
theorem tw_bit {g n v : Nat} (hn : 1 ≤ n) (hv : v < 2 ^ n) (i : Nat) : (tw g n v).testBit i = ((decide (1 ≤ i) && v.testBit (i - 1)) ^^ (v.testBit (n - 1) && g.testBit i)) := by
  unfold tw
  by_cases h : v / 2 ^ (n - 1) = 1
  · rw [if_pos h, Nat.testBit_xor, m2_bit, (top_bit hn hv).mp h, Bool.true_and]
  · have h' : v.testBit (n - 1) = false := by
      cases hb : v.testBit (n - 1) with
      | false => rfl
      | true => exact absurd ((top_bit hn hv).mpr hb) h
    rw [if_neg h, m2_bit, h', Bool.false_and, Bool.xor_false]
theorem tw_lt {g n v : Nat} (hn : 1 ≤ n) (hv : v < 2 ^ n) (hg : g < 2 ^ (n + 1)) (ht : g.testBit n = true) : tw g n v < 2 ^ n := by
  apply Nat.lt_pow_two_of_testBit
  intro i hi
  rw [tw_bit hn hv]
  by_cases e : i = n
  · subst e
    rw [ht, decide_eq_true hn]
    simp
  · rw [Nat.testBit_lt_two_pow (Nat.lt_of_lt_of_le hg (Nat.pow_le_pow_right (by decide) (by omega : n + 1 ≤ i))), Nat.testBit_lt_two_pow (Nat.lt_of_lt_of_le hv (Nat.pow_le_pow_right (by decide) (by omega : n ≤ i - 1)))]
    simp
theorem tw_xor {g n a b : Nat} (hn : 1 ≤ n) (ha : a < 2 ^ n) (hb : b < 2 ^ n) : tw g n (a ^^^ b) = tw g n a ^^^ tw g n b := by
  apply Nat.eq_of_testBit_eq
  intro i
  rw [Nat.testBit_xor, tw_bit hn ha, tw_bit hn hb, tw_bit hn (Nat.xor_lt_two_pow ha hb), Nat.testBit_xor, Nat.testBit_xor]
  cases decide (1 ≤ i) <;> cases a.testBit (i - 1) <;> cases b.testBit (i - 1) <;> cases a.testBit (n - 1) <;> cases b.testBit (n - 1) <;> cases g.testBit i <;> rfl
theorem tw_0 {g n : Nat} (hn : 1 ≤ n) : tw g n 0 = 0 := by
  unfold tw
  rw [Nat.zero_div, if_neg (by decide), Nat.zero_mul]
theorem pw_lt {g n : Nat} (hn : 1 ≤ n) (hg : g < 2 ^ (n + 1)) (ht : g.testBit n = true) (k : Nat) : pw g n k < 2 ^ n := by
  induction k with
  | zero => exact Nat.one_lt_two_pow (by omega)
  | succ k ih => exact tw_lt hn ih hg ht
/-- a step of the division, by tw -/
theorem crS_tw {g n r : Nat} (b : Bool) (hn : 1 ≤ n) (hr : r < 2 ^ n) (hg : g < 2 ^ (n + 1)) (ht : g.testBit n = true) (hp : pw g n n = g ^^^ 2 ^ n) : crS g n r b = tw g n r ^^^ (cond b (pw g n n) 0) := by
  apply Nat.eq_of_testBit_eq
  intro i
  have hnb : ((r * 2 ^ 1) ^^^ (b.toNat * 2 ^ n)).testBit n = (r.testBit (n - 1) ^^ b) := by
    rw [Nat.testBit_xor, m2_bit, decide_eq_true hn, Bool.true_and]
    cases b
    · simp
    · simp [Nat.testBit_two_pow_self]
  unfold crS
  rw [hnb, hp]
  have hb2 : (b.toNat * 2 ^ n).testBit i = (b && decide (n = i)) := by
    cases b
    · simp
    · simp [Nat.testBit_two_pow]
  cases b <;> cases hrn : r.testBit (n - 1) <;> simp only [Bool.xor_false, Bool.xor_true, Bool.not_true, Bool.not_false, if_true, cond_true, cond_false, Nat.xor_zero, Nat.testBit_xor, tw_bit hn hr, hrn, m2_bit, hb2, Nat.testBit_two_pow, Bool.true_and, Bool.false_and, Bool.toNat_true, Bool.toNat_false, Nat.one_mul, Nat.zero_mul, Nat.zero_testBit, if_false, Bool.false_eq_true] <;> cases (decide (1 ≤ i) && r.testBit (i - 1)) <;> cases g.testBit i <;> cases decide (n = i) <;> rfl
/-- the sum of the powers at the last k bits of a row -/
def rsm (g n : Nat) (l : List Bool) : Nat → Nat
  | 0 => 0
  | k + 1 => rsm g n l k ^^^ (cond (l.getD (l.length - 1 - k) false) (pw g n (n + k)) 0)
theorem cnd_lt {n : Nat} {b : Bool} {x : Nat} (h : x < 2 ^ n) : cond b x 0 < 2 ^ n := by cases b; exact Nat.two_pow_pos n; exact h
theorem rsm_lt {g n : Nat} (hn : 1 ≤ n) (hg : g < 2 ^ (n + 1)) (ht : g.testBit n = true) (l : List Bool) (k : Nat) : rsm g n l k < 2 ^ n := by
  induction k with
  | zero => exact Nat.two_pow_pos n
  | succ k ih => exact Nat.xor_lt_two_pow ih (cnd_lt (pw_lt hn hg ht _))
theorem rsm_push {g n : Nat} (hn : 1 ≤ n) (hg : g < 2 ^ (n + 1)) (ht : g.testBit n = true) (l : List Bool) (b : Bool) (k : Nat) (hk : k ≤ l.length) : rsm g n (l ++ [b]) (k + 1) = tw g n (rsm g n l k) ^^^ cond b (pw g n n) 0 := by
  induction k with
  | zero =>
    have e : (l ++ [b]).getD ((l ++ [b]).length - 1 - 0) false = b := by simp
    rw [rsm, rsm, e, rsm, tw_0 hn, Nat.add_zero]
  | succ k ih =>
    have e : (l ++ [b]).getD ((l ++ [b]).length - 1 - (k + 1)) false = l.getD (l.length - 1 - k) false := by
      rw [List.length_append, List.length_singleton, show l.length + 1 - 1 - (k + 1) = l.length - 1 - k by omega]
      rw [List.getD_eq_getElem?_getD, List.getElem?_append_left (by omega), ← List.getD_eq_getElem?_getD]
    rw [rsm, ih (by omega), e, rsm, tw_xor hn (rsm_lt hn hg ht l k) (cnd_lt (pw_lt hn hg ht _))]
    have e2 : cond (l.getD (l.length - 1 - k) false) (pw g n (n + (k + 1))) 0 = tw g n (cond (l.getD (l.length - 1 - k) false) (pw g n (n + k)) 0) := by
      cases l.getD (l.length - 1 - k) false
      · exact (tw_0 hn).symm
      · rfl
    rw [e2, Nat.xor_assoc, Nat.xor_assoc, Nat.xor_comm (cond b (pw g n n) 0)]
theorem rsm_crc {g n : Nat} (hn : 1 ≤ n) (hg : g < 2 ^ (n + 1)) (ht : g.testBit n = true) (hp : pw g n n = g ^^^ 2 ^ n) (l : List Bool) : rsm g n l l.length = crc g n l := by
  suffices h : ∀ (m : Nat) (l : List Bool), l.length = m → rsm g n l l.length = crc g n l from h _ l rfl
  intro m
  induction m with
  | zero => intro l h; rw [List.length_eq_zero_iff.mp h]; rfl
  | succ m ih =>
    intro l h
    have hne : l ≠ [] := by intro e; rw [e] at h; exact absurd h (by simp)
    rw [← List.dropLast_concat_getLast hne]
    have hl : l.dropLast.length = m := by rw [List.length_dropLast, h]; rfl
    rw [List.length_append, List.length_singleton, rsm_push hn hg ht _ _ _ (Nat.le_refl _), ih _ hl, crc_push, crS_tw _ hn (crc_lt hg ht _) hg ht hp]
theorem pw423 : pw 423 8 8 = 423 ^^^ 2 ^ 8 := by decide
theorem pw53 : pw 53 5 5 = 53 ^^^ 2 ^ 5 := by decide
theorem pw69665 : pw 69665 16 16 = 69665 ^^^ 2 ^ 16 := by decide
/-- bits written from a place on -/
def wrL (f : Nat → Int32) (lo : Nat) (l : List Bool) : Nat → Int32 := fun j => if lo ≤ j ∧ j < lo + l.length then bI (l.getD (j - lo) false) else f j
theorem wrL_nil (f : Nat → Int32) (lo : Nat) : wrL f lo [] = f := by
  funext j
  unfold wrL
  rw [if_neg (by simp)]
theorem wrL_in {f : Nat → Int32} {lo : Nat} {l : List Bool} {i : Nat} (h : i < l.length) : wrL f lo l (lo + i) = bI (l.getD i false) := by
  unfold wrL
  rw [if_pos ⟨by omega, by omega⟩, Nat.add_sub_cancel_left]
theorem wrL_lo {f : Nat → Int32} {lo : Nat} {l : List Bool} {j : Nat} (h : j < lo) : wrL f lo l j = f j := by
  unfold wrL
  rw [if_neg (by omega)]
theorem wrL_hi {f : Nat → Int32} {lo : Nat} {l : List Bool} {j : Nat} (h : lo + l.length ≤ j) : wrL f lo l j = f j := by
  unfold wrL
  rw [if_neg (by omega)]
theorem wrL_push {f : Nat → Int32} {lo : Nat} {l : List Bool} {b : Bool} : upd (wrL f lo l) (lo + l.length) (bI b) = wrL f lo (l ++ [b]) := by
  funext j
  by_cases h : j = lo + l.length
  · subst h
    rw [pk_us, wrL_in (by simp)]
    simp
  · rw [pk_un h]
    by_cases h1 : lo ≤ j ∧ j < lo + l.length
    · unfold wrL
      rw [if_pos h1, if_pos ⟨h1.1, by rw [List.length_append, List.length_singleton]; omega⟩]
      congr 1
      rw [List.getD_eq_getElem?_getD, List.getD_eq_getElem?_getD, List.getElem?_append_left (by omega)]
    · unfold wrL
      rw [if_neg h1, if_neg (by rw [List.length_append, List.length_singleton]; omega)]
theorem wrL_app {f : Nat → Int32} {lo : Nat} {l l2 : List Bool} {p : Nat} (hp : p = lo + l.length) : wrL (wrL f lo l) p l2 = wrL f lo (l ++ l2) := by
  subst hp
  funext j
  by_cases h1 : j < lo + l.length
  · rw [wrL_lo h1]
    by_cases h2 : lo ≤ j
    · obtain ⟨i, rfl⟩ : ∃ i, j = lo + i := ⟨j - lo, by omega⟩
      rw [wrL_in (by omega), wrL_in (by rw [List.length_append]; omega)]
      congr 1
      rw [List.getD_eq_getElem?_getD, List.getD_eq_getElem?_getD, List.getElem?_append_left (by omega)]
    · rw [wrL_lo (by omega), wrL_lo (by omega)]
  · by_cases h3 : j < lo + l.length + l2.length
    · obtain ⟨i, rfl⟩ : ∃ i, j = lo + l.length + i := ⟨j - (lo + l.length), by omega⟩
      rw [wrL_in (by omega), Nat.add_assoc, wrL_in (by rw [List.length_append]; omega)]
      congr 1
      rw [List.getD_eq_getElem?_getD, List.getD_eq_getElem?_getD, List.getElem?_append_right (by omega), Nat.add_sub_cancel_left]
    · rw [wrL_hi (by omega), wrL_hi (by omega), wrL_hi (by rw [List.length_append]; omega)]
theorem up_self {α : Type} (F : Nat → α) (k : Nat) : va_up F k (F k) = F := by
  funext j
  by_cases h : j = k
  · subst h; rw [va_up_self]
  · rw [va_up_ne _ _ h]
/-- the white row's bit n -/
def wb (ck n : Nat) : Bool := (wl ck n).getD n false
theorem wl_pre (ck k n : Nat) (h : n < 7 + k) : (wl ck (k + 1)).getD n false = (wl ck k).getD n false := by
  rw [wl, List.getD_eq_getElem?_getD, List.getElem?_append_left (by rw [wl_len]; omega), ← List.getD_eq_getElem?_getD]
theorem wl_up (ck n k d : Nat) (h : n < 7 + k) : (wl ck (k + d)).getD n false = (wl ck k).getD n false := by
  induction d with
  | zero => rfl
  | succ d ih => rw [← Nat.add_assoc, wl_pre ck (k + d) n (by omega), ih]
theorem wl_getD {ck n k : Nat} (h : n < 7 + k) : (wl ck k).getD n false = wb ck n := by
  unfold wb
  by_cases hk : k ≤ n
  · obtain ⟨d, rfl⟩ : ∃ d, n = k + d := ⟨n - k, by omega⟩
    rw [wl_up ck (k + d) k d h]
  · obtain ⟨d, rfl⟩ : ∃ d, k = n + d := ⟨k - n, by omega⟩
    rw [wl_up ck n n d (by omega)]
theorem wt_getD {ck n : Nat} (h : n < 168) : (wt ck).getD n false = wb ck n := wl_getD (k := 161) (by omega)
theorem wb_lo {ck n : Nat} (h : n < 7) : wb ck n = (64 + ck % 64).testBit n := by
  rw [← wl_getD (k := 0) (by omega), wl]
  simp [nb, h]
theorem wb_hi {ck n : Nat} (h : 7 ≤ n) : wb ck n = (wb ck (n - 7) ^^ wb ck (n - 3)) := by
  obtain ⟨k, rfl⟩ : ∃ k, n = k + 7 := ⟨n - 7, by omega⟩
  rw [show k + 7 - 7 = k by omega, show k + 7 - 3 = k + 4 by omega, ← wl_getD (k := k + 1) (by omega : k + 7 < 7 + (k + 1)), ← wl_getD (k := k) (n := k) (by omega), ← wl_getD (k := k) (n := k + 4) (by omega), wl]
  rw [List.getD_eq_getElem?_getD, List.getElem?_append_right (by rw [wl_len]; omega), wl_len, show k + 7 - (7 + k) = 0 by omega]
  rfl
def whP (ck : Nat) (f : Nat → Int32) (i : Nat) : Nat → Int32 := fun j => if j < i then bI (wb ck j) else f j
theorem whP_0 (ck : Nat) (f : Nat → Int32) : whP ck f 0 = f := by funext j; unfold whP; rw [if_neg (Nat.not_lt_zero j)]
theorem whP_succ (ck : Nat) (f : Nat → Int32) (i : Nat) : upd (whP ck f i) i (bI (wb ck i)) = whP ck f (i + 1) := by
  funext j
  by_cases h : j = i
  · subst h; rw [pk_us]; unfold whP; rw [if_pos (by omega)]
  · rw [pk_un h]; unfold whP
    by_cases h2 : j < i
    · rw [if_pos h2, if_pos (by omega)]
    · rw [if_neg h2, if_neg (by omega)]
theorem whP_in {ck : Nat} {f : Nat → Int32} {i j : Nat} (h : j < i) : whP ck f i j = bI (wb ck j) := by unfold whP; rw [if_pos h]
theorem dn_eq {a b : Nat} (hb : b ≤ a) (ha : a < 2 ^ 30) (h : nI a - 1 < nI b) : a = b := by
  cases a with
  | zero => omega
  | succ a => rw [nI_pred, nI_ltI (by omega) (by omega)] at h; omega
theorem dn_gt {a b : Nat} (hb : b ≤ a) (ha : a < 2 ^ 30) (h : ¬ nI a - 1 < nI b) : b < a ∧ nI a - 1 = nI (a - 1) := by
  cases a with
  | zero =>
    have : b = 0 := by omega
    subst this
    exact absurd (by decide) h
  | succ a =>
    rw [nI_pred] at h ⊢
    rw [nI_ltI (by omega) (by omega)] at h
    exact ⟨by omega, rfl⟩
theorem wrL_pushN {f : Nat → Int32} {lo k : Nat} {l : List Bool} {b : Bool} (hk : k = l.length) : upd (wrL f lo l) (lo + k) (bI b) = wrL f lo (l ++ [b]) := by subst hk; exact wrL_push
theorem pw_sm {g n : Nat} (hn : 1 ≤ n) (hn2 : n ≤ 16) (hg : g < 2 ^ (n + 1)) (ht : g.testBit n = true) (k : Nat) : pw g n k < 2 ^ 20 := by
  have h1 := pw_lt hn hg ht k
  have h2 := Nat.pow_le_pow_right (n := 2) (by decide) (show n ≤ 20 by omega)
  omega
theorem nb_1 (w : Nat) : nb w 1 = [w.testBit 0] := rfl
theorem rs_n {l2 : List Bool} {r n i : Nat} (hi : i < n) (hc : ¬ l2.getD i false = r.testBit (n - 1 - i)) : ¬ l2 = rb r n := by
  intro h
  apply hc
  rw [h]
  simp [rb, rbp, hi]
theorem rs_y {l2 : List Bool} {r n : Nat} (hl : l2.length = n) (h : ∀ j, j < n → l2.getD j false = r.testBit (n - 1 - j)) : l2 = rb r n := by
  apply List.ext_getElem
  · rw [hl, rb_len]
  · intro i h1 h2
    have := h i (by omega)
    rw [List.getD_eq_getElem?_getD, List.getElem?_eq_getElem h1] at this
    simp [rb, rbp]
    exact this
section OZ
variable {p : Program} {l : Launch} {e : Env} {R : Room} {s : State} {m : MethodId} {args : Array Value} {below : List Frame} {meth : Method} {c : Code} {H : Heap} {locs : List Loc} {cells slots : Nat} {Qz : State → Prop}
variable {Tb : List Cond} {D : va_G} {cl : List vw_C} {tys : List (ClassId × FieldType)} {A : Nat → Prop} {own : String} {cc : ByteArray} {nL : Nat} {ret : Option FieldType} {pc : Nat} {ls : Array Slot} {rest : List Value} {bs bs' : BW}
theorem nar_bI (b : Bool) : vp_nar .boolean (bI b) = bI b := by cases b <;> rfl
theorem o_zald (C : Cx p s m args meth c Tb D cl tys A own cc nL ret) (ho : ow D cl A s.heap H locs bs) (k j : Nat) {blk : va_W} (hk : bs[k]? = some blk) {a : Nat} {cA : ClassId} {n : Nat} {f : Nat → Int32} (hj : blk[j]? = some (a, .inl (cA, n, .inl f))) (t0 : Nat) (ht : tys[t0]? = some (cA, .boolean)) {x : Int32} (i : Nat) (hx : x = nI i) (hi : i < n) (hn : n < 2 ^ 31) {v : Int32} (hv : f i = v) (hdg : decode cc pc = .ok (.baload, 1))
    (kk : W p l e R s m args below meth c H locs cells slots Qz (F0 m (pc + 1) ls (.int v :: rest))) : W p l e R s m args below meth c H locs cells slots Qz (F0 m pc ls (.int x :: .ref a :: rest)) := by
  subst hx hv
  refine va_zald C.1.1 C.1.2.1 C.2.1.1 ho.1 _ t0 (bw_at hk hj) ht (vp_in_nI hi hn) hdg ?_
  rw [nI_clamp (by omega)]
  exact kk
theorem o_zast (C : Cx p s m args meth c Tb D cl tys A own cc nL ret) (ho : ow D cl A s.heap H locs bs) (k j : Nat) {blk : va_W} (hk : bs[k]? = some blk) {a : Nat} {cA : ClassId} {n : Nat} {f : Nat → Int32} (hj : blk[j]? = some (a, .inl (cA, n, .inl f))) (t0 : Nat) (ht : tys[t0]? = some (cA, .boolean)) {x : Int32} {b : Bool} (i : Nat) (hx : x = nI i) (hi : i < n) (hn : n < 2 ^ 31) (hdg : decode cc pc = .ok (.bastore, 1)) (hb : bs.set k (blk.set j (a, .inl (cA, n, .inl (upd f i (bI b))))) = bs')
    (kk : ∀ (H1 : Heap) (locs1 : List Loc), ow D cl A s.heap H1 locs1 bs' → W p l e R s m args below meth c H1 locs1 cells slots Qz (F0 m (pc + 1) ls rest)) : W p l e R s m args below meth c H locs cells slots Qz (F0 m pc ls (.int (bI b) :: .int x :: .ref a :: rest)) := by
  subst hx hb
  refine va_zast C.1.1 C.1.2.1 C.2.1.1 ho.1 ho.2.1 ho.2.2 _ t0 (bw_at hk hj) ht (vp_in_nI hi hn) hdg (fun H1 locs1 h1 h2 h3 => kk H1 locs1 ?_)
  rw [nI_clamp (by omega), nar_bI, bw_set hk (List.getElem?_eq_some_iff.mp hj).1] at h1 h2
  exact ⟨h1, h2, h3⟩
end OZ
theorem cpy_0 {α : Type} (f g : Nat → α) (sp dp : Nat) : va_cpy f g sp dp 0 = g := by
  funext j
  rw [pk_cpy_out (by omega)]
theorem cpy_succ (f g : Nat → Int32) (sp dp i : Nat) : upd (va_cpy f g sp dp i) (dp + i) (f (sp + i)) = va_cpy f g sp dp (i + 1) := by
  funext j
  by_cases h : j = dp + i
  · subst h
    rw [pk_us, pk_cpy_in (by omega) (by omega), Nat.add_sub_cancel_left]
  · rw [pk_un h]
    by_cases h2 : dp ≤ j ∧ j < dp + i
    · rw [pk_cpy_in h2.1 h2.2, pk_cpy_in h2.1 (by omega)]
    · rw [pk_cpy_out (by omega), pk_cpy_out (by omega)]
theorem up_7 (F : Nat → Nat → Int32) (g : Nat → Int32) : va_up F 6 g = va_up (va_up F 6 g) 7 (F 7) := by
  have h : F 7 = (va_up F 6 g) 7 := rfl
  rw [h, up_self]
theorem bI_sub (y : Bool) : nI 1 - bI y = bI (!y) := by cases y <;> decide
theorem cx_1 {x : Int32} (h : x < nI 0 ∨ nI 3 < x) : x < nI 0 ∨ nI 1 < x := by
  rcases h with h | h
  · exact Or.inl h
  · refine Or.inr ?_
    rw [Int32.lt_iff_toInt_lt] at h ⊢
    have e1 : (nI 1).toInt = 1 := by decide
    have e3 : (nI 3).toInt = 3 := by decide
    omega
theorem cx_2 {x : Int32} (h : x < nI 0 ∨ nI 3 < x) : x < nI 2 ∨ nI 3 < x := by
  rcases h with h | h
  · refine Or.inl ?_
    rw [Int32.lt_iff_toInt_lt] at h ⊢
    have e1 : (nI 0).toInt = 0 := by decide
    have e3 : (nI 2).toInt = 2 := by decide
    omega
  · exact Or.inr h
theorem up_comm {α : Type} (F : Nat → α) {i j : Nat} (h : i ≠ j) (a b : α) : va_up (va_up F i a) j b = va_up (va_up F j b) i a := by
  funext k
  by_cases h1 : k = j
  · subst h1
    rw [va_up_self, va_up_ne _ _ (fun e => h e.symm), va_up_self]
  · rw [va_up_ne _ _ h1]
    by_cases h2 : k = i
    · subst h2; rw [va_up_self, va_up_self]
    · rw [va_up_ne _ _ h2, va_up_ne _ _ h2, va_up_ne _ _ h1]
theorem up_two {α : Type} {F : Nat → α} {i j : Nat} {a b : α} (ha : F i = a) (hb : F j = b) : F = va_up (va_up F i a) j b := by
  subst ha hb
  rw [up_self, up_self]
theorem up_1617 (F : Nat → Nat → Int32) (g : Nat → Int32) : va_up F 15 g = va_up (va_up (va_up F 15 g) 16 (F 16)) 17 (F 17) := up_two rfl rfl
theorem up_c1617 {F : Nat → Nat → Int32} {a b a' : Nat → Int32} : va_up (va_up (va_up F 16 a) 17 b) 16 a' = va_up (va_up F 16 a') 17 b := by rw [up_comm _ (by decide : (17 : Nat) ≠ 16), bx_uu]
theorem up_67 {F : Nat → Nat → Int32} {a b : Nat → Int32} (ha : F 6 = a) (hb : F 7 = b) : F = va_up (va_up F 6 a) 7 b := up_two ha hb
theorem up_c67 {F : Nat → Nat → Int32} {a b a' : Nat → Int32} : va_up (va_up (va_up F 6 a) 7 b) 6 a' = va_up (va_up F 6 a') 7 b := by rw [up_comm _ (by decide : (7 : Nat) ≠ 6), bx_uu]
