/-! STATE: rows of bits -/
def hasI (n : Nat) (i : Int32) : Bool := !decide (i < 0) && decide (i < nI n)
theorem hasI_neg {n : Nat} {i : Int32} (h : i < 0) : hasI n i = false := by simp [hasI, h]
theorem hasI_ge {n : Nat} {i : Int32} (_ : ¬ i < 0) (h : nI n ≤ i) : hasI n i = false := by
  have : ¬ i < nI n := by rw [Int32.lt_iff_toInt_lt]; rw [Int32.le_iff_toInt_le] at h; omega
  simp [hasI, this]
theorem hasI_in {n : Nat} {i : Int32} (h0 : ¬ i < 0) (h : ¬ nI n ≤ i) : hasI n i = true := by
  have : i < nI n := by rw [Int32.lt_iff_toInt_lt]; rw [Int32.le_iff_toInt_le] at h; omega
  simp [hasI, h0, this]
theorem hasI_N {n j : Nat} (hj : j < 2 ^ 31) (hn : n < 2 ^ 31) : hasI n (nI j) = decide (j < n) := by
  simp [hasI, nI_pos hj, nI_ltI hj hn]
theorem hasI_of {n : Nat} {i : Int32} (hn : n < 2 ^ 31) (h : hasI n i = true) : ∃ j : Nat, j < n ∧ i = nI j := by
  simp only [hasI, Bool.and_eq_true, Bool.not_eq_true', decide_eq_false_iff_not, decide_eq_true_eq] at h
  obtain ⟨j, hj, rfl⟩ := nI_of h.1
  exact ⟨j, (nI_ltI hj hn).mp h.2, rfl⟩
theorem getD_out {l : List Bool} {j : Nat} (h : l.length ≤ j) : l.getD j false = false := by simp [List.getD, List.getElem?_eq_none h]
theorem modify_out {l : List Bool} {j : Nat} (h : ¬ j < l.length) : l.modify j (fun b => !b) = l := by
  apply List.ext_getElem?
  intro i
  rw [List.getElem?_modify]
  by_cases hi : j = i
  · subst hi; simp [List.getElem?_eq_none (Nat.le_of_not_lt h)]
  · simp [hi]
theorem modify_in {l : List Bool} {j : Nat} (h : j < l.length) : l.set j (!l.getD j false) = l.modify j (fun b => !b) := by
  apply List.ext_getElem?
  intro i
  rw [List.getElem?_modify, List.getElem?_set]
  by_cases hi : j = i
  · subst hi; simp [h]
  · simp [hi]
def b0 (K : Nat → ClassId) (h a n : Nat) (f : Nat → Int32) (k : Nat) : va_W := [(h, .inr (iBits, [.ref a, .int (nI k)])), (a, .inl (K 0, n, .inl f))]
def bB (K : Nat → ClassId) (h a R : Nat) (l : List Bool) (g : Nat → Int32) : va_W := b0 K h a R (mrg bI l g) l.length
theorem bB_nil {K : Nat → ClassId} {h a R : Nat} {g : Nat → Int32} : bB K h a R [] g = b0 K h a R g 0 := by unfold bB; rw [mrg_nil]; rfl
theorem bB_push {K : Nat → ClassId} {h a R : Nat} {l : List Bool} {g : Nat → Int32} {x : Bool} : b0 K h a R (upd (mrg bI l g) l.length (bI x)) (l.length + 1) = bB K h a R (l ++ [x]) g := by unfold bB; rw [mrg_push]; simp
theorem bB_set {K : Nat → ClassId} {h a R : Nat} {l : List Bool} {g : Nat → Int32} {x : Bool} {j : Nat} (hj : j < l.length) : b0 K h a R (upd (mrg bI l g) j (bI x)) l.length = bB K h a R (l.set j x) g := by unfold bB; rw [mrg_set hj]; simp
theorem bB_flip {K : Nat → ClassId} {h a R : Nat} {l : List Bool} {g : Nat → Int32} {j : Nat} (hj : j < l.length) : b0 K h a R (upd (mrg bI l g) j (bI (!l.getD j false))) l.length = bB K h a R (l.modify j (fun b => !b)) g := by rw [bB_set hj, modify_in hj]
theorem dec_1 {n : Nat} (h : 1 ≤ n) : nI (n - 0) - 1 = nI (n - 1) := pk_sub h
theorem dec_lt {a : Nat} (h : nI a - 1 < 0) (ha : a < 2 ^ 31) : a = 0 := by
  cases a with
  | zero => rfl
  | succ a => rw [nI_pred] at h; exact absurd h (nI_pos (by omega))
theorem dec_ge {a : Nat} (h : ¬ nI a - 1 < 0) (ha : a < 2 ^ 31) : 0 < a ∧ nI a - 1 = nI (a - 1) := by
  cases a with
  | zero => exact absurd (by decide) h
  | succ a => exact ⟨Nat.succ_pos a, nI_pred a⟩
theorem bsl_lt (x : Bool) {i : Nat} (h : i < 32) : x.toNat * 2 ^ i < 2 ^ 32 := by
  have := Nat.pow_lt_pow_right (a := 2) (by decide) h
  cases x <;> simp <;> omega
theorem cr0_lt {n r : Nat} (hn : n ≤ 16) (h : r < 2 ^ n) : r < 2 ^ 31 := by
  have := Nat.pow_le_pow_right (n := 2) (by decide) hn
  omega
theorem cr1_lt {n r : Nat} (hn : n ≤ 16) (h : r < 2 ^ n) : r * 2 ^ 1 < 2 ^ 32 := by
  have := Nat.pow_le_pow_right (n := 2) (by decide) hn
  omega
theorem cr2_lt {n t : Nat} (hn : n ≤ 16) (h : t < 2 ^ (n + 1)) : t < 2 ^ 31 := by
  have := Nat.pow_le_pow_right (n := 2) (by decide) (show n + 1 ≤ 17 by omega)
  omega
theorem and1_lt (x : Nat) : x &&& 1 < 2 ^ 31 := by rw [Nat.and_one_is_mod]; omega
theorem tb_div (t n : Nat) : (t / 2 ^ n) &&& 1 = 1 ↔ t.testBit n = true := by
  rw [Nat.and_one_is_mod, Nat.testBit_eq_decide_div_mod_eq]; simp
theorem crc_tr {gd n i : Nat} {l : List Bool} (q : Nat) (h : ((crc gd n (sl l 0 i) * 2 ^ 1) ^^^ ((l.getD i false).toNat * 2 ^ n)) / 2 ^ n &&& 1 = 1) : ((crc gd n (sl l 0 i) * 2 ^ 1) ^^^ ((l.getD i false).toNat * 2 ^ n)) ^^^ gd = crc gd n (sl l 0 (i + 1)) := by
  rw [sl_succ, crc_push, Nat.zero_add, crS, if_pos ((tb_div _ _).mp h)]
theorem crc_fa {gd n i : Nat} {l : List Bool} (q : Nat) (h : ¬ ((crc gd n (sl l 0 i) * 2 ^ 1) ^^^ ((l.getD i false).toNat * 2 ^ n)) / 2 ^ n &&& 1 = 1) : (crc gd n (sl l 0 i) * 2 ^ 1) ^^^ ((l.getD i false).toNat * 2 ^ n) = crc gd n (sl l 0 (i + 1)) := by
  rw [sl_succ, crc_push, Nat.zero_add, crS, if_neg (fun z => h ((tb_div _ _).mpr z))]
theorem holds_s {l : List Bool} {bn r n i : Nat} (h : sl l bn i = rbp r n i) (hc : l.getD (bn + i) false = (r / 2 ^ (n - 1 - i)).testBit 0) : sl l bn (i + 1) = rbp r n (i + 1) := by rw [sl_succ, rbp_succ, h, hc, bit_shr]
theorem holds_n {l : List Bool} {bn r n i : Nat} (hi : i < n) (hc : ¬ l.getD (bn + i) false = (r / 2 ^ (n - 1 - i)).testBit 0) : ¬ sl l bn n = rb r n := by
  intro h
  apply hc
  have := congrArg (fun z => z[i]?) h
  rw [bit_shr]
  simpa [sl, rb, rbp, hi] using this
theorem holds_y {l : List Bool} {bn r n i : Nat} (hi : i = n) (h : sl l bn i = rbp r n i) : sl l bn n = rb r n := by subst hi; exact h
/-- the first i bits xored with those of v from st on -/
def wh (l v : List Bool) (st i : Nat) : List Bool := l.mapIdx (fun j b => if j < i then b ^^ v.getD (st + j) false else b)
theorem wh_0 (l v : List Bool) (st : Nat) : wh l v st 0 = l := by
  apply List.ext_getElem?
  intro j
  simp [wh]
theorem wh_len (l v : List Bool) (st i : Nat) : (wh l v st i).length = l.length := by simp [wh]
theorem wh_succ {l v : List Bool} {st i : Nat} (hi : i < l.length) : (wh l v st i).set i ((wh l v st i).getD i false ^^ v.getD (st + i) false) = wh l v st (i + 1) := by
  apply List.ext_getElem?
  intro j
  rw [List.getElem?_set]
  by_cases hj : i = j
  · subst hj
    simp [wh, hi]
  · simp only [hj, if_false, wh, List.getElem?_mapIdx]
    cases hl : l[j]? with
    | none => rfl
    | some b =>
      have : (j < i) = (j < i + 1) := by rw [eq_iff_iff]; omega
      simp [this]
/-! STATE: rows of bytes -/
theorem getD_outN {l : List Nat} {j : Nat} (h : l.length ≤ j) : l.getD j 0 = 0 := by simp [List.getD, List.getElem?_eq_none h]
def slN (l : List Nat) (st n : Nat) : List Nat := (List.range n).map (fun i => l.getD (st + i) 0)
theorem slN_0 (l : List Nat) (st : Nat) : slN l st 0 = [] := rfl
theorem slN_succ (l : List Nat) (st n : Nat) : slN l st (n + 1) = slN l st n ++ [l.getD (st + n) 0] := by simp [slN, List.range_succ]
theorem slN_len (l : List Nat) (st n : Nat) : (slN l st n).length = n := by simp [slN]
def m0 (K : Nat → ClassId) (h a n : Nat) (f : Nat → Int32) (k : Nat) : va_W := [(h, .inr (iMsg, [.ref a, .int (nI k)])), (a, .inl (K 0, n, .inl f))]
def bM (K : Nat → ClassId) (h a R : Nat) (l : List Nat) (g : Nat → Int32) : va_W := m0 K h a R (mrg nI l g) l.length
theorem bM_nil {K : Nat → ClassId} {h a R : Nat} {g : Nat → Int32} : bM K h a R [] g = m0 K h a R g 0 := by unfold bM; rw [mrg_nil]; rfl
theorem bM_push {K : Nat → ClassId} {h a R : Nat} {l : List Nat} {g : Nat → Int32} {x : Nat} : m0 K h a R (upd (mrg nI l g) l.length (nI x)) (l.length + 1) = bM K h a R (l ++ [x]) g := by unfold bM; rw [mrg_push]; simp
theorem cpy_mrg {l : List Nat} {f g : Nat → Int32} : va_cpy (mrg nI l f) g 0 0 l.length = mrg nI l g := by
  funext j
  by_cases h : j < l.length
  · rw [pk_cpy_in (Nat.zero_le j) (by omega), mrg_lt h, mrg_lt (by omega)]
    simp
  · rw [pk_cpy_out (by omega)]
    simp [mrg, List.getElem?_eq_none (Nat.le_of_not_lt h)]
theorem bM_cpy {K : Nat → ClassId} {h a R : Nat} {l : List Nat} {f g : Nat → Int32} : m0 K h a R (va_cpy (mrg nI l f) g 0 0 l.length) l.length = bM K h a R l g := by rw [cpy_mrg]; rfl
/-! a ring of six messages -/
def bH (K : Nat → ClassId) (h q : Nat) (mh : Nat → Nat) (fi sz : Nat) : va_W := [(h, .inr (iRow, [.ref q, .int (nI fi), .int (nI sz)])), (q, .inl (K 1, 6, .inr (.inr (.inr (.inr (fun i => some (mh i)))))))]
def bPool (K : Nat → ClassId) (mh ma : Nat → Nat) (R : Nat) (ml : Nat → List Nat) (mg : Nat → Nat → Int32) : va_W := (List.range 6).flatMap (fun i => bM K (mh i) (ma i) R (ml i) (mg i))
def bPx (K : Nat → ClassId) (mh ma : Nat → Nat) (R : Nat) (ml : Nat → List Nat) (mg : Nat → Nat → Int32) (i : Nat) : va_W := ((List.range 6).erase i).flatMap (fun j => bM K (mh j) (ma j) R (ml j) (mg j))
theorem fm_congr {α β : Type} {l : List α} {f g : α → List β} (h : ∀ a ∈ l, f a = g a) : l.flatMap f = l.flatMap g := by
  induction l with
  | nil => rfl
  | cons a t ih => rw [List.flatMap_cons, List.flatMap_cons, h a List.mem_cons_self, ih (fun b hb => h b (List.mem_cons_of_mem _ hb))]
theorem pool_split {K : Nat → ClassId} {mh ma : Nat → Nat} {R : Nat} {ml : Nat → List Nat} {mg : Nat → Nat → Int32} {i : Nat} (h : i < 6) : (bPool K mh ma R ml mg).Perm (bM K (mh i) (ma i) R (ml i) (mg i) ++ bPx K mh ma R ml mg i) := by
  have h1 := List.perm_cons_erase (List.mem_range.mpr h)
  exact (List.Perm.flatMap_right _ h1).trans (List.Perm.of_eq (by simp [bPx]))
theorem pool_join {K : Nat → ClassId} {mh ma : Nat → Nat} {R : Nat} {ml : Nat → List Nat} {mg : Nat → Nat → Int32} {i : Nat} {l : List Nat} {g : Nat → Int32} (h : i < 6) : (bM K (mh i) (ma i) R l g ++ bPx K mh ma R ml mg i).Perm (bPool K mh ma R (va_up ml i l) (va_up mg i g)) := by
  refine List.Perm.trans (List.Perm.of_eq ?_) (pool_split h).symm
  rw [va_up_self, va_up_self]
  congr 1
  unfold bPx
  apply fm_congr
  intro j hj
  have hne : j ≠ i := by
    have hn : (List.range 6).Nodup := List.nodup_range
    exact ((List.Nodup.mem_erase_iff hn).mp hj).1
  rw [va_up_ne _ _ hne, va_up_ne _ _ hne]
theorem pool_same {K : Nat → ClassId} {mh ma : Nat → Nat} {R : Nat} {ml : Nat → List Nat} {mg : Nat → Nat → Int32} {i : Nat} (h : i < 6) : (bM K (mh i) (ma i) R (ml i) (mg i) ++ bPx K mh ma R ml mg i).Perm (bPool K mh ma R ml mg) := (pool_split h).symm
