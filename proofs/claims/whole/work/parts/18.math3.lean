/-! STATE AND MATHEMATICS: outbox, inbox, device -/
def bO (_ : Nat → ClassId) (h hw hq hs hf fr : Nat) (fw gu tu : Bool) : va_W := [(h, .inr (iOut, [.ref hw, .ref hq, .ref hs, .ref hf, .int (nI fr), .int (bI fw), .int (bI gu), .int (bI tu)]))]
def bIn (_ : Nat → ClassId) (h ht hp : Nat) (pt : Bool) (du : Nat) (lt : Bool) (dr co : Nat) : va_W := [(h, .inr (iInbox, [.ref ht, .ref hp, .int (bI pt), .int (nI du), .int (bI lt), .int (nI dr), .int (nI co)]))]
def bD (_ : Nat → ClassId) (h ho hi hb : Nat) (gd hd : Bool) : va_W := [(h, .inr (iDev, [.ref ho, .ref hi, .ref hb, .int (bI gd), .int (bI hd)]))]
theorem slN_all (l : List Nat) : slN l 0 l.length = l := by
  apply List.ext_getElem
  · simp [slN]
  · intro i h1 h2
    simp [slN, h2]
/-- how many bytes the next frame has -/
def nxt (gu : Bool) (left : Nat) : Nat := min left (cond gu 9 13)
/-- a message that has come to its end is taken: it has as many bytes as it should, and there is a place -/
def eApp (du : Nat) (pl : List Nat) (sz : Nat) : Bool := decide (pl.length ≤ du) && decide (sz < 6)
def iPl1 (be pt : Bool) (pl y : List Nat) : List Nat := cond be (slN y 1 (y.length - 1)) (cond pt (pl ++ y) pl)
def iDu1 (be : Bool) (du : Nat) (y : List Nat) : Nat := cond be (y.getD 0 0) du
def iDr1 (be pt : Bool) (dr : Nat) : Nat := cond be (cond pt (dr + 1) dr) dr
/-- the message being put together ends -/
def iFin (be pt : Bool) (du : Nat) (pl y : List Nat) : Bool := (be || pt) && decide (iDu1 be du y ≤ (iPl1 be pt pl y).length)
def iApp (be pt : Bool) (du : Nat) (pl y : List Nat) (sz : Nat) : Bool := iFin be pt du pl y && eApp (iDu1 be du y) (iPl1 be pt pl y) sz
def bRP (_ : Nat → ClassId) (h hda hc hon hhf ck : Nat) : va_W := [(h, .inr (iRP, [.ref hda, .ref hc, .ref hon, .ref hhf, .int (nI ck)]))]
def bDA (K : Nat → ClassId) (a : Nat) (da : Nat → Nat) : va_W := [(a, .inl (K 2, 2, .inr (.inr (.inr (.inr (fun i => some (da i)))))))]
theorem slN_b {l : List Nat} {st n : Nat} (h : ∀ j, l.getD j 0 < 256) : ∀ j, (slN l st n).getD j 0 < 256 := by
  intro j
  by_cases hj : j < n
  · have : (slN l st n).getD j 0 = l.getD (st + j) 0 := by simp [slN, hj]
    rw [this]; exact h _
  · rw [getD_outN (by rw [slN_len]; omega)]; decide
theorem tkR_le (ad ck : Nat) (air : List Bool) : tkR ad ck air < 100 := by
  unfold tkR
  split
  · split
    · split <;> decide
    · decide
  · decide
theorem tkR_ok {ad ck : Nat} {air : List Bool} (h : ¬ tkR ad ck air = 5) : hOK ad (tH ck air) = true := by
  cases hh : hOK ad (tH ck air) with
  | true => rfl
  | false => exact absurd (tkR_5 hh) h
theorem tkR_ld {ad ck : Nat} {air : List Bool} (h : tkR ad ck air = 6) : ldOK (tL ck air) = true := by
  cases hh : ldOK (tL ck air) with
  | true => rfl
  | false =>
    unfold tkR at h
    rw [hh, Bool.and_false] at h
    split at h
    · split at h
      · rw [if_neg (by decide)] at h; exact absurd h (by decide)
      · exact absurd h (by decide)
    · exact absurd h (by decide)
theorem ldY_le (l : List Bool) : (ldY l (toN l 0 8 / 4)).length ≤ 63 := by
  have := toN_lt l 0 8
  rw [ldY_len]; omega
theorem ldY_1 {ad ck : Nat} {air : List Bool} (h : tkR ad ck air = 6) : 1 ≤ (ldY (tL ck air) (toN (tL ck air) 0 8 / 4)).length := by
  have h1 := tkR_ld h
  unfold ldOK at h1
  rw [ldY_len]
  simp only [Bool.and_eq_true, decide_eq_true_eq] at h1
  omega
theorem ldY_bj (l : List Bool) (k j : Nat) : (ldY l k).getD j 0 < 256 := by
  by_cases hj : j < k
  · have : (ldY l k).getD j 0 = toN l (8 * (j + 1)) 8 := by simp [ldY, hj]
    rw [this]; exact toN_lt _ _ 8
  · rw [getD_outN (by rw [ldY_len]; omega)]; decide
theorem ldY_b {l : List Bool} (k : Nat) : (ldY l k).getD 0 0 ≤ 255 := Nat.le_of_lt_succ (ldY_bj l k 0)
def ads (l : List Nat) (i : Nat) : Nat := l.getD i 0
theorem qcell_ext {cA : ClassId} {n : Nat} {f g : Nat → Option Nat} (h : ∀ i, i < n → f i = g i) : vp_cell cA (n, .inr (.inr (.inr (.inr f)))) = vp_cell cA (n, .inr (.inr (.inr (.inr g)))) := by
  rw [vp_cell_q, vp_cell_q]
  unfold arrV
  have e : (fun j : Fin n => va_rf (f j.val)) = fun j : Fin n => va_rf (g j.val) := funext fun j => by rw [h j.val j.isLt]
  rw [e]
theorem ow.qext {D : va_G} {cl : List vw_C} {A : Nat → Prop} {H0 H : Heap} {locs : List Loc} {bs bs' : BW} (h : ow D cl A H0 H locs bs) (k j : Nat) {blk : va_W} (hk : bs[k]? = some blk) {a n : Nat} {cA : ClassId} {f g : Nat → Option Nat} (hj : blk[j]? = some (a, .inl (cA, n, .inr (.inr (.inr (.inr f)))))) (hfg : ∀ i, i < n → f i = g i) (hb : bs.set k (blk.set j (a, .inl (cA, n, .inr (.inr (.inr (.inr g)))))) = bs') : ow D cl A H0 H locs bs' := by
  subst hb
  have hp := bw_at hk hj
  have hlt := (List.getElem?_eq_some_iff.mp hj).1
  refine ⟨?_, ?_, h.2.2⟩
  · rw [← bw_set hk hlt]
    intro i q hq
    rw [List.getElem?_set] at hq
    split at hq
    · rename_i e
      split at hq
      · cases hq
        have h1 : H[a]? = some (vp_cell cA (n, .inr (.inr (.inr (.inr f))))) := h.1 _ _ hp
        show H[a]? = some (vp_cell cA (n, .inr (.inr (.inr (.inr g)))))
        rw [h1, qcell_ext hfg]
      · cases hq
    · exact h.1 i q hq
  · rw [← bw_set hk hlt]
    exact h.2.1.set hp
theorem six_q {f g : Nat → Option Nat} (h0 : f 0 = g 0) (h1 : f 1 = g 1) (h2 : f 2 = g 2) (h3 : f 3 = g 3) (h4 : f 4 = g 4) (h5 : f 5 = g 5) : ∀ i, i < 6 → f i = g i := by
  intro i hi
  rcases (show i = 0 ∨ i = 1 ∨ i = 2 ∨ i = 3 ∨ i = 4 ∨ i = 5 by omega) with rfl | rfl | rfl | rfl | rfl | rfl <;> assumption
theorem two_q {f g : Nat → Option Nat} (h0 : f 0 = g 0) (h1 : f 1 = g 1) : ∀ i, i < 2 → f i = g i := by
  intro i hi
  rcases (show i = 0 ∨ i = 1 by omega) with rfl | rfl <;> assumption
/-- an address, clamped to 1 .. 7 -/
def clampA (a : Int32) : Nat := if a < 1 then 1 else if 7 < a then 7 else a.toNatClampNeg
theorem clampA_sm : ∀ j, j < 8 → (if nI 1 < (if nI j < nI 7 then nI j else nI 7) then (if nI j < nI 7 then nI j else nI 7) else nI 1) = nI (clampA (nI j)) ∧ 1 ≤ clampA (nI j) ∧ clampA (nI j) ≤ 7 := by decide +kernel
theorem clampA_all (a : Int32) : (if nI 1 < (if a < nI 7 then a else nI 7) then (if a < nI 7 then a else nI 7) else nI 1) = nI (clampA a) ∧ 1 ≤ clampA a ∧ clampA a ≤ 7 := by
  rcases pk_ix a (n := 8) (by decide) with h | h | ⟨j, hj, rfl⟩
  · have h1 : a < 1 := by rw [Int32.lt_iff_toInt_lt] at h ⊢; have : (1 : Int32).toInt = 1 := by decide
                          have h0 : (0 : Int32).toInt = 0 := by decide
                          omega
    have h2 : a < nI 7 := by rw [Int32.lt_iff_toInt_lt] at h ⊢; have : (nI 7).toInt = 7 := by decide
                             have h0 : (0 : Int32).toInt = 0 := by decide
                             omega
    have h3 : ¬ nI 1 < a := by rw [Int32.lt_iff_toInt_lt] at h ⊢; have : (nI 1).toInt = 1 := by decide
                               have h0 : (0 : Int32).toInt = 0 := by decide
                               omega
    rw [if_pos h2, if_neg h3]
    unfold clampA
    rw [if_pos h1]
    exact ⟨rfl, by decide, by decide⟩
  · have e8 : (nI 8).toInt = 8 := by decide
    rw [Int32.le_iff_toInt_le] at h
    have h1 : ¬ a < 1 := by rw [Int32.lt_iff_toInt_lt]; have : (1 : Int32).toInt = 1 := by decide
                            omega
    have h2 : ¬ a < nI 7 := by rw [Int32.lt_iff_toInt_lt]; have : (nI 7).toInt = 7 := by decide
                               omega
    have h3 : 7 < a := by rw [Int32.lt_iff_toInt_lt]; have : (7 : Int32).toInt = 7 := by decide
                          omega
    rw [if_neg h2, if_pos (by decide)]
    unfold clampA
    rw [if_neg h1, if_pos h3]
    exact ⟨rfl, by decide, by decide⟩
  · exact clampA_sm j hj
