/-! THE RELATION of the class's pictures and the reference's arrays, group by group -/
def gDr (wr : List Nat) (f3 f4 : Nat → Int32) (d : Nat) : Prop := wr.length ≤ 40 ∧ (∀ j, wr.getD j 0 < 256) ∧ f3 d = nI wr.length ∧ ∀ j, j < wr.length → f4 (40 * d + j) = nI (wr.getD j 0)
def gQu (fi sz : Nat) (ml : Nat → List Nat) (f5 f6 f7 : Nat → Int32) (d : Nat) : Prop := fi < 6 ∧ sz ≤ 6 ∧ f5 d = nI sz ∧ ∀ i, i < sz → (ml ((fi + i) % 6)).length ≤ 40 ∧ (∀ j, (ml ((fi + i) % 6)).getD j 0 < 256) ∧ f6 (6 * d + i) = nI (ml ((fi + i) % 6)).length ∧ ∀ j, j < (ml ((fi + i) % 6)).length → f7 (40 * (6 * d + i) + j) = nI ((ml ((fi + i) % 6)).getD j 0)
def gSe (ls : List Nat) (fr : Nat) (f8 f9 f10 : Nat → Int32) (d : Nat) : Prop := ls.length ≤ 41 ∧ fr ≤ ls.length ∧ (∀ j, ls.getD j 0 < 256) ∧ f8 d = nI ls.length ∧ f9 d = nI fr ∧ ∀ j, j < ls.length → f10 (41 * d + j) = nI (ls.getD j 0)
def gFr (fw ft tu : Bool) (kd : Nat) (be : Bool) (lm : List Nat) (f11 f12 f13 f14 : Nat → Int32) (d : Nat) : Prop := lm.length ≤ 63 ∧ f11 d = nI (cond fw lm.length 0) ∧ (fw = true → ft = tu ∧ 0 < lm.length ∧ (∀ j, lm.getD j 0 < 256) ∧ (∃ pp : Bool, kd = cond pp 4 3 ∧ f12 d = nI (cond pp 4 3) ∧ lm.length ≤ cond pp 13 9) ∧ f13 d = bI be ∧ ∀ j, j < lm.length → f14 (13 * d + j) = nI (lm.getD j 0))
def gTk (fi sz : Nat) (ml : Nat → List Nat) (f15 f16 f17 : Nat → Int32) (d : Nat) : Prop := fi < 6 ∧ sz ≤ 6 ∧ f15 d = nI sz ∧ ∀ i, i < sz → (ml ((fi + i) % 6)).length ≤ 255 ∧ f16 (6 * d + i) = nI (ml ((fi + i) % 6)).length ∧ ∀ j, j < (ml ((fi + i) % 6)).length → f17 (255 * (6 * d + i) + j) = nI ((ml ((fi + i) % 6)).getD j 0)
def gPa (pt : Bool) (du : Nat) (pl : List Nat) (f18 f19 f20 : Nat → Int32) (d : Nat) : Prop := du ≤ 255 ∧ pl.length ≤ 318 ∧ f18 d = cond pt (nI du) (-1) ∧ (pt = true → pl.length < du ∧ f19 d = nI pl.length ∧ ∀ j, j < pl.length → f20 (320 * d + j) = nI (pl.getD j 0))
theorem gDr_push {wr : List Nat} {f3 f4 : Nat → Int32} {d x : Nat} (h : gDr wr f3 f4 d) (hw : wr.length < 40) (hx : x ≤ 255) : gDr (wr ++ [x]) (upd f3 d (nI (wr.length + 1))) (upd f4 (40 * d + wr.length) (nI x)) d := by
  obtain ⟨_, h2, _, h4⟩ := h
  refine ⟨by rw [List.length_append, List.length_singleton]; omega, fun j => ?_, by rw [pk_us, List.length_append, List.length_singleton], fun j hj => ?_⟩
  · by_cases e : j < wr.length
    · rw [List.getD_eq_getElem?_getD, List.getElem?_append_left e, ← List.getD_eq_getElem?_getD]; exact h2 j
    · by_cases e2 : j = wr.length
      · subst e2; simp; omega
      · rw [getD_outN (by rw [List.length_append, List.length_singleton]; omega)]; decide
  · rw [List.length_append, List.length_singleton] at hj
    by_cases e : j < wr.length
    · rw [pk_un (by omega), h4 j e, List.getD_eq_getElem?_getD, List.getD_eq_getElem?_getD, List.getElem?_append_left e]
    · have e2 : j = wr.length := by omega
      subst e2
      rw [pk_us]; simp
theorem gDr_nil {wr : List Nat} {f3 f4 : Nat → Int32} {d : Nat} (_ : gDr wr f3 f4 d) : gDr [] (upd f3 d (nI 0)) f4 d := ⟨by decide, fun j => by simp, by rw [pk_us]; rfl, fun j hj => absurd hj (Nat.not_lt_zero j)⟩
theorem ring_ne {fi i sz : Nat} (_ : fi < 6) (hs : sz < 6) (hi : i < sz) : (fi + i) % 6 ≠ (fi + sz) % 6 := by omega
theorem gQu_put {fi sz : Nat} {ml : Nat → List Nat} {f5 f6 f7 f3 f4 : Nat → Int32} {d : Nat} {wr : List Nat} (h : gQu fi sz ml f5 f6 f7 d) (hw : gDr wr f3 f4 d) (hs : sz < 6) : gQu fi (sz + 1) (va_up ml ((fi + sz) % 6) wr) (upd f5 d (nI (sz + 1))) (upd f6 (6 * d + sz) (nI wr.length)) (va_cpy f4 f7 (40 * d) (40 * (6 * d + sz)) wr.length) d := by
  obtain ⟨h1, h2, h3, h4⟩ := h
  obtain ⟨w1, w2, w3, w4⟩ := hw
  refine ⟨h1, by omega, pk_us, fun i hi => ?_⟩
  by_cases e : i = sz
  · subst e
    rw [va_up_self]
    refine ⟨w1, w2, pk_us, fun j hj => ?_⟩
    rw [pk_cpy_in (by omega) (by omega), Nat.add_sub_cancel_left, w4 j hj]
  · have hi' : i < sz := by omega
    rw [va_up_ne _ _ (ring_ne h1 hs hi')]
    obtain ⟨q1, q2, q3, q4⟩ := h4 i hi'
    refine ⟨q1, q2, by rw [pk_un (by omega)]; exact q3, fun j hj => ?_⟩
    rw [pk_cpy_out (by omega)]
    exact q4 j hj
theorem ring_next {fi i : Nat} : ((fi + 1) % 6 + i) % 6 = (fi + (i + 1)) % 6 := by omega
theorem gQu_pop {fi sz : Nat} {ml : Nat → List Nat} {f5 f6 f7 : Nat → Int32} {d : Nat} (h : gQu fi sz ml f5 f6 f7 d) (hs : 0 < sz) : gQu ((fi + 1) % 6) (sz - 1) ml (upd f5 d (nI (sz - 1))) (va_cpy f6 f6 (6 * d + 1) (6 * d) (sz - 1)) (va_cpy f7 f7 (40 * (6 * d) + 40) (40 * (6 * d)) (40 * (sz - 1))) d := by
  obtain ⟨h1, h2, h3, h4⟩ := h
  refine ⟨Nat.mod_lt _ (by decide), by omega, pk_us, fun i hi => ?_⟩
  rw [ring_next]
  obtain ⟨q1, q2, q3, q4⟩ := h4 (i + 1) (by omega)
  refine ⟨q1, q2, ?_, fun j hj => ?_⟩
  · rw [pk_cpy_in (by omega) (by omega), show 6 * d + 1 + (6 * d + i - 6 * d) = 6 * d + (i + 1) by omega]; exact q3
  · rw [pk_cpy_in (by omega) (by omega), show 40 * (6 * d) + 40 + (40 * (6 * d + i) + j - 40 * (6 * d)) = 40 * (6 * d + (i + 1)) + j by omega]; exact q4 j hj
theorem gTk_pop {fi sz : Nat} {ml : Nat → List Nat} {f5 f6 f7 : Nat → Int32} {d : Nat} (h : gTk fi sz ml f5 f6 f7 d) (hs : 0 < sz) : gTk ((fi + 1) % 6) (sz - 1) ml (upd f5 d (nI (sz - 1))) (va_cpy f6 f6 (6 * d + 1) (6 * d) (sz - 1)) (va_cpy f7 f7 (255 * (6 * d) + 255) (255 * (6 * d)) (255 * (sz - 1))) d := by
  obtain ⟨h1, h2, h3, h4⟩ := h
  refine ⟨Nat.mod_lt _ (by decide), by omega, pk_us, fun i hi => ?_⟩
  rw [ring_next]
  obtain ⟨q1, q3, q4⟩ := h4 (i + 1) (by omega)
  refine ⟨q1, ?_, fun j hj => ?_⟩
  · rw [pk_cpy_in (by omega) (by omega), show 6 * d + 1 + (6 * d + i - 6 * d) = 6 * d + (i + 1) by omega]; exact q3
  · rw [pk_cpy_in (by omega) (by omega), show 255 * (6 * d) + 255 + (255 * (6 * d + i) + j - 255 * (6 * d)) = 255 * (6 * d + (i + 1)) + j by omega]; exact q4 j hj
theorem gTk_put {fi sz : Nat} {ml : Nat → List Nat} {f5 f6 f7 f20 : Nat → Int32} {d : Nat} {pl : List Nat} (h : gTk fi sz ml f5 f6 f7 d) (hs : sz < 6) (hl : pl.length ≤ 255) (hp : ∀ j, j < pl.length → f20 (320 * d + j) = nI (pl.getD j 0)) : gTk fi (sz + 1) (va_up ml ((fi + sz) % 6) pl) (upd f5 d (nI (sz + 1))) (upd f6 (6 * d + sz) (nI pl.length)) (va_cpy f20 f7 (320 * d) (255 * (6 * d + sz)) pl.length) d := by
  obtain ⟨h1, h2, h3, h4⟩ := h
  refine ⟨h1, by omega, pk_us, fun i hi => ?_⟩
  by_cases e : i = sz
  · subst e
    rw [va_up_self]
    refine ⟨hl, pk_us, fun j hj => ?_⟩
    rw [pk_cpy_in (by omega) (by omega), Nat.add_sub_cancel_left, hp j hj]
  · have hi' : i < sz := by omega
    rw [va_up_ne _ _ (ring_ne h1 hs hi')]
    obtain ⟨q1, q3, q4⟩ := h4 i hi'
    refine ⟨q1, by rw [pk_un (by omega)]; exact q3, fun j hj => ?_⟩
    rw [pk_cpy_out (by omega)]
    exact q4 j hj
/-- the oldest waiting message, ready to be sent -/
theorem gSe_new {fi sz : Nat} {ml : Nat → List Nat} {f5 f6 f7 f8 f9 f10 : Nat → Int32} {d : Nat} (h : gQu fi sz ml f5 f6 f7 d) (hs : 0 < sz) : gSe ((ml fi).length :: ml fi) 0 (upd f8 d (nI ((ml fi).length + 1))) (upd f9 d (nI 0)) (va_cpy f7 (upd f10 (41 * d) (nI (ml fi).length)) (40 * (6 * d)) (41 * d + 1) (ml fi).length) d := by
  obtain ⟨h1, h2, h3, h4⟩ := h
  obtain ⟨q1, q2, q3, q4⟩ := h4 0 hs
  rw [show (fi + 0) % 6 = fi by omega] at q1 q2 q3 q4
  refine ⟨by rw [List.length_cons]; omega, Nat.zero_le _, fun j => ?_, pk_us, pk_us, fun j hj => ?_⟩
  · cases j with
    | zero => show (ml fi).length < 256; omega
    | succ j => exact q2 j
  · cases j with
    | zero => rw [pk_cpy_out (by omega), Nat.add_zero, pk_us]; rfl
    | succ j =>
      rw [List.length_cons] at hj
      rw [pk_cpy_in (by omega) (by omega), show 40 * (6 * d) + (41 * d + (j + 1) - (41 * d + 1)) = 40 * (6 * d + 0) + j by omega, q4 j (by omega)]; rfl
theorem nxt_le (g : Bool) (n : Nat) : nxt g n ≤ n := Nat.min_le_left _ _
theorem nxt_13 (g : Bool) (n : Nat) : nxt g n ≤ cond g 9 13 := Nat.min_le_right _ _
theorem nxt_pos {g : Bool} {n : Nat} (h : 0 < n) : 0 < nxt g n := by unfold nxt; cases g <;> dsimp only [cond] <;> omega
theorem gSe_on {ls : List Nat} {fr n : Nat} {f8 f9 f10 : Nat → Int32} {d : Nat} (h : gSe ls fr f8 f9 f10 d) (hn : fr + n ≤ ls.length) : gSe ls (fr + n) f8 (upd f9 d (nI (fr + n))) f10 d := ⟨h.1, hn, h.2.2.1, h.2.2.2.1, pk_us, h.2.2.2.2.2⟩
theorem slN_getD {l : List Nat} {st n j : Nat} (h : j < n) : (slN l st n).getD j 0 = l.getD (st + j) 0 := by simp [slN, h]
/-- a frame is made -/
theorem gFr_new {ls : List Nat} {fr : Nat} {f8 f9 f10 f11 f12 f13 f14 : Nat → Int32} {d : Nat} {gu tu : Bool} (h : gSe ls fr f8 f9 f10 d) (hf : fr < ls.length) : gFr true tu tu (cond gu 3 4) (decide (fr = 0)) (slN ls fr (nxt gu (ls.length - fr))) (upd f11 d (nI (nxt (!!gu) (ls.length - fr)))) (upd f12 d (nI (cond (!gu) 4 3))) (upd f13 d (bI (decide (fr = 0)))) (va_cpy f10 f14 (41 * d + fr) (13 * d) (nxt (!!gu) (ls.length - fr))) d := by
  obtain ⟨h1, h2, h3, h4, h5, h6⟩ := h
  rw [Bool.not_not]
  have n1 := nxt_le gu (ls.length - fr)
  have n2 := nxt_13 gu (ls.length - fr)
  have n4 : cond gu 9 13 ≤ 13 := by cases gu <;> decide
  refine ⟨by rw [slN_len]; omega, by rw [pk_us, slN_len]; rfl, fun _ => ⟨rfl, by rw [slN_len]; exact nxt_pos (by omega), slN_b h3, ⟨!gu, by cases gu <;> rfl, pk_us, by rw [slN_len]; cases gu <;> exact n2⟩, pk_us, fun j hj => ?_⟩⟩
  rw [slN_len] at hj
  rw [pk_cpy_in (by omega) (by omega), slN_getD hj, Nat.add_sub_cancel_left, Nat.add_assoc]
  exact h6 _ (by omega)
theorem gFr_ack {fw ft tu : Bool} {kd : Nat} {be : Bool} {lm : List Nat} {f11 f12 f13 f14 : Nat → Int32} {d : Nat} (b : Bool) (h : gFr fw ft tu kd be lm f11 f12 f13 f14 d) : gFr (fw && !b) ft tu kd be lm (upd f11 d (nI (cond b 0 (cond fw lm.length 0)))) f12 f13 f14 d := by
  obtain ⟨h1, h2, h3⟩ := h
  refine ⟨h1, by rw [pk_us]; cases b <;> cases fw <;> rfl, fun e => h3 ?_⟩
  cases fw
  · exact absurd e (by simp)
  · rfl

/-! the pictures -/
abbrev RPic : Type := (Nat) × (Nat) × (Nat) × (Nat) × (Nat) × (Nat) × (Nat → Nat) × (Nat) × (List Bool) × (Nat → Int32) × (Nat) × (Nat) × (Nat) × (Nat) × (Nat) × (Nat) × (Nat) × (Nat) × (Nat) × (List Bool) × (List Bool) × (List Bool) × (List Bool) × (Nat → Int32) × (Nat → Int32) × (Nat → Int32) × (Nat → Int32) × (Nat) × (Nat) × (Bool) × (Bool) × (Bool) × (Nat) × (Nat) × (List Nat) × (Nat → Int32)
abbrev RPic.hX (z : RPic) : Nat := z.1
abbrev RPic.hda (z : RPic) : Nat := z.2.1
abbrev RPic.hc (z : RPic) : Nat := z.2.2.1
abbrev RPic.hon (z : RPic) : Nat := z.2.2.2.1
abbrev RPic.hr (z : RPic) : Nat := z.2.2.2.2.1
abbrev RPic.ck (z : RPic) : Nat := z.2.2.2.2.2.1
abbrev RPic.da (z : RPic) : Nat → Nat := z.2.2.2.2.2.2.1
abbrev RPic.eo (z : RPic) : Nat := z.2.2.2.2.2.2.2.1
abbrev RPic.air (z : RPic) : List Bool := z.2.2.2.2.2.2.2.2.1
abbrev RPic.xo (z : RPic) : Nat → Int32 := z.2.2.2.2.2.2.2.2.2.1
abbrev RPic.ad (z : RPic) : Nat := z.2.2.2.2.2.2.2.2.2.2.1
abbrev RPic.c1 (z : RPic) : Nat := z.2.2.2.2.2.2.2.2.2.2.2.1
abbrev RPic.c2 (z : RPic) : Nat := z.2.2.2.2.2.2.2.2.2.2.2.2.1
abbrev RPic.c3 (z : RPic) : Nat := z.2.2.2.2.2.2.2.2.2.2.2.2.2.1
abbrev RPic.c4 (z : RPic) : Nat := z.2.2.2.2.2.2.2.2.2.2.2.2.2.2.1
abbrev RPic.e1 (z : RPic) : Nat := z.2.2.2.2.2.2.2.2.2.2.2.2.2.2.2.1
abbrev RPic.e2 (z : RPic) : Nat := z.2.2.2.2.2.2.2.2.2.2.2.2.2.2.2.2.1
abbrev RPic.e3 (z : RPic) : Nat := z.2.2.2.2.2.2.2.2.2.2.2.2.2.2.2.2.2.1
abbrev RPic.e4 (z : RPic) : Nat := z.2.2.2.2.2.2.2.2.2.2.2.2.2.2.2.2.2.2.1
abbrev RPic.w1 (z : RPic) : List Bool := z.2.2.2.2.2.2.2.2.2.2.2.2.2.2.2.2.2.2.2.1
abbrev RPic.w2 (z : RPic) : List Bool := z.2.2.2.2.2.2.2.2.2.2.2.2.2.2.2.2.2.2.2.2.1
abbrev RPic.w3 (z : RPic) : List Bool := z.2.2.2.2.2.2.2.2.2.2.2.2.2.2.2.2.2.2.2.2.2.1
abbrev RPic.w4 (z : RPic) : List Bool := z.2.2.2.2.2.2.2.2.2.2.2.2.2.2.2.2.2.2.2.2.2.2.1
abbrev RPic.x1 (z : RPic) : Nat → Int32 := z.2.2.2.2.2.2.2.2.2.2.2.2.2.2.2.2.2.2.2.2.2.2.2.1
abbrev RPic.x2 (z : RPic) : Nat → Int32 := z.2.2.2.2.2.2.2.2.2.2.2.2.2.2.2.2.2.2.2.2.2.2.2.2.1
abbrev RPic.x3 (z : RPic) : Nat → Int32 := z.2.2.2.2.2.2.2.2.2.2.2.2.2.2.2.2.2.2.2.2.2.2.2.2.2.1
abbrev RPic.x4 (z : RPic) : Nat → Int32 := z.2.2.2.2.2.2.2.2.2.2.2.2.2.2.2.2.2.2.2.2.2.2.2.2.2.2.1
abbrev RPic.hrm (z : RPic) : Nat := z.2.2.2.2.2.2.2.2.2.2.2.2.2.2.2.2.2.2.2.2.2.2.2.2.2.2.2.1
abbrev RPic.rk (z : RPic) : Nat := z.2.2.2.2.2.2.2.2.2.2.2.2.2.2.2.2.2.2.2.2.2.2.2.2.2.2.2.2.1
abbrev RPic.rak (z : RPic) : Bool := z.2.2.2.2.2.2.2.2.2.2.2.2.2.2.2.2.2.2.2.2.2.2.2.2.2.2.2.2.2.1
abbrev RPic.rt (z : RPic) : Bool := z.2.2.2.2.2.2.2.2.2.2.2.2.2.2.2.2.2.2.2.2.2.2.2.2.2.2.2.2.2.2.1
abbrev RPic.rbe (z : RPic) : Bool := z.2.2.2.2.2.2.2.2.2.2.2.2.2.2.2.2.2.2.2.2.2.2.2.2.2.2.2.2.2.2.2.1
abbrev RPic.rcr (z : RPic) : Nat := z.2.2.2.2.2.2.2.2.2.2.2.2.2.2.2.2.2.2.2.2.2.2.2.2.2.2.2.2.2.2.2.2.1
abbrev RPic.ram (z : RPic) : Nat := z.2.2.2.2.2.2.2.2.2.2.2.2.2.2.2.2.2.2.2.2.2.2.2.2.2.2.2.2.2.2.2.2.2.1
abbrev RPic.y (z : RPic) : List Nat := z.2.2.2.2.2.2.2.2.2.2.2.2.2.2.2.2.2.2.2.2.2.2.2.2.2.2.2.2.2.2.2.2.2.2.1
abbrev RPic.rgm (z : RPic) : Nat → Int32 := z.2.2.2.2.2.2.2.2.2.2.2.2.2.2.2.2.2.2.2.2.2.2.2.2.2.2.2.2.2.2.2.2.2.2.2
abbrev DPic : Type := (Nat) × (Nat) × (Nat) × (Bool) × (Bool) × (Nat) × (Nat) × (Nat) × (Nat) × (Nat) × (Bool) × (Bool) × (Bool) × (Nat) × (List Nat) × (Nat → Int32) × (Nat) × (Nat → Nat) × (Nat) × (Nat) × (Nat → Nat) × (Nat → List Nat) × (Nat → Nat → Int32) × (Nat) × (List Nat) × (Nat → Int32) × (Nat) × (Nat) × (Bool) × (Bool) × (Bool) × (Nat) × (Nat) × (List Nat) × (Nat → Int32) × (Nat) × (Nat) × (Bool) × (Nat) × (Bool) × (Nat) × (Nat) × (Nat) × (Nat → Nat) × (Nat) × (Nat) × (Nat → Nat) × (Nat → List Nat) × (Nat → Nat → Int32) × (Nat) × (List Nat) × (Nat → Int32) × (Nat) × (Bool) × (Bool) × (Bool) × (Nat) × (Nat) × (Nat → Int32)
abbrev DPic.h (z : DPic) : Nat := z.1
abbrev DPic.hi (z : DPic) : Nat := z.2.1
abbrev DPic.hb (z : DPic) : Nat := z.2.2.1
abbrev DPic.gd (z : DPic) : Bool := z.2.2.2.1
abbrev DPic.hd (z : DPic) : Bool := z.2.2.2.2.1
abbrev DPic.hw (z : DPic) : Nat := z.2.2.2.2.2.1
abbrev DPic.hq (z : DPic) : Nat := z.2.2.2.2.2.2.1
abbrev DPic.hs (z : DPic) : Nat := z.2.2.2.2.2.2.2.1
abbrev DPic.hf (z : DPic) : Nat := z.2.2.2.2.2.2.2.2.1
abbrev DPic.fr (z : DPic) : Nat := z.2.2.2.2.2.2.2.2.2.1
abbrev DPic.fw (z : DPic) : Bool := z.2.2.2.2.2.2.2.2.2.2.1
abbrev DPic.gu (z : DPic) : Bool := z.2.2.2.2.2.2.2.2.2.2.2.1
abbrev DPic.tu (z : DPic) : Bool := z.2.2.2.2.2.2.2.2.2.2.2.2.1
abbrev DPic.aw (z : DPic) : Nat := z.2.2.2.2.2.2.2.2.2.2.2.2.2.1
abbrev DPic.wr (z : DPic) : List Nat := z.2.2.2.2.2.2.2.2.2.2.2.2.2.2.1
abbrev DPic.gw (z : DPic) : Nat → Int32 := z.2.2.2.2.2.2.2.2.2.2.2.2.2.2.2.1
abbrev DPic.q (z : DPic) : Nat := z.2.2.2.2.2.2.2.2.2.2.2.2.2.2.2.2.1
abbrev DPic.mh (z : DPic) : Nat → Nat := z.2.2.2.2.2.2.2.2.2.2.2.2.2.2.2.2.2.1
abbrev DPic.fi (z : DPic) : Nat := z.2.2.2.2.2.2.2.2.2.2.2.2.2.2.2.2.2.2.1
abbrev DPic.sz (z : DPic) : Nat := z.2.2.2.2.2.2.2.2.2.2.2.2.2.2.2.2.2.2.2.1
abbrev DPic.ma (z : DPic) : Nat → Nat := z.2.2.2.2.2.2.2.2.2.2.2.2.2.2.2.2.2.2.2.2.1
abbrev DPic.ml (z : DPic) : Nat → List Nat := z.2.2.2.2.2.2.2.2.2.2.2.2.2.2.2.2.2.2.2.2.2.1
abbrev DPic.mg (z : DPic) : Nat → Nat → Int32 := z.2.2.2.2.2.2.2.2.2.2.2.2.2.2.2.2.2.2.2.2.2.2.1
abbrev DPic.as_ (z : DPic) : Nat := z.2.2.2.2.2.2.2.2.2.2.2.2.2.2.2.2.2.2.2.2.2.2.2.1
abbrev DPic.ls_ (z : DPic) : List Nat := z.2.2.2.2.2.2.2.2.2.2.2.2.2.2.2.2.2.2.2.2.2.2.2.2.1
abbrev DPic.gs_ (z : DPic) : Nat → Int32 := z.2.2.2.2.2.2.2.2.2.2.2.2.2.2.2.2.2.2.2.2.2.2.2.2.2.1
abbrev DPic.hm (z : DPic) : Nat := z.2.2.2.2.2.2.2.2.2.2.2.2.2.2.2.2.2.2.2.2.2.2.2.2.2.2.1
abbrev DPic.kd (z : DPic) : Nat := z.2.2.2.2.2.2.2.2.2.2.2.2.2.2.2.2.2.2.2.2.2.2.2.2.2.2.2.1
abbrev DPic.ak (z : DPic) : Bool := z.2.2.2.2.2.2.2.2.2.2.2.2.2.2.2.2.2.2.2.2.2.2.2.2.2.2.2.2.1
abbrev DPic.ft (z : DPic) : Bool := z.2.2.2.2.2.2.2.2.2.2.2.2.2.2.2.2.2.2.2.2.2.2.2.2.2.2.2.2.2.1
abbrev DPic.be (z : DPic) : Bool := z.2.2.2.2.2.2.2.2.2.2.2.2.2.2.2.2.2.2.2.2.2.2.2.2.2.2.2.2.2.2.1
abbrev DPic.cr (z : DPic) : Nat := z.2.2.2.2.2.2.2.2.2.2.2.2.2.2.2.2.2.2.2.2.2.2.2.2.2.2.2.2.2.2.2.1
abbrev DPic.am (z : DPic) : Nat := z.2.2.2.2.2.2.2.2.2.2.2.2.2.2.2.2.2.2.2.2.2.2.2.2.2.2.2.2.2.2.2.2.1
abbrev DPic.lm (z : DPic) : List Nat := z.2.2.2.2.2.2.2.2.2.2.2.2.2.2.2.2.2.2.2.2.2.2.2.2.2.2.2.2.2.2.2.2.2.1
abbrev DPic.gm (z : DPic) : Nat → Int32 := z.2.2.2.2.2.2.2.2.2.2.2.2.2.2.2.2.2.2.2.2.2.2.2.2.2.2.2.2.2.2.2.2.2.2.1
abbrev DPic.ht (z : DPic) : Nat := z.2.2.2.2.2.2.2.2.2.2.2.2.2.2.2.2.2.2.2.2.2.2.2.2.2.2.2.2.2.2.2.2.2.2.2.1
abbrev DPic.hp (z : DPic) : Nat := z.2.2.2.2.2.2.2.2.2.2.2.2.2.2.2.2.2.2.2.2.2.2.2.2.2.2.2.2.2.2.2.2.2.2.2.2.1
abbrev DPic.pt (z : DPic) : Bool := z.2.2.2.2.2.2.2.2.2.2.2.2.2.2.2.2.2.2.2.2.2.2.2.2.2.2.2.2.2.2.2.2.2.2.2.2.2.1
abbrev DPic.du (z : DPic) : Nat := z.2.2.2.2.2.2.2.2.2.2.2.2.2.2.2.2.2.2.2.2.2.2.2.2.2.2.2.2.2.2.2.2.2.2.2.2.2.2.1
abbrev DPic.lt (z : DPic) : Bool := z.2.2.2.2.2.2.2.2.2.2.2.2.2.2.2.2.2.2.2.2.2.2.2.2.2.2.2.2.2.2.2.2.2.2.2.2.2.2.2.1
abbrev DPic.dr (z : DPic) : Nat := z.2.2.2.2.2.2.2.2.2.2.2.2.2.2.2.2.2.2.2.2.2.2.2.2.2.2.2.2.2.2.2.2.2.2.2.2.2.2.2.2.1
abbrev DPic.co (z : DPic) : Nat := z.2.2.2.2.2.2.2.2.2.2.2.2.2.2.2.2.2.2.2.2.2.2.2.2.2.2.2.2.2.2.2.2.2.2.2.2.2.2.2.2.2.1
abbrev DPic.tq (z : DPic) : Nat := z.2.2.2.2.2.2.2.2.2.2.2.2.2.2.2.2.2.2.2.2.2.2.2.2.2.2.2.2.2.2.2.2.2.2.2.2.2.2.2.2.2.2.1
abbrev DPic.tmh (z : DPic) : Nat → Nat := z.2.2.2.2.2.2.2.2.2.2.2.2.2.2.2.2.2.2.2.2.2.2.2.2.2.2.2.2.2.2.2.2.2.2.2.2.2.2.2.2.2.2.2.1
abbrev DPic.tfi (z : DPic) : Nat := z.2.2.2.2.2.2.2.2.2.2.2.2.2.2.2.2.2.2.2.2.2.2.2.2.2.2.2.2.2.2.2.2.2.2.2.2.2.2.2.2.2.2.2.2.1
abbrev DPic.tsz (z : DPic) : Nat := z.2.2.2.2.2.2.2.2.2.2.2.2.2.2.2.2.2.2.2.2.2.2.2.2.2.2.2.2.2.2.2.2.2.2.2.2.2.2.2.2.2.2.2.2.2.1
abbrev DPic.tma (z : DPic) : Nat → Nat := z.2.2.2.2.2.2.2.2.2.2.2.2.2.2.2.2.2.2.2.2.2.2.2.2.2.2.2.2.2.2.2.2.2.2.2.2.2.2.2.2.2.2.2.2.2.2.1
abbrev DPic.tml (z : DPic) : Nat → List Nat := z.2.2.2.2.2.2.2.2.2.2.2.2.2.2.2.2.2.2.2.2.2.2.2.2.2.2.2.2.2.2.2.2.2.2.2.2.2.2.2.2.2.2.2.2.2.2.2.1
abbrev DPic.tmg (z : DPic) : Nat → Nat → Int32 := z.2.2.2.2.2.2.2.2.2.2.2.2.2.2.2.2.2.2.2.2.2.2.2.2.2.2.2.2.2.2.2.2.2.2.2.2.2.2.2.2.2.2.2.2.2.2.2.2.1
abbrev DPic.ap (z : DPic) : Nat := z.2.2.2.2.2.2.2.2.2.2.2.2.2.2.2.2.2.2.2.2.2.2.2.2.2.2.2.2.2.2.2.2.2.2.2.2.2.2.2.2.2.2.2.2.2.2.2.2.2.1
abbrev DPic.pl (z : DPic) : List Nat := z.2.2.2.2.2.2.2.2.2.2.2.2.2.2.2.2.2.2.2.2.2.2.2.2.2.2.2.2.2.2.2.2.2.2.2.2.2.2.2.2.2.2.2.2.2.2.2.2.2.2.1
abbrev DPic.gp (z : DPic) : Nat → Int32 := z.2.2.2.2.2.2.2.2.2.2.2.2.2.2.2.2.2.2.2.2.2.2.2.2.2.2.2.2.2.2.2.2.2.2.2.2.2.2.2.2.2.2.2.2.2.2.2.2.2.2.2.1
abbrev DPic.hbm (z : DPic) : Nat := z.2.2.2.2.2.2.2.2.2.2.2.2.2.2.2.2.2.2.2.2.2.2.2.2.2.2.2.2.2.2.2.2.2.2.2.2.2.2.2.2.2.2.2.2.2.2.2.2.2.2.2.2.1
abbrev DPic.bak (z : DPic) : Bool := z.2.2.2.2.2.2.2.2.2.2.2.2.2.2.2.2.2.2.2.2.2.2.2.2.2.2.2.2.2.2.2.2.2.2.2.2.2.2.2.2.2.2.2.2.2.2.2.2.2.2.2.2.2.1
abbrev DPic.bt (z : DPic) : Bool := z.2.2.2.2.2.2.2.2.2.2.2.2.2.2.2.2.2.2.2.2.2.2.2.2.2.2.2.2.2.2.2.2.2.2.2.2.2.2.2.2.2.2.2.2.2.2.2.2.2.2.2.2.2.2.1
abbrev DPic.bbe (z : DPic) : Bool := z.2.2.2.2.2.2.2.2.2.2.2.2.2.2.2.2.2.2.2.2.2.2.2.2.2.2.2.2.2.2.2.2.2.2.2.2.2.2.2.2.2.2.2.2.2.2.2.2.2.2.2.2.2.2.2.1
abbrev DPic.bcr (z : DPic) : Nat := z.2.2.2.2.2.2.2.2.2.2.2.2.2.2.2.2.2.2.2.2.2.2.2.2.2.2.2.2.2.2.2.2.2.2.2.2.2.2.2.2.2.2.2.2.2.2.2.2.2.2.2.2.2.2.2.2.1
abbrev DPic.abm (z : DPic) : Nat := z.2.2.2.2.2.2.2.2.2.2.2.2.2.2.2.2.2.2.2.2.2.2.2.2.2.2.2.2.2.2.2.2.2.2.2.2.2.2.2.2.2.2.2.2.2.2.2.2.2.2.2.2.2.2.2.2.2.1
abbrev DPic.gbm (z : DPic) : Nat → Int32 := z.2.2.2.2.2.2.2.2.2.2.2.2.2.2.2.2.2.2.2.2.2.2.2.2.2.2.2.2.2.2.2.2.2.2.2.2.2.2.2.2.2.2.2.2.2.2.2.2.2.2.2.2.2.2.2.2.2.2
def RelR (R : RPic) (f0 : Nat → Int32) : Prop := (R.ad < 8) ∧ (R.air.length ≤ 204) ∧ (R.air.length = 0 ∨ (54 ≤ R.air.length ∧ 1 ≤ R.ck)) ∧ (∀ i, i < R.air.length → f0 i = bI (R.air.getD i false)) ∧ (R.w1.length ≤ 168) ∧ (R.w2.length ≤ 18) ∧ (R.w3.length ≤ 150) ∧ (R.w4.length ≤ 15) ∧ (R.rk < 16) ∧ (R.y.length ≤ 63)
theorem RelR.ad {R : RPic} {f0 : Nat → Int32} (z : RelR R f0) : R.ad < 8 := z.1
theorem RelR.al {R : RPic} {f0 : Nat → Int32} (z : RelR R f0) : R.air.length ≤ 204 := z.2.1
theorem RelR.a0 {R : RPic} {f0 : Nat → Int32} (z : RelR R f0) : R.air.length = 0 ∨ (54 ≤ R.air.length ∧ 1 ≤ R.ck) := z.2.2.1
theorem RelR.a {R : RPic} {f0 : Nat → Int32} (z : RelR R f0) : ∀ i, i < R.air.length → f0 i = bI (R.air.getD i false) := z.2.2.2.1
theorem RelR.w1 {R : RPic} {f0 : Nat → Int32} (z : RelR R f0) : R.w1.length ≤ 168 := z.2.2.2.2.1
theorem RelR.w2 {R : RPic} {f0 : Nat → Int32} (z : RelR R f0) : R.w2.length ≤ 18 := z.2.2.2.2.2.1
theorem RelR.w3 {R : RPic} {f0 : Nat → Int32} (z : RelR R f0) : R.w3.length ≤ 150 := z.2.2.2.2.2.2.1
theorem RelR.w4 {R : RPic} {f0 : Nat → Int32} (z : RelR R f0) : R.w4.length ≤ 15 := z.2.2.2.2.2.2.2.1
theorem RelR.rk {R : RPic} {f0 : Nat → Int32} (z : RelR R f0) : R.rk < 16 := z.2.2.2.2.2.2.2.2.1
theorem RelR.y {R : RPic} {f0 : Nat → Int32} (z : RelR R f0) : R.y.length ≤ 63 := z.2.2.2.2.2.2.2.2.2
/-- all but the message being put together -/
def RelE (P : DPic) (F : Nat → Nat → Int32) (d : Nat) : Prop := (gDr P.wr (F 3) (F 4) d) ∧ (gQu P.fi P.sz P.ml (F 5) (F 6) (F 7) d) ∧ (gSe P.ls_ P.fr (F 8) (F 9) (F 10) d) ∧ (gFr P.fw P.ft P.tu P.kd P.be P.lm (F 11) (F 12) (F 13) (F 14) d) ∧ (gTk P.tfi P.tsz P.tml (F 15) (F 16) (F 17) d) ∧ (F 21 d = bI (!P.gu)) ∧ (F 22 d = bI P.tu) ∧ (F 23 d = bI P.lt) ∧ (F 24 d = bI P.gd) ∧ (F 25 d = bI P.hd) ∧ (F 26 d = nI P.dr) ∧ (F 27 d = nI P.co)
theorem RelE.dr {P : DPic} {F : Nat → Nat → Int32} {d : Nat} (z : RelE P F d) : gDr P.wr (F 3) (F 4) d := z.1
theorem RelE.qu {P : DPic} {F : Nat → Nat → Int32} {d : Nat} (z : RelE P F d) : gQu P.fi P.sz P.ml (F 5) (F 6) (F 7) d := z.2.1
theorem RelE.se {P : DPic} {F : Nat → Nat → Int32} {d : Nat} (z : RelE P F d) : gSe P.ls_ P.fr (F 8) (F 9) (F 10) d := z.2.2.1
theorem RelE.fr {P : DPic} {F : Nat → Nat → Int32} {d : Nat} (z : RelE P F d) : gFr P.fw P.ft P.tu P.kd P.be P.lm (F 11) (F 12) (F 13) (F 14) d := z.2.2.2.1
theorem RelE.tk {P : DPic} {F : Nat → Nat → Int32} {d : Nat} (z : RelE P F d) : gTk P.tfi P.tsz P.tml (F 15) (F 16) (F 17) d := z.2.2.2.2.1
theorem RelE.gu {P : DPic} {F : Nat → Nat → Int32} {d : Nat} (z : RelE P F d) : F 21 d = bI (!P.gu) := z.2.2.2.2.2.1
theorem RelE.tu {P : DPic} {F : Nat → Nat → Int32} {d : Nat} (z : RelE P F d) : F 22 d = bI P.tu := z.2.2.2.2.2.2.1
theorem RelE.lt {P : DPic} {F : Nat → Nat → Int32} {d : Nat} (z : RelE P F d) : F 23 d = bI P.lt := z.2.2.2.2.2.2.2.1
theorem RelE.gd {P : DPic} {F : Nat → Nat → Int32} {d : Nat} (z : RelE P F d) : F 24 d = bI P.gd := z.2.2.2.2.2.2.2.2.1
theorem RelE.hd {P : DPic} {F : Nat → Nat → Int32} {d : Nat} (z : RelE P F d) : F 25 d = bI P.hd := z.2.2.2.2.2.2.2.2.2.1
theorem RelE.dp {P : DPic} {F : Nat → Nat → Int32} {d : Nat} (z : RelE P F d) : F 26 d = nI P.dr := z.2.2.2.2.2.2.2.2.2.2.1
theorem RelE.co {P : DPic} {F : Nat → Nat → Int32} {d : Nat} (z : RelE P F d) : F 27 d = nI P.co := z.2.2.2.2.2.2.2.2.2.2.2
def RelD (P : DPic) (F : Nat → Nat → Int32) (d : Nat) : Prop := RelE P F d ∧ gPa P.pt P.du P.pl (F 18) (F 19) (F 20) d
/-! the other device: what a device's arrays are apart from the other's -/
def wd (k : Nat) : Nat := if k = 4 then 40 else if k = 6 then 6 else if k = 7 then 240 else if k = 10 then 41 else if k = 14 then 13 else if k = 16 then 6 else if k = 17 then 1530 else if k = 20 then 320 else 1
def AgD (F G : Nat → Nat → Int32) (o : Nat) : Prop := ∀ k, 3 ≤ k → ∀ j, wd k * o ≤ j → j < wd k * o + wd k → G k j = F k j
theorem AgD.refl (F : Nat → Nat → Int32) (o : Nat) : AgD F F o := fun _ _ _ _ _ => rfl
theorem AgD.trans {F G G2 : Nat → Nat → Int32} {o : Nat} (h : AgD F G o) (h2 : AgD G G2 o) : AgD F G2 o := fun k hk j h1 h3 => (h2 k hk j h1 h3).trans (h k hk j h1 h3)
theorem ag_w {F G : Nat → Nat → Int32} {d k w : Nat} {v : Nat → Int32} (hd : d < 2) (hw : wd k = w) (hv : ∀ j, (j < w * d ∨ w * d + w ≤ j) → v j = F k j) (h : AgD F G (1 - d)) : AgD F (va_up G k v) (1 - d) := by
  intro k2 hk j h1 h2
  by_cases e : k2 = k
  · subst e
    rw [va_up_self]
    rw [hw] at h1 h2
    apply hv
    rcases (show d = 0 ∨ d = 1 by omega) with rfl | rfl
    · right; rw [Nat.mul_one] at h1; rw [Nat.mul_zero, Nat.zero_add]; exact h1
    · left; rw [Nat.mul_zero, Nat.zero_add] at h2; rw [Nat.mul_one]; exact h2
  · rw [va_up_ne _ _ e]; exact h k2 hk j h1 h2
theorem ag_lo {F G : Nat → Nat → Int32} {o k : Nat} {v : Nat → Int32} (hk : k < 3) (h : AgD F G o) : AgD F (va_up G k v) o := fun k2 h3 j h1 h2 => by
  rw [va_up_ne _ _ (by omega)]; exact h k2 h3 j h1 h2
theorem RelD.ag {P : DPic} {F G : Nat → Nat → Int32} {o : Nat} (h : RelD P F o) (g : AgD F G o) : RelD P G o := by
  obtain ⟨⟨⟨a1, a2, a3, a4⟩, ⟨b1, b2, b3, b4⟩, ⟨c1, c2, c3, c4, c5, c6⟩, ⟨d1, d2, d3⟩, ⟨e1, e2, e3, e4⟩, f1, f2, f3, f4, f5, f6, f7⟩, g1, g2, g3, g4⟩ := h
  have one : ∀ k, 3 ≤ k → wd k = 1 → G k o = F k o := fun k hk hw => g k hk o (by rw [hw]; omega) (by rw [hw]; omega)
  refine ⟨⟨⟨a1, a2, (one 3 (by decide) rfl).trans a3, fun j hj => (g 4 (by decide) _ (by show 40 * o ≤ _; omega) (by show _ < 40 * o + 40; omega)).trans (a4 j hj)⟩, ⟨b1, b2, (one 5 (by decide) rfl).trans b3, fun i hi => ?_⟩, ⟨c1, c2, c3, (one 8 (by decide) rfl).trans c4, (one 9 (by decide) rfl).trans c5, fun j hj => (g 10 (by decide) _ (by show 41 * o ≤ _; omega) (by show _ < 41 * o + 41; omega)).trans (c6 j hj)⟩, ⟨d1, (one 11 (by decide) rfl).trans d2, fun e => ?_⟩, ⟨e1, e2, (one 15 (by decide) rfl).trans e3, fun i hi => ?_⟩, (one 21 (by decide) rfl).trans f1, (one 22 (by decide) rfl).trans f2, (one 23 (by decide) rfl).trans f3, (one 24 (by decide) rfl).trans f4, (one 25 (by decide) rfl).trans f5, (one 26 (by decide) rfl).trans f6, (one 27 (by decide) rfl).trans f7⟩, g1, g2, (one 18 (by decide) rfl).trans g3, fun e => ?_⟩
  · obtain ⟨q1, q2, q3, q4⟩ := b4 i hi
    exact ⟨q1, q2, (g 6 (by decide) _ (by show 6 * o ≤ _; omega) (by show _ < 6 * o + 6; omega)).trans q3, fun j hj => (g 7 (by decide) _ (by show 240 * o ≤ _; omega) (by show _ < 240 * o + 240; omega)).trans (q4 j hj)⟩
  · obtain ⟨q1, q2, q3, ⟨pp, q4, q5, q6⟩, q7, q8⟩ := d3 e
    have hp : cond pp 13 9 ≤ 13 := by cases pp <;> decide
    exact ⟨q1, q2, q3, ⟨pp, q4, (one 12 (by decide) rfl).trans q5, q6⟩, (one 13 (by decide) rfl).trans q7, fun j hj => (g 14 (by decide) _ (by show 13 * o ≤ _; omega) (by show _ < 13 * o + 13; omega)).trans (q8 j hj)⟩
  · obtain ⟨q1, q3, q4⟩ := e4 i hi
    exact ⟨q1, (g 16 (by decide) _ (by show 6 * o ≤ _; omega) (by show _ < 6 * o + 6; omega)).trans q3, fun j hj => (g 17 (by decide) _ (by show 1530 * o ≤ _; omega) (by show _ < 1530 * o + 1530; omega)).trans (q4 j hj)⟩
  · obtain ⟨q1, q2, q3⟩ := g4 e
    exact ⟨q1, (one 19 (by decide) rfl).trans q2, fun j hj => (g 20 (by decide) _ (by show 320 * o ≤ _; omega) (by show _ < 320 * o + 320; omega)).trans (q3 j hj)⟩
theorem RelD.re {P P' : DPic} {F : Nat → Nat → Int32} {d : Nat} (h : RelD P F d) (e1 : P.wr = P'.wr) (e2 : P.fi = P'.fi) (e3 : P.sz = P'.sz) (e4 : P.ml = P'.ml) (e5 : P.ls_ = P'.ls_) (e6 : P.fr = P'.fr) (e7 : P.fw = P'.fw) (e8 : P.ft = P'.ft) (e9 : P.tu = P'.tu) (e10 : P.kd = P'.kd) (e11 : P.be = P'.be) (e12 : P.lm = P'.lm) (e13 : P.tfi = P'.tfi) (e14 : P.tsz = P'.tsz) (e15 : P.tml = P'.tml) (e16 : P.pt = P'.pt) (e17 : P.du = P'.du) (e18 : P.pl = P'.pl) (e19 : P.gu = P'.gu) (e20 : P.lt = P'.lt) (e21 : P.gd = P'.gd) (e22 : P.hd = P'.hd) (e23 : P.dr = P'.dr) (e24 : P.co = P'.co) : RelD P' F d := ⟨⟨e1 ▸ h.1.dr, by rw [← e2, ← e3, ← e4]; exact h.1.qu, by rw [← e5, ← e6]; exact h.1.se, by rw [← e7, ← e8, ← e9, ← e10, ← e11, ← e12]; exact h.1.fr, by rw [← e13, ← e14, ← e15]; exact h.1.tk, e19 ▸ h.1.gu, e9 ▸ h.1.tu, e20 ▸ h.1.lt, e21 ▸ h.1.gd, e22 ▸ h.1.hd, e23 ▸ h.1.dp, e24 ▸ h.1.co⟩, by rw [← e16, ← e17, ← e18]; exact h.2⟩
/-! what the calls make of it -/
theorem rl_guard {P : DPic} {F : Nat → Nat → Int32} {d : Nat} (h : RelD P F d) (on : Bool) : RelD ((P.h, P.hi, P.hb, P.gd, P.hd, P.hw, P.hq, P.hs, P.hf, P.fr, P.fw, on, P.tu, P.aw, P.wr, P.gw, P.q, P.mh, P.fi, P.sz, P.ma, P.ml, P.mg, P.as_, P.ls_, P.gs_, P.hm, P.kd, P.ak, P.ft, P.be, P.cr, P.am, P.lm, P.gm, P.ht, P.hp, P.pt, P.du, P.lt, P.dr, P.co, P.tq, P.tmh, P.tfi, P.tsz, P.tma, P.tml, P.tmg, P.ap, P.pl, P.gp, P.hbm, P.bak, P.bt, P.bbe, P.bcr, P.abm, P.gbm) : DPic) (va_up F 21 (upd (F 21) d (bI (!on)))) d := ⟨⟨h.1.dr, h.1.qu, h.1.se, h.1.fr, h.1.tk, pk_us, h.1.tu, h.1.lt, h.1.gd, h.1.hd, h.1.dp, h.1.co⟩, h.2⟩
theorem ag_guard {F : Nat → Nat → Int32} {d : Nat} (hd : d < 2) (x : Int32) : AgD F (va_up F 21 (upd (F 21) d x)) (1 - d) := ag_w hd (w := 1) rfl (fun j hj => pk_un (by omega)) (.refl _ _)
theorem rl_write {P : DPic} {F : Nat → Nat → Int32} {d x : Nat} (h : RelD P F d) (hw : P.wr.length < 40) (hx : x ≤ 255) : RelD ((P.h, P.hi, P.hb, P.gd, P.hd, P.hw, P.hq, P.hs, P.hf, P.fr, P.fw, P.gu, P.tu, P.aw, P.wr ++ [x], P.gw, P.q, P.mh, P.fi, P.sz, P.ma, P.ml, P.mg, P.as_, P.ls_, P.gs_, P.hm, P.kd, P.ak, P.ft, P.be, P.cr, P.am, P.lm, P.gm, P.ht, P.hp, P.pt, P.du, P.lt, P.dr, P.co, P.tq, P.tmh, P.tfi, P.tsz, P.tma, P.tml, P.tmg, P.ap, P.pl, P.gp, P.hbm, P.bak, P.bt, P.bbe, P.bcr, P.abm, P.gbm) : DPic) (va_up (va_up F 4 (upd (F 4) (40 * d + P.wr.length) (nI x))) 3 (upd (F 3) d (nI (P.wr.length + 1)))) d := ⟨⟨gDr_push h.1.dr hw hx, h.1.qu, h.1.se, h.1.fr, h.1.tk, h.1.gu, h.1.tu, h.1.lt, h.1.gd, h.1.hd, h.1.dp, h.1.co⟩, h.2⟩
theorem ag_write {F : Nat → Nat → Int32} {d wn : Nat} (hd : d < 2) (hw : wn < 40) (x y : Int32) : AgD F (va_up (va_up F 4 (upd (F 4) (40 * d + wn) x)) 3 (upd (F 3) d y)) (1 - d) := ag_w hd (w := 1) rfl (fun j hj => pk_un (by omega)) (ag_w hd (w := 40) rfl (fun j hj => pk_un (by omega)) (.refl _ _))
theorem rl_send {P : DPic} {F : Nat → Nat → Int32} {d : Nat} (h : RelD P F d) (hs : P.sz < 6) : RelD ((P.h, P.hi, P.hb, P.gd, P.hd, P.hw, P.hq, P.hs, P.hf, P.fr, P.fw, P.gu, P.tu, P.aw, [], P.gw, P.q, P.mh, P.fi, P.sz + 1, P.ma, va_up P.ml ((P.fi + P.sz) % 6) P.wr, P.mg, P.as_, P.ls_, P.gs_, P.hm, P.kd, P.ak, P.ft, P.be, P.cr, P.am, P.lm, P.gm, P.ht, P.hp, P.pt, P.du, P.lt, P.dr, P.co, P.tq, P.tmh, P.tfi, P.tsz, P.tma, P.tml, P.tmg, P.ap, P.pl, P.gp, P.hbm, P.bak, P.bt, P.bbe, P.bcr, P.abm, P.gbm) : DPic) (va_up (va_up (va_up (va_up F 6 (upd (F 6) (6 * d + P.sz) (nI P.wr.length))) 7 (va_cpy (F 4) (F 7) (40 * d) (40 * (6 * d + P.sz)) P.wr.length)) 5 (upd (F 5) d (nI (P.sz + 1)))) 3 (upd (F 3) d (nI 0))) d := ⟨⟨gDr_nil h.1.dr, gQu_put h.1.qu h.1.dr hs, h.1.se, h.1.fr, h.1.tk, h.1.gu, h.1.tu, h.1.lt, h.1.gd, h.1.hd, h.1.dp, h.1.co⟩, h.2⟩
theorem ag_send {F : Nat → Nat → Int32} {d wn sn : Nat} {f : Nat → Int32} {sp : Nat} (hd : d < 2) (hs : sn < 6) (hw : wn ≤ 40) (x y z : Int32) : AgD F (va_up (va_up (va_up (va_up F 6 (upd (F 6) (6 * d + sn) x)) 7 (va_cpy f (F 7) sp (40 * (6 * d + sn)) wn)) 5 (upd (F 5) d y)) 3 (upd (F 3) d z)) (1 - d) := ag_w hd (w := 1) rfl (fun j hj => pk_un (by omega)) (ag_w hd (w := 1) rfl (fun j hj => pk_un (by omega)) (ag_w hd (w := 240) rfl (fun j hj => pk_cpy_out (by omega)) (ag_w hd (w := 6) rfl (fun j hj => pk_un (by omega)) (.refl _ _))))
theorem rl_next {P : DPic} {F : Nat → Nat → Int32} {d : Nat} (h : RelD P F d) (hs : 0 < P.tsz) : RelD ((P.h, P.hi, P.hb, P.gd, P.hd, P.hw, P.hq, P.hs, P.hf, P.fr, P.fw, P.gu, P.tu, P.aw, P.wr, P.gw, P.q, P.mh, P.fi, P.sz, P.ma, P.ml, P.mg, P.as_, P.ls_, P.gs_, P.hm, P.kd, P.ak, P.ft, P.be, P.cr, P.am, P.lm, P.gm, P.ht, P.hp, P.pt, P.du, P.lt, P.dr, P.co, P.tq, P.tmh, (P.tfi + 1) % 6, P.tsz - 1, P.tma, P.tml, P.tmg, P.ap, P.pl, P.gp, P.hbm, P.bak, P.bt, P.bbe, P.bcr, P.abm, P.gbm) : DPic) (va_up (va_up (va_up F 15 (upd (F 15) d (nI (P.tsz - 1)))) 16 (va_cpy (F 16) (F 16) (6 * d + 1) (6 * d) (P.tsz - 1))) 17 (va_cpy (F 17) (F 17) (255 * (6 * d) + 255) (255 * (6 * d)) (255 * (P.tsz - 1)))) d := ⟨⟨h.1.dr, h.1.qu, h.1.se, h.1.fr, gTk_pop h.1.tk hs, h.1.gu, h.1.tu, h.1.lt, h.1.gd, h.1.hd, h.1.dp, h.1.co⟩, h.2⟩
theorem ag_next {F : Nat → Nat → Int32} {d sz : Nat} (hd : d < 2) (hs : sz ≤ 6) (x : Int32) : AgD F (va_up (va_up (va_up F 15 (upd (F 15) d x)) 16 (va_cpy (F 16) (F 16) (6 * d + 1) (6 * d) (sz - 1))) 17 (va_cpy (F 17) (F 17) (255 * (6 * d) + 255) (255 * (6 * d)) (255 * (sz - 1)))) (1 - d) := ag_w hd (w := 1530) rfl (fun j hj => pk_cpy_out (by omega)) (ag_w hd (w := 6) rfl (fun j hj => pk_cpy_out (by omega)) (ag_w hd (w := 1) rfl (fun j hj => pk_un (by omega)) (.refl _ _)))
/-- startSending -/
theorem rl_ss {P : DPic} {F : Nat → Nat → Int32} {d : Nat} (h : RelD P F d) (hs : 0 < P.sz) : RelD ((P.h, P.hi, P.hb, P.gd, P.hd, P.hw, P.hq, P.hs, P.hf, 0, P.fw, P.gu, P.tu, P.aw, P.wr, P.gw, P.q, P.mh, (P.fi + 1) % 6, P.sz - 1, P.ma, P.ml, P.mg, P.as_, (P.ml P.fi).length :: P.ml P.fi, P.gs_, P.hm, P.kd, P.ak, P.ft, P.be, P.cr, P.am, P.lm, P.gm, P.ht, P.hp, P.pt, P.du, P.lt, P.dr, P.co, P.tq, P.tmh, P.tfi, P.tsz, P.tma, P.tml, P.tmg, P.ap, P.pl, P.gp, P.hbm, P.bak, P.bt, P.bbe, P.bcr, P.abm, P.gbm) : DPic) (ssF F d P.sz (P.ml P.fi).length) d := ⟨⟨h.1.dr, gQu_pop h.1.qu hs, gSe_new h.1.qu hs, h.1.fr, h.1.tk, h.1.gu, h.1.tu, h.1.lt, h.1.gd, h.1.hd, h.1.dp, h.1.co⟩, h.2⟩
theorem ag_ss {F : Nat → Nat → Int32} {d sn ln : Nat} (hd : d < 2) (hs : sn ≤ 6) (hl : ln ≤ 40) : AgD F (ssF F d sn ln) (1 - d) := ag_w hd (w := 240) rfl (fun j hj => pk_cpy_out (by omega)) (ag_w hd (w := 6) rfl (fun j hj => pk_cpy_out (by omega)) (ag_w hd (w := 1) rfl (fun j hj => pk_un (by omega)) (ag_w hd (w := 1) rfl (fun j hj => pk_un (by omega)) (ag_w hd (w := 1) rfl (fun j hj => pk_un (by omega)) (ag_w hd (w := 41) rfl (fun j hj => (pk_cpy_out (by omega)).trans (pk_un (by omega))) (.refl _ _))))))
/-- newFrame -/
theorem rl_nf {P : DPic} {F : Nat → Nat → Int32} {d : Nat} (h : RelD P F d) (hs : P.fr < P.ls_.length) : RelD ((P.h, P.hi, P.hb, P.gd, P.hd, P.hw, P.hq, P.hs, P.hf, P.fr + nxt P.gu (P.ls_.length - P.fr), true, P.gu, !P.tu, P.aw, P.wr, P.gw, P.q, P.mh, P.fi, P.sz, P.ma, P.ml, P.mg, P.as_, P.ls_, P.gs_, P.hm, cond P.gu 3 4, P.ak, !P.tu, decide (P.fr = 0), P.cr, P.am, slN P.ls_ P.fr (nxt P.gu (P.ls_.length - P.fr)), P.gm, P.ht, P.hp, P.pt, P.du, P.lt, P.dr, P.co, P.tq, P.tmh, P.tfi, P.tsz, P.tma, P.tml, P.tmg, P.ap, P.pl, P.gp, P.hbm, P.bak, P.bt, P.bbe, P.bcr, P.abm, P.gbm) : DPic) (nfF F d (!P.gu) P.fr P.ls_.length (!!P.tu)) d := by
  have n1 := nxt_le P.gu (P.ls_.length - P.fr)
  have e : (!!P.gu) = P.gu := Bool.not_not _
  refine ⟨⟨h.1.dr, h.1.qu, ?_, gFr_new h.1.se hs, h.1.tk, h.1.gu, ?_, h.1.lt, h.1.gd, h.1.hd, h.1.dp, h.1.co⟩, h.2⟩
  · show gSe P.ls_ (P.fr + nxt P.gu (P.ls_.length - P.fr)) (F 8) (upd (F 9) d (nI (P.fr + nxt (!!P.gu) (P.ls_.length - P.fr)))) (F 10) d
    rw [e]
    exact gSe_on h.1.se (by omega)
  · show upd (F 22) d (bI (!!!P.tu)) d = bI (!P.tu)
    rw [pk_us, Bool.not_not]
theorem ag_nf {F : Nat → Nat → Int32} {d at_ sl_ : Nat} {pp tu : Bool} (hd : d < 2) : AgD F (nfF F d pp at_ sl_ tu) (1 - d) := by
  have n2 := nxt_13 (!pp) (sl_ - at_)
  have n4 : cond (!pp) 9 13 ≤ 13 := by cases pp <;> decide
  exact ag_w hd (w := 1) rfl (fun j hj => pk_un (by omega)) (ag_w hd (w := 1) rfl (fun j hj => pk_un (by omega)) (ag_w hd (w := 13) rfl (fun j hj => pk_cpy_out (by omega)) (ag_w hd (w := 1) rfl (fun j hj => pk_un (by omega)) (ag_w hd (w := 1) rfl (fun j hj => pk_un (by omega)) (ag_w hd (w := 1) rfl (fun j hj => pk_un (by omega)) (.refl _ _))))))
/-- what speak leaves behind beside the row of bits -/
theorem rl_said {P : DPic} {F : Nat → Nat → Int32} {d : Nat} (h : RelD P F d) (a b c : Nat → Int32) : RelD ((P.h, P.hi, P.hb, false, false, P.hw, P.hq, P.hs, P.hf, P.fr, P.fw, P.gu, P.tu, P.aw, P.wr, P.gw, P.q, P.mh, P.fi, P.sz, P.ma, P.ml, P.mg, P.as_, P.ls_, P.gs_, P.hm, P.kd, P.ak, P.ft, P.be, P.cr, P.am, P.lm, P.gm, P.ht, P.hp, P.pt, P.du, P.lt, P.dr, P.co, P.tq, P.tmh, P.tfi, P.tsz, P.tma, P.tml, P.tmg, P.ap, P.pl, P.gp, P.hbm, P.bak, P.bt, P.bbe, P.bcr, P.abm, P.gbm) : DPic) (va_up (va_up (va_up (va_up (va_up F 1 a) 0 b) 2 c) 24 (upd (F 24) d (bI false))) 25 (upd (F 25) d (bI false))) d := ⟨⟨h.1.dr, h.1.qu, h.1.se, h.1.fr, h.1.tk, h.1.gu, h.1.tu, h.1.lt, pk_us, pk_us, h.1.dp, h.1.co⟩, h.2⟩
theorem ag_said {F : Nat → Nat → Int32} {d : Nat} (hd : d < 2) (a b c : Nat → Int32) (x y : Int32) : AgD F (va_up (va_up (va_up (va_up (va_up F 1 a) 0 b) 2 c) 24 (upd (F 24) d x)) 25 (upd (F 25) d y)) (1 - d) := ag_w hd (w := 1) rfl (fun j hj => pk_un (by omega)) (ag_w hd (w := 1) rfl (fun j hj => pk_un (by omega)) (ag_lo (by decide) (ag_lo (by decide) (ag_lo (by decide) (.refl _ _)))))
/-- finish: a message comes to its end, or not yet -/
theorem fin_k {F : Nat → Nat → Int32} {d g du tn dr k : Nat} (h15 : k ≠ 15) (h16 : k ≠ 16) (h17 : k ≠ 17) (h18 : k ≠ 18) (h26 : k ≠ 26) : finF F d g du tn dr k = F k := by
  unfold finF
  split
  · rfl
  · split
    · rw [va_up_ne _ _ h18, va_up_ne _ _ h26]
    · rw [va_up_ne _ _ h18, va_up_ne _ _ h15, va_up_ne _ _ h17, va_up_ne _ _ h16]
theorem ag_fin {F : Nat → Nat → Int32} {d g du tn dr : Nat} (hd : d < 2) (ht : tn ≤ 6) (hdu : du ≤ 255) : AgD F (finF F d g du tn dr) (1 - d) := by
  unfold finF
  split
  · exact .refl _ _
  · split
    · exact ag_w hd (w := 1) rfl (fun j hj => pk_un (by omega)) (ag_w hd (w := 1) rfl (fun j hj => pk_un (by omega)) (.refl _ _))
    · exact ag_w hd (w := 1) rfl (fun j hj => pk_un (by omega)) (ag_w hd (w := 1) rfl (fun j hj => pk_un (by omega)) (ag_w hd (w := 1530) rfl (fun j hj => pk_cpy_out (by omega)) (ag_w hd (w := 6) rfl (fun j hj => pk_un (by omega)) (.refl _ _))))
theorem rl_fin {P : DPic} {F : Nat → Nat → Int32} {d g du : Nat} {pl : List Nat} {fin app : Bool} (h : RelE P F d) (h18 : F 18 d = nI du) (h19 : F 19 d = nI pl.length) (h20 : ∀ j, j < pl.length → F 20 (320 * d + j) = nI (pl.getD j 0)) (hdu : du ≤ 255) (hpl : pl.length ≤ 318) (hg : g = pl.length) (hfin : fin = decide (du ≤ pl.length)) (happ : app = (fin && eApp du pl P.tsz)) :
    RelD ((P.h, P.hi, P.hb, P.gd, P.hd, P.hw, P.hq, P.hs, P.hf, P.fr, P.fw, P.gu, P.tu, P.aw, P.wr, P.gw, P.q, P.mh, P.fi, P.sz, P.ma, P.ml, P.mg, P.as_, P.ls_, P.gs_, P.hm, P.kd, P.ak, P.ft, P.be, P.cr, P.am, P.lm, P.gm, P.ht, P.hp, !fin, du, P.lt, P.dr + (fin && !app).toNat, P.co, P.tq, P.tmh, P.tfi, P.tsz + app.toNat, P.tma, cond app (va_up P.tml ((P.tfi + P.tsz) % 6) pl) P.tml, P.tmg, P.ap, pl, P.gp, P.hbm, P.bak, P.bt, P.bbe, P.bcr, P.abm, P.gbm) : DPic) (finF F d g du P.tsz P.dr) d := by
  subst hg
  have k := fun k => fin_k (F := F) (d := d) (g := pl.length) (du := du) (tn := P.tsz) (dr := P.dr) (k := k)
  have k3 := k 3 (by decide) (by decide) (by decide) (by decide) (by decide)
  have k4 := k 4 (by decide) (by decide) (by decide) (by decide) (by decide)
  have k5 := k 5 (by decide) (by decide) (by decide) (by decide) (by decide)
  have k6 := k 6 (by decide) (by decide) (by decide) (by decide) (by decide)
  have k7 := k 7 (by decide) (by decide) (by decide) (by decide) (by decide)
  have k8 := k 8 (by decide) (by decide) (by decide) (by decide) (by decide)
  have k9 := k 9 (by decide) (by decide) (by decide) (by decide) (by decide)
  have k10 := k 10 (by decide) (by decide) (by decide) (by decide) (by decide)
  have k11 := k 11 (by decide) (by decide) (by decide) (by decide) (by decide)
  have k12 := k 12 (by decide) (by decide) (by decide) (by decide) (by decide)
  have k13 := k 13 (by decide) (by decide) (by decide) (by decide) (by decide)
  have k14 := k 14 (by decide) (by decide) (by decide) (by decide) (by decide)
  have k19 := k 19 (by decide) (by decide) (by decide) (by decide) (by decide)
  have k20 := k 20 (by decide) (by decide) (by decide) (by decide) (by decide)
  have k21 := k 21 (by decide) (by decide) (by decide) (by decide) (by decide)
  have k22 := k 22 (by decide) (by decide) (by decide) (by decide) (by decide)
  have k23 := k 23 (by decide) (by decide) (by decide) (by decide) (by decide)
  have k24 := k 24 (by decide) (by decide) (by decide) (by decide) (by decide)
  have k25 := k 25 (by decide) (by decide) (by decide) (by decide) (by decide)
  have k27 := k 27 (by decide) (by decide) (by decide) (by decide) (by decide)
  refine ⟨⟨by rw [k3, k4]; exact h.dr, by rw [k5, k6, k7]; exact h.qu, by rw [k8, k9, k10]; exact h.se, by rw [k11, k12, k13, k14]; exact h.fr, ?_, by rw [k21]; exact h.gu, by rw [k22]; exact h.tu, by rw [k23]; exact h.lt, by rw [k24]; exact h.gd, by rw [k25]; exact h.hd, ?_, by rw [k27]; exact h.co⟩, ?_⟩
  · by_cases c1 : pl.length < du
    · have ef : fin = false := by rw [hfin]; exact decide_eq_false (by omega)
      have ea : app = false := by rw [happ, ef]; rfl
      unfold finF
      rw [if_pos c1]
      subst ef ea
      exact h.tk
    · have ef : fin = true := by rw [hfin]; exact decide_eq_true (by omega)
      by_cases c2 : du < pl.length ∨ P.tsz = 6
      · have ea : app = false := by
          rw [happ, ef]; unfold eApp
          rcases c2 with c2 | c2
          · rw [decide_eq_false (by omega : ¬ pl.length ≤ du)]; rfl
          · rw [decide_eq_false (by omega : ¬ P.tsz < 6), Bool.and_false, Bool.and_false]
        unfold finF
        rw [if_neg c1, if_pos c2]
        subst ef ea
        exact h.tk
      · have h6 : P.tsz < 6 := by have := h.tk.2.1; omega
        have ea : app = true := by rw [happ, ef]; unfold eApp; rw [decide_eq_true (by omega : pl.length ≤ du), decide_eq_true h6]; rfl
        unfold finF
        rw [if_neg c1, if_neg c2]
        subst ef ea
        exact gTk_put h.tk h6 (by omega) h20
  · by_cases c1 : pl.length < du
    · have ef : fin = false := by rw [hfin]; exact decide_eq_false (by omega)
      unfold finF
      rw [if_pos c1]
      subst ef
      exact h.dp
    · have ef : fin = true := by rw [hfin]; exact decide_eq_true (by omega)
      by_cases c2 : du < pl.length ∨ P.tsz = 6
      · have ea : app = false := by
          rw [happ, ef]; unfold eApp
          rcases c2 with c2 | c2
          · rw [decide_eq_false (by omega : ¬ pl.length ≤ du)]; rfl
          · rw [decide_eq_false (by omega : ¬ P.tsz < 6), Bool.and_false, Bool.and_false]
        unfold finF
        rw [if_neg c1, if_pos c2]
        subst ef ea
        exact pk_us
      · have h6 : P.tsz < 6 := by have := h.tk.2.1; omega
        have ea : app = true := by rw [happ, ef]; unfold eApp; rw [decide_eq_true (by omega : pl.length ≤ du), decide_eq_true h6]; rfl
        unfold finF
        rw [if_neg c1, if_neg c2]
        subst ef ea
        exact h.dp
  · rw [k19, k20]
    refine ⟨hdu, hpl, ?_, fun e => ?_⟩
    · by_cases c1 : pl.length < du
      · have ef : fin = false := by rw [hfin]; exact decide_eq_false (by omega)
        unfold finF
        rw [if_pos c1]
        subst ef
        exact h18
      · have ef : fin = true := by rw [hfin]; exact decide_eq_true (by omega)
        unfold finF
        rw [if_neg c1]
        subst ef
        split
        · exact pk_us
        · exact pk_us
    · have e' : (!fin) = true := e
      have ef : fin = false := by cases fin with | false => rfl | true => exact absurd e' (by decide)
      have := of_decide_eq_false (hfin.symm.trans ef)
      exact ⟨by show pl.length < du; omega, h19, h20⟩

theorem rl_heed {P : DPic} {F : Nat → Nat → Int32} {d : Nat} (h : RelD P F d) (b : Bool) (a1 a2 : Nat → Int32) : RelD ((P.h, P.hi, P.hb, P.gd, true, P.hw, P.hq, P.hs, P.hf, P.fr, P.fw && !b, P.gu, P.tu, P.aw, P.wr, P.gw, P.q, P.mh, P.fi, P.sz, P.ma, P.ml, P.mg, P.as_, P.ls_, P.gs_, P.hm, P.kd, P.ak, P.ft, P.be, P.cr, P.am, P.lm, P.gm, P.ht, P.hp, P.pt, P.du, P.lt, P.dr, P.co, P.tq, P.tmh, P.tfi, P.tsz, P.tma, P.tml, P.tmg, P.ap, P.pl, P.gp, P.hbm, P.bak, P.bt, P.bbe, P.bcr, P.abm, P.gbm) : DPic) (va_up (va_up (va_up (va_up F 1 a1) 2 a2) 25 (upd (F 25) d (bI true))) 11 (upd (F 11) d (nI (cond b 0 (cond P.fw P.lm.length 0))))) d := ⟨⟨h.1.dr, h.1.qu, h.1.se, gFr_ack b h.1.fr, h.1.tk, h.1.gu, h.1.tu, h.1.lt, h.1.gd, pk_us, h.1.dp, h.1.co⟩, h.2⟩
theorem ag_heed {F : Nat → Nat → Int32} {d : Nat} (hd : d < 2) (a1 a2 : Nat → Int32) (x y : Int32) : AgD F (va_up (va_up (va_up (va_up F 1 a1) 2 a2) 25 (upd (F 25) d x)) 11 (upd (F 11) d y)) (1 - d) := ag_w hd (w := 1) rfl (fun j hj => pk_un (by omega)) (ag_w hd (w := 1) rfl (fun j hj => pk_un (by omega)) (ag_lo (by decide) (ag_lo (by decide) (.refl _ _))))
theorem rl_co {P : DPic} {F : Nat → Nat → Int32} {d : Nat} (h : RelD P F d) (n : Nat) (a : Nat → Int32) : RelD ((P.h, P.hi, P.hb, P.gd, P.hd, P.hw, P.hq, P.hs, P.hf, P.fr, P.fw, P.gu, P.tu, P.aw, P.wr, P.gw, P.q, P.mh, P.fi, P.sz, P.ma, P.ml, P.mg, P.as_, P.ls_, P.gs_, P.hm, P.kd, P.ak, P.ft, P.be, P.cr, P.am, P.lm, P.gm, P.ht, P.hp, P.pt, P.du, P.lt, P.dr, P.co + n, P.tq, P.tmh, P.tfi, P.tsz, P.tma, P.tml, P.tmg, P.ap, P.pl, P.gp, P.hbm, P.bak, P.bt, P.bbe, P.bcr, P.abm, P.gbm) : DPic) (va_up (va_up F 2 a) 27 (upd (F 27) d (nI (P.co + n)))) d := ⟨⟨h.1.dr, h.1.qu, h.1.se, h.1.fr, h.1.tk, h.1.gu, h.1.tu, h.1.lt, h.1.gd, h.1.hd, h.1.dp, pk_us⟩, h.2⟩
theorem ag_co {F : Nat → Nat → Int32} {d : Nat} (hd : d < 2) (a : Nat → Int32) (x : Int32) : AgD F (va_up (va_up F 2 a) 27 (upd (F 27) d x)) (1 - d) := ag_w hd (w := 1) rfl (fun j hj => pk_un (by omega)) (ag_lo (by decide) (.refl _ _))
theorem rl_gd {P : DPic} {F : Nat → Nat → Int32} {d : Nat} (h : RelD P F d) : RelD ((P.h, P.hi, P.hb, true, P.hd, P.hw, P.hq, P.hs, P.hf, P.fr, P.fw, P.gu, P.tu, P.aw, P.wr, P.gw, P.q, P.mh, P.fi, P.sz, P.ma, P.ml, P.mg, P.as_, P.ls_, P.gs_, P.hm, P.kd, P.ak, P.ft, P.be, P.cr, P.am, P.lm, P.gm, P.ht, P.hp, P.pt, P.du, P.lt, P.dr, P.co, P.tq, P.tmh, P.tfi, P.tsz, P.tma, P.tml, P.tmg, P.ap, P.pl, P.gp, P.hbm, P.bak, P.bt, P.bbe, P.bcr, P.abm, P.gbm) : DPic) (va_up F 24 (upd (F 24) d (bI true))) d := ⟨⟨h.1.dr, h.1.qu, h.1.se, h.1.fr, h.1.tk, h.1.gu, h.1.tu, h.1.lt, pk_us, h.1.hd, h.1.dp, h.1.co⟩, h.2⟩
theorem ag_gd {F : Nat → Nat → Int32} {d : Nat} (hd : d < 2) (x : Int32) : AgD F (va_up F 24 (upd (F 24) d x)) (1 - d) := ag_w hd (w := 1) rfl (fun j hj => pk_un (by omega)) (.refl _ _)
theorem rl_lt {P : DPic} {F : Nat → Nat → Int32} {d : Nat} (h : RelD P F d) (b : Bool) : RelD ((P.h, P.hi, P.hb, P.gd, P.hd, P.hw, P.hq, P.hs, P.hf, P.fr, P.fw, P.gu, P.tu, P.aw, P.wr, P.gw, P.q, P.mh, P.fi, P.sz, P.ma, P.ml, P.mg, P.as_, P.ls_, P.gs_, P.hm, P.kd, P.ak, P.ft, P.be, P.cr, P.am, P.lm, P.gm, P.ht, P.hp, P.pt, P.du, b, P.dr, P.co, P.tq, P.tmh, P.tfi, P.tsz, P.tma, P.tml, P.tmg, P.ap, P.pl, P.gp, P.hbm, P.bak, P.bt, P.bbe, P.bcr, P.abm, P.gbm) : DPic) (va_up F 23 (upd (F 23) d (bI b))) d := ⟨⟨h.1.dr, h.1.qu, h.1.se, h.1.fr, h.1.tk, h.1.gu, h.1.tu, pk_us, h.1.gd, h.1.hd, h.1.dp, h.1.co⟩, h.2⟩
theorem ag_lt {F : Nat → Nat → Int32} {d : Nat} (hd : d < 2) (x : Int32) : AgD F (va_up F 23 (upd (F 23) d x)) (1 - d) := ag_w hd (w := 1) rfl (fun j hj => pk_un (by omega)) (.refl _ _)
/-- a used frame's picture -/
def useP (P : DPic) (be : Bool) (y : List Nat) : DPic := ((P.h, P.hi, P.hb, P.gd, P.hd, P.hw, P.hq, P.hs, P.hf, P.fr, P.fw, P.gu, P.tu, P.aw, P.wr, P.gw, P.q, P.mh, P.fi, P.sz, P.ma, P.ml, P.mg, P.as_, P.ls_, P.gs_, P.hm, P.kd, P.ak, P.ft, P.be, P.cr, P.am, P.lm, P.gm, P.ht, P.hp, (be || P.pt) && !iFin be P.pt P.du P.pl y, iDu1 be P.du y, P.lt, iDr1 be P.pt P.dr + (iFin be P.pt P.du P.pl y && !iApp be P.pt P.du P.pl y P.tsz).toNat, P.co, P.tq, P.tmh, P.tfi, P.tsz + (iApp be P.pt P.du P.pl y P.tsz).toNat, P.tma, cond (iApp be P.pt P.du P.pl y P.tsz) (va_up P.tml ((P.tfi + P.tsz) % 6) (iPl1 be P.pt P.pl y)) P.tml, P.tmg, P.ap, iPl1 be P.pt P.pl y, P.gp, P.hbm, P.bak, P.bt, P.bbe, P.bcr, P.abm, P.gbm) : DPic)
theorem RelD.up {P P' : DPic} {F : Nat → Nat → Int32} {d : Nat} (h : RelD P F d) (e : P = P') : RelD P' F d := e ▸ h
theorem rl_useA {P : DPic} {F : Nat → Nat → Int32} {d n y0 : Nat} {y : List Nat} (h : RelD P F d) (hpt : P.pt = true) (hn : y.length = n) (hn6 : n ≤ 63) (h0 : y.getD 0 0 = y0) (h5 : y0 ≤ 255) : RelD (useP P true y) (finF (va_up (va_up (va_up (va_up F 26 (upd (F 26) d (nI (P.dr + 1)))) 18 (upd (F 18) d (nI y0))) 20 (wrN (F 20) (320 * d + 0) (slN y 1 (n - 1)))) 19 (upd (F 19) d (nI (0 + (n - 1))))) d (0 + (n - 1)) y0 P.tsz (P.dr + 1)) d := by
  subst hn h0
  have hl := slN_len y 1 (y.length - 1)
  have r := rl_fin (P := ((P.h, P.hi, P.hb, P.gd, P.hd, P.hw, P.hq, P.hs, P.hf, P.fr, P.fw, P.gu, P.tu, P.aw, P.wr, P.gw, P.q, P.mh, P.fi, P.sz, P.ma, P.ml, P.mg, P.as_, P.ls_, P.gs_, P.hm, P.kd, P.ak, P.ft, P.be, P.cr, P.am, P.lm, P.gm, P.ht, P.hp, P.pt, P.du, P.lt, P.dr + 1, P.co, P.tq, P.tmh, P.tfi, P.tsz, P.tma, P.tml, P.tmg, P.ap, P.pl, P.gp, P.hbm, P.bak, P.bt, P.bbe, P.bcr, P.abm, P.gbm) : DPic)) (F := va_up (va_up (va_up (va_up F 26 (upd (F 26) d (nI (P.dr + 1)))) 18 (upd (F 18) d (nI (y.getD 0 0)))) 20 (wrN (F 20) (320 * d + 0) (slN y 1 (y.length - 1)))) 19 (upd (F 19) d (nI (0 + (y.length - 1))))) (d := d) (g := 0 + (y.length - 1)) (du := y.getD 0 0) (pl := slN y 1 (y.length - 1)) (fin := iFin true true P.du P.pl y) (app := iApp true true P.du P.pl y P.tsz)
    ⟨h.1.dr, h.1.qu, h.1.se, h.1.fr, h.1.tk, h.1.gu, h.1.tu, h.1.lt, h.1.gd, h.1.hd, pk_us, h.1.co⟩ pk_us (by show upd (F 19) d _ d = _; rw [pk_us, hl, Nat.zero_add]) (fun j hj => by show wrN (F 20) (320 * d + 0) _ (320 * d + j) = _; exact wrN_in hj) h5 (by rw [hl]; omega) (by rw [hl, Nat.zero_add]) rfl rfl
  refine r.up ?_
  unfold useP
  rw [hpt]
  rfl
theorem rl_useB {P : DPic} {F : Nat → Nat → Int32} {d n y0 : Nat} {y : List Nat} (h : RelD P F d) (hpt : P.pt = false) (hn : y.length = n) (hn6 : n ≤ 63) (h0 : y.getD 0 0 = y0) (h5 : y0 ≤ 255) : RelD (useP P true y) (finF (va_up (va_up (va_up F 18 (upd (F 18) d (nI y0))) 20 (wrN (F 20) (320 * d + 0) (slN y 1 (n - 1)))) 19 (upd (F 19) d (nI (0 + (n - 1))))) d (0 + (n - 1)) y0 P.tsz P.dr) d := by
  subst hn h0
  have hl := slN_len y 1 (y.length - 1)
  have r := rl_fin (P := P) (F := va_up (va_up (va_up F 18 (upd (F 18) d (nI (y.getD 0 0)))) 20 (wrN (F 20) (320 * d + 0) (slN y 1 (y.length - 1)))) 19 (upd (F 19) d (nI (0 + (y.length - 1))))) (d := d) (g := 0 + (y.length - 1)) (du := y.getD 0 0) (pl := slN y 1 (y.length - 1)) (fin := iFin true false P.du P.pl y) (app := iApp true false P.du P.pl y P.tsz)
    ⟨h.1.dr, h.1.qu, h.1.se, h.1.fr, h.1.tk, h.1.gu, h.1.tu, h.1.lt, h.1.gd, h.1.hd, h.1.dp, h.1.co⟩ pk_us (by show upd (F 19) d _ d = _; rw [pk_us, hl, Nat.zero_add]) (fun j hj => by show wrN (F 20) (320 * d + 0) _ (320 * d + j) = _; exact wrN_in hj) h5 (by rw [hl]; omega) (by rw [hl, Nat.zero_add]) rfl rfl
  refine r.up ?_
  unfold useP
  rw [hpt]
  rfl
theorem rl_useC {P : DPic} {F : Nat → Nat → Int32} {d n : Nat} {y : List Nat} (h : RelD P F d) (hpt : P.pt = true) (hn : y.length = n) (hn6 : n ≤ 63) : RelD (useP P false y) (finF (va_up (va_up F 20 (wrN (F 20) (320 * d + P.pl.length) (slN y 0 (n - 0)))) 19 (upd (F 19) d (nI (P.pl.length + (n - 0))))) d (P.pl.length + (n - 0)) P.du P.tsz P.dr) d := by
  subst hn
  obtain ⟨g1, g2, g3, g4⟩ := h.2
  obtain ⟨q1, q2, q3⟩ := g4 hpt
  rw [hpt] at g3
  have r := rl_fin (P := P) (F := va_up (va_up F 20 (wrN (F 20) (320 * d + P.pl.length) (slN y 0 (y.length - 0)))) 19 (upd (F 19) d (nI (P.pl.length + (y.length - 0))))) (d := d) (g := P.pl.length + (y.length - 0)) (du := P.du) (pl := P.pl ++ y) (fin := iFin false true P.du P.pl y) (app := iApp false true P.du P.pl y P.tsz)
    ⟨h.1.dr, h.1.qu, h.1.se, h.1.fr, h.1.tk, h.1.gu, h.1.tu, h.1.lt, h.1.gd, h.1.hd, h.1.dp, h.1.co⟩ g3 (by show upd (F 19) d _ d = _; rw [pk_us, List.length_append, Nat.sub_zero]) (fun j hj => by
      show wrN (F 20) (320 * d + P.pl.length) _ (320 * d + j) = _
      rw [List.length_append] at hj
      rw [Nat.sub_zero, slN_all]
      by_cases c : j < P.pl.length
      · rw [wrN_out (by omega), q3 j c, List.getD_eq_getElem?_getD, List.getD_eq_getElem?_getD, List.getElem?_append_left c]
      · obtain ⟨i, rfl⟩ : ∃ i, j = P.pl.length + i := ⟨j - P.pl.length, by omega⟩
        rw [← Nat.add_assoc, wrN_in (by omega), List.getD_eq_getElem?_getD, List.getD_eq_getElem?_getD, List.getElem?_append_right (by omega), Nat.add_sub_cancel_left]) g1 (by rw [List.length_append]; omega) (by rw [List.length_append, Nat.sub_zero]) rfl rfl
  refine r.up ?_
  unfold useP
  rw [hpt]
  rfl
theorem rl_useD {P : DPic} {F : Nat → Nat → Int32} {d : Nat} (y : List Nat) (h : RelD P F d) (hpt : P.pt = false) : RelD (useP P false y) F d :=
  RelD.re h rfl rfl rfl rfl rfl rfl rfl rfl rfl rfl rfl rfl rfl (by show P.tsz = P.tsz + (iApp false P.pt P.du P.pl y P.tsz).toNat; rw [hpt]; rfl) (by show P.tml = cond (iApp false P.pt P.du P.pl y P.tsz) (va_up P.tml ((P.tfi + P.tsz) % 6) (iPl1 false P.pt P.pl y)) P.tml; rw [hpt]; rfl) (by show P.pt = ((false || P.pt) && !iFin false P.pt P.du P.pl y); rw [hpt]; rfl) rfl (by show P.pl = iPl1 false P.pt P.pl y; rw [hpt]; rfl) rfl rfl rfl rfl (by show P.dr = iDr1 false P.pt P.dr + (iFin false P.pt P.du P.pl y && !iApp false P.pt P.du P.pl y P.tsz).toNat; rw [hpt]; rfl) rfl
theorem ag_useA {F : Nat → Nat → Int32} {d n g0 fi du tn dr : Nat} {y : List Nat} (hd : d < 2) (hn6 : n ≤ 63) (hg : g0 ≤ 255) (ht : tn ≤ 6) (h5 : du ≤ 255) (a b c : Int32) : AgD F (finF (va_up (va_up (va_up (va_up F 26 (upd (F 26) d a)) 18 (upd (F 18) d b)) 20 (wrN (F 20) (320 * d + g0) (slN y fi n))) 19 (upd (F 19) d c)) d (g0 + n) du tn dr) (1 - d) :=
  AgD.trans (ag_w hd (w := 1) rfl (fun j hj => pk_un (by omega)) (ag_w hd (w := 320) rfl (fun j hj => wrN_out (by rw [slN_len]; omega)) (ag_w hd (w := 1) rfl (fun j hj => pk_un (by omega)) (ag_w hd (w := 1) rfl (fun j hj => pk_un (by omega)) (.refl _ _))))) (ag_fin hd ht h5)
theorem ag_useB {F : Nat → Nat → Int32} {d n g0 fi du tn dr : Nat} {y : List Nat} (hd : d < 2) (hn6 : n ≤ 63) (hg : g0 ≤ 255) (ht : tn ≤ 6) (h5 : du ≤ 255) (b c : Int32) : AgD F (finF (va_up (va_up (va_up F 18 (upd (F 18) d b)) 20 (wrN (F 20) (320 * d + g0) (slN y fi n))) 19 (upd (F 19) d c)) d (g0 + n) du tn dr) (1 - d) :=
  AgD.trans (ag_w hd (w := 1) rfl (fun j hj => pk_un (by omega)) (ag_w hd (w := 320) rfl (fun j hj => wrN_out (by rw [slN_len]; omega)) (ag_w hd (w := 1) rfl (fun j hj => pk_un (by omega)) (.refl _ _)))) (ag_fin hd ht h5)
theorem ag_useC {F : Nat → Nat → Int32} {d n g0 fi du tn dr : Nat} {y : List Nat} (hd : d < 2) (hn6 : n ≤ 63) (hg : g0 ≤ 255) (ht : tn ≤ 6) (h5 : du ≤ 255) (c : Int32) : AgD F (finF (va_up (va_up F 20 (wrN (F 20) (320 * d + g0) (slN y fi n))) 19 (upd (F 19) d c)) d (g0 + n) du tn dr) (1 - d) :=
  AgD.trans (ag_w hd (w := 1) rfl (fun j hj => pk_un (by omega)) (ag_w hd (w := 320) rfl (fun j hj => wrN_out (by rw [slN_len]; omega)) (.refl _ _))) (ag_fin hd ht h5)

/-! a new array of booleans; the reference's address -/
section OZN
variable {p : Program} {l : Launch} {e : Env} {R : Room} {s : State} {m : MethodId} {args : Array Value} {below : List Frame} {meth : Method} {c : Code} {H : Heap} {locs : List Loc} {cells slots : Nat} {Qz : State → Prop}
variable {Tb : List Cond} {D : va_G} {cl : List vw_C} {tys : List (ClassId × FieldType)} {A : Nat → Prop} {own : String} {cc : ByteArray} {nL : Nat} {ret : Option FieldType} {pc : Nat} {ls : Array Slot} {rest : List Value} {bs bs' : BW}
theorem o_newz (C : Cx p s m args meth c Tb D cl tys A own cc nL ret) (ho : ow D cl A s.heap H locs bs) (harr : Cond.arrayClass .boolean ∈ Tb) (t0 : Nat) {cA : ClassId} (ht : tys[t0]? = some (cA, .boolean)) {x : Int32} (N : Nat) (hx : x = nI N) (hN : N < 100000) (hcells : cells + 1 ≤ R.cells) (hslots : slots + N ≤ R.slots) (hdg : decode cc pc = .ok (.newarray .boolean, 2))
    (kk : ∀ (q : Nat) (H1 : Heap), ow D cl A s.heap H1 locs (bs ++ [[(q, .inl (cA, N, .inl (fun _ => 0)))]]) → W p l e R s m args below meth c H1 locs (cells + 1) (slots + N) Qz (F0 m (pc + 2) ls (.ref q :: rest))) : W p l e R s m args below meth c H locs cells slots Qz (F0 m pc ls (.int x :: rest)) := by
  subst hx
  refine va_newa (atype := .boolean) (ty := .boolean) (N' := N) (a0 := (N, .inl (fun _ => 0))) C.1.1 C.1.2.1 (C.1.2.2.2.2 _ harr) rfl C.2.1.1 ho.1 ho.2.1 ho.2.2 C.2.2.1 (fun _ => rfl) (nI_pos (by omega)) (nI_clamp (by omega)) (by show N * 1 ≤ _; omega) hcells hslots hdg (fun q cA' H1 hK' h1 h2 h3 => kk q H1 ?_)
  have e1 := (hK'.2 tys.length (cA', .boolean) (by simp)).2
  have e2 := (C.2.1.1.2 t0 _ ht).2
  obtain rfl : cA' = cA := Option.some.inj (Eq.trans (Eq.symm e1) e2)
  exact ⟨by rw [fl_push]; exact h1, by rw [fl_push]; exact h2, h3⟩
end OZN
theorem cl_lo {x : Int32} (h : ¬ nI 1 ≤ x) : nI 1 = nI (clampA x) := by
  have e : nI 1 = (1 : Int32) := by decide
  have h1 : x < 1 := by rw [← e, ← Int32.not_le]; exact h
  unfold clampA
  rw [if_pos h1]
theorem cl_hi {x : Int32} (h : nI 1 ≤ x) (h7 : ¬ x ≤ nI 7) : nI 7 = nI (clampA x) := by
  have e : nI 1 = (1 : Int32) := by decide
  have e7 : nI 7 = (7 : Int32) := by decide
  have h1 : ¬ x < 1 := by rw [Int32.not_lt, ← e]; exact h
  have h2 : 7 < x := by rw [← e7, ← Int32.not_le]; exact h7
  unfold clampA
  rw [if_neg h1, if_pos h2]
theorem cl_mid {x : Int32} (h : nI 1 ≤ x) (h7 : x ≤ nI 7) : x = nI (clampA x) := by
  have e : nI 1 = (1 : Int32) := by decide
  have e7 : nI 7 = (7 : Int32) := by decide
  have h1 : ¬ x < 1 := by rw [Int32.not_lt, ← e]; exact h
  have h2 : ¬ 7 < x := by rw [Int32.not_lt, ← e7]; exact h7
  unfold clampA
  rw [if_neg h1, if_neg h2]
  have h0 : ¬ x < 0 := by
    rw [Int32.lt_iff_toInt_lt]
    rw [Int32.lt_iff_toInt_lt] at h1
    have a1 : (1 : Int32).toInt = 1 := by decide
    have a0 : (0 : Int32).toInt = 0 := by decide
    omega
  obtain ⟨j, hj, rfl⟩ := nI_of h0
  rw [nI_clamp hj]
/-- the reference's arrays at first -/
theorem rl_init {d : Nat} (hd : d < 2) (P : DPic) (e1 : P.wr = []) (e2 : P.fi = 0) (e3 : P.sz = 0) (e4 : P.ls_ = []) (e5 : P.fr = 0) (e6 : P.fw = false) (e7 : P.lm = []) (e8 : P.tfi = 0) (e9 : P.tsz = 0) (e10 : P.pt = false) (e11 : P.du = 0) (e12 : P.pl = []) (e13 : P.gu = true) (e14 : P.tu = false) (e15 : P.lt = false) (e16 : P.gd = false) (e17 : P.hd = false) (e18 : P.dr = 0) (e19 : P.co = 0) : RelD P (va_up (fun _ _ => 0) 18 (upd (upd (fun _ => 0) 0 (-1)) 1 (-1))) d := by
  refine ⟨⟨?_, ?_, ?_, ?_, ?_, ?_, ?_, ?_, ?_, ?_, ?_, ?_⟩, ?_⟩
  · rw [e1]; exact ⟨Nat.zero_le _, fun j => by simp, rfl, fun j hj => absurd hj (Nat.not_lt_zero j)⟩
  · rw [e2, e3]; exact ⟨by decide, by decide, rfl, fun j hj => absurd hj (Nat.not_lt_zero j)⟩
  · rw [e4, e5]; exact ⟨Nat.zero_le _, Nat.zero_le _, fun j => by simp, rfl, rfl, fun j hj => absurd hj (Nat.not_lt_zero j)⟩
  · rw [e6, e7]; exact ⟨Nat.zero_le _, rfl, fun h => absurd h (by decide)⟩
  · rw [e8, e9]; exact ⟨by decide, by decide, rfl, fun j hj => absurd hj (Nat.not_lt_zero j)⟩
  · rw [e13]; rfl
  · rw [e14]; rfl
  · rw [e15]; rfl
  · rw [e16]; rfl
  · rw [e17]; rfl
  · rw [e18]; rfl
  · rw [e19]; rfl
  · rw [e10, e11, e12]
    refine ⟨by decide, by decide, ?_, fun h => absurd h (by decide)⟩
    rcases (show d = 0 ∨ d = 1 by omega) with rfl | rfl <;> rfl
