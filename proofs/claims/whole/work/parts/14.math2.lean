/-! MATHEMATICS OF THE CODER -/
def gs (l : List (Nat → Int32)) (i : Nat) : Nat → Int32 := l.getD i (fun _ => 0)
/-- the white row, 7 + k bits of it -/
def wl (ck : Nat) : Nat → List Bool
  | 0 => nb (64 + ck % 64) 7
  | k + 1 => wl ck k ++ [(wl ck k).getD k false ^^ (wl ck k).getD (k + 4) false]
theorem wl_len (ck k : Nat) : (wl ck k).length = 7 + k := by
  induction k with
  | zero => simp [wl, nb_len]
  | succ k ih => simp [wl, ih]; omega
theorem wl_step {ck n : Nat} (h : 7 ≤ n) : wl ck (n - 7) ++ [(wl ck (n - 7)).getD (n - 7) false ^^ (wl ck (n - 7)).getD (n - 3) false] = wl ck ((n + 1) - 7) := by
  obtain ⟨k, rfl⟩ : ∃ k, n = k + 7 := ⟨n - 7, by omega⟩
  rw [show k + 7 + 1 - 7 = k + 1 by omega, show k + 7 - 7 = k by omega, show k + 7 - 3 = k + 4 by omega]
  rfl
/-- the white row of a clock, as the class makes it -/
def wt (ck : Nat) : List Bool := wl ck 161
theorem wt_len (ck : Nat) : (wt ck).length = 168 := wl_len ck 161
/-- the head's ten bits, its eighteen -/
def hd10 (ad kind : Nat) (ack turn : Bool) : List Bool := ((((([] : List Bool) ++ nb ad 3) ++ nb kind 4) ++ [true]) ++ [ack]) ++ [turn]
theorem hd10_len (ad kind : Nat) (ack turn : Bool) : (hd10 ad kind ack turn).length = 10 := by simp [hd10, nb_len]
def hdB (ad kind : Nat) (ack turn : Bool) : List Bool := hd10 ad kind ack turn ++ rb (crc 423 8 (sl (hd10 ad kind ack turn) 0 10)) 8
theorem hdB_len (ad kind : Nat) (ack turn : Bool) : (hdB ad kind ack turn).length = 18 := by simp [hdB, hd10_len, rb_len]
theorem crc423 (l : List Bool) : crc 423 8 l < 2 ^ 8 := crc_lt (by decide) (by decide) l
theorem crc53 (l : List Bool) : crc 53 5 l < 2 ^ 5 := crc_lt (by decide) (by decide) l
theorem crc69665 (l : List Bool) : crc 69665 16 l < 2 ^ 16 := crc_lt (by decide) (by decide) l
/-- each bit three times -/
def thr (h : List Bool) (n : Nat) : List Bool := (List.range n).map (fun i => h.getD (i / 3) false)
theorem thr_succ (h : List Bool) (n : Nat) : thr h (n + 1) = thr h n ++ [h.getD (n / 3) false] := by simp [thr, List.range_succ]
theorem thr_len (h : List Bool) (n : Nat) : (thr h n).length = n := by simp [thr]
/-- a load: its number, its bytes -/
def ldp (mk : Nat) (bytes : List Nat) (i : Nat) : List Bool := nb (4 * bytes.length + mk) 8 ++ (List.range i).flatMap (fun j => nb (bytes.getD j 0) 8)
theorem ldp_succ (mk : Nat) (bytes : List Nat) (i : Nat) : ldp mk bytes (i + 1) = ldp mk bytes i ++ nb (bytes.getD i 0) 8 := by simp [ldp, List.range_succ]
theorem ldp_len (mk : Nat) (bytes : List Nat) (i : Nat) : (ldp mk bytes i).length = 8 + 8 * i := by
  induction i with
  | zero => simp [ldp, nb_len]
  | succ i ih => rw [ldp_succ, List.length_append, ih, nb_len]; omega
def ldB (mk : Nat) (bytes : List Nat) : List Bool := ldp mk bytes bytes.length ++ rb (crc 69665 16 (sl (ldp mk bytes bytes.length) 0 (ldp mk bytes bytes.length).length)) 16
theorem ldB_len (mk : Nat) (bytes : List Nat) : (ldB mk bytes).length = 24 + 8 * bytes.length := by simp [ldB, ldp_len, rb_len]; omega
/-- a ten with its remainder -/
def f15 (l : List Bool) (t : Nat) : List Bool := (([] : List Bool) ++ sl l (10 * t) 10) ++ rb (crc 53 5 (sl (([] : List Bool) ++ sl l (10 * t) 10) 0 10)) 5
def tens (l : List Bool) (k : Nat) : List Bool := (List.range k).flatMap (fun t => sl (f15 l t) 0 15)
theorem tens_succ (l : List Bool) (k : Nat) : tens l (k + 1) = tens l k ++ sl (f15 l k) 0 15 := by simp [tens, List.range_succ]
theorem tens_len (l : List Bool) (k : Nat) : (tens l k).length = 15 * k := by
  induction k with
  | zero => rfl
  | succ k ih => rw [tens_succ, List.length_append, ih, sl_len]; omega
/-- whitened whole -/
def whz (l v : List Bool) (st : Nat) : List Bool := wh l v st l.length
theorem whz_len (l v : List Bool) (st : Nat) : (whz l v st).length = l.length := wh_len l v st _
/-- a frame on the air, the white row being lw -/
def airB (lw : List Bool) (ad kind : Nat) (ack turn : Bool) (mk : Nat) (bytes : List Nat) : List Bool :=
  thr (whz (hdB ad kind ack turn) lw 0) 54 ++ (if kind = 3 then tens (whz (ldB mk bytes) lw 18) (((ldB mk bytes).length + 9) / 10) else if kind = 4 then sl (whz (ldB mk bytes) lw 18) 0 (ldB mk bytes).length else [])
def airW (ck ad kind : Nat) (ack turn : Bool) (mk : Nat) (bytes : List Nat) : List Bool := airB (wt ck) ad kind ack turn mk bytes
/-- taking: the head -/
def maj (a b d : Bool) : Bool := decide (2 ≤ a.toNat + b.toNat + d.toNat)
def majL (air : List Bool) (n : Nat) : List Bool := (List.range n).map (fun i => maj (air.getD (3 * i) false) (air.getD (3 * i + 1) false) (air.getD (3 * i + 2) false))
theorem majL_succ (air : List Bool) (n : Nat) : majL air (n + 1) = majL air n ++ [maj (air.getD (3 * n) false) (air.getD (3 * n + 1) false) (air.getD (3 * n + 2) false)] := by simp [majL, List.range_succ]
theorem majL_len (air : List Bool) (n : Nat) : (majL air n).length = n := by simp [majL]
def hOK (ad : Nat) (h : List Bool) : Bool := decide (sl h 10 8 = rb (crc 423 8 (sl h 0 10)) 8) && (decide (toN h 0 3 = ad) && (h.getD 7 false && (decide (1 ≤ toN h 3 4) && decide (toN h 3 4 ≤ 4))))
/-- taking: a fifteen -/
def hl5 (f : List Bool) : Bool := decide (sl f 10 5 = rb (crc 53 5 (sl f 0 10)) 5)
def mnd (f : List Bool) : Option Nat := (List.range 15).find? (fun i => hl5 (f.modify i (fun b => !b)))
def mf (f : List Bool) : List Bool := match mnd f with
  | some i => f.modify i (fun b => !b)
  | none => f
theorem mf_len (f : List Bool) : (mf f).length = f.length := by unfold mf; split <;> simp
theorem mod_mod (f : List Bool) (i : Nat) : (f.modify i (fun b => !b)).modify i (fun b => !b) = f := by
  apply List.ext_getElem?
  intro j
  rw [List.getElem?_modify, List.getElem?_modify]
  by_cases h : i = j
  · subst h; cases f[i]? <;> simp
  · simp [h]
theorem mnd_some {f : List Bool} {i : Nat} (hi : i < 15) (hb : ∀ j, j < i → hl5 (f.modify j (fun b => !b)) = false) (h : hl5 (f.modify i (fun b => !b)) = true) : mnd f = some i := by
  unfold mnd
  rw [List.find?_range_eq_some]
  refine ⟨h, List.mem_range.mpr hi, fun j hj => ?_⟩
  rw [hb j hj]; rfl
theorem mnd_none {f : List Bool} (hb : ∀ j, j < 15 → hl5 (f.modify j (fun b => !b)) = false) : mnd f = none := by
  unfold mnd
  rw [List.find?_range_eq_none]
  intro i hi
  rw [hb i hi]; rfl
def fif (air : List Bool) (k : Nat) : List Bool := ([] : List Bool) ++ sl air (54 + 15 * k) 15
def fx (f : List Bool) : List Bool := if hl5 f = true then f else mf f
def tkL (air : List Bool) : Nat → List Bool
  | 0 => []
  | k + 1 => tkL air k ++ sl (fx (fif air k)) 0 10
def tkC (air : List Bool) : Nat → Nat
  | 0 => 0
  | k + 1 => tkC air k + (if hl5 (fif air k) = true then 0 else (mnd (fif air k)).isSome.toNat)
def tkS (air : List Bool) : Nat → Bool
  | 0 => true
  | k + 1 => tkS air k && (hl5 (fif air k) || (mnd (fif air k)).isSome)
theorem tkL_len (air : List Bool) (k : Nat) : (tkL air k).length = 10 * k := by
  induction k with
  | zero => rfl
  | succ k ih => rw [tkL, List.length_append, ih, sl_len]; omega
/-- taking: the load -/
def ldOK (l : List Bool) : Bool := decide (8 + 8 * (toN l 0 8 / 4) + 16 ≤ l.length) && (decide (¬ toN l 0 8 / 4 = 0) && ((decide (toN l 0 8 % 4 = 2) || decide (toN l 0 8 % 4 = 1)) && decide (sl l (8 + 8 * (toN l 0 8 / 4)) 16 = rb (crc 69665 16 (sl l 0 (8 + 8 * (toN l 0 8 / 4)))) 16)))
def ldY (l : List Bool) (k : Nat) : List Nat := (List.range k).map (fun i => toN l (8 * (i + 1)) 8)
theorem ldY_succ (l : List Bool) (k : Nat) : ldY l (k + 1) = ldY l k ++ [toN l (8 * (k + 1)) 8] := by simp [ldY, List.range_succ]
theorem ldY_len (l : List Bool) (k : Nat) : (ldY l k).length = k := by simp [ldY]
theorem fif_len (air : List Bool) (k : Nat) : (fif air k).length = 15 := by simp [fif, sl_len]
theorem fx_le {air : List Bool} (k : Nat) : (fx (fif air k)).length ≤ 15 := by
  unfold fx
  split
  · rw [fif_len]; exact Nat.le_refl _
  · rw [mf_len, fif_len]; exact Nat.le_refl _
theorem fx_h {f : List Bool} (h : hl5 f = true) : fx f = f := by rw [fx, if_pos h]
theorem fx_m {f : List Bool} (h : hl5 f = false) : fx f = mf f := by rw [fx, if_neg (by rw [h]; decide)]
theorem tkC_h {air : List Bool} {k cr : Nat} (h : hl5 (fif air k) = true) : cr + tkC air k = cr + tkC air (k + 1) := by rw [tkC, if_pos h]; rfl
theorem tkC_m {air : List Bool} {k cr : Nat} (h : hl5 (fif air k) = false) (hm : (mnd (fif air k)).isSome = true) : cr + tkC air k + 1 = cr + tkC air (k + 1) := by rw [tkC, if_neg (by rw [h]; decide), hm]; rfl
theorem tkC_n {air : List Bool} {k cr : Nat} (h : hl5 (fif air k) = false) (hm : (mnd (fif air k)).isSome = false) : cr + tkC air k + 0 = cr + tkC air (k + 1) := by rw [tkC, if_neg (by rw [h]; decide), hm]; rfl
theorem tkS_h {air : List Bool} {k : Nat} (h : hl5 (fif air k) = true) : tkS air (k + 1) = tkS air k := by rw [tkS, h, Bool.true_or, Bool.and_true]
theorem tkS_m {air : List Bool} {k : Nat} (h : hl5 (fif air k) = false) (hm : (mnd (fif air k)).isSome = true) : tkS air (k + 1) = tkS air k := by rw [tkS, h, hm]; simp
theorem tkS_n {air : List Bool} {k : Nat} (h : hl5 (fif air k) = false) (hm : (mnd (fif air k)).isSome = false) : tkS air (k + 1) = false := by rw [tkS, h, hm]; simp
/-! taking, whole -/
def tH (ck : Nat) (air : List Bool) : List Bool := whz (majL air 18) (wt ck) 0
theorem tH_len (ck : Nat) (air : List Bool) : (tH ck air).length = 18 := by rw [tH, whz_len, majL_len]
def tL (ck : Nat) (air : List Bool) : List Bool := whz (if toN (tH ck air) 3 4 = 3 then tkL air ((air.length - 54) / 15) else [] ++ sl air 54 (air.length - 54)) (wt ck) 18
def tSo (ck : Nat) (air : List Bool) : Bool := if toN (tH ck air) 3 4 = 3 then tkS air ((air.length - 54) / 15) else true
def tCr (ck : Nat) (air : List Bool) : Nat := if toN (tH ck air) 3 4 = 3 then 0 + tkC air ((air.length - 54) / 15) else 0
theorem tL_len {ck : Nat} {air : List Bool} (h : air.length ≤ 204) : (tL ck air).length ≤ 150 := by
  rw [tL, whz_len]
  split
  · rw [tkL_len]; omega
  · rw [List.nil_append, sl_len]; omega
def tkR (ad ck : Nat) (air : List Bool) : Nat := if hOK ad (tH ck air) = true then (if toN (tH ck air) 3 4 = 3 ∨ toN (tH ck air) 3 4 = 4 then (if (tSo ck air && ldOK (tL ck air)) = true then 6 else 7) else 9) else 5
theorem tkR_5 {ad ck : Nat} {air : List Bool} (h : hOK ad (tH ck air) = false) : tkR ad ck air = 5 := by rw [tkR, if_neg (by rw [h]; decide)]
theorem tkR_9 {ad ck : Nat} {air : List Bool} (h : hOK ad (tH ck air) = true) (hk : decide (toN (tH ck air) 3 4 = 3 ∨ toN (tH ck air) 3 4 = 4) = false) : tkR ad ck air = 9 := by rw [tkR, if_pos h, if_neg (of_decide_eq_false hk)]
theorem tkR_6 {ad ck : Nat} {air : List Bool} (h : hOK ad (tH ck air) = true) (hk : decide (toN (tH ck air) 3 4 = 3 ∨ toN (tH ck air) 3 4 = 4) = true) (h1 : tSo ck air = true) (h2 : ldOK (tL ck air) = true) : tkR ad ck air = 6 := by rw [tkR, if_pos h, if_pos (of_decide_eq_true hk), h1, h2]; rfl
theorem tkR_7 {ad ck : Nat} {air : List Bool} (h : hOK ad (tH ck air) = true) (hk : decide (toN (tH ck air) 3 4 = 3 ∨ toN (tH ck air) 3 4 = 4) = true) (h1 : tSo ck air = false) : tkR ad ck air = 7 := by rw [tkR, if_pos h, if_pos (of_decide_eq_true hk), h1]; rfl
theorem tkR_7' {ad ck : Nat} {air : List Bool} (h : hOK ad (tH ck air) = true) (hk : decide (toN (tH ck air) 3 4 = 3 ∨ toN (tH ck air) 3 4 = 4) = true) (h2 : ldOK (tL ck air) = false) : tkR ad ck air = 7 := by rw [tkR, if_pos h, if_pos (of_decide_eq_true hk), h2, Bool.and_false]; rfl
/-- what a taken frame holds -/
def TkP (ad ck : Nat) (air : List Bool) (f : Nat × Bool × Bool × Bool × Nat) (y : List Nat) : Prop :=
  (hOK ad (tH ck air) = true → f.2.1 = (tH ck air).getD 8 false ∧ f.2.2.1 = (tH ck air).getD 9 false ∧ f.2.2.2.2 = tCr ck air) ∧ (tkR ad ck air = 6 → f.2.2.2.1 = decide (toN (tL ck air) 0 8 % 4 = 2) ∧ y = ldY (tL ck air) (toN (tL ck air) 0 8 / 4))
theorem tp_5 {ad ck : Nat} {air : List Bool} {f : Nat × Bool × Bool × Bool × Nat} {y : List Nat} (h : hOK ad (tH ck air) = false) : TkP ad ck air f y := by
  unfold TkP
  refine ⟨fun q => ?_, fun q => ?_⟩
  · rw [h] at q; exact absurd q (by decide)
  · rw [tkR_5 h] at q; exact absurd q (by decide)
theorem tp_9 {ad ck : Nat} {air : List Bool} {k : Nat} {b : Bool} {y : List Nat} (h : hOK ad (tH ck air) = true) (hk : decide (toN (tH ck air) 3 4 = 3 ∨ toN (tH ck air) 3 4 = 4) = false) : TkP ad ck air (k, (tH ck air).getD 8 false, (tH ck air).getD 9 false, b, 0) y := by
  unfold TkP
  dsimp only
  refine ⟨fun _ => ⟨rfl, rfl, ?_⟩, fun q => ?_⟩
  · rw [tCr, if_neg (fun z => of_decide_eq_false hk (Or.inl z))]
  · rw [tkR_9 h hk] at q; exact absurd q (by decide)
theorem tp_7 {ad ck : Nat} {air : List Bool} {k : Nat} {b : Bool} {y : List Nat} (h : tkR ad ck air = 7) : TkP ad ck air (k, (tH ck air).getD 8 false, (tH ck air).getD 9 false, b, tCr ck air) y := by
  unfold TkP
  dsimp only
  refine ⟨fun _ => ⟨rfl, rfl, rfl⟩, fun q => ?_⟩
  rw [h] at q; exact absurd q (by decide)
theorem tp_6 {ad ck : Nat} {air : List Bool} {k : Nat} {b : Bool} {z : List Nat} (h : ldOK (tL ck air) = true) : TkP ad ck air (k, (tH ck air).getD 8 false, (tH ck air).getD 9 false, cond (ldOK (tL ck air)) (decide (toN (tL ck air) 0 8 % 4 = 2)) b, tCr ck air) (cond (ldOK (tL ck air)) (ldY (tL ck air) (toN (tL ck air) 0 8 / 4)) z) := by
  unfold TkP
  dsimp only
  rw [h]
  exact ⟨fun _ => ⟨rfl, rfl, rfl⟩, fun _ => ⟨cond_true _ _, cond_true _ _⟩⟩
theorem ldc_len (l : List Bool) : (cond (ldOK l) (ldY l (toN l 0 8 / 4)) []).length ≤ 63 := by
  have := toN_lt l 0 8
  cases ldOK l
  · exact Nat.zero_le _
  · show (ldY l (toN l 0 8 / 4)).length ≤ 63
    rw [ldY_len]; omega
