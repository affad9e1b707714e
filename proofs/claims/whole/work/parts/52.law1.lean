/-! THE LAW: the world of its walk, the script, `cell` -/
def rpL (K : Nat → ClassId) (R : RPic) : BW := [bRP K R.hX R.hda R.hc R.hon R.hr R.ck, bDA K R.hda R.da, bC K R.hc R.ad R.c1 R.c2 R.c3 R.c4, bB K R.c1 R.e1 168 R.w1 R.x1, bB K R.c2 R.e2 18 R.w2 R.x2, bB K R.c3 R.e3 150 R.w3 R.x3, bB K R.c4 R.e4 15 R.w4 R.x4, bB K R.hon R.eo 204 R.air R.xo, bF K R.hr R.hrm R.rk R.rak R.rt R.rbe R.rcr, bM K R.hrm R.ram 63 R.y R.rgm]
def dvL (K : Nat → ClassId) (a k : Nat) (P : DPic) : BW := [bD K a P.h P.hi P.hb P.gd P.hd, bO K P.h P.hw P.hq P.hs P.hf P.fr P.fw P.gu P.tu, bM K P.hw P.aw 40 P.wr P.gw, bH K P.hq P.q P.mh P.fi P.sz, bPool K P.mh P.ma 40 P.ml P.mg, bM K P.hs P.as_ 41 P.ls_ P.gs_, bF K P.hf P.hm P.kd P.ak P.ft P.be P.cr, bM K P.hm P.am 63 P.lm P.gm, bIn K P.hi P.ht P.hp P.pt P.du P.lt P.dr P.co, bH K P.ht P.tq P.tmh P.tfi P.tsz, bPool K P.tmh P.tma 255 P.tml P.tmg, bM K P.hp P.ap 318 P.pl P.gp, bF K P.hb P.hbm k P.bak P.bt P.bbe P.bcr, bM K P.hbm P.abm 63 [] P.gbm]
def rpW (K : Nat → ClassId) (R : RPic) : va_W := (rpL K R).flatten
def dvW (K : Nat → ClassId) (a k : Nat) (P : DPic) : va_W := (dvL K a k P).flatten
theorem ow_open {D : va_G} {cl : List vw_C} {A : Nat → Prop} {H0 H : Heap} {locs : List Loc} {K : Nat → ClassId} {R : RPic} {a k : Nat} {P : DPic} {x y : va_W} (h : ow D cl A H0 H locs [rpW K R, dvW K a k P, x, y]) : ow D cl A H0 H locs (rpL K R ++ (dvL K a k P ++ [x, y])) :=
  h.flat (by simp only [rpW, dvW, List.flatten_append, List.flatten_cons, List.flatten_nil, List.append_nil])
theorem ow_fold {D : va_G} {cl : List vw_C} {A : Nat → Prop} {H0 H : Heap} {locs : List Loc} {K : Nat → ClassId} {R : RPic} {a k : Nat} {P : DPic} {x y : va_W} (h : ow D cl A H0 H locs (rpL K R ++ (dvL K a k P ++ [x, y]))) : ow D cl A H0 H locs [rpW K R, dvW K a k P, x, y] :=
  h.flat (by simp only [rpW, dvW, List.flatten_append, List.flatten_cons, List.flatten_nil, List.append_nil])
/-- the whole state: the class's world beside the reference's, and how they stand to each other -/
def LSt (D : va_G) (A : Nat → Prop) (H0 H : Heap) (locs : List Loc) (K : Nat → ClassId) (hM : Nat) (ar : Nat → Nat) (R : RPic) (d : Nat) (P O : DPic) (F : Nat → Nat → Int32) (lo : Nat) : Prop :=
  ow D vwCl A H0 H locs [rpW K R, dvW K (R.da d) (d + 1) P, dvW K (R.da (1 - d)) (1 - d + 1) O, bX K hM ar R.ad R.ck R.air.length lo F] ∧ RelR R (F 0) ∧ RelD P F d ∧ RelD O F (1 - d)
theorem LSt.pick {D : va_G} {A : Nat → Prop} {H0 H : Heap} {locs : List Loc} {K : Nat → ClassId} {hM : Nat} {ar : Nat → Nat} {R : RPic} {d : Nat} {P O : DPic} {F : Nat → Nat → Int32} {lo : Nat} (h : LSt D A H0 H locs K hM ar R d P O F lo) (hd : d < 2) (d' : Nat) (hd' : d' < 2) : ∃ P' O', LSt D A H0 H locs K hM ar R d' P' O' F lo := by
  by_cases e : d' = d
  · subst e; exact ⟨P, O, h⟩
  · have e2 : d' = 1 - d := by omega
    subst e2
    obtain ⟨h1, h2, h3, h4⟩ := h
    refine ⟨O, P, ?_, h2, h4, ?_⟩
    · rw [show 1 - (1 - d) = d by omega]
      exact h1.re [0, 2, 1, 3] 4 (by decide +kernel) rfl rfl
    · rw [show 1 - (1 - d) = d by omega]; exact h3
/-- what is promised behind an operation -/
def LIH (p : Program) (la : Launch) (e : Env) (s : State) (m : MethodId) (args : Array Value) (below : List Frame) (meth : Method) (c : Code) (A : Nat → Prop) (D : va_G) (K : Nat → ClassId) (Qz : State → Prop) (b hX hM : Nat) (ar : Nat → Nat) (i pc : Nat) : Prop :=
  ∀ (R : RPic) (d : Nat) (P O : DPic) (F : Nat → Nat → Int32) (lo : Nat) (H : Heap) (locs : List Loc) (ls : Array Slot), d < 2 → LSt D A s.heap H locs K hM ar R d P O F lo → R.hX = hX → R.ck ≤ i → lv_has ls 4 [(0, .ref b), (1, .ref hX), (2, .ref hM), (3, .int (nI i))] → W p la e room_1 s m args below meth c H locs 131 10920 Qz (F0 m pc ls [])
section OS
variable {p : Program} {l : Launch} {e : Env} {R : Room} {s : State} {m : MethodId} {args : Array Value} {below : List Frame} {meth : Method} {c : Code} {H : Heap} {locs : List Loc} {cells slots : Nat} {Qz : State → Prop}
variable {Tb : List Cond} {D : va_G} {cl : List vw_C} {tys : List (ClassId × FieldType)} {A : Nat → Prop} {own : String} {cc : ByteArray} {nL : Nat} {ret : Option FieldType} {pc : Nat} {ls : Array Slot} {rest st : List Value} {bs bs' : BW}
/-- the script: read, its length -/
theorem o_sld (C : Cx p s m args meth c Tb D cl tys A own cc nL ret) (ho : ow D cl A s.heap H locs bs) {b L : Nat} {xs : Nat → Int32} (hX : va_X b L xs s s.heap) (hbl : b < s.heap.size) (hbA : ¬ A b) {x : Int32} (j : Nat) (hx : x = nI j) (hj : j < L) (hL : L < 2 ^ 31) {v : Int32} (hv : xs j = v) (hdg : decode cc pc = .ok (.iaload, 1))
    (kk : W p l e R s m args below meth c H locs cells slots Qz (F0 m (pc + 1) ls (.int v :: rest))) : W p l e R s m args below meth c H locs cells slots Qz (F0 m pc ls (.int x :: .ref b :: rest)) := by
  subst hx hv
  refine va_sld C.1.1 C.1.2.1 hX hbl hbA ho.2.2 (vp_in_nI hj hL) hdg ?_
  rw [nI_clamp (by omega)]
  exact kk
theorem o_slen (C : Cx p s m args meth c Tb D cl tys A own cc nL ret) (ho : ow D cl A s.heap H locs bs) {b L : Nat} {xs : Nat → Int32} (hX : va_X b L xs s s.heap) (hbl : b < s.heap.size) (hbA : ¬ A b) (hdg : decode cc pc = .ok (.arraylength, 1))
    (kk : W p l e R s m args below meth c H locs cells slots Qz (F0 m (pc + 1) ls (.int (nI L) :: rest))) : W p l e R s m args below meth c H locs cells slots Qz (F0 m pc ls (.ref b :: rest)) := va_slen C.1.1 C.1.2.1 hX hbl hbA ho.2.2 hdg kk
end OS
/-- `cell`: the script isn't a block, it is only looked at -/
def PsX (D : va_G) (cl : List vw_C) (tys : List (ClassId × FieldType)) (As : List Value) (b L : Nat) (xs : Nat → Int32) (sz : Nat) : Array Value → State → Prop := va_Pc As (fun U => U.heap.size = sz ∧ Kz D cl tys U ∧ b < sz ∧ va_X b L xs U U.heap)
theorem PsX.blind {D : va_G} {cl : List vw_C} {tys : List (ClassId × FieldType)} {As : List Value} {b L : Nat} {xs : Nat → Int32} {sz : Nat} : FrameBlind (PsX D cl tys As b L xs sz) := fun a U g mk q => by
  obtain ⟨q0, q1, qK, qb, qX⟩ := q
  exact ⟨q0, q1, ⟨va_K.moved (u := U) (U := U.calling g mk a) (Vm.Alike.refl U.vm) qK.1, Xw.same (u := U) (U := U.calling g mk a) rfl qK.2⟩, qb, va_X.moved (u := U) (U := U.calling g mk a) (Vm.Alike.refl U.vm) qX⟩
def cellV (L : Nat) (xs : Nat → Int32) : Int32 := if 0 < L then xs 0 else 0
set_option maxHeartbeats 4000000 in
set_option maxRecDepth 100000 in
theorem c_cell (la : Launch) (D : va_G) (K : Nat → ClassId) {b L : Nat} {xs : Nat → Int32} (hL : L < 2 ^ 31) (sz : Nat) : Met la yXL_cell (Cond.code yXL_cell cXL_cell 2 (some .int) :: lw_T) (rmL 1 0 0) (PsX D vwCl (tyL K) [.ref b, .int (nI 0)] b L xs sz) (Rq D vwCl (va_A [] sz) Unit (fun v _ => v = some (.int (cellV L xs))) (fun _ => [])) 0 0 (va_A [] sz) := by
  refine Met.ofW (cc := cXL_cell) (maxL := 2) (ret := some .int) (by decide) rfl ?_
  intro p e s m args below meth c s₁ B hml hv
  obtain ⟨rfl, hsz, hK, hbl, hX⟩ := hv
  subst hsz
  have hts0 := atoms_spec (ws := Cond.code yXL_cell cXL_cell 2 (some .int) :: lw_T) B.pre
  rw [lg_entry_eq]
  have C : Cx p s m _ meth c lw_T D vwCl (tyL K) (va_A [] s.heap.size) RXL cXL_cell 2 (some .int) := ⟨⟨B.exec, B.bytes, hml, findClass_of_methodNamed B.named, fun w h => hts0 w (List.mem_cons_of_mem _ h)⟩, hK, fun q h => Or.inr h, B.returns, B.notSynchronized⟩
  have hl := lv_entry (n := 2) [Value.ref b, .int (nI 0)] (Nat.le_of_ble_eq_true rfl)
  have ho : ow D vwCl (va_A [] s.heap.size) s.heap s.heap [] ([] : BW) := ⟨fun k q h => by simp at h, ⟨fun i j p q h => by simp at h, fun k q h => by simp at h⟩, va_S.rf⟩
  have hx := C.1.1
  have hb := C.1.2.1
  have hbA : ¬ va_A [] s.heap.size b := by
    rintro (⟨k, q, h⟩ | h)
    · simp at h
    · omega
  refine lv_iload_n hx hb dXL_cell_0 rfl (lv_at hl 1 rfl) ?_
  refine lv_aload_n hx hb dXL_cell_1 rfl (lv_at hl 0 rfl) ?_
  refine o_slen C ho hX hbl hbA dXL_cell_2 ?_
  refine o_icmp_ge (tgt := 12) hx hb dXL_cell_3 (by decide) (by decide) hL (fun c1 => ?_) (fun c1 => ?_)
  · refine lv_iconst (v := nI 0) hx hb dXL_cell_12 (by decide) ?_
    exact o_iret rfl C rfl ho () (by show some _ = some _; rw [cellV, if_neg (by omega)]; rfl) rfl (Nat.le_refl _) (Nat.le_refl _) dXL_cell_13
  · refine lv_aload_n hx hb dXL_cell_6 rfl (lv_at hl 0 rfl) ?_
    refine lv_iload_n hx hb dXL_cell_7 rfl (lv_at hl 1 rfl) ?_
    refine o_sld C ho hX hbl hbA 0 rfl (by omega) hL rfl dXL_cell_8 ?_
    refine lv_goto (tgt := 13) hx hb dXL_cell_9 (by decide) ?_
    exact o_iret rfl C rfl ho () (by show some _ = some _; rw [cellV, if_pos (by omega)]) rfl (Nat.le_refl _) (Nat.le_refl _) dXL_cell_13
section OCX
variable {p : Program} {l : Launch} {e : Env} {R : Room} {s : State} {m : MethodId} {args : Array Value} {below : List Frame} {meth : Method} {c : Code} {H : Heap} {locs : List Loc} {cells slots : Nat} {Qz : State → Prop}
variable {D : va_G} {K : Nat → ClassId} {A : Nat → Prop} {cc : ByteArray} {nL : Nat} {ret : Option FieldType} {pc : Nat} {ls : Array Slot} {rest : List Value} {bs : BW}
/-- the call of `cell` -/
theorem o_cell (C : Cx p s m args meth c lw_T D vwCl (tyL K) A RXL cc nL ret) {b L : Nat} {xs : Nat → Int32} (hX : va_X b L xs s s.heap) (hbl : b < s.heap.size) (hbA : ¬ A b) (hL : L < 2 ^ 31) (hR : (rmL 1 0 0).frames + 1 ≤ R.frames ∧ 8 + (2 + 11) + (rmL 1 0 0).locals ≤ R.locals) (ho : ow D vwCl A s.heap H locs bs) (hls : ls.size = nL) (hW : (rest.map fun v => v.category).sum ≤ 8) (hdg : decode cc pc = .ok (.invokestatic 9, 3)) (hf : cells ≤ R.cells ∧ slots ≤ R.slots)
    (kk : ∀ (H1 : Heap) (locs1 : List Loc), ow D vwCl A s.heap H1 locs1 bs → W p l e R s m args below meth c H1 locs1 cells slots Qz (F0 m (pc + 3) ls (.int (cellV L xs) :: rest))) : W p l e R s m args below meth c H locs cells slots Qz (F0 m pc ls (.int (nI 0) :: .ref b :: rest)) := by
  have hts := C.1.2.2.2.2
  have hS := ho.2.2
  have pre : ∀ U : State, U.heap = H → s.WarmedH U.vm → PsX D vwCl (tyL K) [.ref b, .int (nI 0)] b L xs H.size [Value.ref b, .int (nI 0)].toArray U := by
    intro U hU hWm
    refine ⟨rfl, by rw [hU], ⟨va_K.moved hWm.alike C.2.1.1, Xw.warm hWm C.2.1.2⟩, Nat.lt_of_lt_of_le hbl hS.1, ?_⟩
    rw [hU]
    exact va_X.moved hWm.alike (hX.kept (hS.2.1 b hbl hbA))
  refine o_back (wc := []) (wr := bs) (S := Unit) (Q := fun v _ => v = some (.int (cellV L xs))) (w' := fun _ => []) (rm := rmL 1 0 0) C ho (va_runS C.1 (c_cell l D K hL H.size) ⟨kXL_9.B hts hR, hts _ vXL_cell⟩ ⟨PsX.blind, pre⟩ rfl rfl hls rfl (lv_room hW) hdg hf) (fun v u H1 locs1 hq h1 => ?_)
  subst hq
  exact kk H1 locs1 h1
end OCX
theorem ow_fold2 {D : va_G} {cl : List vw_C} {A : Nat → Prop} {H0 H : Heap} {locs : List Loc} {K : Nat → ClassId} {R : RPic} {a k a2 k2 : Nat} {P P2 : DPic} {y : va_W} (h : ow D cl A H0 H locs (rpL K R ++ (dvL K a k P ++ (dvL K a2 k2 P2 ++ [y])))) : ow D cl A H0 H locs [rpW K R, dvW K a k P, dvW K a2 k2 P2, y] :=
  h.flat (by simp only [rpW, dvW, List.flatten_append, List.flatten_cons, List.flatten_nil, List.append_nil])

theorem cnd_43 (g : Bool) : cond g 3 4 = cond (!g) 4 3 := by cases g <;> rfl
theorem airW_54 (ck ad k : Nat) (a t : Bool) (mk : Nat) (b : List Nat) : 54 ≤ (airW ck ad k a t mk b).length := by
  unfold airW airB
  rw [List.length_append, thr_len]
  omega
theorem airW_204 {ck ad : Nat} {pp a t : Bool} {mk : Nat} {b : List Nat} (h : b.length ≤ cond pp 13 9) : (airW ck ad (cond pp 4 3) a t mk b).length ≤ 204 := by
  cases pp
  · have h : b.length ≤ 9 := h
    show (airW ck ad 3 a t mk b).length ≤ 204
    rw [airW_l3, ldB_len]
    omega
  · have h : b.length ≤ 13 := h
    show (airW ck ad 4 a t mk b).length ≤ 204
    rw [airW_l4, ldB_len]
    omega
theorem rl_flip {f : Nat → Int32} {l : List Bool} {j : Nat} (h : ∀ i, i < l.length → f i = bI (l.getD i false)) (hj : j < l.length) : ∀ i, i < (l.modify j (fun b => !b)).length → upd f j (bI (!l.getD j false)) i = bI ((l.modify j (fun b => !b)).getD i false) := by
  intro i hi
  rw [List.length_modify] at hi
  rw [← modify_in hj]
  by_cases e : i = j
  · subst e
    rw [pk_us]
    simp [hj]
  · rw [pk_un e, h i hi]
    have : j ≠ i := fun z => e z.symm
    simp [List.getElem?_set, this]
theorem tCr_0 {ck : Nat} {a : List Bool} (h : toN (tH ck a) 3 4 < 3) : tCr ck a = 0 := by rw [tCr, if_neg (by omega)]
theorem hOK_k {ad : Nat} {h : List Bool} (hh : hOK ad h = true) : toN h 3 4 ≤ 4 := by
  unfold hOK at hh
  simp only [Bool.and_eq_true, decide_eq_true_eq] at hh
  exact hh.2.2.2.2
theorem ldOK_f {l : List Bool} (h : ldOK l = true) : 24 + 8 * (toN l 0 8 / 4) ≤ l.length ∧ 1 ≤ toN l 0 8 / 4 ∧ decide (toN l 0 8 % 4 = 2) = l.getD 1 false := by
  have h' := h
  unfold ldOK at h
  simp only [Bool.and_eq_true, Bool.or_eq_true, decide_eq_true_eq] at h
  refine ⟨by omega, by omega, ?_⟩
  have hn : ¬ l.getD 0 false = l.getD 1 false := fun e => by rw [ldOK_eq e] at h'; exact absurd h' (by decide)
  rw [toN_lo]
  revert hn
  cases l.getD 0 false <;> cases l.getD 1 false <;> decide
theorem tL_150 {ck : Nat} {a : List Bool} (h : a.length ≤ 204) : (tL ck a).length ≤ 150 := by rw [tL_ld, ldl_len]; exact ldi_le h
theorem RelD.lo2 {P : DPic} {F : Nat → Nat → Int32} {d : Nat} (h : RelD P F d) (a b : Nat → Int32) : RelD P (va_up (va_up F 1 a) 2 b) d := ⟨⟨h.1.dr, h.1.qu, h.1.se, h.1.fr, h.1.tk, h.1.gu, h.1.tu, h.1.lt, h.1.gd, h.1.hd, h.1.dp, h.1.co⟩, h.2⟩
theorem RelD.lo0 {P : DPic} {F : Nat → Nat → Int32} {d : Nat} (h : RelD P F d) (a : Nat → Int32) : RelD P (va_up F 0 a) d := ⟨⟨h.1.dr, h.1.qu, h.1.se, h.1.fr, h.1.tk, h.1.gu, h.1.tu, h.1.lt, h.1.gd, h.1.hd, h.1.dp, h.1.co⟩, h.2⟩
theorem nf_12 (F : Nat → Nat → Int32) (d : Nat) (pp : Bool) (at_ sl_ : Nat) (tu : Bool) : nfF F d pp at_ sl_ tu 12 d = nI (cond pp 4 3) := by show upd (F 12) d _ d = _; exact pk_us
theorem rl_h6 {P : DPic} {F : Nat → Nat → Int32} {d : Nat} (h : RelD P F d) (b t : Bool) (n : Nat) (a1 a2 a3 : Nat → Int32) : RelD ((P.h, P.hi, P.hb, true, true, P.hw, P.hq, P.hs, P.hf, P.fr, P.fw && !b, P.gu, P.tu, P.aw, P.wr, P.gw, P.q, P.mh, P.fi, P.sz, P.ma, P.ml, P.mg, P.as_, P.ls_, P.gs_, P.hm, P.kd, P.ak, P.ft, P.be, P.cr, P.am, P.lm, P.gm, P.ht, P.hp, P.pt, P.du, t, P.dr, P.co + n, P.tq, P.tmh, P.tfi, P.tsz, P.tma, P.tml, P.tmg, P.ap, P.pl, P.gp, P.hbm, P.bak, P.bt, P.bbe, P.bcr, P.abm, P.gbm) : DPic) (va_up (va_up (va_up (va_up (va_up (va_up (va_up (va_up F 1 a1) 2 a2) 25 (upd (F 25) d (bI true))) 11 (upd (F 11) d (nI (cond b 0 (cond P.fw P.lm.length 0))))) 2 a3) 27 (upd (F 27) d (nI (P.co + n)))) 24 (upd (F 24) d (bI true))) 23 (upd (F 23) d (bI t))) d := RelD.re (rl_lt (rl_gd (rl_co (rl_heed h b a1 a2) n a3)) t) rfl rfl rfl rfl rfl rfl rfl rfl rfl rfl rfl rfl rfl rfl rfl rfl rfl rfl rfl rfl rfl rfl rfl rfl

theorem dev_sp (x : Int32) : (hasI 2 x = false ∧ (x < nI 0 ∨ nI 1 < x)) ∨ ∃ j : Nat, j < 2 ∧ x = nI j := by
  rcases pk_ix x (n := 2) (by decide) with h | h | h
  · exact Or.inl ⟨hasI_neg h, Or.inl h⟩
  · have h1 : nI 1 < x := by
      rw [Int32.lt_iff_toInt_lt]
      rw [Int32.le_iff_toInt_le] at h
      have e1 : (nI 1).toInt = 1 := by decide
      have e2 : (nI 2).toInt = 2 := by decide
      omega
    have h0 : ¬ x < 0 := by
      rw [Int32.lt_iff_toInt_lt]
      rw [Int32.le_iff_toInt_le] at h
      have e1 : (0 : Int32).toInt = 0 := by decide
      have e2 : (nI 2).toInt = 2 := by decide
      omega
    exact Or.inl ⟨hasI_ge h0 h, Or.inr h1⟩
  · exact Or.inr h
theorem byte_sp (x : Int32) : ((x < 0 ∨ nI 255 < x) ∧ (x < nI 0 ∨ nI 255 < x)) ∨ ∃ j : Nat, j ≤ 255 ∧ x = nI j := by
  rcases pk_ix x (n := 256) (by decide) with h | h | ⟨j, hj, h⟩
  · exact Or.inl ⟨Or.inl h, Or.inl h⟩
  · have h1 : nI 255 < x := by
      rw [Int32.lt_iff_toInt_lt]
      rw [Int32.le_iff_toInt_le] at h
      have e1 : (nI 255).toInt = 255 := by decide
      have e2 : (nI 256).toInt = 256 := by decide
      omega
    exact Or.inl ⟨Or.inr h1, Or.inr h1⟩
  · exact Or.inr ⟨j, by omega, h⟩
theorem idx_sp (x : Int32) {n : Nat} (hn : n < 2 ^ 31) : hasI n x = false ∨ ∃ j : Nat, j < n ∧ x = nI j := by
  cases h : hasI n x with
  | false => exact Or.inl rfl
  | true => exact Or.inr (hasI_of hn h)
theorem num_sp (x : Int32) {n : Nat} (hn : n < 1000) : ((x.toInt < 0 ∨ (n : Int) < x.toInt) ∧ (x < nI 0 ∨ nI n < x)) ∨ ∃ j : Nat, j ≤ n ∧ x = nI j := by
  have e0 : (0 : Int32).toInt = 0 := by decide
  have en : (nI n).toInt = n := Int32.toInt_ofNat_of_lt (by omega)
  have en1 : (nI (n + 1)).toInt = (n + 1 : Nat) := Int32.toInt_ofNat_of_lt (by omega)
  rcases pk_ix x (n := n + 1) (by omega) with h | h | ⟨j, hj, h⟩
  · refine Or.inl ⟨Or.inl ?_, Or.inl h⟩
    rw [Int32.lt_iff_toInt_lt] at h
    omega
  · rw [Int32.le_iff_toInt_le] at h
    refine Or.inl ⟨Or.inr (by omega), Or.inr ?_⟩
    rw [Int32.lt_iff_toInt_lt]
    omega
  · exact Or.inr ⟨j, by omega, h⟩
theorem and15 (x : Int32) : ∃ k : Nat, k < 16 ∧ x &&& nI 15 = nI k := by
  refine ⟨(x.toBitVec.toNat &&& 15), Nat.lt_of_le_of_lt Nat.and_le_right (by decide), ?_⟩
  apply Int32.toBitVec_inj.mp
  rw [Int32.toBitVec_and]
  apply BitVec.eq_of_toNat_eq
  rw [BitVec.toNat_and]
  show x.toBitVec.toNat &&& 15 = (BitVec.ofNat 32 (x.toBitVec.toNat &&& 15)).toNat
  rw [BitVec.toNat_ofNat, Nat.mod_eq_of_lt (Nat.lt_of_le_of_lt Nat.and_le_right (by decide))]
theorem le3 {i L : Nat} (hi : i < 2 ^ 20) (hL : L ≤ 1537) (h : ¬ nI i > nI L - nI 3) : i + 3 ≤ L := by
  by_cases h3 : 3 ≤ L
  · have e : nI L - nI 3 = nI (L - 3) := pk_sub h3
    rw [e] at h
    have := mt (nI_ltI (by omega) (by omega)).mpr h
    omega
  · exfalso
    apply h
    show nI L - nI 3 < nI i
    have h0 : (0 : Int32) ≤ nI i := nI_pos' (by omega)
    rw [Int32.le_iff_toInt_le] at h0
    rw [Int32.lt_iff_toInt_lt]
    have z : (0 : Int32).toInt = 0 := by decide
    rcases (show L = 0 ∨ L = 1 ∨ L = 2 by omega) with rfl | rfl | rfl
    · have : (nI 0 - nI 3).toInt = -3 := by decide
      omega
    · have : (nI 1 - nI 3).toInt = -2 := by decide
      omega
    · have : (nI 2 - nI 3).toInt = -1 := by decide
      omega
