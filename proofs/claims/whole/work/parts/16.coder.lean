set_option maxHeartbeats 4000000 in
set_option maxRecDepth 100000 in
theorem c_Frame_hasLoad (la : Launch) (D : va_G) (K : Nat → ClassId) (hr : Nat) (hm : Nat) (kd : Nat) (ak : Bool) (tu : Bool) (be : Bool) (cr : Nat) (qk : kd < 16) : MT la D K yX3_hasLoad cX3_hasLoad 1 (some .boolean) (rmL 1 0 0) [.ref hr] [bF K hr hm kd ak tu be cr] Unit (fun v _ => v = some (.int (bI (decide (kd = 3 ∨ kd = 4))))) (fun _ => [bF K hr hm kd ak tu be cr]) := by
  refine Mt.ofW [(0, .ref hr)] (by decide) rfl (Nat.le_of_ble_eq_true rfl) ?_
  intro p e s m args below meth c A ls H locs Qz hQ C hin hl ho
  have hx := C.1.1
  have hb := C.1.2.1
  refine lv_aload_n hx hb dX3_hasLoad_0 rfl (lv_at hl 0 rfl) ?_
  refine o_get (v := .int (nI kd)) C ho 0 0 rfl rfl rfl 1 fX3_20 rfl dX3_hasLoad_1 ?_
  refine lv_iconst (v := nI 3) hx hb dX3_hasLoad_4 (by decide) ?_
  refine o_icmp_eq (tgt := 16) hx hb dX3_hasLoad_5 (by decide) (by first | omega | exact and1_lt _) (by first | omega | exact and1_lt _) (fun c_1 => ?_) (fun c_1 => ?_)
  · skip
    refine lv_iconst (v := nI 1) hx hb dX3_hasLoad_16 (by decide) ?_
    refine lv_goto (tgt := 21) hx hb dX3_hasLoad_17 (by decide) ?_
    exact o_iret hQ C rfl ho () (by rw [decide_eq_true (by omega)]; rfl) rfl (Nat.le_of_ble_eq_true rfl) (Nat.le_of_ble_eq_true rfl) dX3_hasLoad_21
  · skip
    refine lv_aload_n hx hb dX3_hasLoad_8 rfl (lv_at hl 0 rfl) ?_
    refine o_get (v := .int (nI kd)) C ho 0 0 rfl rfl rfl 1 fX3_20 rfl dX3_hasLoad_9 ?_
    refine lv_iconst (v := nI 4) hx hb dX3_hasLoad_12 (by decide) ?_
    refine o_icmp_ne (tgt := 20) hx hb dX3_hasLoad_13 (by decide) (by first | omega | exact and1_lt _) (by first | omega | exact and1_lt _) (fun c_2 => ?_) (fun c_2 => ?_)
    · skip
      refine lv_iconst (v := nI 0) hx hb dX3_hasLoad_20 (by decide) ?_
      exact o_iret hQ C rfl ho () (by rw [decide_eq_false (by omega)]; rfl) rfl (Nat.le_of_ble_eq_true rfl) (Nat.le_of_ble_eq_true rfl) dX3_hasLoad_21
    · skip
      refine lv_iconst (v := nI 1) hx hb dX3_hasLoad_16 (by decide) ?_
      refine lv_goto (tgt := 21) hx hb dX3_hasLoad_17 (by decide) ?_
      exact o_iret hQ C rfl ho () (by rw [decide_eq_true (by omega)]; rfl) rfl (Nat.le_of_ble_eq_true rfl) (Nat.le_of_ble_eq_true rfl) dX3_hasLoad_21

set_option maxHeartbeats 4000000 in
set_option maxRecDepth 100000 in
theorem c_Coder_makeWhite (la : Launch) (D : va_G) (K : Nat → ClassId) (h : Nat) (ad : Nat) (hw : Nat) (hh : Nat) (hlo : Nat) (hf : Nat) (aw : Nat) (lw : List Bool) (gw : Nat → Int32) (ck : Nat) (qw : lw.length ≤ 168) (qc : ck < 2 ^ 30) : MT la D K yX1_makeWhite cX1_makeWhite 3 none (rmL 3 0 0) [.ref h, .int (nI ck)] [bC K h ad hw hh hlo hf, bB K hw aw 168 lw gw] (Nat → Int32) (fun v _ => v = none) (fun u => [bC K h ad hw hh hlo hf, bB K hw aw 168 (wt ck) u]) := by
  refine Mt.ofW [(0, .ref h), (1, .int (nI ck))] (by decide) rfl (Nat.le_of_ble_eq_true rfl) ?_
  intro p e s m args below meth c A ls H locs Qz hQ C hin hl ho
  have hx := C.1.1
  have hb := C.1.2.1
  refine lv_aload_n hx hb dX1_makeWhite_0 rfl (lv_at hl 0 rfl) ?_
  refine o_get (v := .ref hw) C ho 0 0 rfl rfl rfl 1 fX1_14 rfl dX1_makeWhite_1 ?_
  refine o_callV (wr := [bC K h ad hw hh hlo hf]) (rest := []) (As := []) C (c_Bits_clear la D K hw aw 168 lw gw (by first | omega | assumption | (simp only [List.length_append, List.length_cons, List.length_nil, List.length_modify, List.length_set, nb_len, rb_len, rbp_len, sl_len, slN_len, wh_len, wt_len, hd10_len, hdB_len, thr_len, ldp_len, ldB_len, tens_len, whz_len, majL_len, mf_len, tkL_len, ldY_len, fif_len]; omega) | decide) (by first | omega | assumption | (simp only [List.length_append, List.length_cons, List.length_nil, List.length_modify, List.length_set, nb_len, rb_len, rbp_len, sl_len, slN_len, wh_len, wt_len, hd10_len, hdB_len, thr_len, ldp_len, ldB_len, tens_len, whz_len, majL_len, mf_len, tkL_len, ldY_len, fif_len]; omega) | decide)) kX1_85 vX0_clear (by decide) rfl ho [1, 0] 2 (by decide +kernel) rfl rfl rfl rfl rfl hl.1 rfl (Nat.le_of_ble_eq_true rfl) dX1_makeWhite_4 0 0 rfl rfl (by decide) (fun v u_1 H locs hq ho => ?_)
  obtain rfl := hq
  have ho : ow D vwCl A s.heap H locs [bB K hw aw 168 [] u_1, bC K h ad hw hh hlo hf] := ho
  refine W.eq (g2 := F0 m 7 ls []) rfl ?_
  refine lv_aload_n hx hb dX1_makeWhite_7 rfl (lv_at hl 0 rfl) ?_
  refine o_get (v := .ref hw) C ho 1 0 rfl rfl rfl 1 fX1_14 rfl dX1_makeWhite_8 ?_
  refine lv_bipush (v := nI 64) hx hb dX1_makeWhite_11 (by decide) ?_
  refine lv_iload_n hx hb dX1_makeWhite_13 rfl (lv_at hl 1 rfl) ?_
  refine lv_bipush (v := nI 64) hx hb dX1_makeWhite_14 (by decide) ?_
  refine o_rem hx hb dX1_makeWhite_16 (by omega) (by omega) (by omega) ?_
  refine o_add hx hb dX1_makeWhite_17 ?_
  refine lv_bipush (v := nI 7) hx hb dX1_makeWhite_18 (by decide) ?_
  refine o_callV (wr := [bC K h ad hw hh hlo hf]) (rest := []) (As := [.int (nI (64 + (ck % 64))), .int (nI 7)]) C (c_Bits_addNumber la D K hw aw 168 [] u_1 (64 + (ck % 64)) 7 (by first | omega | assumption | (simp only [List.length_append, List.length_cons, List.length_nil, List.length_modify, List.length_set, nb_len, rb_len, rbp_len, sl_len, slN_len, wh_len, wt_len, hd10_len, hdB_len, thr_len, ldp_len, ldB_len, tens_len, whz_len, majL_len, mf_len, tkL_len, ldY_len, fif_len]; omega) | decide) (by first | omega | assumption | (simp only [List.length_append, List.length_cons, List.length_nil, List.length_modify, List.length_set, nb_len, rb_len, rbp_len, sl_len, slN_len, wh_len, wt_len, hd10_len, hdB_len, thr_len, ldp_len, ldB_len, tens_len, whz_len, majL_len, mf_len, tkL_len, ldY_len, fif_len]; omega) | decide) (by first | omega | assumption | (simp only [List.length_append, List.length_cons, List.length_nil, List.length_modify, List.length_set, nb_len, rb_len, rbp_len, sl_len, slN_len, wh_len, wt_len, hd10_len, hdB_len, thr_len, ldp_len, ldB_len, tens_len, whz_len, majL_len, mf_len, tkL_len, ldY_len, fif_len]; omega) | decide) (by first | omega | assumption | (simp only [List.length_append, List.length_cons, List.length_nil, List.length_modify, List.length_set, nb_len, rb_len, rbp_len, sl_len, slN_len, wh_len, wt_len, hd10_len, hdB_len, thr_len, ldp_len, ldB_len, tens_len, whz_len, majL_len, mf_len, tkL_len, ldY_len, fif_len]; omega) | decide)) kX1_102 vX0_addNumber (by decide) rfl ho [0, 1] 2 (by decide +kernel) rfl rfl rfl rfl rfl hl.1 rfl (Nat.le_of_ble_eq_true rfl) dX1_makeWhite_20 0 0 rfl rfl (by decide) (fun v u_2 H locs hq ho => ?_)
  obtain rfl := hq
  have ho : ow D vwCl A s.heap H locs [bB K hw aw 168 ([] ++ nb (64 + (ck % 64)) 7) u_1, bC K h ad hw hh hlo hf] := ho
  refine W.eq (g2 := F0 m 23 ls []) rfl ?_
  refine lv_bipush (v := nI 7) hx hb dX1_makeWhite_23 (by decide) ?_
  refine lv_istore_n (lv' := [(2, .int (nI 7)), (0, .ref h), (1, .int (nI ck))]) hx hb dX1_makeWhite_25 rfl hl (by decide) rfl (fun ls hl => ?_)
  have e_3 : bB K hw aw 168 ([] ++ nb (64 + (ck % 64)) 7) u_1 = bB K hw aw 168 (wl ck (7 - 7)) u_1 := by rw [List.nil_append]; rfl
  have ho : ow D vwCl A s.heap H locs [bB K hw aw 168 (wl ck (7 - 7)) u_1, bC K h ad hw hh hlo hf] := by rw [← e_3]; exact ho
  have LP26 : ∀ (fuel : Nat) (n : Nat) (gv : Nat → Int32) (_ : 168 - n < fuel) (_ : 7 ≤ n) (_ : n ≤ 168) (H : Heap) (locs : List Loc) (ls : Array Slot) (_ : ow D vwCl A s.heap H locs [bC K h ad hw hh hlo hf, bB K hw aw 168 (wl ck (n - 7)) gv]) (_ : lv_has ls 3 [(0, .ref h), (2, .int (nI n))]), W p la e (rmL 3 0 0) s m args below meth c H locs 0 0 Qz (F0 m 26 ls []) := by
    intro fuel
    induction fuel with
    | zero => intro n gv h0; exact absurd h0 (Nat.not_lt_zero _)
    | succ fuel ih26 =>
      intro n gv hfu hn hn2 H locs ls ho hl
      have hwl := wl_len ck (n - 7)
      refine lv_iload_n hx hb dX1_makeWhite_26 rfl (lv_at hl 1 rfl) ?_
      refine lv_sipush (v := nI 168) hx hb dX1_makeWhite_27 (by decide) ?_
      refine o_icmp_ge (tgt := 68) hx hb dX1_makeWhite_30 (by decide) (by first | omega | exact and1_lt _) (by first | omega | exact and1_lt _) (fun c_4 => ?_) (fun c_4 => ?_)
      · skip
        exact o_vret hQ C ho gv rfl (by rw [show n - 7 = 161 by omega]; rfl) (Nat.le_of_ble_eq_true rfl) (Nat.le_of_ble_eq_true rfl) dX1_makeWhite_68
      · skip
        refine lv_aload_n hx hb dX1_makeWhite_33 rfl (lv_at hl 0 rfl) ?_
        refine o_get (v := .ref hw) C ho 0 0 rfl rfl rfl 1 fX1_14 rfl dX1_makeWhite_34 ?_
        refine lv_aload_n hx hb dX1_makeWhite_37 rfl (lv_at hl 0 rfl) ?_
        refine o_get (v := .ref hw) C ho 0 0 rfl rfl rfl 1 fX1_14 rfl dX1_makeWhite_38 ?_
        refine lv_iload_n hx hb dX1_makeWhite_41 rfl (lv_at hl 1 rfl) ?_
        refine lv_bipush (v := nI 7) hx hb dX1_makeWhite_42 (by decide) ?_
        refine o_sub hx hb dX1_makeWhite_44 (by omega) ?_
        refine o_callV (wr := [bC K h ad hw hh hlo hf]) (rest := [.ref hw]) (As := [.int (nI (n - 7))]) C (c_Bits_at la D K hw aw 168 (wl ck (n - 7)) gv (n - 7) (by first | omega | assumption | (simp only [List.length_append, List.length_cons, List.length_nil, List.length_modify, List.length_set, nb_len, rb_len, rbp_len, sl_len, slN_len, wh_len, wt_len, hd10_len, hdB_len, thr_len, ldp_len, ldB_len, tens_len, whz_len, majL_len, mf_len, tkL_len, ldY_len, fif_len]; omega) | decide) (by first | omega | assumption | (simp only [List.length_append, List.length_cons, List.length_nil, List.length_modify, List.length_set, nb_len, rb_len, rbp_len, sl_len, slN_len, wh_len, wt_len, hd10_len, hdB_len, thr_len, ldp_len, ldB_len, tens_len, whz_len, majL_len, mf_len, tkL_len, ldY_len, fif_len]; omega) | decide) (by first | omega | assumption | (simp only [List.length_append, List.length_cons, List.length_nil, List.length_modify, List.length_set, nb_len, rb_len, rbp_len, sl_len, slN_len, wh_len, wt_len, hd10_len, hdB_len, thr_len, ldp_len, ldB_len, tens_len, whz_len, majL_len, mf_len, tkL_len, ldY_len, fif_len]; omega) | decide)) kX1_106 vX0_at (by decide) rfl ho [1, 0] 2 (by decide +kernel) rfl rfl rfl rfl rfl hl.1 rfl (Nat.le_of_ble_eq_true rfl) dX1_makeWhite_45 0 0 rfl rfl (by decide) (fun v u_5 H locs hq ho => ?_)
        obtain rfl := hq
        have ho : ow D vwCl A s.heap H locs [bB K hw aw 168 (wl ck (n - 7)) gv, bC K h ad hw hh hlo hf] := ho
        refine W.eq (g2 := F0 m 48 ls [.int (bI ((wl ck (n - 7)).getD (n - 7) false)), .ref hw]) rfl ?_
        refine lv_aload_n hx hb dX1_makeWhite_48 rfl (lv_at hl 0 rfl) ?_
        refine o_get (v := .ref hw) C ho 1 0 rfl rfl rfl 1 fX1_14 rfl dX1_makeWhite_49 ?_
        refine lv_iload_n hx hb dX1_makeWhite_52 rfl (lv_at hl 1 rfl) ?_
        refine lv_iconst (v := nI 3) hx hb dX1_makeWhite_53 (by decide) ?_
        refine o_sub hx hb dX1_makeWhite_54 (by omega) ?_
        refine o_callV (wr := [bC K h ad hw hh hlo hf]) (rest := [.int (bI ((wl ck (n - 7)).getD (n - 7) false)), .ref hw]) (As := [.int (nI (n - 3))]) C (c_Bits_at la D K hw aw 168 (wl ck (n - 7)) gv (n - 3) (by first | omega | assumption | (simp only [List.length_append, List.length_cons, List.length_nil, List.length_modify, List.length_set, nb_len, rb_len, rbp_len, sl_len, slN_len, wh_len, wt_len, hd10_len, hdB_len, thr_len, ldp_len, ldB_len, tens_len, whz_len, majL_len, mf_len, tkL_len, ldY_len, fif_len]; omega) | decide) (by first | omega | assumption | (simp only [List.length_append, List.length_cons, List.length_nil, List.length_modify, List.length_set, nb_len, rb_len, rbp_len, sl_len, slN_len, wh_len, wt_len, hd10_len, hdB_len, thr_len, ldp_len, ldB_len, tens_len, whz_len, majL_len, mf_len, tkL_len, ldY_len, fif_len]; omega) | decide) (by first | omega | assumption | (simp only [List.length_append, List.length_cons, List.length_nil, List.length_modify, List.length_set, nb_len, rb_len, rbp_len, sl_len, slN_len, wh_len, wt_len, hd10_len, hdB_len, thr_len, ldp_len, ldB_len, tens_len, whz_len, majL_len, mf_len, tkL_len, ldY_len, fif_len]; omega) | decide)) kX1_106 vX0_at (by decide) rfl ho [0, 1] 2 (by decide +kernel) rfl rfl rfl rfl rfl hl.1 rfl (Nat.le_of_ble_eq_true rfl) dX1_makeWhite_55 0 0 rfl rfl (by decide) (fun v u_6 H locs hq ho => ?_)
        obtain rfl := hq
        have ho : ow D vwCl A s.heap H locs [bB K hw aw 168 (wl ck (n - 7)) gv, bC K h ad hw hh hlo hf] := ho
        refine W.eq (g2 := F0 m 58 ls [.int (bI ((wl ck (n - 7)).getD (n - 3) false)), .int (bI ((wl ck (n - 7)).getD (n - 7) false)), .ref hw]) rfl ?_
        refine o_xorb hx hb dX1_makeWhite_58 ?_
        refine o_callV (wr := [bC K h ad hw hh hlo hf]) (rest := []) (As := [.int (bI (((wl ck (n - 7)).getD (n - 7) false) ^^ ((wl ck (n - 7)).getD (n - 3) false)))]) C (c_Bits_add la D K hw aw 168 (wl ck (n - 7)) gv (((wl ck (n - 7)).getD (n - 7) false) ^^ ((wl ck (n - 7)).getD (n - 3) false)) (by first | omega | assumption | (simp only [List.length_append, List.length_cons, List.length_nil, List.length_modify, List.length_set, nb_len, rb_len, rbp_len, sl_len, slN_len, wh_len, wt_len, hd10_len, hdB_len, thr_len, ldp_len, ldB_len, tens_len, whz_len, majL_len, mf_len, tkL_len, ldY_len, fif_len]; omega) | decide) (by first | omega | assumption | (simp only [List.length_append, List.length_cons, List.length_nil, List.length_modify, List.length_set, nb_len, rb_len, rbp_len, sl_len, slN_len, wh_len, wt_len, hd10_len, hdB_len, thr_len, ldp_len, ldB_len, tens_len, whz_len, majL_len, mf_len, tkL_len, ldY_len, fif_len]; omega) | decide)) kX1_110 vX0_add (by decide) rfl ho [0, 1] 2 (by decide +kernel) rfl rfl rfl rfl rfl hl.1 rfl (Nat.le_of_ble_eq_true rfl) dX1_makeWhite_59 0 0 rfl rfl (by decide) (fun v u_7 H locs hq ho => ?_)
        obtain rfl := hq
        have ho : ow D vwCl A s.heap H locs [bB K hw aw 168 ((wl ck (n - 7)) ++ [(((wl ck (n - 7)).getD (n - 7) false) ^^ ((wl ck (n - 7)).getD (n - 3) false))]) gv, bC K h ad hw hh hlo hf] := ho
        refine W.eq (g2 := F0 m 62 ls []) rfl ?_
        have e_8 : bB K hw aw 168 ((wl ck (n - 7)) ++ [(((wl ck (n - 7)).getD (n - 7) false) ^^ ((wl ck (n - 7)).getD (n - 3) false))]) gv = bB K hw aw 168 (wl ck ((n + 1) - 7)) gv := by rw [wl_step hn]
        have ho : ow D vwCl A s.heap H locs [bB K hw aw 168 (wl ck ((n + 1) - 7)) gv, bC K h ad hw hh hlo hf] := by rw [← e_8]; exact ho
        refine lv_iinc (v := nI (n + 1)) (lv' := [(2, .int (nI (n + 1))), (0, .ref h)]) hx hb dX1_makeWhite_62 hl (k := 1) rfl (iincN _ _) (by decide) rfl (fun ls hl => ?_)
        refine lv_goto (tgt := 26) hx hb dX1_makeWhite_65 (by decide) ?_
        have ho : ow D vwCl A s.heap H locs [bC K h ad hw hh hlo hf, bB K hw aw 168 (wl ck ((n + 1) - 7)) gv] := ho.re [1, 0] 2 (by decide +kernel) rfl rfl
        exact ih26 (n + 1) gv (by omega) (by omega) (by omega) _ _ _ ho (lv_sub hl [1, 0] rfl)
  have ho : ow D vwCl A s.heap H locs [bC K h ad hw hh hlo hf, bB K hw aw 168 (wl ck (7 - 7)) u_1] := ho.re [1, 0] 2 (by decide +kernel) rfl rfl
  exact LP26 (168 - 7 + 1) 7 u_1 (Nat.lt_succ_self _) (by omega) (by omega) _ _ _ ho (lv_sub hl [1, 0] rfl)

set_option maxHeartbeats 4000000 in
set_option maxRecDepth 100000 in
theorem c_Coder_putHead (la : Launch) (D : va_G) (K : Nat → ClassId) (h : Nat) (ad : Nat) (hw : Nat) (hh : Nat) (hlo : Nat) (hf : Nat) (aw : Nat) (lw : List Bool) (gw : Nat → Int32) (ah : Nat) (lh : List Bool) (gh : Nat → Int32) (hr : Nat) (hm : Nat) (kd : Nat) (ak : Bool) (tu : Bool) (be : Bool) (cr : Nat) (ho_ : Nat) (ao : Nat) (lo_ : List Bool) (go : Nat → Int32) (qw : lw.length ≤ 168) (qh : lh.length ≤ 18) (qo : lo_.length + 54 ≤ 204) (qa : ad < 8) (qk : kd < 16) : MT la D K yX1_putHead cX1_putHead 4 none (rmL 3 0 0) [.ref h, .ref hr, .ref ho_] [bC K h ad hw hh hlo hf, bB K hw aw 168 lw gw, bB K hh ah 18 lh gh, bF K hr hm kd ak tu be cr, bB K ho_ ao 204 lo_ go] (Nat → Int32) (fun v _ => v = none) (fun u => [bC K h ad hw hh hlo hf, bB K hw aw 168 lw gw, bB K hh ah 18 (whz (hdB ad kd ak tu) lw 0) u, bF K hr hm kd ak tu be cr, bB K ho_ ao 204 (lo_ ++ thr (whz (hdB ad kd ak tu) lw 0) 54) go]) := by
  refine Mt.ofW [(0, .ref h), (1, .ref hr), (2, .ref ho_)] (by decide) rfl (Nat.le_of_ble_eq_true rfl) ?_
  intro p e s m args below meth c A ls H locs Qz hQ C hin hl ho
  have hx := C.1.1
  have hb := C.1.2.1
  refine lv_aload_n hx hb dX1_putHead_0 rfl (lv_at hl 0 rfl) ?_
  refine o_get (v := .ref hh) C ho 0 0 rfl rfl rfl 2 fX1_20 rfl dX1_putHead_1 ?_
  refine o_callV (wr := [bC K h ad hw hh hlo hf, bB K hw aw 168 lw gw, bF K hr hm kd ak tu be cr, bB K ho_ ao 204 lo_ go]) (rest := []) (As := []) C (c_Bits_clear la D K hh ah 18 lh gh (by first | omega | assumption | (simp only [List.length_append, List.length_cons, List.length_nil, List.length_modify, List.length_set, nb_len, rb_len, rbp_len, sl_len, slN_len, wh_len, wt_len, hd10_len, hdB_len, thr_len, ldp_len, ldB_len, tens_len, whz_len, majL_len, mf_len, tkL_len, ldY_len, fif_len]; omega) | decide) (by first | omega | assumption | (simp only [List.length_append, List.length_cons, List.length_nil, List.length_modify, List.length_set, nb_len, rb_len, rbp_len, sl_len, slN_len, wh_len, wt_len, hd10_len, hdB_len, thr_len, ldp_len, ldB_len, tens_len, whz_len, majL_len, mf_len, tkL_len, ldY_len, fif_len]; omega) | decide)) kX1_85 vX0_clear (by decide) rfl ho [2, 0, 1, 3, 4] 5 (by decide +kernel) rfl rfl rfl rfl rfl hl.1 rfl (Nat.le_of_ble_eq_true rfl) dX1_putHead_4 0 0 rfl rfl (by decide) (fun v u_1 H locs hq ho => ?_)
  obtain rfl := hq
  have ho : ow D vwCl A s.heap H locs [bB K hh ah 18 [] u_1, bC K h ad hw hh hlo hf, bB K hw aw 168 lw gw, bF K hr hm kd ak tu be cr, bB K ho_ ao 204 lo_ go] := ho
  refine W.eq (g2 := F0 m 7 ls []) rfl ?_
  refine lv_aload_n hx hb dX1_putHead_7 rfl (lv_at hl 0 rfl) ?_
  refine o_get (v := .ref hh) C ho 1 0 rfl rfl rfl 2 fX1_20 rfl dX1_putHead_8 ?_
  refine lv_aload_n hx hb dX1_putHead_11 rfl (lv_at hl 0 rfl) ?_
  refine o_get (v := .int (nI ad)) C ho 1 0 rfl rfl rfl 0 fX1_29 rfl dX1_putHead_12 ?_
  refine lv_iconst (v := nI 3) hx hb dX1_putHead_15 (by decide) ?_
  refine o_callV (wr := [bC K h ad hw hh hlo hf, bB K hw aw 168 lw gw, bF K hr hm kd ak tu be cr, bB K ho_ ao 204 lo_ go]) (rest := []) (As := [.int (nI ad), .int (nI 3)]) C (c_Bits_addNumber la D K hh ah 18 [] u_1 ad 3 (by first | omega | assumption | (simp only [List.length_append, List.length_cons, List.length_nil, List.length_modify, List.length_set, nb_len, rb_len, rbp_len, sl_len, slN_len, wh_len, wt_len, hd10_len, hdB_len, thr_len, ldp_len, ldB_len, tens_len, whz_len, majL_len, mf_len, tkL_len, ldY_len, fif_len]; omega) | decide) (by first | omega | assumption | (simp only [List.length_append, List.length_cons, List.length_nil, List.length_modify, List.length_set, nb_len, rb_len, rbp_len, sl_len, slN_len, wh_len, wt_len, hd10_len, hdB_len, thr_len, ldp_len, ldB_len, tens_len, whz_len, majL_len, mf_len, tkL_len, ldY_len, fif_len]; omega) | decide) (by first | omega | assumption | (simp only [List.length_append, List.length_cons, List.length_nil, List.length_modify, List.length_set, nb_len, rb_len, rbp_len, sl_len, slN_len, wh_len, wt_len, hd10_len, hdB_len, thr_len, ldp_len, ldB_len, tens_len, whz_len, majL_len, mf_len, tkL_len, ldY_len, fif_len]; omega) | decide) (by first | omega | assumption | (simp only [List.length_append, List.length_cons, List.length_nil, List.length_modify, List.length_set, nb_len, rb_len, rbp_len, sl_len, slN_len, wh_len, wt_len, hd10_len, hdB_len, thr_len, ldp_len, ldB_len, tens_len, whz_len, majL_len, mf_len, tkL_len, ldY_len, fif_len]; omega) | decide)) kX1_102 vX0_addNumber (by decide) rfl ho [0, 1, 2, 3, 4] 5 (by decide +kernel) rfl rfl rfl rfl rfl hl.1 rfl (Nat.le_of_ble_eq_true rfl) dX1_putHead_16 0 0 rfl rfl (by decide) (fun v u_2 H locs hq ho => ?_)
  obtain rfl := hq
  have ho : ow D vwCl A s.heap H locs [bB K hh ah 18 ([] ++ nb ad 3) u_1, bC K h ad hw hh hlo hf, bB K hw aw 168 lw gw, bF K hr hm kd ak tu be cr, bB K ho_ ao 204 lo_ go] := ho
  refine W.eq (g2 := F0 m 19 ls []) rfl ?_
  refine lv_aload_n hx hb dX1_putHead_19 rfl (lv_at hl 0 rfl) ?_
  refine o_get (v := .ref hh) C ho 1 0 rfl rfl rfl 2 fX1_20 rfl dX1_putHead_20 ?_
  refine lv_aload_n hx hb dX1_putHead_23 rfl (lv_at hl 1 rfl) ?_
  refine o_get (v := .int (nI kd)) C ho 3 0 rfl rfl rfl 1 fX1_50 rfl dX1_putHead_24 ?_
  refine lv_iconst (v := nI 4) hx hb dX1_putHead_27 (by decide) ?_
  refine o_callV (wr := [bC K h ad hw hh hlo hf, bB K hw aw 168 lw gw, bF K hr hm kd ak tu be cr, bB K ho_ ao 204 lo_ go]) (rest := []) (As := [.int (nI kd), .int (nI 4)]) C (c_Bits_addNumber la D K hh ah 18 ([] ++ nb ad 3) u_1 kd 4 (by first | omega | assumption | (simp only [List.length_append, List.length_cons, List.length_nil, List.length_modify, List.length_set, nb_len, rb_len, rbp_len, sl_len, slN_len, wh_len, wt_len, hd10_len, hdB_len, thr_len, ldp_len, ldB_len, tens_len, whz_len, majL_len, mf_len, tkL_len, ldY_len, fif_len]; omega) | decide) (by first | omega | assumption | (simp only [List.length_append, List.length_cons, List.length_nil, List.length_modify, List.length_set, nb_len, rb_len, rbp_len, sl_len, slN_len, wh_len, wt_len, hd10_len, hdB_len, thr_len, ldp_len, ldB_len, tens_len, whz_len, majL_len, mf_len, tkL_len, ldY_len, fif_len]; omega) | decide) (by first | omega | assumption | (simp only [List.length_append, List.length_cons, List.length_nil, List.length_modify, List.length_set, nb_len, rb_len, rbp_len, sl_len, slN_len, wh_len, wt_len, hd10_len, hdB_len, thr_len, ldp_len, ldB_len, tens_len, whz_len, majL_len, mf_len, tkL_len, ldY_len, fif_len]; omega) | decide) (by first | omega | assumption | (simp only [List.length_append, List.length_cons, List.length_nil, List.length_modify, List.length_set, nb_len, rb_len, rbp_len, sl_len, slN_len, wh_len, wt_len, hd10_len, hdB_len, thr_len, ldp_len, ldB_len, tens_len, whz_len, majL_len, mf_len, tkL_len, ldY_len, fif_len]; omega) | decide)) kX1_102 vX0_addNumber (by decide) rfl ho [0, 1, 2, 3, 4] 5 (by decide +kernel) rfl rfl rfl rfl rfl hl.1 rfl (Nat.le_of_ble_eq_true rfl) dX1_putHead_28 0 0 rfl rfl (by decide) (fun v u_3 H locs hq ho => ?_)
  obtain rfl := hq
  have ho : ow D vwCl A s.heap H locs [bB K hh ah 18 (([] ++ nb ad 3) ++ nb kd 4) u_1, bC K h ad hw hh hlo hf, bB K hw aw 168 lw gw, bF K hr hm kd ak tu be cr, bB K ho_ ao 204 lo_ go] := ho
  refine W.eq (g2 := F0 m 31 ls []) rfl ?_
  refine lv_aload_n hx hb dX1_putHead_31 rfl (lv_at hl 0 rfl) ?_
  refine o_get (v := .ref hh) C ho 1 0 rfl rfl rfl 2 fX1_20 rfl dX1_putHead_32 ?_
  refine lv_iconst (v := nI 1) hx hb dX1_putHead_35 (by decide) ?_
  refine o_callV (wr := [bC K h ad hw hh hlo hf, bB K hw aw 168 lw gw, bF K hr hm kd ak tu be cr, bB K ho_ ao 204 lo_ go]) (rest := []) (As := [.int (nI 1)]) C (c_Bits_add la D K hh ah 18 (([] ++ nb ad 3) ++ nb kd 4) u_1 true (by first | omega | assumption | (simp only [List.length_append, List.length_cons, List.length_nil, List.length_modify, List.length_set, nb_len, rb_len, rbp_len, sl_len, slN_len, wh_len, wt_len, hd10_len, hdB_len, thr_len, ldp_len, ldB_len, tens_len, whz_len, majL_len, mf_len, tkL_len, ldY_len, fif_len]; omega) | decide) (by first | omega | assumption | (simp only [List.length_append, List.length_cons, List.length_nil, List.length_modify, List.length_set, nb_len, rb_len, rbp_len, sl_len, slN_len, wh_len, wt_len, hd10_len, hdB_len, thr_len, ldp_len, ldB_len, tens_len, whz_len, majL_len, mf_len, tkL_len, ldY_len, fif_len]; omega) | decide)) kX1_110 vX0_add (by decide) rfl ho [0, 1, 2, 3, 4] 5 (by decide +kernel) rfl rfl rfl rfl rfl hl.1 rfl (Nat.le_of_ble_eq_true rfl) dX1_putHead_36 0 0 rfl rfl (by decide) (fun v u_4 H locs hq ho => ?_)
  obtain rfl := hq
  have ho : ow D vwCl A s.heap H locs [bB K hh ah 18 ((([] ++ nb ad 3) ++ nb kd 4) ++ [true]) u_1, bC K h ad hw hh hlo hf, bB K hw aw 168 lw gw, bF K hr hm kd ak tu be cr, bB K ho_ ao 204 lo_ go] := ho
  refine W.eq (g2 := F0 m 39 ls []) rfl ?_
  refine lv_aload_n hx hb dX1_putHead_39 rfl (lv_at hl 0 rfl) ?_
  refine o_get (v := .ref hh) C ho 1 0 rfl rfl rfl 2 fX1_20 rfl dX1_putHead_40 ?_
  refine lv_aload_n hx hb dX1_putHead_43 rfl (lv_at hl 1 rfl) ?_
  refine o_get (v := .int (bI ak)) C ho 3 0 rfl rfl rfl 2 fX1_113 rfl dX1_putHead_44 ?_
  refine o_callV (wr := [bC K h ad hw hh hlo hf, bB K hw aw 168 lw gw, bF K hr hm kd ak tu be cr, bB K ho_ ao 204 lo_ go]) (rest := []) (As := [.int (bI ak)]) C (c_Bits_add la D K hh ah 18 ((([] ++ nb ad 3) ++ nb kd 4) ++ [true]) u_1 ak (by first | omega | assumption | (simp only [List.length_append, List.length_cons, List.length_nil, List.length_modify, List.length_set, nb_len, rb_len, rbp_len, sl_len, slN_len, wh_len, wt_len, hd10_len, hdB_len, thr_len, ldp_len, ldB_len, tens_len, whz_len, majL_len, mf_len, tkL_len, ldY_len, fif_len]; omega) | decide) (by first | omega | assumption | (simp only [List.length_append, List.length_cons, List.length_nil, List.length_modify, List.length_set, nb_len, rb_len, rbp_len, sl_len, slN_len, wh_len, wt_len, hd10_len, hdB_len, thr_len, ldp_len, ldB_len, tens_len, whz_len, majL_len, mf_len, tkL_len, ldY_len, fif_len]; omega) | decide)) kX1_110 vX0_add (by decide) rfl ho [0, 1, 2, 3, 4] 5 (by decide +kernel) rfl rfl rfl rfl rfl hl.1 rfl (Nat.le_of_ble_eq_true rfl) dX1_putHead_47 0 0 rfl rfl (by decide) (fun v u_5 H locs hq ho => ?_)
  obtain rfl := hq
  have ho : ow D vwCl A s.heap H locs [bB K hh ah 18 (((([] ++ nb ad 3) ++ nb kd 4) ++ [true]) ++ [ak]) u_1, bC K h ad hw hh hlo hf, bB K hw aw 168 lw gw, bF K hr hm kd ak tu be cr, bB K ho_ ao 204 lo_ go] := ho
  refine W.eq (g2 := F0 m 50 ls []) rfl ?_
  refine lv_aload_n hx hb dX1_putHead_50 rfl (lv_at hl 0 rfl) ?_
  refine o_get (v := .ref hh) C ho 1 0 rfl rfl rfl 2 fX1_20 rfl dX1_putHead_51 ?_
  refine lv_aload_n hx hb dX1_putHead_54 rfl (lv_at hl 1 rfl) ?_
  refine o_get (v := .int (bI tu)) C ho 3 0 rfl rfl rfl 3 fX1_116 rfl dX1_putHead_55 ?_
  refine o_callV (wr := [bC K h ad hw hh hlo hf, bB K hw aw 168 lw gw, bF K hr hm kd ak tu be cr, bB K ho_ ao 204 lo_ go]) (rest := []) (As := [.int (bI tu)]) C (c_Bits_add la D K hh ah 18 (((([] ++ nb ad 3) ++ nb kd 4) ++ [true]) ++ [ak]) u_1 tu (by first | omega | assumption | (simp only [List.length_append, List.length_cons, List.length_nil, List.length_modify, List.length_set, nb_len, rb_len, rbp_len, sl_len, slN_len, wh_len, wt_len, hd10_len, hdB_len, thr_len, ldp_len, ldB_len, tens_len, whz_len, majL_len, mf_len, tkL_len, ldY_len, fif_len]; omega) | decide) (by first | omega | assumption | (simp only [List.length_append, List.length_cons, List.length_nil, List.length_modify, List.length_set, nb_len, rb_len, rbp_len, sl_len, slN_len, wh_len, wt_len, hd10_len, hdB_len, thr_len, ldp_len, ldB_len, tens_len, whz_len, majL_len, mf_len, tkL_len, ldY_len, fif_len]; omega) | decide)) kX1_110 vX0_add (by decide) rfl ho [0, 1, 2, 3, 4] 5 (by decide +kernel) rfl rfl rfl rfl rfl hl.1 rfl (Nat.le_of_ble_eq_true rfl) dX1_putHead_58 0 0 rfl rfl (by decide) (fun v u_6 H locs hq ho => ?_)
  obtain rfl := hq
  have ho : ow D vwCl A s.heap H locs [bB K hh ah 18 ((((([] ++ nb ad 3) ++ nb kd 4) ++ [true]) ++ [ak]) ++ [tu]) u_1, bC K h ad hw hh hlo hf, bB K hw aw 168 lw gw, bF K hr hm kd ak tu be cr, bB K ho_ ao 204 lo_ go] := ho
  refine W.eq (g2 := F0 m 61 ls []) rfl ?_
  have e_7 : bB K hh ah 18 ((((([] ++ nb ad 3) ++ nb kd 4) ++ [true]) ++ [ak]) ++ [tu]) u_1 = bB K hh ah 18 (hd10 ad kd ak tu) u_1 := rfl
  have ho : ow D vwCl A s.heap H locs [bB K hh ah 18 (hd10 ad kd ak tu) u_1, bC K h ad hw hh hlo hf, bB K hw aw 168 lw gw, bF K hr hm kd ak tu be cr, bB K ho_ ao 204 lo_ go] := by rw [← e_7]; exact ho
  refine lv_aload_n hx hb dX1_putHead_61 rfl (lv_at hl 0 rfl) ?_
  refine o_get (v := .ref hh) C ho 1 0 rfl rfl rfl 2 fX1_20 rfl dX1_putHead_62 ?_
  refine lv_aload_n hx hb dX1_putHead_65 rfl (lv_at hl 0 rfl) ?_
  refine o_get (v := .ref hh) C ho 1 0 rfl rfl rfl 2 fX1_20 rfl dX1_putHead_66 ?_
  refine lv_bipush (v := nI 10) hx hb dX1_putHead_69 (by decide) ?_
  refine lv_sipush (v := nI 423) hx hb dX1_putHead_71 (by decide) ?_
  refine lv_bipush (v := nI 8) hx hb dX1_putHead_74 (by decide) ?_
  refine o_callV (wr := [bC K h ad hw hh hlo hf, bB K hw aw 168 lw gw, bF K hr hm kd ak tu be cr, bB K ho_ ao 204 lo_ go]) (rest := [.ref hh]) (As := [.int (nI 10), .int (nI 423), .int (nI 8)]) C (c_Bits_remainderOf la D K hh ah 18 (hd10 ad kd ak tu) u_1 10 423 8 (by first | omega | assumption | (simp only [List.length_append, List.length_cons, List.length_nil, List.length_modify, List.length_set, nb_len, rb_len, rbp_len, sl_len, slN_len, wh_len, wt_len, hd10_len, hdB_len, thr_len, ldp_len, ldB_len, tens_len, whz_len, majL_len, mf_len, tkL_len, ldY_len, fif_len]; omega) | decide) (by first | omega | assumption | (simp only [List.length_append, List.length_cons, List.length_nil, List.length_modify, List.length_set, nb_len, rb_len, rbp_len, sl_len, slN_len, wh_len, wt_len, hd10_len, hdB_len, thr_len, ldp_len, ldB_len, tens_len, whz_len, majL_len, mf_len, tkL_len, ldY_len, fif_len]; omega) | decide) (by first | omega | assumption | (simp only [List.length_append, List.length_cons, List.length_nil, List.length_modify, List.length_set, nb_len, rb_len, rbp_len, sl_len, slN_len, wh_len, wt_len, hd10_len, hdB_len, thr_len, ldp_len, ldB_len, tens_len, whz_len, majL_len, mf_len, tkL_len, ldY_len, fif_len]; omega) | decide) (by first | omega | assumption | (simp only [List.length_append, List.length_cons, List.length_nil, List.length_modify, List.length_set, nb_len, rb_len, rbp_len, sl_len, slN_len, wh_len, wt_len, hd10_len, hdB_len, thr_len, ldp_len, ldB_len, tens_len, whz_len, majL_len, mf_len, tkL_len, ldY_len, fif_len]; omega) | decide) (by first | omega | assumption | (simp only [List.length_append, List.length_cons, List.length_nil, List.length_modify, List.length_set, nb_len, rb_len, rbp_len, sl_len, slN_len, wh_len, wt_len, hd10_len, hdB_len, thr_len, ldp_len, ldB_len, tens_len, whz_len, majL_len, mf_len, tkL_len, ldY_len, fif_len]; omega) | decide) (by first | omega | assumption | (simp only [List.length_append, List.length_cons, List.length_nil, List.length_modify, List.length_set, nb_len, rb_len, rbp_len, sl_len, slN_len, wh_len, wt_len, hd10_len, hdB_len, thr_len, ldp_len, ldB_len, tens_len, whz_len, majL_len, mf_len, tkL_len, ldY_len, fif_len]; omega) | decide)) kX1_119 vX0_remainderOf (by decide) rfl ho [0, 1, 2, 3, 4] 5 (by decide +kernel) rfl rfl rfl rfl rfl hl.1 rfl (Nat.le_of_ble_eq_true rfl) dX1_putHead_76 0 0 rfl rfl (by decide) (fun v u_8 H locs hq ho => ?_)
  obtain rfl := hq
  have ho : ow D vwCl A s.heap H locs [bB K hh ah 18 (hd10 ad kd ak tu) u_1, bC K h ad hw hh hlo hf, bB K hw aw 168 lw gw, bF K hr hm kd ak tu be cr, bB K ho_ ao 204 lo_ go] := ho
  refine W.eq (g2 := F0 m 79 ls [.int (nI (crc 423 8 (sl (hd10 ad kd ak tu) 0 10))), .ref hh]) rfl ?_
  have hcr := crc423 (sl (hd10 ad kd ak tu) 0 10)
  refine lv_bipush (v := nI 8) hx hb dX1_putHead_79 (by decide) ?_
  refine o_callV (wr := [bC K h ad hw hh hlo hf, bB K hw aw 168 lw gw, bF K hr hm kd ak tu be cr, bB K ho_ ao 204 lo_ go]) (rest := []) (As := [.int (nI (crc 423 8 (sl (hd10 ad kd ak tu) 0 10))), .int (nI 8)]) C (c_Bits_addRemainder la D K hh ah 18 (hd10 ad kd ak tu) u_1 (crc 423 8 (sl (hd10 ad kd ak tu) 0 10)) 8 (by first | omega | assumption | (simp only [List.length_append, List.length_cons, List.length_nil, List.length_modify, List.length_set, nb_len, rb_len, rbp_len, sl_len, slN_len, wh_len, wt_len, hd10_len, hdB_len, thr_len, ldp_len, ldB_len, tens_len, whz_len, majL_len, mf_len, tkL_len, ldY_len, fif_len]; omega) | decide) (by first | omega | assumption | (simp only [List.length_append, List.length_cons, List.length_nil, List.length_modify, List.length_set, nb_len, rb_len, rbp_len, sl_len, slN_len, wh_len, wt_len, hd10_len, hdB_len, thr_len, ldp_len, ldB_len, tens_len, whz_len, majL_len, mf_len, tkL_len, ldY_len, fif_len]; omega) | decide) (by first | omega | assumption | (simp only [List.length_append, List.length_cons, List.length_nil, List.length_modify, List.length_set, nb_len, rb_len, rbp_len, sl_len, slN_len, wh_len, wt_len, hd10_len, hdB_len, thr_len, ldp_len, ldB_len, tens_len, whz_len, majL_len, mf_len, tkL_len, ldY_len, fif_len]; omega) | decide) (by first | omega | assumption | (simp only [List.length_append, List.length_cons, List.length_nil, List.length_modify, List.length_set, nb_len, rb_len, rbp_len, sl_len, slN_len, wh_len, wt_len, hd10_len, hdB_len, thr_len, ldp_len, ldB_len, tens_len, whz_len, majL_len, mf_len, tkL_len, ldY_len, fif_len]; omega) | decide) (by first | omega | assumption | (simp only [List.length_append, List.length_cons, List.length_nil, List.length_modify, List.length_set, nb_len, rb_len, rbp_len, sl_len, slN_len, wh_len, wt_len, hd10_len, hdB_len, thr_len, ldp_len, ldB_len, tens_len, whz_len, majL_len, mf_len, tkL_len, ldY_len, fif_len]; omega) | decide)) kX1_123 vX0_addRemainder (by decide) rfl ho [0, 1, 2, 3, 4] 5 (by decide +kernel) rfl rfl rfl rfl rfl hl.1 rfl (Nat.le_of_ble_eq_true rfl) dX1_putHead_81 0 0 rfl rfl (by decide) (fun v u_9 H locs hq ho => ?_)
  obtain rfl := hq
  have ho : ow D vwCl A s.heap H locs [bB K hh ah 18 ((hd10 ad kd ak tu) ++ rb (crc 423 8 (sl (hd10 ad kd ak tu) 0 10)) 8) u_1, bC K h ad hw hh hlo hf, bB K hw aw 168 lw gw, bF K hr hm kd ak tu be cr, bB K ho_ ao 204 lo_ go] := ho
  refine W.eq (g2 := F0 m 84 ls []) rfl ?_
  have e_10 : bB K hh ah 18 ((hd10 ad kd ak tu) ++ rb (crc 423 8 (sl (hd10 ad kd ak tu) 0 10)) 8) u_1 = bB K hh ah 18 (hdB ad kd ak tu) u_1 := rfl
  have ho : ow D vwCl A s.heap H locs [bB K hh ah 18 (hdB ad kd ak tu) u_1, bC K h ad hw hh hlo hf, bB K hw aw 168 lw gw, bF K hr hm kd ak tu be cr, bB K ho_ ao 204 lo_ go] := by rw [← e_10]; exact ho
  refine lv_aload_n hx hb dX1_putHead_84 rfl (lv_at hl 0 rfl) ?_
  refine o_get (v := .ref hh) C ho 1 0 rfl rfl rfl 2 fX1_20 rfl dX1_putHead_85 ?_
  refine lv_aload_n hx hb dX1_putHead_88 rfl (lv_at hl 0 rfl) ?_
  refine o_get (v := .ref hw) C ho 1 0 rfl rfl rfl 1 fX1_14 rfl dX1_putHead_89 ?_
  refine lv_iconst (v := nI 0) hx hb dX1_putHead_92 (by decide) ?_
  refine o_callV (wr := [bC K h ad hw hh hlo hf, bF K hr hm kd ak tu be cr, bB K ho_ ao 204 lo_ go]) (rest := []) (As := [.ref hw, .int (nI 0)]) C (c_Bits_whiten la D K hh ah 18 (hdB ad kd ak tu) u_1 hw aw 168 lw gw 0 (by first | omega | assumption | (simp only [List.length_append, List.length_cons, List.length_nil, List.length_modify, List.length_set, nb_len, rb_len, rbp_len, sl_len, slN_len, wh_len, wt_len, hd10_len, hdB_len, thr_len, ldp_len, ldB_len, tens_len, whz_len, majL_len, mf_len, tkL_len, ldY_len, fif_len]; omega) | decide) (by first | omega | assumption | (simp only [List.length_append, List.length_cons, List.length_nil, List.length_modify, List.length_set, nb_len, rb_len, rbp_len, sl_len, slN_len, wh_len, wt_len, hd10_len, hdB_len, thr_len, ldp_len, ldB_len, tens_len, whz_len, majL_len, mf_len, tkL_len, ldY_len, fif_len]; omega) | decide) (by first | omega | assumption | (simp only [List.length_append, List.length_cons, List.length_nil, List.length_modify, List.length_set, nb_len, rb_len, rbp_len, sl_len, slN_len, wh_len, wt_len, hd10_len, hdB_len, thr_len, ldp_len, ldB_len, tens_len, whz_len, majL_len, mf_len, tkL_len, ldY_len, fif_len]; omega) | decide) (by first | omega | assumption | (simp only [List.length_append, List.length_cons, List.length_nil, List.length_modify, List.length_set, nb_len, rb_len, rbp_len, sl_len, slN_len, wh_len, wt_len, hd10_len, hdB_len, thr_len, ldp_len, ldB_len, tens_len, whz_len, majL_len, mf_len, tkL_len, ldY_len, fif_len]; omega) | decide) (by first | omega | assumption | (simp only [List.length_append, List.length_cons, List.length_nil, List.length_modify, List.length_set, nb_len, rb_len, rbp_len, sl_len, slN_len, wh_len, wt_len, hd10_len, hdB_len, thr_len, ldp_len, ldB_len, tens_len, whz_len, majL_len, mf_len, tkL_len, ldY_len, fif_len]; omega) | decide)) kX1_94 vX0_whiten (by decide) rfl ho [0, 2, 1, 3, 4] 5 (by decide +kernel) rfl rfl rfl rfl rfl hl.1 rfl (Nat.le_of_ble_eq_true rfl) dX1_putHead_93 0 0 rfl rfl (by decide) (fun v u_11 H locs hq ho => ?_)
  obtain rfl := hq
  have ho : ow D vwCl A s.heap H locs [bB K hh ah 18 (wh (hdB ad kd ak tu) lw 0 (hdB ad kd ak tu).length) u_1, bB K hw aw 168 lw gw, bC K h ad hw hh hlo hf, bF K hr hm kd ak tu be cr, bB K ho_ ao 204 lo_ go] := ho
  refine W.eq (g2 := F0 m 96 ls []) rfl ?_
  have e_12 : bB K hh ah 18 (wh (hdB ad kd ak tu) lw 0 (hdB ad kd ak tu).length) u_1 = bB K hh ah 18 (whz (hdB ad kd ak tu) lw 0) u_1 := rfl
  have ho : ow D vwCl A s.heap H locs [bB K hh ah 18 (whz (hdB ad kd ak tu) lw 0) u_1, bB K hw aw 168 lw gw, bC K h ad hw hh hlo hf, bF K hr hm kd ak tu be cr, bB K ho_ ao 204 lo_ go] := by rw [← e_12]; exact ho
  refine lv_iconst (v := nI 0) hx hb dX1_putHead_96 (by decide) ?_
  refine lv_istore_n (lv' := [(3, .int (nI 0)), (0, .ref h), (1, .ref hr), (2, .ref ho_)]) hx hb dX1_putHead_97 rfl hl (by decide) rfl (fun ls hl => ?_)
  have e_13 : bB K ho_ ao 204 lo_ go = bB K ho_ ao 204 (lo_ ++ thr (whz (hdB ad kd ak tu) lw 0) 0) go := by rw [show thr (whz (hdB ad kd ak tu) lw 0) 0 = [] from rfl, List.append_nil]
  have ho : ow D vwCl A s.heap H locs [bB K hh ah 18 (whz (hdB ad kd ak tu) lw 0) u_1, bB K hw aw 168 lw gw, bC K h ad hw hh hlo hf, bF K hr hm kd ak tu be cr, bB K ho_ ao 204 (lo_ ++ thr (whz (hdB ad kd ak tu) lw 0) 0) go] := by rw [← e_13]; exact ho
  have LP98 : ∀ (fuel : Nat) (i : Nat) (gv : Nat → Int32) (_ : 54 - i < fuel) (_ : i ≤ 54) (H : Heap) (locs : List Loc) (ls : Array Slot) (_ : ow D vwCl A s.heap H locs [bC K h ad hw hh hlo hf, bB K hw aw 168 lw gw, bB K hh ah 18 (whz (hdB ad kd ak tu) lw 0) gv, bF K hr hm kd ak tu be cr, bB K ho_ ao 204 (lo_ ++ thr (whz (hdB ad kd ak tu) lw 0) i) go]) (_ : lv_has ls 4 [(0, .ref h), (2, .ref ho_), (3, .int (nI i))]), W p la e (rmL 3 0 0) s m args below meth c H locs 0 0 Qz (F0 m 98 ls []) := by
    intro fuel
    induction fuel with
    | zero => intro i gv h0; exact absurd h0 (Nat.not_lt_zero _)
    | succ fuel ih98 =>
      intro i gv hfu hi H locs ls ho hl
      have hwz : (whz (hdB ad kd ak tu) lw 0).length = 18 := by rw [whz_len, hdB_len]
      refine lv_iload_n hx hb dX1_putHead_98 rfl (lv_at hl 2 rfl) ?_
      refine lv_bipush (v := nI 54) hx hb dX1_putHead_99 (by decide) ?_
      refine o_icmp_ge (tgt := 124) hx hb dX1_putHead_101 (by decide) (by first | omega | exact and1_lt _) (by first | omega | exact and1_lt _) (fun c_14 => ?_) (fun c_14 => ?_)
      · skip
        exact o_vret hQ C ho gv rfl (by rw [show i = 54 by omega]) (Nat.le_of_ble_eq_true rfl) (Nat.le_of_ble_eq_true rfl) dX1_putHead_124
      · skip
        refine lv_aload_n hx hb dX1_putHead_104 rfl (lv_at hl 1 rfl) ?_
        refine lv_aload_n hx hb dX1_putHead_105 rfl (lv_at hl 0 rfl) ?_
        refine o_get (v := .ref hh) C ho 0 0 rfl rfl rfl 2 fX1_20 rfl dX1_putHead_106 ?_
        refine lv_iload_n hx hb dX1_putHead_109 rfl (lv_at hl 2 rfl) ?_
        refine lv_iconst (v := nI 3) hx hb dX1_putHead_110 (by decide) ?_
        refine o_div hx hb dX1_putHead_111 (by omega) (by omega) (by omega) ?_
        refine o_callV (wr := [bC K h ad hw hh hlo hf, bB K hw aw 168 lw gw, bF K hr hm kd ak tu be cr, bB K ho_ ao 204 (lo_ ++ thr (whz (hdB ad kd ak tu) lw 0) i) go]) (rest := [.ref ho_]) (As := [.int (nI (i / 3))]) C (c_Bits_at la D K hh ah 18 (whz (hdB ad kd ak tu) lw 0) gv (i / 3) (by first | omega | assumption | (simp only [List.length_append, List.length_cons, List.length_nil, List.length_modify, List.length_set, nb_len, rb_len, rbp_len, sl_len, slN_len, wh_len, wt_len, hd10_len, hdB_len, thr_len, ldp_len, ldB_len, tens_len, whz_len, majL_len, mf_len, tkL_len, ldY_len, fif_len]; omega) | decide) (by first | omega | assumption | (simp only [List.length_append, List.length_cons, List.length_nil, List.length_modify, List.length_set, nb_len, rb_len, rbp_len, sl_len, slN_len, wh_len, wt_len, hd10_len, hdB_len, thr_len, ldp_len, ldB_len, tens_len, whz_len, majL_len, mf_len, tkL_len, ldY_len, fif_len]; omega) | decide) (by first | omega | assumption | (simp only [List.length_append, List.length_cons, List.length_nil, List.length_modify, List.length_set, nb_len, rb_len, rbp_len, sl_len, slN_len, wh_len, wt_len, hd10_len, hdB_len, thr_len, ldp_len, ldB_len, tens_len, whz_len, majL_len, mf_len, tkL_len, ldY_len, fif_len]; omega) | decide)) kX1_106 vX0_at (by decide) rfl ho [2, 0, 1, 3, 4] 5 (by decide +kernel) rfl rfl rfl rfl rfl hl.1 rfl (Nat.le_of_ble_eq_true rfl) dX1_putHead_112 0 0 rfl rfl (by decide) (fun v u_15 H locs hq ho => ?_)
        obtain rfl := hq
        have ho : ow D vwCl A s.heap H locs [bB K hh ah 18 (whz (hdB ad kd ak tu) lw 0) gv, bC K h ad hw hh hlo hf, bB K hw aw 168 lw gw, bF K hr hm kd ak tu be cr, bB K ho_ ao 204 (lo_ ++ thr (whz (hdB ad kd ak tu) lw 0) i) go] := ho
        refine W.eq (g2 := F0 m 115 ls [.int (bI ((whz (hdB ad kd ak tu) lw 0).getD (i / 3) false)), .ref ho_]) rfl ?_
        refine o_callV (wr := [bB K hh ah 18 (whz (hdB ad kd ak tu) lw 0) gv, bC K h ad hw hh hlo hf, bB K hw aw 168 lw gw, bF K hr hm kd ak tu be cr]) (rest := []) (As := [.int (bI ((whz (hdB ad kd ak tu) lw 0).getD (i / 3) false))]) C (c_Bits_add la D K ho_ ao 204 (lo_ ++ thr (whz (hdB ad kd ak tu) lw 0) i) go ((whz (hdB ad kd ak tu) lw 0).getD (i / 3) false) (by first | omega | assumption | (simp only [List.length_append, List.length_cons, List.length_nil, List.length_modify, List.length_set, nb_len, rb_len, rbp_len, sl_len, slN_len, wh_len, wt_len, hd10_len, hdB_len, thr_len, ldp_len, ldB_len, tens_len, whz_len, majL_len, mf_len, tkL_len, ldY_len, fif_len]; omega) | decide) (by first | omega | assumption | (simp only [List.length_append, List.length_cons, List.length_nil, List.length_modify, List.length_set, nb_len, rb_len, rbp_len, sl_len, slN_len, wh_len, wt_len, hd10_len, hdB_len, thr_len, ldp_len, ldB_len, tens_len, whz_len, majL_len, mf_len, tkL_len, ldY_len, fif_len]; omega) | decide)) kX1_110 vX0_add (by decide) rfl ho [4, 0, 1, 2, 3] 5 (by decide +kernel) rfl rfl rfl rfl rfl hl.1 rfl (Nat.le_of_ble_eq_true rfl) dX1_putHead_115 0 0 rfl rfl (by decide) (fun v u_16 H locs hq ho => ?_)
        obtain rfl := hq
        have ho : ow D vwCl A s.heap H locs [bB K ho_ ao 204 ((lo_ ++ thr (whz (hdB ad kd ak tu) lw 0) i) ++ [((whz (hdB ad kd ak tu) lw 0).getD (i / 3) false)]) go, bB K hh ah 18 (whz (hdB ad kd ak tu) lw 0) gv, bC K h ad hw hh hlo hf, bB K hw aw 168 lw gw, bF K hr hm kd ak tu be cr] := ho
        refine W.eq (g2 := F0 m 118 ls []) rfl ?_
        have e_17 : bB K ho_ ao 204 ((lo_ ++ thr (whz (hdB ad kd ak tu) lw 0) i) ++ [((whz (hdB ad kd ak tu) lw 0).getD (i / 3) false)]) go = bB K ho_ ao 204 (lo_ ++ thr (whz (hdB ad kd ak tu) lw 0) (i + 1)) go := by rw [thr_succ, List.append_assoc]
        have ho : ow D vwCl A s.heap H locs [bB K ho_ ao 204 (lo_ ++ thr (whz (hdB ad kd ak tu) lw 0) (i + 1)) go, bB K hh ah 18 (whz (hdB ad kd ak tu) lw 0) gv, bC K h ad hw hh hlo hf, bB K hw aw 168 lw gw, bF K hr hm kd ak tu be cr] := by rw [← e_17]; exact ho
        refine lv_iinc (v := nI (i + 1)) (lv' := [(3, .int (nI (i + 1))), (0, .ref h), (2, .ref ho_)]) hx hb dX1_putHead_118 hl (k := 2) rfl (iincN _ _) (by decide) rfl (fun ls hl => ?_)
        refine lv_goto (tgt := 98) hx hb dX1_putHead_121 (by decide) ?_
        have ho : ow D vwCl A s.heap H locs [bC K h ad hw hh hlo hf, bB K hw aw 168 lw gw, bB K hh ah 18 (whz (hdB ad kd ak tu) lw 0) gv, bF K hr hm kd ak tu be cr, bB K ho_ ao 204 (lo_ ++ thr (whz (hdB ad kd ak tu) lw 0) (i + 1)) go] := ho.re [2, 3, 1, 4, 0] 5 (by decide +kernel) rfl rfl
        exact ih98 (i + 1) gv (by omega) (by omega) _ _ _ ho (lv_sub hl [1, 2, 0] rfl)
  have ho : ow D vwCl A s.heap H locs [bC K h ad hw hh hlo hf, bB K hw aw 168 lw gw, bB K hh ah 18 (whz (hdB ad kd ak tu) lw 0) u_1, bF K hr hm kd ak tu be cr, bB K ho_ ao 204 (lo_ ++ thr (whz (hdB ad kd ak tu) lw 0) 0) go] := ho.re [2, 1, 0, 3, 4] 5 (by decide +kernel) rfl rfl
  exact LP98 (54 - 0 + 1) 0 u_1 (Nat.lt_succ_self _) (by omega) _ _ _ ho (lv_sub hl [1, 3, 0] rfl)

set_option maxHeartbeats 4000000 in
set_option maxRecDepth 100000 in
theorem c_Coder_makeLoad2 (la : Launch) (D : va_G) (K : Nat → ClassId) (h : Nat) (ad : Nat) (hw : Nat) (hh : Nat) (hlo : Nat) (hf : Nat) (aw : Nat) (lw : List Bool) (gw : Nat → Int32) (alo : Nat) (llo : List Bool) (glo : Nat → Int32) (hr : Nat) (hm : Nat) (kd : Nat) (ak : Bool) (tu : Bool) (cr : Nat) (am : Nat) (lm : List Nat) (gm : Nat → Int32) (qw : lw.length ≤ 168) (ql : llo.length ≤ 150) (qm : lm.length ≤ 13) (qb : ∀ j, lm.getD j 0 < 256) : MT la D K yX1_makeLoad cX1_makeLoad 3 none (rmL 3 0 0) [.ref h, .ref hr] [bC K h ad hw hh hlo hf, bB K hw aw 168 lw gw, bB K hlo alo 150 llo glo, bF K hr hm kd ak tu true cr, bM K hm am 63 lm gm] (Nat → Int32) (fun v _ => v = none) (fun u => [bC K h ad hw hh hlo hf, bB K hw aw 168 lw gw, bB K hlo alo 150 (whz (ldB 2 lm) lw 18) u, bF K hr hm kd ak tu true cr, bM K hm am 63 lm gm]) := by
  refine Mt.ofW [(0, .ref h), (1, .ref hr)] (by decide) rfl (Nat.le_of_ble_eq_true rfl) ?_
  intro p e s m args below meth c A ls H locs Qz hQ C hin hl ho
  have hx := C.1.1
  have hb := C.1.2.1
  refine lv_aload_n hx hb dX1_makeLoad_0 rfl (lv_at hl 0 rfl) ?_
  refine o_get (v := .ref hlo) C ho 0 0 rfl rfl rfl 3 fX1_23 rfl dX1_makeLoad_1 ?_
  refine o_callV (wr := [bC K h ad hw hh hlo hf, bB K hw aw 168 lw gw, bF K hr hm kd ak tu true cr, bM K hm am 63 lm gm]) (rest := []) (As := []) C (c_Bits_clear la D K hlo alo 150 llo glo (by first | omega | assumption | (simp only [List.length_append, List.length_cons, List.length_nil, List.length_modify, List.length_set, nb_len, rb_len, rbp_len, sl_len, slN_len, wh_len, wt_len, hd10_len, hdB_len, thr_len, ldp_len, ldB_len, tens_len, whz_len, majL_len, mf_len, tkL_len, ldY_len, fif_len]; omega) | decide) (by first | omega | assumption | (simp only [List.length_append, List.length_cons, List.length_nil, List.length_modify, List.length_set, nb_len, rb_len, rbp_len, sl_len, slN_len, wh_len, wt_len, hd10_len, hdB_len, thr_len, ldp_len, ldB_len, tens_len, whz_len, majL_len, mf_len, tkL_len, ldY_len, fif_len]; omega) | decide)) kX1_85 vX0_clear (by decide) rfl ho [2, 0, 1, 3, 4] 5 (by decide +kernel) rfl rfl rfl rfl rfl hl.1 rfl (Nat.le_of_ble_eq_true rfl) dX1_makeLoad_4 0 0 rfl rfl (by decide) (fun v u_1 H locs hq ho => ?_)
  obtain rfl := hq
  have ho : ow D vwCl A s.heap H locs [bB K hlo alo 150 [] u_1, bC K h ad hw hh hlo hf, bB K hw aw 168 lw gw, bF K hr hm kd ak tu true cr, bM K hm am 63 lm gm] := ho
  refine W.eq (g2 := F0 m 7 ls []) rfl ?_
  refine lv_aload_n hx hb dX1_makeLoad_7 rfl (lv_at hl 0 rfl) ?_
  refine o_get (v := .ref hlo) C ho 1 0 rfl rfl rfl 3 fX1_23 rfl dX1_makeLoad_8 ?_
  refine lv_iconst (v := nI 4) hx hb dX1_makeLoad_11 (by decide) ?_
  refine lv_aload_n hx hb dX1_makeLoad_12 rfl (lv_at hl 1 rfl) ?_
  refine o_get (v := .ref hm) C ho 3 0 rfl rfl rfl 0 fX1_67 rfl dX1_makeLoad_13 ?_
  refine o_get (v := .int (nI lm.length)) C ho 4 0 rfl rfl rfl 1 fX1_126 rfl dX1_makeLoad_16 ?_
  refine o_mul hx hb dX1_makeLoad_19 ?_
  refine lv_aload_n hx hb dX1_makeLoad_20 rfl (lv_at hl 1 rfl) ?_
  refine o_get (v := .int (bI true)) C ho 3 0 rfl rfl rfl 4 fX1_129 rfl dX1_makeLoad_21 ?_
  refine o_ifb_eq (tgt := 31) hx hb dX1_makeLoad_24 (by decide) (fun c9 => absurd c9 (by decide)) (fun _ => ?_)
  refine lv_iconst (v := nI 2) hx hb dX1_makeLoad_27 (by decide) ?_
  refine lv_goto (tgt := 32) hx hb dX1_makeLoad_28 (by decide) ?_
  refine o_add hx hb dX1_makeLoad_32 ?_
  refine lv_bipush (v := nI 8) hx hb dX1_makeLoad_33 (by decide) ?_
  refine o_callV (wr := [bC K h ad hw hh hlo hf, bB K hw aw 168 lw gw, bF K hr hm kd ak tu true cr, bM K hm am 63 lm gm]) (rest := []) (As := [.int (nI ((4 * lm.length) + 2)), .int (nI 8)]) C (c_Bits_addNumber la D K hlo alo 150 [] u_1 ((4 * lm.length) + 2) 8 (by first | omega | assumption | (simp only [List.length_append, List.length_cons, List.length_nil, List.length_modify, List.length_set, nb_len, rb_len, rbp_len, sl_len, slN_len, wh_len, wt_len, hd10_len, hdB_len, thr_len, ldp_len, ldB_len, tens_len, whz_len, majL_len, mf_len, tkL_len, ldY_len, fif_len]; omega) | decide) (by first | omega | assumption | (simp only [List.length_append, List.length_cons, List.length_nil, List.length_modify, List.length_set, nb_len, rb_len, rbp_len, sl_len, slN_len, wh_len, wt_len, hd10_len, hdB_len, thr_len, ldp_len, ldB_len, tens_len, whz_len, majL_len, mf_len, tkL_len, ldY_len, fif_len]; omega) | decide) (by first | omega | assumption | (simp only [List.length_append, List.length_cons, List.length_nil, List.length_modify, List.length_set, nb_len, rb_len, rbp_len, sl_len, slN_len, wh_len, wt_len, hd10_len, hdB_len, thr_len, ldp_len, ldB_len, tens_len, whz_len, majL_len, mf_len, tkL_len, ldY_len, fif_len]; omega) | decide) (by first | omega | assumption | (simp only [List.length_append, List.length_cons, List.length_nil, List.length_modify, List.length_set, nb_len, rb_len, rbp_len, sl_len, slN_len, wh_len, wt_len, hd10_len, hdB_len, thr_len, ldp_len, ldB_len, tens_len, whz_len, majL_len, mf_len, tkL_len, ldY_len, fif_len]; omega) | decide)) kX1_102 vX0_addNumber (by decide) rfl ho [0, 1, 2, 3, 4] 5 (by decide +kernel) rfl rfl rfl rfl rfl hl.1 rfl (Nat.le_of_ble_eq_true rfl) dX1_makeLoad_35 0 0 rfl rfl (by decide) (fun v u_2 H locs hq ho => ?_)
  obtain rfl := hq
  have ho : ow D vwCl A s.heap H locs [bB K hlo alo 150 ([] ++ nb ((4 * lm.length) + 2) 8) u_1, bC K h ad hw hh hlo hf, bB K hw aw 168 lw gw, bF K hr hm kd ak tu true cr, bM K hm am 63 lm gm] := ho
  refine W.eq (g2 := F0 m 38 ls []) rfl ?_
  refine lv_iconst (v := nI 0) hx hb dX1_makeLoad_38 (by decide) ?_
  refine lv_istore_n (lv' := [(2, .int (nI 0)), (0, .ref h), (1, .ref hr)]) hx hb dX1_makeLoad_39 rfl hl (by decide) rfl (fun ls hl => ?_)
  have e_3 : bB K hlo alo 150 ([] ++ nb ((4 * lm.length) + 2) 8) u_1 = bB K hlo alo 150 (ldp 2 lm 0) u_1 := by rw [List.nil_append]; simp [ldp]
  have ho : ow D vwCl A s.heap H locs [bB K hlo alo 150 (ldp 2 lm 0) u_1, bC K h ad hw hh hlo hf, bB K hw aw 168 lw gw, bF K hr hm kd ak tu true cr, bM K hm am 63 lm gm] := by rw [← e_3]; exact ho
  have LP40 : ∀ (fuel : Nat) (i : Nat) (gv : Nat → Int32) (_ : lm.length - i < fuel) (_ : i ≤ lm.length) (H : Heap) (locs : List Loc) (ls : Array Slot) (_ : ow D vwCl A s.heap H locs [bC K h ad hw hh hlo hf, bB K hw aw 168 lw gw, bB K hlo alo 150 (ldp 2 lm i) gv, bF K hr hm kd ak tu true cr, bM K hm am 63 lm gm]) (_ : lv_has ls 3 [(0, .ref h), (1, .ref hr), (2, .int (nI i))]), W p la e (rmL 3 0 0) s m args below meth c H locs 0 0 Qz (F0 m 40 ls []) := by
    intro fuel
    induction fuel with
    | zero => intro i gv h0; exact absurd h0 (Nat.not_lt_zero _)
    | succ fuel ih40 =>
      intro i gv hfu hi H locs ls ho hl
      have hwz := ldp_len 2 lm i
      refine lv_iload_n hx hb dX1_makeLoad_40 rfl (lv_at hl 2 rfl) ?_
      refine lv_aload_n hx hb dX1_makeLoad_41 rfl (lv_at hl 1 rfl) ?_
      refine o_get (v := .ref hm) C ho 3 0 rfl rfl rfl 0 fX1_67 rfl dX1_makeLoad_42 ?_
      refine o_get (v := .int (nI lm.length)) C ho 4 0 rfl rfl rfl 1 fX1_126 rfl dX1_makeLoad_45 ?_
      refine o_icmp_ge (tgt := 74) hx hb dX1_makeLoad_48 (by decide) (by first | omega | exact and1_lt _) (by first | omega | exact and1_lt _) (fun c_4 => ?_) (fun c_4 => ?_)
      · skip
        have e_5 : bB K hlo alo 150 (ldp 2 lm i) gv = bB K hlo alo 150 (ldp 2 lm lm.length) gv := by rw [show i = lm.length by omega]
        have ho : ow D vwCl A s.heap H locs [bC K h ad hw hh hlo hf, bB K hw aw 168 lw gw, bB K hlo alo 150 (ldp 2 lm lm.length) gv, bF K hr hm kd ak tu true cr, bM K hm am 63 lm gm] := by rw [← e_5]; exact ho
        refine lv_aload_n hx hb dX1_makeLoad_74 rfl (lv_at hl 0 rfl) ?_
        refine o_get (v := .ref hlo) C ho 0 0 rfl rfl rfl 3 fX1_23 rfl dX1_makeLoad_75 ?_
        refine lv_aload_n hx hb dX1_makeLoad_78 rfl (lv_at hl 0 rfl) ?_
        refine o_get (v := .ref hlo) C ho 0 0 rfl rfl rfl 3 fX1_23 rfl dX1_makeLoad_79 ?_
        refine lv_aload_n hx hb dX1_makeLoad_82 rfl (lv_at hl 0 rfl) ?_
        refine o_get (v := .ref hlo) C ho 0 0 rfl rfl rfl 3 fX1_23 rfl dX1_makeLoad_83 ?_
        refine o_get (v := .int (nI ((ldp 2 lm lm.length).length))) C ho 2 0 rfl rfl rfl 1 fX1_57 rfl dX1_makeLoad_86 ?_
        refine lv_ldc (v := nI 69665) hx hb C.1.2.2.2.1 (C.1.2.2.2.2 _ mX1_k134) dX1_makeLoad_89 ?_
        refine lv_bipush (v := nI 16) hx hb dX1_makeLoad_91 (by decide) ?_
        refine o_callV (wr := [bC K h ad hw hh hlo hf, bB K hw aw 168 lw gw, bF K hr hm kd ak tu true cr, bM K hm am 63 lm gm]) (rest := [.ref hlo]) (As := [.int (nI ((ldp 2 lm lm.length).length)), .int (nI 69665), .int (nI 16)]) C (c_Bits_remainderOf la D K hlo alo 150 (ldp 2 lm lm.length) gv ((ldp 2 lm lm.length).length) 69665 16 (by first | omega | assumption | (simp only [List.length_append, List.length_cons, List.length_nil, List.length_modify, List.length_set, nb_len, rb_len, rbp_len, sl_len, slN_len, wh_len, wt_len, hd10_len, hdB_len, thr_len, ldp_len, ldB_len, tens_len, whz_len, majL_len, mf_len, tkL_len, ldY_len, fif_len]; omega) | decide) (by first | omega | assumption | (simp only [List.length_append, List.length_cons, List.length_nil, List.length_modify, List.length_set, nb_len, rb_len, rbp_len, sl_len, slN_len, wh_len, wt_len, hd10_len, hdB_len, thr_len, ldp_len, ldB_len, tens_len, whz_len, majL_len, mf_len, tkL_len, ldY_len, fif_len]; omega) | decide) (by first | omega | assumption | (simp only [List.length_append, List.length_cons, List.length_nil, List.length_modify, List.length_set, nb_len, rb_len, rbp_len, sl_len, slN_len, wh_len, wt_len, hd10_len, hdB_len, thr_len, ldp_len, ldB_len, tens_len, whz_len, majL_len, mf_len, tkL_len, ldY_len, fif_len]; omega) | decide) (by first | omega | assumption | (simp only [List.length_append, List.length_cons, List.length_nil, List.length_modify, List.length_set, nb_len, rb_len, rbp_len, sl_len, slN_len, wh_len, wt_len, hd10_len, hdB_len, thr_len, ldp_len, ldB_len, tens_len, whz_len, majL_len, mf_len, tkL_len, ldY_len, fif_len]; omega) | decide) (by first | omega | assumption | (simp only [List.length_append, List.length_cons, List.length_nil, List.length_modify, List.length_set, nb_len, rb_len, rbp_len, sl_len, slN_len, wh_len, wt_len, hd10_len, hdB_len, thr_len, ldp_len, ldB_len, tens_len, whz_len, majL_len, mf_len, tkL_len, ldY_len, fif_len]; omega) | decide) (by first | omega | assumption | (simp only [List.length_append, List.length_cons, List.length_nil, List.length_modify, List.length_set, nb_len, rb_len, rbp_len, sl_len, slN_len, wh_len, wt_len, hd10_len, hdB_len, thr_len, ldp_len, ldB_len, tens_len, whz_len, majL_len, mf_len, tkL_len, ldY_len, fif_len]; omega) | decide)) kX1_119 vX0_remainderOf (by decide) rfl ho [2, 0, 1, 3, 4] 5 (by decide +kernel) rfl rfl rfl rfl rfl hl.1 rfl (Nat.le_of_ble_eq_true rfl) dX1_makeLoad_93 0 0 rfl rfl (by decide) (fun v u_6 H locs hq ho => ?_)
        obtain rfl := hq
        have ho : ow D vwCl A s.heap H locs [bB K hlo alo 150 (ldp 2 lm lm.length) gv, bC K h ad hw hh hlo hf, bB K hw aw 168 lw gw, bF K hr hm kd ak tu true cr, bM K hm am 63 lm gm] := ho
        refine W.eq (g2 := F0 m 96 ls [.int (nI (crc 69665 16 (sl (ldp 2 lm lm.length) 0 ((ldp 2 lm lm.length).length)))), .ref hlo]) rfl ?_
        have hcr := crc69665 (sl (ldp 2 lm lm.length) 0 (ldp 2 lm lm.length).length)
        refine lv_bipush (v := nI 16) hx hb dX1_makeLoad_96 (by decide) ?_
        refine o_callV (wr := [bC K h ad hw hh hlo hf, bB K hw aw 168 lw gw, bF K hr hm kd ak tu true cr, bM K hm am 63 lm gm]) (rest := []) (As := [.int (nI (crc 69665 16 (sl (ldp 2 lm lm.length) 0 ((ldp 2 lm lm.length).length)))), .int (nI 16)]) C (c_Bits_addRemainder la D K hlo alo 150 (ldp 2 lm lm.length) gv (crc 69665 16 (sl (ldp 2 lm lm.length) 0 ((ldp 2 lm lm.length).length))) 16 (by first | omega | assumption | (simp only [List.length_append, List.length_cons, List.length_nil, List.length_modify, List.length_set, nb_len, rb_len, rbp_len, sl_len, slN_len, wh_len, wt_len, hd10_len, hdB_len, thr_len, ldp_len, ldB_len, tens_len, whz_len, majL_len, mf_len, tkL_len, ldY_len, fif_len]; omega) | decide) (by first | omega | assumption | (simp only [List.length_append, List.length_cons, List.length_nil, List.length_modify, List.length_set, nb_len, rb_len, rbp_len, sl_len, slN_len, wh_len, wt_len, hd10_len, hdB_len, thr_len, ldp_len, ldB_len, tens_len, whz_len, majL_len, mf_len, tkL_len, ldY_len, fif_len]; omega) | decide) (by first | omega | assumption | (simp only [List.length_append, List.length_cons, List.length_nil, List.length_modify, List.length_set, nb_len, rb_len, rbp_len, sl_len, slN_len, wh_len, wt_len, hd10_len, hdB_len, thr_len, ldp_len, ldB_len, tens_len, whz_len, majL_len, mf_len, tkL_len, ldY_len, fif_len]; omega) | decide) (by first | omega | assumption | (simp only [List.length_append, List.length_cons, List.length_nil, List.length_modify, List.length_set, nb_len, rb_len, rbp_len, sl_len, slN_len, wh_len, wt_len, hd10_len, hdB_len, thr_len, ldp_len, ldB_len, tens_len, whz_len, majL_len, mf_len, tkL_len, ldY_len, fif_len]; omega) | decide) (by first | omega | assumption | (simp only [List.length_append, List.length_cons, List.length_nil, List.length_modify, List.length_set, nb_len, rb_len, rbp_len, sl_len, slN_len, wh_len, wt_len, hd10_len, hdB_len, thr_len, ldp_len, ldB_len, tens_len, whz_len, majL_len, mf_len, tkL_len, ldY_len, fif_len]; omega) | decide)) kX1_123 vX0_addRemainder (by decide) rfl ho [0, 1, 2, 3, 4] 5 (by decide +kernel) rfl rfl rfl rfl rfl hl.1 rfl (Nat.le_of_ble_eq_true rfl) dX1_makeLoad_98 0 0 rfl rfl (by decide) (fun v u_7 H locs hq ho => ?_)
        obtain rfl := hq
        have ho : ow D vwCl A s.heap H locs [bB K hlo alo 150 ((ldp 2 lm lm.length) ++ rb (crc 69665 16 (sl (ldp 2 lm lm.length) 0 ((ldp 2 lm lm.length).length))) 16) gv, bC K h ad hw hh hlo hf, bB K hw aw 168 lw gw, bF K hr hm kd ak tu true cr, bM K hm am 63 lm gm] := ho
        refine W.eq (g2 := F0 m 101 ls []) rfl ?_
        have e_8 : bB K hlo alo 150 ((ldp 2 lm lm.length) ++ rb (crc 69665 16 (sl (ldp 2 lm lm.length) 0 ((ldp 2 lm lm.length).length))) 16) gv = bB K hlo alo 150 (ldB 2 lm) gv := rfl
        have ho : ow D vwCl A s.heap H locs [bB K hlo alo 150 (ldB 2 lm) gv, bC K h ad hw hh hlo hf, bB K hw aw 168 lw gw, bF K hr hm kd ak tu true cr, bM K hm am 63 lm gm] := by rw [← e_8]; exact ho
        refine lv_aload_n hx hb dX1_makeLoad_101 rfl (lv_at hl 0 rfl) ?_
        refine o_get (v := .ref hlo) C ho 1 0 rfl rfl rfl 3 fX1_23 rfl dX1_makeLoad_102 ?_
        refine lv_aload_n hx hb dX1_makeLoad_105 rfl (lv_at hl 0 rfl) ?_
        refine o_get (v := .ref hw) C ho 1 0 rfl rfl rfl 1 fX1_14 rfl dX1_makeLoad_106 ?_
        refine lv_bipush (v := nI 18) hx hb dX1_makeLoad_109 (by decide) ?_
        refine o_callV (wr := [bC K h ad hw hh hlo hf, bF K hr hm kd ak tu true cr, bM K hm am 63 lm gm]) (rest := []) (As := [.ref hw, .int (nI 18)]) C (c_Bits_whiten la D K hlo alo 150 (ldB 2 lm) gv hw aw 168 lw gw 18 (by first | omega | assumption | (simp only [List.length_append, List.length_cons, List.length_nil, List.length_modify, List.length_set, nb_len, rb_len, rbp_len, sl_len, slN_len, wh_len, wt_len, hd10_len, hdB_len, thr_len, ldp_len, ldB_len, tens_len, whz_len, majL_len, mf_len, tkL_len, ldY_len, fif_len]; omega) | decide) (by first | omega | assumption | (simp only [List.length_append, List.length_cons, List.length_nil, List.length_modify, List.length_set, nb_len, rb_len, rbp_len, sl_len, slN_len, wh_len, wt_len, hd10_len, hdB_len, thr_len, ldp_len, ldB_len, tens_len, whz_len, majL_len, mf_len, tkL_len, ldY_len, fif_len]; omega) | decide) (by first | omega | assumption | (simp only [List.length_append, List.length_cons, List.length_nil, List.length_modify, List.length_set, nb_len, rb_len, rbp_len, sl_len, slN_len, wh_len, wt_len, hd10_len, hdB_len, thr_len, ldp_len, ldB_len, tens_len, whz_len, majL_len, mf_len, tkL_len, ldY_len, fif_len]; omega) | decide) (by first | omega | assumption | (simp only [List.length_append, List.length_cons, List.length_nil, List.length_modify, List.length_set, nb_len, rb_len, rbp_len, sl_len, slN_len, wh_len, wt_len, hd10_len, hdB_len, thr_len, ldp_len, ldB_len, tens_len, whz_len, majL_len, mf_len, tkL_len, ldY_len, fif_len]; omega) | decide) (by first | omega | assumption | (simp only [List.length_append, List.length_cons, List.length_nil, List.length_modify, List.length_set, nb_len, rb_len, rbp_len, sl_len, slN_len, wh_len, wt_len, hd10_len, hdB_len, thr_len, ldp_len, ldB_len, tens_len, whz_len, majL_len, mf_len, tkL_len, ldY_len, fif_len]; omega) | decide)) kX1_94 vX0_whiten (by decide) rfl ho [0, 2, 1, 3, 4] 5 (by decide +kernel) rfl rfl rfl rfl rfl hl.1 rfl (Nat.le_of_ble_eq_true rfl) dX1_makeLoad_111 0 0 rfl rfl (by decide) (fun v u_9 H locs hq ho => ?_)
        obtain rfl := hq
        have ho : ow D vwCl A s.heap H locs [bB K hlo alo 150 (wh (ldB 2 lm) lw 18 (ldB 2 lm).length) gv, bB K hw aw 168 lw gw, bC K h ad hw hh hlo hf, bF K hr hm kd ak tu true cr, bM K hm am 63 lm gm] := ho
        refine W.eq (g2 := F0 m 114 ls []) rfl ?_
        have e_10 : bB K hlo alo 150 (wh (ldB 2 lm) lw 18 (ldB 2 lm).length) gv = bB K hlo alo 150 (whz (ldB 2 lm) lw 18) gv := rfl
        have ho : ow D vwCl A s.heap H locs [bB K hlo alo 150 (whz (ldB 2 lm) lw 18) gv, bB K hw aw 168 lw gw, bC K h ad hw hh hlo hf, bF K hr hm kd ak tu true cr, bM K hm am 63 lm gm] := by rw [← e_10]; exact ho
        have ho : ow D vwCl A s.heap H locs [bC K h ad hw hh hlo hf, bB K hw aw 168 lw gw, bB K hlo alo 150 (whz (ldB 2 lm) lw 18) gv, bF K hr hm kd ak tu true cr, bM K hm am 63 lm gm] := ho.re [2, 1, 0, 3, 4] 5 (by decide +kernel) rfl rfl
        exact o_vret hQ C ho gv rfl rfl (Nat.le_of_ble_eq_true rfl) (Nat.le_of_ble_eq_true rfl) dX1_makeLoad_114
      · skip
        refine lv_aload_n hx hb dX1_makeLoad_51 rfl (lv_at hl 0 rfl) ?_
        refine o_get (v := .ref hlo) C ho 0 0 rfl rfl rfl 3 fX1_23 rfl dX1_makeLoad_52 ?_
        refine lv_aload_n hx hb dX1_makeLoad_55 rfl (lv_at hl 1 rfl) ?_
        refine o_get (v := .ref hm) C ho 3 0 rfl rfl rfl 0 fX1_67 rfl dX1_makeLoad_56 ?_
        refine lv_iload_n hx hb dX1_makeLoad_59 rfl (lv_at hl 2 rfl) ?_
        refine o_callV (wr := [bC K h ad hw hh hlo hf, bB K hw aw 168 lw gw, bB K hlo alo 150 (ldp 2 lm i) gv, bF K hr hm kd ak tu true cr]) (rest := [.ref hlo]) (As := [.int (nI i)]) C (c_Msg_at la D K hm am 63 lm gm i (by first | omega | assumption | (simp only [List.length_append, List.length_cons, List.length_nil, List.length_modify, List.length_set, nb_len, rb_len, rbp_len, sl_len, slN_len, wh_len, wt_len, hd10_len, hdB_len, thr_len, ldp_len, ldB_len, tens_len, whz_len, majL_len, mf_len, tkL_len, ldY_len, fif_len]; omega) | decide) (by first | omega | assumption | (simp only [List.length_append, List.length_cons, List.length_nil, List.length_modify, List.length_set, nb_len, rb_len, rbp_len, sl_len, slN_len, wh_len, wt_len, hd10_len, hdB_len, thr_len, ldp_len, ldB_len, tens_len, whz_len, majL_len, mf_len, tkL_len, ldY_len, fif_len]; omega) | decide) (by first | omega | assumption | (simp only [List.length_append, List.length_cons, List.length_nil, List.length_modify, List.length_set, nb_len, rb_len, rbp_len, sl_len, slN_len, wh_len, wt_len, hd10_len, hdB_len, thr_len, ldp_len, ldB_len, tens_len, whz_len, majL_len, mf_len, tkL_len, ldY_len, fif_len]; omega) | decide)) kX1_133 vX5_at (by decide) rfl ho [4, 0, 1, 2, 3] 5 (by decide +kernel) rfl rfl rfl rfl rfl hl.1 rfl (Nat.le_of_ble_eq_true rfl) dX1_makeLoad_60 0 0 rfl rfl (by decide) (fun v u_11 H locs hq ho => ?_)
        obtain rfl := hq
        have ho : ow D vwCl A s.heap H locs [bM K hm am 63 lm gm, bC K h ad hw hh hlo hf, bB K hw aw 168 lw gw, bB K hlo alo 150 (ldp 2 lm i) gv, bF K hr hm kd ak tu true cr] := ho
        refine W.eq (g2 := F0 m 63 ls [.int (nI (lm.getD i 0)), .ref hlo]) rfl ?_
        refine lv_bipush (v := nI 8) hx hb dX1_makeLoad_63 (by decide) ?_
        refine o_callV (wr := [bM K hm am 63 lm gm, bC K h ad hw hh hlo hf, bB K hw aw 168 lw gw, bF K hr hm kd ak tu true cr]) (rest := []) (As := [.int (nI (lm.getD i 0)), .int (nI 8)]) C (c_Bits_addNumber la D K hlo alo 150 (ldp 2 lm i) gv (lm.getD i 0) 8 (by first | omega | assumption | (simp only [List.length_append, List.length_cons, List.length_nil, List.length_modify, List.length_set, nb_len, rb_len, rbp_len, sl_len, slN_len, wh_len, wt_len, hd10_len, hdB_len, thr_len, ldp_len, ldB_len, tens_len, whz_len, majL_len, mf_len, tkL_len, ldY_len, fif_len]; omega) | decide) (by first | omega | assumption | (simp only [List.length_append, List.length_cons, List.length_nil, List.length_modify, List.length_set, nb_len, rb_len, rbp_len, sl_len, slN_len, wh_len, wt_len, hd10_len, hdB_len, thr_len, ldp_len, ldB_len, tens_len, whz_len, majL_len, mf_len, tkL_len, ldY_len, fif_len]; omega) | decide) (Nat.lt_trans (qb _) (by decide)) (by first | omega | assumption | (simp only [List.length_append, List.length_cons, List.length_nil, List.length_modify, List.length_set, nb_len, rb_len, rbp_len, sl_len, slN_len, wh_len, wt_len, hd10_len, hdB_len, thr_len, ldp_len, ldB_len, tens_len, whz_len, majL_len, mf_len, tkL_len, ldY_len, fif_len]; omega) | decide)) kX1_102 vX0_addNumber (by decide) rfl ho [3, 0, 1, 2, 4] 5 (by decide +kernel) rfl rfl rfl rfl rfl hl.1 rfl (Nat.le_of_ble_eq_true rfl) dX1_makeLoad_65 0 0 rfl rfl (by decide) (fun v u_12 H locs hq ho => ?_)
        obtain rfl := hq
        have ho : ow D vwCl A s.heap H locs [bB K hlo alo 150 ((ldp 2 lm i) ++ nb (lm.getD i 0) 8) gv, bM K hm am 63 lm gm, bC K h ad hw hh hlo hf, bB K hw aw 168 lw gw, bF K hr hm kd ak tu true cr] := ho
        refine W.eq (g2 := F0 m 68 ls []) rfl ?_
        have e_13 : bB K hlo alo 150 ((ldp 2 lm i) ++ nb (lm.getD i 0) 8) gv = bB K hlo alo 150 (ldp 2 lm (i + 1)) gv := by rw [ldp_succ]
        have ho : ow D vwCl A s.heap H locs [bB K hlo alo 150 (ldp 2 lm (i + 1)) gv, bM K hm am 63 lm gm, bC K h ad hw hh hlo hf, bB K hw aw 168 lw gw, bF K hr hm kd ak tu true cr] := by rw [← e_13]; exact ho
        refine lv_iinc (v := nI (i + 1)) (lv' := [(2, .int (nI (i + 1))), (0, .ref h), (1, .ref hr)]) hx hb dX1_makeLoad_68 hl (k := 2) rfl (iincN _ _) (by decide) rfl (fun ls hl => ?_)
        refine lv_goto (tgt := 40) hx hb dX1_makeLoad_71 (by decide) ?_
        have ho : ow D vwCl A s.heap H locs [bC K h ad hw hh hlo hf, bB K hw aw 168 lw gw, bB K hlo alo 150 (ldp 2 lm (i + 1)) gv, bF K hr hm kd ak tu true cr, bM K hm am 63 lm gm] := ho.re [2, 3, 0, 4, 1] 5 (by decide +kernel) rfl rfl
        exact ih40 (i + 1) gv (by omega) (by omega) _ _ _ ho (lv_sub hl [1, 2, 0] rfl)
  have ho : ow D vwCl A s.heap H locs [bC K h ad hw hh hlo hf, bB K hw aw 168 lw gw, bB K hlo alo 150 (ldp 2 lm 0) u_1, bF K hr hm kd ak tu true cr, bM K hm am 63 lm gm] := ho.re [1, 2, 0, 3, 4] 5 (by decide +kernel) rfl rfl
  exact LP40 (lm.length - 0 + 1) 0 u_1 (Nat.lt_succ_self _) (by omega) _ _ _ ho (lv_sub hl [1, 2, 0] rfl)

set_option maxHeartbeats 4000000 in
set_option maxRecDepth 100000 in
theorem c_Coder_makeLoad1 (la : Launch) (D : va_G) (K : Nat → ClassId) (h : Nat) (ad : Nat) (hw : Nat) (hh : Nat) (hlo : Nat) (hf : Nat) (aw : Nat) (lw : List Bool) (gw : Nat → Int32) (alo : Nat) (llo : List Bool) (glo : Nat → Int32) (hr : Nat) (hm : Nat) (kd : Nat) (ak : Bool) (tu : Bool) (cr : Nat) (am : Nat) (lm : List Nat) (gm : Nat → Int32) (qw : lw.length ≤ 168) (ql : llo.length ≤ 150) (qm : lm.length ≤ 13) (qb : ∀ j, lm.getD j 0 < 256) : MT la D K yX1_makeLoad cX1_makeLoad 3 none (rmL 3 0 0) [.ref h, .ref hr] [bC K h ad hw hh hlo hf, bB K hw aw 168 lw gw, bB K hlo alo 150 llo glo, bF K hr hm kd ak tu false cr, bM K hm am 63 lm gm] (Nat → Int32) (fun v _ => v = none) (fun u => [bC K h ad hw hh hlo hf, bB K hw aw 168 lw gw, bB K hlo alo 150 (whz (ldB 1 lm) lw 18) u, bF K hr hm kd ak tu false cr, bM K hm am 63 lm gm]) := by
  refine Mt.ofW [(0, .ref h), (1, .ref hr)] (by decide) rfl (Nat.le_of_ble_eq_true rfl) ?_
  intro p e s m args below meth c A ls H locs Qz hQ C hin hl ho
  have hx := C.1.1
  have hb := C.1.2.1
  refine lv_aload_n hx hb dX1_makeLoad_0 rfl (lv_at hl 0 rfl) ?_
  refine o_get (v := .ref hlo) C ho 0 0 rfl rfl rfl 3 fX1_23 rfl dX1_makeLoad_1 ?_
  refine o_callV (wr := [bC K h ad hw hh hlo hf, bB K hw aw 168 lw gw, bF K hr hm kd ak tu false cr, bM K hm am 63 lm gm]) (rest := []) (As := []) C (c_Bits_clear la D K hlo alo 150 llo glo (by first | omega | assumption | (simp only [List.length_append, List.length_cons, List.length_nil, List.length_modify, List.length_set, nb_len, rb_len, rbp_len, sl_len, slN_len, wh_len, wt_len, hd10_len, hdB_len, thr_len, ldp_len, ldB_len, tens_len, whz_len, majL_len, mf_len, tkL_len, ldY_len, fif_len]; omega) | decide) (by first | omega | assumption | (simp only [List.length_append, List.length_cons, List.length_nil, List.length_modify, List.length_set, nb_len, rb_len, rbp_len, sl_len, slN_len, wh_len, wt_len, hd10_len, hdB_len, thr_len, ldp_len, ldB_len, tens_len, whz_len, majL_len, mf_len, tkL_len, ldY_len, fif_len]; omega) | decide)) kX1_85 vX0_clear (by decide) rfl ho [2, 0, 1, 3, 4] 5 (by decide +kernel) rfl rfl rfl rfl rfl hl.1 rfl (Nat.le_of_ble_eq_true rfl) dX1_makeLoad_4 0 0 rfl rfl (by decide) (fun v u_1 H locs hq ho => ?_)
  obtain rfl := hq
  have ho : ow D vwCl A s.heap H locs [bB K hlo alo 150 [] u_1, bC K h ad hw hh hlo hf, bB K hw aw 168 lw gw, bF K hr hm kd ak tu false cr, bM K hm am 63 lm gm] := ho
  refine W.eq (g2 := F0 m 7 ls []) rfl ?_
  refine lv_aload_n hx hb dX1_makeLoad_7 rfl (lv_at hl 0 rfl) ?_
  refine o_get (v := .ref hlo) C ho 1 0 rfl rfl rfl 3 fX1_23 rfl dX1_makeLoad_8 ?_
  refine lv_iconst (v := nI 4) hx hb dX1_makeLoad_11 (by decide) ?_
  refine lv_aload_n hx hb dX1_makeLoad_12 rfl (lv_at hl 1 rfl) ?_
  refine o_get (v := .ref hm) C ho 3 0 rfl rfl rfl 0 fX1_67 rfl dX1_makeLoad_13 ?_
  refine o_get (v := .int (nI lm.length)) C ho 4 0 rfl rfl rfl 1 fX1_126 rfl dX1_makeLoad_16 ?_
  refine o_mul hx hb dX1_makeLoad_19 ?_
  refine lv_aload_n hx hb dX1_makeLoad_20 rfl (lv_at hl 1 rfl) ?_
  refine o_get (v := .int (bI false)) C ho 3 0 rfl rfl rfl 4 fX1_129 rfl dX1_makeLoad_21 ?_
  refine o_ifb_eq (tgt := 31) hx hb dX1_makeLoad_24 (by decide) (fun _ => ?_) (fun c9 => absurd c9 (by decide))
  refine lv_iconst (v := nI 1) hx hb dX1_makeLoad_31 (by decide) ?_
  refine o_add hx hb dX1_makeLoad_32 ?_
  refine lv_bipush (v := nI 8) hx hb dX1_makeLoad_33 (by decide) ?_
  refine o_callV (wr := [bC K h ad hw hh hlo hf, bB K hw aw 168 lw gw, bF K hr hm kd ak tu false cr, bM K hm am 63 lm gm]) (rest := []) (As := [.int (nI ((4 * lm.length) + 1)), .int (nI 8)]) C (c_Bits_addNumber la D K hlo alo 150 [] u_1 ((4 * lm.length) + 1) 8 (by first | omega | assumption | (simp only [List.length_append, List.length_cons, List.length_nil, List.length_modify, List.length_set, nb_len, rb_len, rbp_len, sl_len, slN_len, wh_len, wt_len, hd10_len, hdB_len, thr_len, ldp_len, ldB_len, tens_len, whz_len, majL_len, mf_len, tkL_len, ldY_len, fif_len]; omega) | decide) (by first | omega | assumption | (simp only [List.length_append, List.length_cons, List.length_nil, List.length_modify, List.length_set, nb_len, rb_len, rbp_len, sl_len, slN_len, wh_len, wt_len, hd10_len, hdB_len, thr_len, ldp_len, ldB_len, tens_len, whz_len, majL_len, mf_len, tkL_len, ldY_len, fif_len]; omega) | decide) (by first | omega | assumption | (simp only [List.length_append, List.length_cons, List.length_nil, List.length_modify, List.length_set, nb_len, rb_len, rbp_len, sl_len, slN_len, wh_len, wt_len, hd10_len, hdB_len, thr_len, ldp_len, ldB_len, tens_len, whz_len, majL_len, mf_len, tkL_len, ldY_len, fif_len]; omega) | decide) (by first | omega | assumption | (simp only [List.length_append, List.length_cons, List.length_nil, List.length_modify, List.length_set, nb_len, rb_len, rbp_len, sl_len, slN_len, wh_len, wt_len, hd10_len, hdB_len, thr_len, ldp_len, ldB_len, tens_len, whz_len, majL_len, mf_len, tkL_len, ldY_len, fif_len]; omega) | decide)) kX1_102 vX0_addNumber (by decide) rfl ho [0, 1, 2, 3, 4] 5 (by decide +kernel) rfl rfl rfl rfl rfl hl.1 rfl (Nat.le_of_ble_eq_true rfl) dX1_makeLoad_35 0 0 rfl rfl (by decide) (fun v u_2 H locs hq ho => ?_)
  obtain rfl := hq
  have ho : ow D vwCl A s.heap H locs [bB K hlo alo 150 ([] ++ nb ((4 * lm.length) + 1) 8) u_1, bC K h ad hw hh hlo hf, bB K hw aw 168 lw gw, bF K hr hm kd ak tu false cr, bM K hm am 63 lm gm] := ho
  refine W.eq (g2 := F0 m 38 ls []) rfl ?_
  refine lv_iconst (v := nI 0) hx hb dX1_makeLoad_38 (by decide) ?_
  refine lv_istore_n (lv' := [(2, .int (nI 0)), (0, .ref h), (1, .ref hr)]) hx hb dX1_makeLoad_39 rfl hl (by decide) rfl (fun ls hl => ?_)
  have e_3 : bB K hlo alo 150 ([] ++ nb ((4 * lm.length) + 1) 8) u_1 = bB K hlo alo 150 (ldp 1 lm 0) u_1 := by rw [List.nil_append]; simp [ldp]
  have ho : ow D vwCl A s.heap H locs [bB K hlo alo 150 (ldp 1 lm 0) u_1, bC K h ad hw hh hlo hf, bB K hw aw 168 lw gw, bF K hr hm kd ak tu false cr, bM K hm am 63 lm gm] := by rw [← e_3]; exact ho
  have LP40 : ∀ (fuel : Nat) (i : Nat) (gv : Nat → Int32) (_ : lm.length - i < fuel) (_ : i ≤ lm.length) (H : Heap) (locs : List Loc) (ls : Array Slot) (_ : ow D vwCl A s.heap H locs [bC K h ad hw hh hlo hf, bB K hw aw 168 lw gw, bB K hlo alo 150 (ldp 1 lm i) gv, bF K hr hm kd ak tu false cr, bM K hm am 63 lm gm]) (_ : lv_has ls 3 [(0, .ref h), (1, .ref hr), (2, .int (nI i))]), W p la e (rmL 3 0 0) s m args below meth c H locs 0 0 Qz (F0 m 40 ls []) := by
    intro fuel
    induction fuel with
    | zero => intro i gv h0; exact absurd h0 (Nat.not_lt_zero _)
    | succ fuel ih40 =>
      intro i gv hfu hi H locs ls ho hl
      have hwz := ldp_len 1 lm i
      refine lv_iload_n hx hb dX1_makeLoad_40 rfl (lv_at hl 2 rfl) ?_
      refine lv_aload_n hx hb dX1_makeLoad_41 rfl (lv_at hl 1 rfl) ?_
      refine o_get (v := .ref hm) C ho 3 0 rfl rfl rfl 0 fX1_67 rfl dX1_makeLoad_42 ?_
      refine o_get (v := .int (nI lm.length)) C ho 4 0 rfl rfl rfl 1 fX1_126 rfl dX1_makeLoad_45 ?_
      refine o_icmp_ge (tgt := 74) hx hb dX1_makeLoad_48 (by decide) (by first | omega | exact and1_lt _) (by first | omega | exact and1_lt _) (fun c_4 => ?_) (fun c_4 => ?_)
      · skip
        have e_5 : bB K hlo alo 150 (ldp 1 lm i) gv = bB K hlo alo 150 (ldp 1 lm lm.length) gv := by rw [show i = lm.length by omega]
        have ho : ow D vwCl A s.heap H locs [bC K h ad hw hh hlo hf, bB K hw aw 168 lw gw, bB K hlo alo 150 (ldp 1 lm lm.length) gv, bF K hr hm kd ak tu false cr, bM K hm am 63 lm gm] := by rw [← e_5]; exact ho
        refine lv_aload_n hx hb dX1_makeLoad_74 rfl (lv_at hl 0 rfl) ?_
        refine o_get (v := .ref hlo) C ho 0 0 rfl rfl rfl 3 fX1_23 rfl dX1_makeLoad_75 ?_
        refine lv_aload_n hx hb dX1_makeLoad_78 rfl (lv_at hl 0 rfl) ?_
        refine o_get (v := .ref hlo) C ho 0 0 rfl rfl rfl 3 fX1_23 rfl dX1_makeLoad_79 ?_
        refine lv_aload_n hx hb dX1_makeLoad_82 rfl (lv_at hl 0 rfl) ?_
        refine o_get (v := .ref hlo) C ho 0 0 rfl rfl rfl 3 fX1_23 rfl dX1_makeLoad_83 ?_
        refine o_get (v := .int (nI ((ldp 1 lm lm.length).length))) C ho 2 0 rfl rfl rfl 1 fX1_57 rfl dX1_makeLoad_86 ?_
        refine lv_ldc (v := nI 69665) hx hb C.1.2.2.2.1 (C.1.2.2.2.2 _ mX1_k134) dX1_makeLoad_89 ?_
        refine lv_bipush (v := nI 16) hx hb dX1_makeLoad_91 (by decide) ?_
        refine o_callV (wr := [bC K h ad hw hh hlo hf, bB K hw aw 168 lw gw, bF K hr hm kd ak tu false cr, bM K hm am 63 lm gm]) (rest := [.ref hlo]) (As := [.int (nI ((ldp 1 lm lm.length).length)), .int (nI 69665), .int (nI 16)]) C (c_Bits_remainderOf la D K hlo alo 150 (ldp 1 lm lm.length) gv ((ldp 1 lm lm.length).length) 69665 16 (by first | omega | assumption | (simp only [List.length_append, List.length_cons, List.length_nil, List.length_modify, List.length_set, nb_len, rb_len, rbp_len, sl_len, slN_len, wh_len, wt_len, hd10_len, hdB_len, thr_len, ldp_len, ldB_len, tens_len, whz_len, majL_len, mf_len, tkL_len, ldY_len, fif_len]; omega) | decide) (by first | omega | assumption | (simp only [List.length_append, List.length_cons, List.length_nil, List.length_modify, List.length_set, nb_len, rb_len, rbp_len, sl_len, slN_len, wh_len, wt_len, hd10_len, hdB_len, thr_len, ldp_len, ldB_len, tens_len, whz_len, majL_len, mf_len, tkL_len, ldY_len, fif_len]; omega) | decide) (by first | omega | assumption | (simp only [List.length_append, List.length_cons, List.length_nil, List.length_modify, List.length_set, nb_len, rb_len, rbp_len, sl_len, slN_len, wh_len, wt_len, hd10_len, hdB_len, thr_len, ldp_len, ldB_len, tens_len, whz_len, majL_len, mf_len, tkL_len, ldY_len, fif_len]; omega) | decide) (by first | omega | assumption | (simp only [List.length_append, List.length_cons, List.length_nil, List.length_modify, List.length_set, nb_len, rb_len, rbp_len, sl_len, slN_len, wh_len, wt_len, hd10_len, hdB_len, thr_len, ldp_len, ldB_len, tens_len, whz_len, majL_len, mf_len, tkL_len, ldY_len, fif_len]; omega) | decide) (by first | omega | assumption | (simp only [List.length_append, List.length_cons, List.length_nil, List.length_modify, List.length_set, nb_len, rb_len, rbp_len, sl_len, slN_len, wh_len, wt_len, hd10_len, hdB_len, thr_len, ldp_len, ldB_len, tens_len, whz_len, majL_len, mf_len, tkL_len, ldY_len, fif_len]; omega) | decide) (by first | omega | assumption | (simp only [List.length_append, List.length_cons, List.length_nil, List.length_modify, List.length_set, nb_len, rb_len, rbp_len, sl_len, slN_len, wh_len, wt_len, hd10_len, hdB_len, thr_len, ldp_len, ldB_len, tens_len, whz_len, majL_len, mf_len, tkL_len, ldY_len, fif_len]; omega) | decide)) kX1_119 vX0_remainderOf (by decide) rfl ho [2, 0, 1, 3, 4] 5 (by decide +kernel) rfl rfl rfl rfl rfl hl.1 rfl (Nat.le_of_ble_eq_true rfl) dX1_makeLoad_93 0 0 rfl rfl (by decide) (fun v u_6 H locs hq ho => ?_)
        obtain rfl := hq
        have ho : ow D vwCl A s.heap H locs [bB K hlo alo 150 (ldp 1 lm lm.length) gv, bC K h ad hw hh hlo hf, bB K hw aw 168 lw gw, bF K hr hm kd ak tu false cr, bM K hm am 63 lm gm] := ho
        refine W.eq (g2 := F0 m 96 ls [.int (nI (crc 69665 16 (sl (ldp 1 lm lm.length) 0 ((ldp 1 lm lm.length).length)))), .ref hlo]) rfl ?_
        have hcr := crc69665 (sl (ldp 1 lm lm.length) 0 (ldp 1 lm lm.length).length)
        refine lv_bipush (v := nI 16) hx hb dX1_makeLoad_96 (by decide) ?_
        refine o_callV (wr := [bC K h ad hw hh hlo hf, bB K hw aw 168 lw gw, bF K hr hm kd ak tu false cr, bM K hm am 63 lm gm]) (rest := []) (As := [.int (nI (crc 69665 16 (sl (ldp 1 lm lm.length) 0 ((ldp 1 lm lm.length).length)))), .int (nI 16)]) C (c_Bits_addRemainder la D K hlo alo 150 (ldp 1 lm lm.length) gv (crc 69665 16 (sl (ldp 1 lm lm.length) 0 ((ldp 1 lm lm.length).length))) 16 (by first | omega | assumption | (simp only [List.length_append, List.length_cons, List.length_nil, List.length_modify, List.length_set, nb_len, rb_len, rbp_len, sl_len, slN_len, wh_len, wt_len, hd10_len, hdB_len, thr_len, ldp_len, ldB_len, tens_len, whz_len, majL_len, mf_len, tkL_len, ldY_len, fif_len]; omega) | decide) (by first | omega | assumption | (simp only [List.length_append, List.length_cons, List.length_nil, List.length_modify, List.length_set, nb_len, rb_len, rbp_len, sl_len, slN_len, wh_len, wt_len, hd10_len, hdB_len, thr_len, ldp_len, ldB_len, tens_len, whz_len, majL_len, mf_len, tkL_len, ldY_len, fif_len]; omega) | decide) (by first | omega | assumption | (simp only [List.length_append, List.length_cons, List.length_nil, List.length_modify, List.length_set, nb_len, rb_len, rbp_len, sl_len, slN_len, wh_len, wt_len, hd10_len, hdB_len, thr_len, ldp_len, ldB_len, tens_len, whz_len, majL_len, mf_len, tkL_len, ldY_len, fif_len]; omega) | decide) (by first | omega | assumption | (simp only [List.length_append, List.length_cons, List.length_nil, List.length_modify, List.length_set, nb_len, rb_len, rbp_len, sl_len, slN_len, wh_len, wt_len, hd10_len, hdB_len, thr_len, ldp_len, ldB_len, tens_len, whz_len, majL_len, mf_len, tkL_len, ldY_len, fif_len]; omega) | decide) (by first | omega | assumption | (simp only [List.length_append, List.length_cons, List.length_nil, List.length_modify, List.length_set, nb_len, rb_len, rbp_len, sl_len, slN_len, wh_len, wt_len, hd10_len, hdB_len, thr_len, ldp_len, ldB_len, tens_len, whz_len, majL_len, mf_len, tkL_len, ldY_len, fif_len]; omega) | decide)) kX1_123 vX0_addRemainder (by decide) rfl ho [0, 1, 2, 3, 4] 5 (by decide +kernel) rfl rfl rfl rfl rfl hl.1 rfl (Nat.le_of_ble_eq_true rfl) dX1_makeLoad_98 0 0 rfl rfl (by decide) (fun v u_7 H locs hq ho => ?_)
        obtain rfl := hq
        have ho : ow D vwCl A s.heap H locs [bB K hlo alo 150 ((ldp 1 lm lm.length) ++ rb (crc 69665 16 (sl (ldp 1 lm lm.length) 0 ((ldp 1 lm lm.length).length))) 16) gv, bC K h ad hw hh hlo hf, bB K hw aw 168 lw gw, bF K hr hm kd ak tu false cr, bM K hm am 63 lm gm] := ho
        refine W.eq (g2 := F0 m 101 ls []) rfl ?_
        have e_8 : bB K hlo alo 150 ((ldp 1 lm lm.length) ++ rb (crc 69665 16 (sl (ldp 1 lm lm.length) 0 ((ldp 1 lm lm.length).length))) 16) gv = bB K hlo alo 150 (ldB 1 lm) gv := rfl
        have ho : ow D vwCl A s.heap H locs [bB K hlo alo 150 (ldB 1 lm) gv, bC K h ad hw hh hlo hf, bB K hw aw 168 lw gw, bF K hr hm kd ak tu false cr, bM K hm am 63 lm gm] := by rw [← e_8]; exact ho
        refine lv_aload_n hx hb dX1_makeLoad_101 rfl (lv_at hl 0 rfl) ?_
        refine o_get (v := .ref hlo) C ho 1 0 rfl rfl rfl 3 fX1_23 rfl dX1_makeLoad_102 ?_
        refine lv_aload_n hx hb dX1_makeLoad_105 rfl (lv_at hl 0 rfl) ?_
        refine o_get (v := .ref hw) C ho 1 0 rfl rfl rfl 1 fX1_14 rfl dX1_makeLoad_106 ?_
        refine lv_bipush (v := nI 18) hx hb dX1_makeLoad_109 (by decide) ?_
        refine o_callV (wr := [bC K h ad hw hh hlo hf, bF K hr hm kd ak tu false cr, bM K hm am 63 lm gm]) (rest := []) (As := [.ref hw, .int (nI 18)]) C (c_Bits_whiten la D K hlo alo 150 (ldB 1 lm) gv hw aw 168 lw gw 18 (by first | omega | assumption | (simp only [List.length_append, List.length_cons, List.length_nil, List.length_modify, List.length_set, nb_len, rb_len, rbp_len, sl_len, slN_len, wh_len, wt_len, hd10_len, hdB_len, thr_len, ldp_len, ldB_len, tens_len, whz_len, majL_len, mf_len, tkL_len, ldY_len, fif_len]; omega) | decide) (by first | omega | assumption | (simp only [List.length_append, List.length_cons, List.length_nil, List.length_modify, List.length_set, nb_len, rb_len, rbp_len, sl_len, slN_len, wh_len, wt_len, hd10_len, hdB_len, thr_len, ldp_len, ldB_len, tens_len, whz_len, majL_len, mf_len, tkL_len, ldY_len, fif_len]; omega) | decide) (by first | omega | assumption | (simp only [List.length_append, List.length_cons, List.length_nil, List.length_modify, List.length_set, nb_len, rb_len, rbp_len, sl_len, slN_len, wh_len, wt_len, hd10_len, hdB_len, thr_len, ldp_len, ldB_len, tens_len, whz_len, majL_len, mf_len, tkL_len, ldY_len, fif_len]; omega) | decide) (by first | omega | assumption | (simp only [List.length_append, List.length_cons, List.length_nil, List.length_modify, List.length_set, nb_len, rb_len, rbp_len, sl_len, slN_len, wh_len, wt_len, hd10_len, hdB_len, thr_len, ldp_len, ldB_len, tens_len, whz_len, majL_len, mf_len, tkL_len, ldY_len, fif_len]; omega) | decide) (by first | omega | assumption | (simp only [List.length_append, List.length_cons, List.length_nil, List.length_modify, List.length_set, nb_len, rb_len, rbp_len, sl_len, slN_len, wh_len, wt_len, hd10_len, hdB_len, thr_len, ldp_len, ldB_len, tens_len, whz_len, majL_len, mf_len, tkL_len, ldY_len, fif_len]; omega) | decide)) kX1_94 vX0_whiten (by decide) rfl ho [0, 2, 1, 3, 4] 5 (by decide +kernel) rfl rfl rfl rfl rfl hl.1 rfl (Nat.le_of_ble_eq_true rfl) dX1_makeLoad_111 0 0 rfl rfl (by decide) (fun v u_9 H locs hq ho => ?_)
        obtain rfl := hq
        have ho : ow D vwCl A s.heap H locs [bB K hlo alo 150 (wh (ldB 1 lm) lw 18 (ldB 1 lm).length) gv, bB K hw aw 168 lw gw, bC K h ad hw hh hlo hf, bF K hr hm kd ak tu false cr, bM K hm am 63 lm gm] := ho
        refine W.eq (g2 := F0 m 114 ls []) rfl ?_
        have e_10 : bB K hlo alo 150 (wh (ldB 1 lm) lw 18 (ldB 1 lm).length) gv = bB K hlo alo 150 (whz (ldB 1 lm) lw 18) gv := rfl
        have ho : ow D vwCl A s.heap H locs [bB K hlo alo 150 (whz (ldB 1 lm) lw 18) gv, bB K hw aw 168 lw gw, bC K h ad hw hh hlo hf, bF K hr hm kd ak tu false cr, bM K hm am 63 lm gm] := by rw [← e_10]; exact ho
        have ho : ow D vwCl A s.heap H locs [bC K h ad hw hh hlo hf, bB K hw aw 168 lw gw, bB K hlo alo 150 (whz (ldB 1 lm) lw 18) gv, bF K hr hm kd ak tu false cr, bM K hm am 63 lm gm] := ho.re [2, 1, 0, 3, 4] 5 (by decide +kernel) rfl rfl
        exact o_vret hQ C ho gv rfl rfl (Nat.le_of_ble_eq_true rfl) (Nat.le_of_ble_eq_true rfl) dX1_makeLoad_114
      · skip
        refine lv_aload_n hx hb dX1_makeLoad_51 rfl (lv_at hl 0 rfl) ?_
        refine o_get (v := .ref hlo) C ho 0 0 rfl rfl rfl 3 fX1_23 rfl dX1_makeLoad_52 ?_
        refine lv_aload_n hx hb dX1_makeLoad_55 rfl (lv_at hl 1 rfl) ?_
        refine o_get (v := .ref hm) C ho 3 0 rfl rfl rfl 0 fX1_67 rfl dX1_makeLoad_56 ?_
        refine lv_iload_n hx hb dX1_makeLoad_59 rfl (lv_at hl 2 rfl) ?_
        refine o_callV (wr := [bC K h ad hw hh hlo hf, bB K hw aw 168 lw gw, bB K hlo alo 150 (ldp 1 lm i) gv, bF K hr hm kd ak tu false cr]) (rest := [.ref hlo]) (As := [.int (nI i)]) C (c_Msg_at la D K hm am 63 lm gm i (by first | omega | assumption | (simp only [List.length_append, List.length_cons, List.length_nil, List.length_modify, List.length_set, nb_len, rb_len, rbp_len, sl_len, slN_len, wh_len, wt_len, hd10_len, hdB_len, thr_len, ldp_len, ldB_len, tens_len, whz_len, majL_len, mf_len, tkL_len, ldY_len, fif_len]; omega) | decide) (by first | omega | assumption | (simp only [List.length_append, List.length_cons, List.length_nil, List.length_modify, List.length_set, nb_len, rb_len, rbp_len, sl_len, slN_len, wh_len, wt_len, hd10_len, hdB_len, thr_len, ldp_len, ldB_len, tens_len, whz_len, majL_len, mf_len, tkL_len, ldY_len, fif_len]; omega) | decide) (by first | omega | assumption | (simp only [List.length_append, List.length_cons, List.length_nil, List.length_modify, List.length_set, nb_len, rb_len, rbp_len, sl_len, slN_len, wh_len, wt_len, hd10_len, hdB_len, thr_len, ldp_len, ldB_len, tens_len, whz_len, majL_len, mf_len, tkL_len, ldY_len, fif_len]; omega) | decide)) kX1_133 vX5_at (by decide) rfl ho [4, 0, 1, 2, 3] 5 (by decide +kernel) rfl rfl rfl rfl rfl hl.1 rfl (Nat.le_of_ble_eq_true rfl) dX1_makeLoad_60 0 0 rfl rfl (by decide) (fun v u_11 H locs hq ho => ?_)
        obtain rfl := hq
        have ho : ow D vwCl A s.heap H locs [bM K hm am 63 lm gm, bC K h ad hw hh hlo hf, bB K hw aw 168 lw gw, bB K hlo alo 150 (ldp 1 lm i) gv, bF K hr hm kd ak tu false cr] := ho
        refine W.eq (g2 := F0 m 63 ls [.int (nI (lm.getD i 0)), .ref hlo]) rfl ?_
        refine lv_bipush (v := nI 8) hx hb dX1_makeLoad_63 (by decide) ?_
        refine o_callV (wr := [bM K hm am 63 lm gm, bC K h ad hw hh hlo hf, bB K hw aw 168 lw gw, bF K hr hm kd ak tu false cr]) (rest := []) (As := [.int (nI (lm.getD i 0)), .int (nI 8)]) C (c_Bits_addNumber la D K hlo alo 150 (ldp 1 lm i) gv (lm.getD i 0) 8 (by first | omega | assumption | (simp only [List.length_append, List.length_cons, List.length_nil, List.length_modify, List.length_set, nb_len, rb_len, rbp_len, sl_len, slN_len, wh_len, wt_len, hd10_len, hdB_len, thr_len, ldp_len, ldB_len, tens_len, whz_len, majL_len, mf_len, tkL_len, ldY_len, fif_len]; omega) | decide) (by first | omega | assumption | (simp only [List.length_append, List.length_cons, List.length_nil, List.length_modify, List.length_set, nb_len, rb_len, rbp_len, sl_len, slN_len, wh_len, wt_len, hd10_len, hdB_len, thr_len, ldp_len, ldB_len, tens_len, whz_len, majL_len, mf_len, tkL_len, ldY_len, fif_len]; omega) | decide) (Nat.lt_trans (qb _) (by decide)) (by first | omega | assumption | (simp only [List.length_append, List.length_cons, List.length_nil, List.length_modify, List.length_set, nb_len, rb_len, rbp_len, sl_len, slN_len, wh_len, wt_len, hd10_len, hdB_len, thr_len, ldp_len, ldB_len, tens_len, whz_len, majL_len, mf_len, tkL_len, ldY_len, fif_len]; omega) | decide)) kX1_102 vX0_addNumber (by decide) rfl ho [3, 0, 1, 2, 4] 5 (by decide +kernel) rfl rfl rfl rfl rfl hl.1 rfl (Nat.le_of_ble_eq_true rfl) dX1_makeLoad_65 0 0 rfl rfl (by decide) (fun v u_12 H locs hq ho => ?_)
        obtain rfl := hq
        have ho : ow D vwCl A s.heap H locs [bB K hlo alo 150 ((ldp 1 lm i) ++ nb (lm.getD i 0) 8) gv, bM K hm am 63 lm gm, bC K h ad hw hh hlo hf, bB K hw aw 168 lw gw, bF K hr hm kd ak tu false cr] := ho
        refine W.eq (g2 := F0 m 68 ls []) rfl ?_
        have e_13 : bB K hlo alo 150 ((ldp 1 lm i) ++ nb (lm.getD i 0) 8) gv = bB K hlo alo 150 (ldp 1 lm (i + 1)) gv := by rw [ldp_succ]
        have ho : ow D vwCl A s.heap H locs [bB K hlo alo 150 (ldp 1 lm (i + 1)) gv, bM K hm am 63 lm gm, bC K h ad hw hh hlo hf, bB K hw aw 168 lw gw, bF K hr hm kd ak tu false cr] := by rw [← e_13]; exact ho
        refine lv_iinc (v := nI (i + 1)) (lv' := [(2, .int (nI (i + 1))), (0, .ref h), (1, .ref hr)]) hx hb dX1_makeLoad_68 hl (k := 2) rfl (iincN _ _) (by decide) rfl (fun ls hl => ?_)
        refine lv_goto (tgt := 40) hx hb dX1_makeLoad_71 (by decide) ?_
        have ho : ow D vwCl A s.heap H locs [bC K h ad hw hh hlo hf, bB K hw aw 168 lw gw, bB K hlo alo 150 (ldp 1 lm (i + 1)) gv, bF K hr hm kd ak tu false cr, bM K hm am 63 lm gm] := ho.re [2, 3, 0, 4, 1] 5 (by decide +kernel) rfl rfl
        exact ih40 (i + 1) gv (by omega) (by omega) _ _ _ ho (lv_sub hl [1, 2, 0] rfl)
  have ho : ow D vwCl A s.heap H locs [bC K h ad hw hh hlo hf, bB K hw aw 168 lw gw, bB K hlo alo 150 (ldp 1 lm 0) u_1, bF K hr hm kd ak tu false cr, bM K hm am 63 lm gm] := ho.re [1, 2, 0, 3, 4] 5 (by decide +kernel) rfl rfl
  exact LP40 (lm.length - 0 + 1) 0 u_1 (Nat.lt_succ_self _) (by omega) _ _ _ ho (lv_sub hl [1, 2, 0] rfl)

set_option maxHeartbeats 4000000 in
set_option maxRecDepth 100000 in
theorem c_Coder_putTens (la : Launch) (D : va_G) (K : Nat → ClassId) (h : Nat) (ad : Nat) (hw : Nat) (hh : Nat) (hlo : Nat) (hf : Nat) (alo : Nat) (llo : List Bool) (glo : Nat → Int32) (af : Nat) (lf : List Bool) (gf : Nat → Int32) (ho_ : Nat) (ao : Nat) (lo_ : List Bool) (go : Nat → Int32) (ql : llo.length ≤ 100) (qo : lo_.length + 15 * ((llo.length + 9) / 10) ≤ 204) (qf : lf.length ≤ 15) : MT la D K yX1_putTens cX1_putTens 3 none (rmL 3 0 0) [.ref h, .ref ho_] [bC K h ad hw hh hlo hf, bB K hlo alo 150 llo glo, bB K hf af 15 lf gf, bB K ho_ ao 204 lo_ go] (List Bool × (Nat → Int32)) (fun v u => v = none ∧ u.1.length ≤ 15) (fun u => [bC K h ad hw hh hlo hf, bB K hlo alo 150 llo glo, bB K hf af 15 u.1 u.2, bB K ho_ ao 204 (lo_ ++ tens llo ((llo.length + 9) / 10)) go]) := by
  refine Mt.ofW [(0, .ref h), (1, .ref ho_)] (by decide) rfl (Nat.le_of_ble_eq_true rfl) ?_
  intro p e s m args below meth c A ls H locs Qz hQ C hin hl ho
  have hx := C.1.1
  have hb := C.1.2.1
  refine lv_iconst (v := nI 0) hx hb dX1_putTens_0 (by decide) ?_
  refine lv_istore_n (lv' := [(2, .int (nI 0)), (0, .ref h), (1, .ref ho_)]) hx hb dX1_putTens_1 rfl hl (by decide) rfl (fun ls hl => ?_)
  have e_1 : (.int (nI 0) : Value) = .int (nI (10 * 0)) := rfl
  have hl : lv_has ls 3 [(2, .int (nI (10 * 0))), (0, .ref h), (1, .ref ho_)] := by rw [← e_1]; exact hl
  have e_2 : bB K ho_ ao 204 lo_ go = bB K ho_ ao 204 (lo_ ++ tens llo 0) go := by rw [show tens llo 0 = [] from rfl, List.append_nil]
  have ho : ow D vwCl A s.heap H locs [bC K h ad hw hh hlo hf, bB K hlo alo 150 llo glo, bB K hf af 15 lf gf, bB K ho_ ao 204 (lo_ ++ tens llo 0) go] := by rw [← e_2]; exact ho
  have LP2 : ∀ (fuel : Nat) (k : Nat) (lv : List Bool) (gv : Nat → Int32) (_ : (llo.length + 9) / 10 - k < fuel) (_ : k ≤ (llo.length + 9) / 10) (_ : lv.length ≤ 15) (H : Heap) (locs : List Loc) (ls : Array Slot) (_ : ow D vwCl A s.heap H locs [bC K h ad hw hh hlo hf, bB K hlo alo 150 llo glo, bB K hf af 15 lv gv, bB K ho_ ao 204 (lo_ ++ tens llo k) go]) (_ : lv_has ls 3 [(0, .ref h), (1, .ref ho_), (2, .int (nI (10 * k)))]), W p la e (rmL 3 0 0) s m args below meth c H locs 0 0 Qz (F0 m 2 ls []) := by
    intro fuel
    induction fuel with
    | zero => intro k lv gv h0; exact absurd h0 (Nat.not_lt_zero _)
    | succ fuel ih2 =>
      intro k lv gv hfu hk hlv H locs ls ho hl
      refine lv_iload_n hx hb dX1_putTens_2 rfl (lv_at hl 2 rfl) ?_
      refine lv_aload_n hx hb dX1_putTens_3 rfl (lv_at hl 0 rfl) ?_
      refine o_get (v := .ref hlo) C ho 0 0 rfl rfl rfl 3 fX1_23 rfl dX1_putTens_4 ?_
      refine o_get (v := .int (nI llo.length)) C ho 1 0 rfl rfl rfl 1 fX1_57 rfl dX1_putTens_7 ?_
      refine o_icmp_ge (tgt := 71) hx hb dX1_putTens_10 (by decide) (by first | omega | exact and1_lt _) (by first | omega | exact and1_lt _) (fun c_3 => ?_) (fun c_3 => ?_)
      · skip
        exact o_vret hQ C ho (lv, gv) (⟨rfl, hlv⟩) (by rw [show (llo.length + 9) / 10 = k by omega]) (Nat.le_of_ble_eq_true rfl) (Nat.le_of_ble_eq_true rfl) dX1_putTens_71
      · skip
        refine lv_aload_n hx hb dX1_putTens_13 rfl (lv_at hl 0 rfl) ?_
        refine o_get (v := .ref hf) C ho 0 0 rfl rfl rfl 4 fX1_26 rfl dX1_putTens_14 ?_
        refine o_callV (wr := [bC K h ad hw hh hlo hf, bB K hlo alo 150 llo glo, bB K ho_ ao 204 (lo_ ++ tens llo k) go]) (rest := []) (As := []) C (c_Bits_clear la D K hf af 15 lv gv (by first | omega | assumption | (simp only [List.length_append, List.length_cons, List.length_nil, List.length_modify, List.length_set, nb_len, rb_len, rbp_len, sl_len, slN_len, wh_len, wt_len, hd10_len, hdB_len, thr_len, ldp_len, ldB_len, tens_len, whz_len, majL_len, mf_len, tkL_len, ldY_len, fif_len]; omega) | decide) (by first | omega | assumption | (simp only [List.length_append, List.length_cons, List.length_nil, List.length_modify, List.length_set, nb_len, rb_len, rbp_len, sl_len, slN_len, wh_len, wt_len, hd10_len, hdB_len, thr_len, ldp_len, ldB_len, tens_len, whz_len, majL_len, mf_len, tkL_len, ldY_len, fif_len]; omega) | decide)) kX1_85 vX0_clear (by decide) rfl ho [2, 0, 1, 3] 4 (by decide +kernel) rfl rfl rfl rfl rfl hl.1 rfl (Nat.le_of_ble_eq_true rfl) dX1_putTens_17 0 0 rfl rfl (by decide) (fun v u_4 H locs hq ho => ?_)
        obtain rfl := hq
        have ho : ow D vwCl A s.heap H locs [bB K hf af 15 [] u_4, bC K h ad hw hh hlo hf, bB K hlo alo 150 llo glo, bB K ho_ ao 204 (lo_ ++ tens llo k) go] := ho
        refine W.eq (g2 := F0 m 20 ls []) rfl ?_
        refine lv_aload_n hx hb dX1_putTens_20 rfl (lv_at hl 0 rfl) ?_
        refine o_get (v := .ref hf) C ho 1 0 rfl rfl rfl 4 fX1_26 rfl dX1_putTens_21 ?_
        refine lv_aload_n hx hb dX1_putTens_24 rfl (lv_at hl 0 rfl) ?_
        refine o_get (v := .ref hlo) C ho 1 0 rfl rfl rfl 3 fX1_23 rfl dX1_putTens_25 ?_
        refine lv_iload_n hx hb dX1_putTens_28 rfl (lv_at hl 2 rfl) ?_
        refine lv_bipush (v := nI 10) hx hb dX1_putTens_29 (by decide) ?_
        refine o_callV (wr := [bC K h ad hw hh hlo hf, bB K ho_ ao 204 (lo_ ++ tens llo k) go]) (rest := []) (As := [.ref hlo, .int (nI (10 * k)), .int (nI 10)]) C (c_Bits_addAll la D K hf af 15 [] u_4 hlo alo 150 llo glo (10 * k) 10 (by first | omega | assumption | (simp only [List.length_append, List.length_cons, List.length_nil, List.length_modify, List.length_set, nb_len, rb_len, rbp_len, sl_len, slN_len, wh_len, wt_len, hd10_len, hdB_len, thr_len, ldp_len, ldB_len, tens_len, whz_len, majL_len, mf_len, tkL_len, ldY_len, fif_len]; omega) | decide) (by first | omega | assumption | (simp only [List.length_append, List.length_cons, List.length_nil, List.length_modify, List.length_set, nb_len, rb_len, rbp_len, sl_len, slN_len, wh_len, wt_len, hd10_len, hdB_len, thr_len, ldp_len, ldB_len, tens_len, whz_len, majL_len, mf_len, tkL_len, ldY_len, fif_len]; omega) | decide) (by first | omega | assumption | (simp only [List.length_append, List.length_cons, List.length_nil, List.length_modify, List.length_set, nb_len, rb_len, rbp_len, sl_len, slN_len, wh_len, wt_len, hd10_len, hdB_len, thr_len, ldp_len, ldB_len, tens_len, whz_len, majL_len, mf_len, tkL_len, ldY_len, fif_len]; omega) | decide) (by first | omega | assumption | (simp only [List.length_append, List.length_cons, List.length_nil, List.length_modify, List.length_set, nb_len, rb_len, rbp_len, sl_len, slN_len, wh_len, wt_len, hd10_len, hdB_len, thr_len, ldp_len, ldB_len, tens_len, whz_len, majL_len, mf_len, tkL_len, ldY_len, fif_len]; omega) | decide) (by first | omega | assumption | (simp only [List.length_append, List.length_cons, List.length_nil, List.length_modify, List.length_set, nb_len, rb_len, rbp_len, sl_len, slN_len, wh_len, wt_len, hd10_len, hdB_len, thr_len, ldp_len, ldB_len, tens_len, whz_len, majL_len, mf_len, tkL_len, ldY_len, fif_len]; omega) | decide)) kX1_60 vX0_addAll (by decide) rfl ho [0, 2, 1, 3] 4 (by decide +kernel) rfl rfl rfl rfl rfl hl.1 rfl (Nat.le_of_ble_eq_true rfl) dX1_putTens_31 0 0 rfl rfl (by decide) (fun v u_5 H locs hq ho => ?_)
        obtain rfl := hq
        have ho : ow D vwCl A s.heap H locs [bB K hf af 15 ([] ++ sl llo (10 * k) 10) u_4, bB K hlo alo 150 llo glo, bC K h ad hw hh hlo hf, bB K ho_ ao 204 (lo_ ++ tens llo k) go] := ho
        refine W.eq (g2 := F0 m 34 ls []) rfl ?_
        refine lv_aload_n hx hb dX1_putTens_34 rfl (lv_at hl 0 rfl) ?_
        refine o_get (v := .ref hf) C ho 2 0 rfl rfl rfl 4 fX1_26 rfl dX1_putTens_35 ?_
        refine lv_aload_n hx hb dX1_putTens_38 rfl (lv_at hl 0 rfl) ?_
        refine o_get (v := .ref hf) C ho 2 0 rfl rfl rfl 4 fX1_26 rfl dX1_putTens_39 ?_
        refine lv_bipush (v := nI 10) hx hb dX1_putTens_42 (by decide) ?_
        refine lv_bipush (v := nI 53) hx hb dX1_putTens_44 (by decide) ?_
        refine lv_iconst (v := nI 5) hx hb dX1_putTens_46 (by decide) ?_
        refine o_callV (wr := [bB K hlo alo 150 llo glo, bC K h ad hw hh hlo hf, bB K ho_ ao 204 (lo_ ++ tens llo k) go]) (rest := [.ref hf]) (As := [.int (nI 10), .int (nI 53), .int (nI 5)]) C (c_Bits_remainderOf la D K hf af 15 ([] ++ sl llo (10 * k) 10) u_4 10 53 5 (by first | omega | assumption | (simp only [List.length_append, List.length_cons, List.length_nil, List.length_modify, List.length_set, nb_len, rb_len, rbp_len, sl_len, slN_len, wh_len, wt_len, hd10_len, hdB_len, thr_len, ldp_len, ldB_len, tens_len, whz_len, majL_len, mf_len, tkL_len, ldY_len, fif_len]; omega) | decide) (by first | omega | assumption | (simp only [List.length_append, List.length_cons, List.length_nil, List.length_modify, List.length_set, nb_len, rb_len, rbp_len, sl_len, slN_len, wh_len, wt_len, hd10_len, hdB_len, thr_len, ldp_len, ldB_len, tens_len, whz_len, majL_len, mf_len, tkL_len, ldY_len, fif_len]; omega) | decide) (by first | omega | assumption | (simp only [List.length_append, List.length_cons, List.length_nil, List.length_modify, List.length_set, nb_len, rb_len, rbp_len, sl_len, slN_len, wh_len, wt_len, hd10_len, hdB_len, thr_len, ldp_len, ldB_len, tens_len, whz_len, majL_len, mf_len, tkL_len, ldY_len, fif_len]; omega) | decide) (by first | omega | assumption | (simp only [List.length_append, List.length_cons, List.length_nil, List.length_modify, List.length_set, nb_len, rb_len, rbp_len, sl_len, slN_len, wh_len, wt_len, hd10_len, hdB_len, thr_len, ldp_len, ldB_len, tens_len, whz_len, majL_len, mf_len, tkL_len, ldY_len, fif_len]; omega) | decide) (by first | omega | assumption | (simp only [List.length_append, List.length_cons, List.length_nil, List.length_modify, List.length_set, nb_len, rb_len, rbp_len, sl_len, slN_len, wh_len, wt_len, hd10_len, hdB_len, thr_len, ldp_len, ldB_len, tens_len, whz_len, majL_len, mf_len, tkL_len, ldY_len, fif_len]; omega) | decide) (by first | omega | assumption | (simp only [List.length_append, List.length_cons, List.length_nil, List.length_modify, List.length_set, nb_len, rb_len, rbp_len, sl_len, slN_len, wh_len, wt_len, hd10_len, hdB_len, thr_len, ldp_len, ldB_len, tens_len, whz_len, majL_len, mf_len, tkL_len, ldY_len, fif_len]; omega) | decide)) kX1_119 vX0_remainderOf (by decide) rfl ho [0, 1, 2, 3] 4 (by decide +kernel) rfl rfl rfl rfl rfl hl.1 rfl (Nat.le_of_ble_eq_true rfl) dX1_putTens_47 0 0 rfl rfl (by decide) (fun v u_6 H locs hq ho => ?_)
        obtain rfl := hq
        have ho : ow D vwCl A s.heap H locs [bB K hf af 15 ([] ++ sl llo (10 * k) 10) u_4, bB K hlo alo 150 llo glo, bC K h ad hw hh hlo hf, bB K ho_ ao 204 (lo_ ++ tens llo k) go] := ho
        refine W.eq (g2 := F0 m 50 ls [.int (nI (crc 53 5 (sl ([] ++ sl llo (10 * k) 10) 0 10))), .ref hf]) rfl ?_
        have hcr := crc53 (sl (([] : List Bool) ++ sl llo (10 * k) 10) 0 10)
        refine lv_iconst (v := nI 5) hx hb dX1_putTens_50 (by decide) ?_
        refine o_callV (wr := [bB K hlo alo 150 llo glo, bC K h ad hw hh hlo hf, bB K ho_ ao 204 (lo_ ++ tens llo k) go]) (rest := []) (As := [.int (nI (crc 53 5 (sl ([] ++ sl llo (10 * k) 10) 0 10))), .int (nI 5)]) C (c_Bits_addRemainder la D K hf af 15 ([] ++ sl llo (10 * k) 10) u_4 (crc 53 5 (sl ([] ++ sl llo (10 * k) 10) 0 10)) 5 (by first | omega | assumption | (simp only [List.length_append, List.length_cons, List.length_nil, List.length_modify, List.length_set, nb_len, rb_len, rbp_len, sl_len, slN_len, wh_len, wt_len, hd10_len, hdB_len, thr_len, ldp_len, ldB_len, tens_len, whz_len, majL_len, mf_len, tkL_len, ldY_len, fif_len]; omega) | decide) (by first | omega | assumption | (simp only [List.length_append, List.length_cons, List.length_nil, List.length_modify, List.length_set, nb_len, rb_len, rbp_len, sl_len, slN_len, wh_len, wt_len, hd10_len, hdB_len, thr_len, ldp_len, ldB_len, tens_len, whz_len, majL_len, mf_len, tkL_len, ldY_len, fif_len]; omega) | decide) (by first | omega | assumption | (simp only [List.length_append, List.length_cons, List.length_nil, List.length_modify, List.length_set, nb_len, rb_len, rbp_len, sl_len, slN_len, wh_len, wt_len, hd10_len, hdB_len, thr_len, ldp_len, ldB_len, tens_len, whz_len, majL_len, mf_len, tkL_len, ldY_len, fif_len]; omega) | decide) (by first | omega | assumption | (simp only [List.length_append, List.length_cons, List.length_nil, List.length_modify, List.length_set, nb_len, rb_len, rbp_len, sl_len, slN_len, wh_len, wt_len, hd10_len, hdB_len, thr_len, ldp_len, ldB_len, tens_len, whz_len, majL_len, mf_len, tkL_len, ldY_len, fif_len]; omega) | decide) (by first | omega | assumption | (simp only [List.length_append, List.length_cons, List.length_nil, List.length_modify, List.length_set, nb_len, rb_len, rbp_len, sl_len, slN_len, wh_len, wt_len, hd10_len, hdB_len, thr_len, ldp_len, ldB_len, tens_len, whz_len, majL_len, mf_len, tkL_len, ldY_len, fif_len]; omega) | decide)) kX1_123 vX0_addRemainder (by decide) rfl ho [0, 1, 2, 3] 4 (by decide +kernel) rfl rfl rfl rfl rfl hl.1 rfl (Nat.le_of_ble_eq_true rfl) dX1_putTens_51 0 0 rfl rfl (by decide) (fun v u_7 H locs hq ho => ?_)
        obtain rfl := hq
        have ho : ow D vwCl A s.heap H locs [bB K hf af 15 (([] ++ sl llo (10 * k) 10) ++ rb (crc 53 5 (sl ([] ++ sl llo (10 * k) 10) 0 10)) 5) u_4, bB K hlo alo 150 llo glo, bC K h ad hw hh hlo hf, bB K ho_ ao 204 (lo_ ++ tens llo k) go] := ho
        refine W.eq (g2 := F0 m 54 ls []) rfl ?_
        have e_8 : bB K hf af 15 (([] ++ sl llo (10 * k) 10) ++ rb (crc 53 5 (sl ([] ++ sl llo (10 * k) 10) 0 10)) 5) u_4 = bB K hf af 15 (f15 llo k) u_4 := rfl
        have ho : ow D vwCl A s.heap H locs [bB K hf af 15 (f15 llo k) u_4, bB K hlo alo 150 llo glo, bC K h ad hw hh hlo hf, bB K ho_ ao 204 (lo_ ++ tens llo k) go] := by rw [← e_8]; exact ho
        refine lv_aload_n hx hb dX1_putTens_54 rfl (lv_at hl 1 rfl) ?_
        refine lv_aload_n hx hb dX1_putTens_55 rfl (lv_at hl 0 rfl) ?_
        refine o_get (v := .ref hf) C ho 2 0 rfl rfl rfl 4 fX1_26 rfl dX1_putTens_56 ?_
        refine lv_iconst (v := nI 0) hx hb dX1_putTens_59 (by decide) ?_
        refine lv_bipush (v := nI 15) hx hb dX1_putTens_60 (by decide) ?_
        refine o_callV (wr := [bB K hlo alo 150 llo glo, bC K h ad hw hh hlo hf]) (rest := []) (As := [.ref hf, .int (nI 0), .int (nI 15)]) C (c_Bits_addAll la D K ho_ ao 204 (lo_ ++ tens llo k) go hf af 15 (f15 llo k) u_4 0 15 (by first | omega | assumption | (simp only [List.length_append, List.length_cons, List.length_nil, List.length_modify, List.length_set, nb_len, rb_len, rbp_len, sl_len, slN_len, wh_len, wt_len, hd10_len, hdB_len, thr_len, ldp_len, ldB_len, tens_len, whz_len, majL_len, mf_len, tkL_len, ldY_len, fif_len]; omega) | decide) (by first | omega | assumption | (simp only [List.length_append, List.length_cons, List.length_nil, List.length_modify, List.length_set, nb_len, rb_len, rbp_len, sl_len, slN_len, wh_len, wt_len, hd10_len, hdB_len, thr_len, ldp_len, ldB_len, tens_len, whz_len, majL_len, mf_len, tkL_len, ldY_len, fif_len]; omega) | decide) (by simp only [f15, List.length_append, List.length_nil, sl_len, rb_len]; omega) (by first | omega | assumption | (simp only [List.length_append, List.length_cons, List.length_nil, List.length_modify, List.length_set, nb_len, rb_len, rbp_len, sl_len, slN_len, wh_len, wt_len, hd10_len, hdB_len, thr_len, ldp_len, ldB_len, tens_len, whz_len, majL_len, mf_len, tkL_len, ldY_len, fif_len]; omega) | decide) (by first | omega | assumption | (simp only [List.length_append, List.length_cons, List.length_nil, List.length_modify, List.length_set, nb_len, rb_len, rbp_len, sl_len, slN_len, wh_len, wt_len, hd10_len, hdB_len, thr_len, ldp_len, ldB_len, tens_len, whz_len, majL_len, mf_len, tkL_len, ldY_len, fif_len]; omega) | decide)) kX1_60 vX0_addAll (by decide) rfl ho [3, 0, 1, 2] 4 (by decide +kernel) rfl rfl rfl rfl rfl hl.1 rfl (Nat.le_of_ble_eq_true rfl) dX1_putTens_62 0 0 rfl rfl (by decide) (fun v u_9 H locs hq ho => ?_)
        obtain rfl := hq
        have ho : ow D vwCl A s.heap H locs [bB K ho_ ao 204 ((lo_ ++ tens llo k) ++ sl (f15 llo k) 0 15) go, bB K hf af 15 (f15 llo k) u_4, bB K hlo alo 150 llo glo, bC K h ad hw hh hlo hf] := ho
        refine W.eq (g2 := F0 m 65 ls []) rfl ?_
        have e_10 : bB K ho_ ao 204 ((lo_ ++ tens llo k) ++ sl (f15 llo k) 0 15) go = bB K ho_ ao 204 (lo_ ++ tens llo (k + 1)) go := by rw [tens_succ, List.append_assoc]
        have ho : ow D vwCl A s.heap H locs [bB K ho_ ao 204 (lo_ ++ tens llo (k + 1)) go, bB K hf af 15 (f15 llo k) u_4, bB K hlo alo 150 llo glo, bC K h ad hw hh hlo hf] := by rw [← e_10]; exact ho
        refine lv_iinc (v := nI (10 * k + 10)) (lv' := [(2, .int (nI (10 * k + 10))), (0, .ref h), (1, .ref ho_)]) hx hb dX1_putTens_65 hl (k := 2) rfl (iincN _ _) (by decide) rfl (fun ls hl => ?_)
        have e_11 : (.int (nI (10 * k + 10)) : Value) = .int (nI (10 * (k + 1))) := rfl
        have hl : lv_has ls 3 [(2, .int (nI (10 * (k + 1)))), (0, .ref h), (1, .ref ho_)] := by rw [← e_11]; exact hl
        refine lv_goto (tgt := 2) hx hb dX1_putTens_68 (by decide) ?_
        have ho : ow D vwCl A s.heap H locs [bC K h ad hw hh hlo hf, bB K hlo alo 150 llo glo, bB K hf af 15 (f15 llo k) u_4, bB K ho_ ao 204 (lo_ ++ tens llo (k + 1)) go] := ho.re [3, 2, 1, 0] 4 (by decide +kernel) rfl rfl
        exact ih2 (k + 1) (f15 llo k) u_4 (by omega) (by omega) (by simp only [f15, List.length_append, List.length_nil, sl_len, rb_len]; omega) _ _ _ ho (lv_sub hl [1, 2, 0] rfl)
  exact LP2 ((llo.length + 9) / 10 - 0 + 1) 0 lf gf (Nat.lt_succ_self _) (by omega) qf _ _ _ ho (lv_sub hl [1, 2, 0] rfl)

set_option maxHeartbeats 4000000 in
set_option maxRecDepth 100000 in
theorem c_Coder_takeHead (la : Launch) (D : va_G) (K : Nat → ClassId) (h : Nat) (ad : Nat) (hw : Nat) (hh : Nat) (hlo : Nat) (hf : Nat) (aw : Nat) (lw : List Bool) (gw : Nat → Int32) (ah : Nat) (lh : List Bool) (gh : Nat → Int32) (ho_ : Nat) (ao : Nat) (lo_ : List Bool) (go : Nat → Int32) (qw : lw.length ≤ 168) (qh : lh.length ≤ 18) (qo : lo_.length ≤ 204) : MT la D K yX1_takeHead cX1_takeHead 5 none (rmL 3 0 0) [.ref h, .ref ho_] [bC K h ad hw hh hlo hf, bB K hw aw 168 lw gw, bB K hh ah 18 lh gh, bB K ho_ ao 204 lo_ go] (Nat → Int32) (fun v _ => v = none) (fun u => [bC K h ad hw hh hlo hf, bB K hw aw 168 lw gw, bB K hh ah 18 (whz (majL lo_ 18) lw 0) u, bB K ho_ ao 204 lo_ go]) := by
  refine Mt.ofW [(0, .ref h), (1, .ref ho_)] (by decide) rfl (Nat.le_of_ble_eq_true rfl) ?_
  intro p e s m args below meth c A ls H locs Qz hQ C hin hl ho
  have hx := C.1.1
  have hb := C.1.2.1
  refine lv_aload_n hx hb dX1_takeHead_0 rfl (lv_at hl 0 rfl) ?_
  refine o_get (v := .ref hh) C ho 0 0 rfl rfl rfl 2 fX1_20 rfl dX1_takeHead_1 ?_
  refine o_callV (wr := [bC K h ad hw hh hlo hf, bB K hw aw 168 lw gw, bB K ho_ ao 204 lo_ go]) (rest := []) (As := []) C (c_Bits_clear la D K hh ah 18 lh gh (by first | omega | assumption | (simp only [List.length_append, List.length_cons, List.length_nil, List.length_modify, List.length_set, nb_len, rb_len, rbp_len, sl_len, slN_len, wh_len, wt_len, hd10_len, hdB_len, thr_len, ldp_len, ldB_len, tens_len, whz_len, majL_len, mf_len, tkL_len, ldY_len, fif_len]; omega) | decide) (by first | omega | assumption | (simp only [List.length_append, List.length_cons, List.length_nil, List.length_modify, List.length_set, nb_len, rb_len, rbp_len, sl_len, slN_len, wh_len, wt_len, hd10_len, hdB_len, thr_len, ldp_len, ldB_len, tens_len, whz_len, majL_len, mf_len, tkL_len, ldY_len, fif_len]; omega) | decide)) kX1_85 vX0_clear (by decide) rfl ho [2, 0, 1, 3] 4 (by decide +kernel) rfl rfl rfl rfl rfl hl.1 rfl (Nat.le_of_ble_eq_true rfl) dX1_takeHead_4 0 0 rfl rfl (by decide) (fun v u_1 H locs hq ho => ?_)
  obtain rfl := hq
  have ho : ow D vwCl A s.heap H locs [bB K hh ah 18 [] u_1, bC K h ad hw hh hlo hf, bB K hw aw 168 lw gw, bB K ho_ ao 204 lo_ go] := ho
  refine W.eq (g2 := F0 m 7 ls []) rfl ?_
  refine lv_iconst (v := nI 0) hx hb dX1_takeHead_7 (by decide) ?_
  refine lv_istore_n (lv' := [(2, .int (nI 0)), (0, .ref h), (1, .ref ho_)]) hx hb dX1_takeHead_8 rfl hl (by decide) rfl (fun ls hl => ?_)
  have e_2 : bB K hh ah 18 [] u_1 = bB K hh ah 18 (majL lo_ 0) u_1 := rfl
  have ho : ow D vwCl A s.heap H locs [bB K hh ah 18 (majL lo_ 0) u_1, bC K h ad hw hh hlo hf, bB K hw aw 168 lw gw, bB K ho_ ao 204 lo_ go] := by rw [← e_2]; exact ho
  have LP9 : ∀ (fuel : Nat) (i : Nat) (gv : Nat → Int32) (_ : 18 - i < fuel) (_ : i ≤ 18) (H : Heap) (locs : List Loc) (ls : Array Slot) (_ : ow D vwCl A s.heap H locs [bC K h ad hw hh hlo hf, bB K hw aw 168 lw gw, bB K hh ah 18 (majL lo_ i) gv, bB K ho_ ao 204 lo_ go]) (_ : lv_has ls 5 [(0, .ref h), (1, .ref ho_), (2, .int (nI i))]), W p la e (rmL 3 0 0) s m args below meth c H locs 0 0 Qz (F0 m 9 ls []) := by
    intro fuel
    induction fuel with
    | zero => intro i gv h0; exact absurd h0 (Nat.not_lt_zero _)
    | succ fuel ih9 =>
      intro i gv hfu hi H locs ls ho hl
      have hml := majL_len lo_ i
      refine lv_iload_n hx hb dX1_takeHead_9 rfl (lv_at hl 2 rfl) ?_
      refine lv_bipush (v := nI 18) hx hb dX1_takeHead_10 (by decide) ?_
      refine o_icmp_ge (tgt := 66) hx hb dX1_takeHead_12 (by decide) (by first | omega | exact and1_lt _) (by first | omega | exact and1_lt _) (fun c_3 => ?_) (fun c_3 => ?_)
      · skip
        have e_4 : bB K hh ah 18 (majL lo_ i) gv = bB K hh ah 18 (majL lo_ 18) gv := by rw [show i = 18 by omega]
        have ho : ow D vwCl A s.heap H locs [bC K h ad hw hh hlo hf, bB K hw aw 168 lw gw, bB K hh ah 18 (majL lo_ 18) gv, bB K ho_ ao 204 lo_ go] := by rw [← e_4]; exact ho
        refine lv_aload_n hx hb dX1_takeHead_66 rfl (lv_at hl 0 rfl) ?_
        refine o_get (v := .ref hh) C ho 0 0 rfl rfl rfl 2 fX1_20 rfl dX1_takeHead_67 ?_
        refine lv_aload_n hx hb dX1_takeHead_70 rfl (lv_at hl 0 rfl) ?_
        refine o_get (v := .ref hw) C ho 0 0 rfl rfl rfl 1 fX1_14 rfl dX1_takeHead_71 ?_
        refine lv_iconst (v := nI 0) hx hb dX1_takeHead_74 (by decide) ?_
        refine o_callV (wr := [bC K h ad hw hh hlo hf, bB K ho_ ao 204 lo_ go]) (rest := []) (As := [.ref hw, .int (nI 0)]) C (c_Bits_whiten la D K hh ah 18 (majL lo_ 18) gv hw aw 168 lw gw 0 (by first | omega | assumption | (simp only [List.length_append, List.length_cons, List.length_nil, List.length_modify, List.length_set, nb_len, rb_len, rbp_len, sl_len, slN_len, wh_len, wt_len, hd10_len, hdB_len, thr_len, ldp_len, ldB_len, tens_len, whz_len, majL_len, mf_len, tkL_len, ldY_len, fif_len]; omega) | decide) (by first | omega | assumption | (simp only [List.length_append, List.length_cons, List.length_nil, List.length_modify, List.length_set, nb_len, rb_len, rbp_len, sl_len, slN_len, wh_len, wt_len, hd10_len, hdB_len, thr_len, ldp_len, ldB_len, tens_len, whz_len, majL_len, mf_len, tkL_len, ldY_len, fif_len]; omega) | decide) (by first | omega | assumption | (simp only [List.length_append, List.length_cons, List.length_nil, List.length_modify, List.length_set, nb_len, rb_len, rbp_len, sl_len, slN_len, wh_len, wt_len, hd10_len, hdB_len, thr_len, ldp_len, ldB_len, tens_len, whz_len, majL_len, mf_len, tkL_len, ldY_len, fif_len]; omega) | decide) (by first | omega | assumption | (simp only [List.length_append, List.length_cons, List.length_nil, List.length_modify, List.length_set, nb_len, rb_len, rbp_len, sl_len, slN_len, wh_len, wt_len, hd10_len, hdB_len, thr_len, ldp_len, ldB_len, tens_len, whz_len, majL_len, mf_len, tkL_len, ldY_len, fif_len]; omega) | decide) (by first | omega | assumption | (simp only [List.length_append, List.length_cons, List.length_nil, List.length_modify, List.length_set, nb_len, rb_len, rbp_len, sl_len, slN_len, wh_len, wt_len, hd10_len, hdB_len, thr_len, ldp_len, ldB_len, tens_len, whz_len, majL_len, mf_len, tkL_len, ldY_len, fif_len]; omega) | decide)) kX1_94 vX0_whiten (by decide) rfl ho [2, 1, 0, 3] 4 (by decide +kernel) rfl rfl rfl rfl rfl hl.1 rfl (Nat.le_of_ble_eq_true rfl) dX1_takeHead_75 0 0 rfl rfl (by decide) (fun v u_5 H locs hq ho => ?_)
        obtain rfl := hq
        have ho : ow D vwCl A s.heap H locs [bB K hh ah 18 (wh (majL lo_ 18) lw 0 (majL lo_ 18).length) gv, bB K hw aw 168 lw gw, bC K h ad hw hh hlo hf, bB K ho_ ao 204 lo_ go] := ho
        refine W.eq (g2 := F0 m 78 ls []) rfl ?_
        have e_6 : bB K hh ah 18 (wh (majL lo_ 18) lw 0 (majL lo_ 18).length) gv = bB K hh ah 18 (whz (majL lo_ 18) lw 0) gv := rfl
        have ho : ow D vwCl A s.heap H locs [bB K hh ah 18 (whz (majL lo_ 18) lw 0) gv, bB K hw aw 168 lw gw, bC K h ad hw hh hlo hf, bB K ho_ ao 204 lo_ go] := by rw [← e_6]; exact ho
        have ho : ow D vwCl A s.heap H locs [bC K h ad hw hh hlo hf, bB K hw aw 168 lw gw, bB K hh ah 18 (whz (majL lo_ 18) lw 0) gv, bB K ho_ ao 204 lo_ go] := ho.re [2, 1, 0, 3] 4 (by decide +kernel) rfl rfl
        exact o_vret hQ C ho gv rfl rfl (Nat.le_of_ble_eq_true rfl) (Nat.le_of_ble_eq_true rfl) dX1_takeHead_78
      · skip
        refine lv_iconst (v := nI 3) hx hb dX1_takeHead_15 (by decide) ?_
        refine lv_iload_n hx hb dX1_takeHead_16 rfl (lv_at hl 2 rfl) ?_
        refine o_mul hx hb dX1_takeHead_17 ?_
        refine lv_istore_n (lv' := [(3, .int (nI (3 * i))), (0, .ref h), (1, .ref ho_), (2, .int (nI i))]) hx hb dX1_takeHead_18 rfl hl (by decide) rfl (fun ls hl => ?_)
        refine lv_aload_n hx hb dX1_takeHead_19 rfl (lv_at hl 2 rfl) ?_
        refine lv_iload_n hx hb dX1_takeHead_20 rfl (lv_at hl 0 rfl) ?_
        refine o_callV (wr := [bC K h ad hw hh hlo hf, bB K hw aw 168 lw gw, bB K hh ah 18 (majL lo_ i) gv]) (rest := []) (As := [.int (nI (3 * i))]) C (c_Bits_at la D K ho_ ao 204 lo_ go (3 * i) (by first | omega | assumption | (simp only [List.length_append, List.length_cons, List.length_nil, List.length_modify, List.length_set, nb_len, rb_len, rbp_len, sl_len, slN_len, wh_len, wt_len, hd10_len, hdB_len, thr_len, ldp_len, ldB_len, tens_len, whz_len, majL_len, mf_len, tkL_len, ldY_len, fif_len]; omega) | decide) (by first | omega | assumption | (simp only [List.length_append, List.length_cons, List.length_nil, List.length_modify, List.length_set, nb_len, rb_len, rbp_len, sl_len, slN_len, wh_len, wt_len, hd10_len, hdB_len, thr_len, ldp_len, ldB_len, tens_len, whz_len, majL_len, mf_len, tkL_len, ldY_len, fif_len]; omega) | decide) (by first | omega | assumption | (simp only [List.length_append, List.length_cons, List.length_nil, List.length_modify, List.length_set, nb_len, rb_len, rbp_len, sl_len, slN_len, wh_len, wt_len, hd10_len, hdB_len, thr_len, ldp_len, ldB_len, tens_len, whz_len, majL_len, mf_len, tkL_len, ldY_len, fif_len]; omega) | decide)) kX1_106 vX0_at (by decide) rfl ho [3, 0, 1, 2] 4 (by decide +kernel) rfl rfl rfl rfl rfl hl.1 rfl (Nat.le_of_ble_eq_true rfl) dX1_takeHead_21 0 0 rfl rfl (by decide) (fun v u_7 H locs hq ho => ?_)
        obtain rfl := hq
        have ho : ow D vwCl A s.heap H locs [bB K ho_ ao 204 lo_ go, bC K h ad hw hh hlo hf, bB K hw aw 168 lw gw, bB K hh ah 18 (majL lo_ i) gv] := ho
        refine W.eq (g2 := F0 m 24 ls [.int (bI (lo_.getD (3 * i) false))]) rfl ?_
        refine o_top (y := nI ((lo_.getD (3 * i) false).toNat)) (bI_N _) ?_
        refine lv_aload_n hx hb dX1_takeHead_24 rfl (lv_at hl 2 rfl) ?_
        refine lv_iload_n hx hb dX1_takeHead_25 rfl (lv_at hl 0 rfl) ?_
        refine lv_iconst (v := nI 1) hx hb dX1_takeHead_26 (by decide) ?_
        refine o_add hx hb dX1_takeHead_27 ?_
        refine o_callV (wr := [bC K h ad hw hh hlo hf, bB K hw aw 168 lw gw, bB K hh ah 18 (majL lo_ i) gv]) (rest := [.int (nI ((lo_.getD (3 * i) false).toNat))]) (As := [.int (nI ((3 * i) + 1))]) C (c_Bits_at la D K ho_ ao 204 lo_ go ((3 * i) + 1) (by first | omega | assumption | (simp only [List.length_append, List.length_cons, List.length_nil, List.length_modify, List.length_set, nb_len, rb_len, rbp_len, sl_len, slN_len, wh_len, wt_len, hd10_len, hdB_len, thr_len, ldp_len, ldB_len, tens_len, whz_len, majL_len, mf_len, tkL_len, ldY_len, fif_len]; omega) | decide) (by first | omega | assumption | (simp only [List.length_append, List.length_cons, List.length_nil, List.length_modify, List.length_set, nb_len, rb_len, rbp_len, sl_len, slN_len, wh_len, wt_len, hd10_len, hdB_len, thr_len, ldp_len, ldB_len, tens_len, whz_len, majL_len, mf_len, tkL_len, ldY_len, fif_len]; omega) | decide) (by first | omega | assumption | (simp only [List.length_append, List.length_cons, List.length_nil, List.length_modify, List.length_set, nb_len, rb_len, rbp_len, sl_len, slN_len, wh_len, wt_len, hd10_len, hdB_len, thr_len, ldp_len, ldB_len, tens_len, whz_len, majL_len, mf_len, tkL_len, ldY_len, fif_len]; omega) | decide)) kX1_106 vX0_at (by decide) rfl ho [0, 1, 2, 3] 4 (by decide +kernel) rfl rfl rfl rfl rfl hl.1 rfl (Nat.le_of_ble_eq_true rfl) dX1_takeHead_28 0 0 rfl rfl (by decide) (fun v u_8 H locs hq ho => ?_)
        obtain rfl := hq
        have ho : ow D vwCl A s.heap H locs [bB K ho_ ao 204 lo_ go, bC K h ad hw hh hlo hf, bB K hw aw 168 lw gw, bB K hh ah 18 (majL lo_ i) gv] := ho
        refine W.eq (g2 := F0 m 31 ls [.int (bI (lo_.getD ((3 * i) + 1) false)), .int (nI ((lo_.getD (3 * i) false).toNat))]) rfl ?_
        refine o_top (y := nI ((lo_.getD (3 * i + 1) false).toNat)) (bI_N _) ?_
        refine o_add hx hb dX1_takeHead_31 ?_
        refine lv_aload_n hx hb dX1_takeHead_32 rfl (lv_at hl 2 rfl) ?_
        refine lv_iload_n hx hb dX1_takeHead_33 rfl (lv_at hl 0 rfl) ?_
        refine lv_iconst (v := nI 2) hx hb dX1_takeHead_34 (by decide) ?_
        refine o_add hx hb dX1_takeHead_35 ?_
        refine o_callV (wr := [bC K h ad hw hh hlo hf, bB K hw aw 168 lw gw, bB K hh ah 18 (majL lo_ i) gv]) (rest := [.int (nI (((lo_.getD (3 * i) false).toNat) + ((lo_.getD (3 * i + 1) false).toNat)))]) (As := [.int (nI ((3 * i) + 2))]) C (c_Bits_at la D K ho_ ao 204 lo_ go ((3 * i) + 2) (by first | omega | assumption | (simp only [List.length_append, List.length_cons, List.length_nil, List.length_modify, List.length_set, nb_len, rb_len, rbp_len, sl_len, slN_len, wh_len, wt_len, hd10_len, hdB_len, thr_len, ldp_len, ldB_len, tens_len, whz_len, majL_len, mf_len, tkL_len, ldY_len, fif_len]; omega) | decide) (by first | omega | assumption | (simp only [List.length_append, List.length_cons, List.length_nil, List.length_modify, List.length_set, nb_len, rb_len, rbp_len, sl_len, slN_len, wh_len, wt_len, hd10_len, hdB_len, thr_len, ldp_len, ldB_len, tens_len, whz_len, majL_len, mf_len, tkL_len, ldY_len, fif_len]; omega) | decide) (by first | omega | assumption | (simp only [List.length_append, List.length_cons, List.length_nil, List.length_modify, List.length_set, nb_len, rb_len, rbp_len, sl_len, slN_len, wh_len, wt_len, hd10_len, hdB_len, thr_len, ldp_len, ldB_len, tens_len, whz_len, majL_len, mf_len, tkL_len, ldY_len, fif_len]; omega) | decide)) kX1_106 vX0_at (by decide) rfl ho [0, 1, 2, 3] 4 (by decide +kernel) rfl rfl rfl rfl rfl hl.1 rfl (Nat.le_of_ble_eq_true rfl) dX1_takeHead_36 0 0 rfl rfl (by decide) (fun v u_9 H locs hq ho => ?_)
        obtain rfl := hq
        have ho : ow D vwCl A s.heap H locs [bB K ho_ ao 204 lo_ go, bC K h ad hw hh hlo hf, bB K hw aw 168 lw gw, bB K hh ah 18 (majL lo_ i) gv] := ho
        refine W.eq (g2 := F0 m 39 ls [.int (bI (lo_.getD ((3 * i) + 2) false)), .int (nI (((lo_.getD (3 * i) false).toNat) + ((lo_.getD (3 * i + 1) false).toNat)))]) rfl ?_
        refine o_top (y := nI ((lo_.getD (3 * i + 2) false).toNat)) (bI_N _) ?_
        refine o_add hx hb dX1_takeHead_39 ?_
        refine lv_istore (lv' := [(4, .int (nI ((((lo_.getD (3 * i) false).toNat) + ((lo_.getD (3 * i + 1) false).toNat)) + ((lo_.getD (3 * i + 2) false).toNat)))), (3, .int (nI (3 * i))), (0, .ref h), (1, .ref ho_), (2, .int (nI i))]) hx hb dX1_takeHead_40 hl (by decide) rfl (fun ls hl => ?_)
        refine lv_aload_n hx hb dX1_takeHead_42 rfl (lv_at hl 2 rfl) ?_
        refine o_get (v := .ref hh) C ho 1 0 rfl rfl rfl 2 fX1_20 rfl dX1_takeHead_43 ?_
        have hb1 := Bool.toNat_le (lo_.getD (3 * i) false)
        have hb2 := Bool.toNat_le (lo_.getD (3 * i + 1) false)
        have hb3 := Bool.toNat_le (lo_.getD (3 * i + 2) false)
        refine lv_iload hx hb dX1_takeHead_46 (lv_at hl 0 rfl) ?_
        refine lv_iconst (v := nI 2) hx hb dX1_takeHead_48 (by decide) ?_
        refine o_icmp_lt (tgt := 56) hx hb dX1_takeHead_49 (by decide) (by first | omega | exact and1_lt _) (by first | omega | exact and1_lt _) (fun c_10 => ?_) (fun c_10 => ?_)
        · skip
          refine lv_iconst (v := nI 0) hx hb dX1_takeHead_56 (by decide) ?_
          refine o_callV (wr := [bB K ho_ ao 204 lo_ go, bC K h ad hw hh hlo hf, bB K hw aw 168 lw gw]) (rest := []) (As := [.int (nI 0)]) C (c_Bits_add la D K hh ah 18 (majL lo_ i) gv false (by first | omega | assumption | (simp only [List.length_append, List.length_cons, List.length_nil, List.length_modify, List.length_set, nb_len, rb_len, rbp_len, sl_len, slN_len, wh_len, wt_len, hd10_len, hdB_len, thr_len, ldp_len, ldB_len, tens_len, whz_len, majL_len, mf_len, tkL_len, ldY_len, fif_len]; omega) | decide) (by first | omega | assumption | (simp only [List.length_append, List.length_cons, List.length_nil, List.length_modify, List.length_set, nb_len, rb_len, rbp_len, sl_len, slN_len, wh_len, wt_len, hd10_len, hdB_len, thr_len, ldp_len, ldB_len, tens_len, whz_len, majL_len, mf_len, tkL_len, ldY_len, fif_len]; omega) | decide)) kX1_110 vX0_add (by decide) rfl ho [3, 0, 1, 2] 4 (by decide +kernel) rfl rfl rfl rfl rfl hl.1 rfl (Nat.le_of_ble_eq_true rfl) dX1_takeHead_57 0 0 rfl rfl (by decide) (fun v u_11 H locs hq ho => ?_)
          obtain rfl := hq
          have ho : ow D vwCl A s.heap H locs [bB K hh ah 18 ((majL lo_ i) ++ [false]) gv, bB K ho_ ao 204 lo_ go, bC K h ad hw hh hlo hf, bB K hw aw 168 lw gw] := ho
          refine W.eq (g2 := F0 m 60 ls []) rfl ?_
          have e_12 : bB K hh ah 18 ((majL lo_ i) ++ [false]) gv = bB K hh ah 18 (majL lo_ (i + 1)) gv := by rw [majL_succ, maj, decide_eq_false (by omega)]
          have ho : ow D vwCl A s.heap H locs [bB K hh ah 18 (majL lo_ (i + 1)) gv, bB K ho_ ao 204 lo_ go, bC K h ad hw hh hlo hf, bB K hw aw 168 lw gw] := by rw [← e_12]; exact ho
          refine lv_iinc (v := nI (i + 1)) (lv' := [(2, .int (nI (i + 1))), (4, .int (nI ((((lo_.getD (3 * i) false).toNat) + ((lo_.getD (3 * i + 1) false).toNat)) + ((lo_.getD (3 * i + 2) false).toNat)))), (3, .int (nI (3 * i))), (0, .ref h), (1, .ref ho_)]) hx hb dX1_takeHead_60 hl (k := 4) rfl (iincN _ _) (by decide) rfl (fun ls hl => ?_)
          refine lv_goto (tgt := 9) hx hb dX1_takeHead_63 (by decide) ?_
          have ho : ow D vwCl A s.heap H locs [bC K h ad hw hh hlo hf, bB K hw aw 168 lw gw, bB K hh ah 18 (majL lo_ (i + 1)) gv, bB K ho_ ao 204 lo_ go] := ho.re [2, 3, 0, 1] 4 (by decide +kernel) rfl rfl
          exact ih9 (i + 1) gv (by omega) (by omega) _ _ _ ho (lv_sub hl [3, 4, 0] rfl)
        · skip
          refine lv_iconst (v := nI 1) hx hb dX1_takeHead_52 (by decide) ?_
          refine lv_goto (tgt := 57) hx hb dX1_takeHead_53 (by decide) ?_
          refine o_callV (wr := [bB K ho_ ao 204 lo_ go, bC K h ad hw hh hlo hf, bB K hw aw 168 lw gw]) (rest := []) (As := [.int (nI 1)]) C (c_Bits_add la D K hh ah 18 (majL lo_ i) gv true (by first | omega | assumption | (simp only [List.length_append, List.length_cons, List.length_nil, List.length_modify, List.length_set, nb_len, rb_len, rbp_len, sl_len, slN_len, wh_len, wt_len, hd10_len, hdB_len, thr_len, ldp_len, ldB_len, tens_len, whz_len, majL_len, mf_len, tkL_len, ldY_len, fif_len]; omega) | decide) (by first | omega | assumption | (simp only [List.length_append, List.length_cons, List.length_nil, List.length_modify, List.length_set, nb_len, rb_len, rbp_len, sl_len, slN_len, wh_len, wt_len, hd10_len, hdB_len, thr_len, ldp_len, ldB_len, tens_len, whz_len, majL_len, mf_len, tkL_len, ldY_len, fif_len]; omega) | decide)) kX1_110 vX0_add (by decide) rfl ho [3, 0, 1, 2] 4 (by decide +kernel) rfl rfl rfl rfl rfl hl.1 rfl (Nat.le_of_ble_eq_true rfl) dX1_takeHead_57 0 0 rfl rfl (by decide) (fun v u_13 H locs hq ho => ?_)
          obtain rfl := hq
          have ho : ow D vwCl A s.heap H locs [bB K hh ah 18 ((majL lo_ i) ++ [true]) gv, bB K ho_ ao 204 lo_ go, bC K h ad hw hh hlo hf, bB K hw aw 168 lw gw] := ho
          refine W.eq (g2 := F0 m 60 ls []) rfl ?_
          have e_14 : bB K hh ah 18 ((majL lo_ i) ++ [true]) gv = bB K hh ah 18 (majL lo_ (i + 1)) gv := by rw [majL_succ, maj, decide_eq_true c_10]
          have ho : ow D vwCl A s.heap H locs [bB K hh ah 18 (majL lo_ (i + 1)) gv, bB K ho_ ao 204 lo_ go, bC K h ad hw hh hlo hf, bB K hw aw 168 lw gw] := by rw [← e_14]; exact ho
          refine lv_iinc (v := nI (i + 1)) (lv' := [(2, .int (nI (i + 1))), (4, .int (nI ((((lo_.getD (3 * i) false).toNat) + ((lo_.getD (3 * i + 1) false).toNat)) + ((lo_.getD (3 * i + 2) false).toNat)))), (3, .int (nI (3 * i))), (0, .ref h), (1, .ref ho_)]) hx hb dX1_takeHead_60 hl (k := 4) rfl (iincN _ _) (by decide) rfl (fun ls hl => ?_)
          refine lv_goto (tgt := 9) hx hb dX1_takeHead_63 (by decide) ?_
          have ho : ow D vwCl A s.heap H locs [bC K h ad hw hh hlo hf, bB K hw aw 168 lw gw, bB K hh ah 18 (majL lo_ (i + 1)) gv, bB K ho_ ao 204 lo_ go] := ho.re [2, 3, 0, 1] 4 (by decide +kernel) rfl rfl
          exact ih9 (i + 1) gv (by omega) (by omega) _ _ _ ho (lv_sub hl [3, 4, 0] rfl)
  have ho : ow D vwCl A s.heap H locs [bC K h ad hw hh hlo hf, bB K hw aw 168 lw gw, bB K hh ah 18 (majL lo_ 0) u_1, bB K ho_ ao 204 lo_ go] := ho.re [1, 2, 0, 3] 4 (by decide +kernel) rfl rfl
  exact LP9 (18 - 0 + 1) 0 u_1 (Nat.lt_succ_self _) (by omega) _ _ _ ho (lv_sub hl [1, 2, 0] rfl)

set_option maxHeartbeats 4000000 in
set_option maxRecDepth 100000 in
theorem c_Coder_headIsSound (la : Launch) (D : va_G) (K : Nat → ClassId) (h : Nat) (ad : Nat) (hw : Nat) (hh : Nat) (hlo : Nat) (hf : Nat) (ah : Nat) (lh : List Bool) (gh : Nat → Int32) (qh : lh.length ≤ 18) (qa : ad < 8) : MT la D K yX1_headIsSound cX1_headIsSound 2 (some .boolean) (rmL 4 0 0) [.ref h] [bC K h ad hw hh hlo hf, bB K hh ah 18 lh gh] Unit (fun v _ => v = some (.int (bI (hOK ad lh)))) (fun _ => [bC K h ad hw hh hlo hf, bB K hh ah 18 lh gh]) := by
  refine Mt.ofW [(0, .ref h)] (by decide) rfl (Nat.le_of_ble_eq_true rfl) ?_
  intro p e s m args below meth c A ls H locs Qz hQ C hin hl ho
  have hx := C.1.1
  have hb := C.1.2.1
  refine lv_aload_n hx hb dX1_headIsSound_0 rfl (lv_at hl 0 rfl) ?_
  refine o_get (v := .ref hh) C ho 0 0 rfl rfl rfl 2 fX1_20 rfl dX1_headIsSound_1 ?_
  refine lv_iconst (v := nI 3) hx hb dX1_headIsSound_4 (by decide) ?_
  refine lv_iconst (v := nI 4) hx hb dX1_headIsSound_5 (by decide) ?_
  refine o_callV (wr := [bC K h ad hw hh hlo hf]) (rest := []) (As := [.int (nI 3), .int (nI 4)]) C (c_Bits_numberAt la D K hh ah 18 lh gh 3 4 (by first | omega | assumption | (simp only [List.length_append, List.length_cons, List.length_nil, List.length_modify, List.length_set, nb_len, rb_len, rbp_len, sl_len, slN_len, wh_len, wt_len, hd10_len, hdB_len, thr_len, ldp_len, ldB_len, tens_len, whz_len, majL_len, mf_len, tkL_len, ldY_len, fif_len]; omega) | decide) (by first | omega | assumption | (simp only [List.length_append, List.length_cons, List.length_nil, List.length_modify, List.length_set, nb_len, rb_len, rbp_len, sl_len, slN_len, wh_len, wt_len, hd10_len, hdB_len, thr_len, ldp_len, ldB_len, tens_len, whz_len, majL_len, mf_len, tkL_len, ldY_len, fif_len]; omega) | decide) (by first | omega | assumption | (simp only [List.length_append, List.length_cons, List.length_nil, List.length_modify, List.length_set, nb_len, rb_len, rbp_len, sl_len, slN_len, wh_len, wt_len, hd10_len, hdB_len, thr_len, ldp_len, ldB_len, tens_len, whz_len, majL_len, mf_len, tkL_len, ldY_len, fif_len]; omega) | decide) (by first | omega | assumption | (simp only [List.length_append, List.length_cons, List.length_nil, List.length_modify, List.length_set, nb_len, rb_len, rbp_len, sl_len, slN_len, wh_len, wt_len, hd10_len, hdB_len, thr_len, ldp_len, ldB_len, tens_len, whz_len, majL_len, mf_len, tkL_len, ldY_len, fif_len]; omega) | decide)) kX1_135 vX0_numberAt (by decide) rfl ho [1, 0] 2 (by decide +kernel) rfl rfl rfl rfl rfl hl.1 rfl (Nat.le_of_ble_eq_true rfl) dX1_headIsSound_6 0 0 rfl rfl (by decide) (fun v u_1 H locs hq ho => ?_)
  obtain rfl := hq
  have ho : ow D vwCl A s.heap H locs [bB K hh ah 18 lh gh, bC K h ad hw hh hlo hf] := ho
  refine W.eq (g2 := F0 m 9 ls [.int (nI (toN lh 3 4))]) rfl ?_
  have ht1 := toN_lt lh 3 4
  have ht2 := toN_lt lh 0 3
  refine lv_istore_n (lv' := [(1, .int (nI (toN lh 3 4))), (0, .ref h)]) hx hb dX1_headIsSound_9 rfl hl (by decide) rfl (fun ls hl => ?_)
  refine lv_aload_n hx hb dX1_headIsSound_10 rfl (lv_at hl 1 rfl) ?_
  refine o_get (v := .ref hh) C ho 1 0 rfl rfl rfl 2 fX1_20 rfl dX1_headIsSound_11 ?_
  refine lv_bipush (v := nI 10) hx hb dX1_headIsSound_14 (by decide) ?_
  refine lv_sipush (v := nI 423) hx hb dX1_headIsSound_16 (by decide) ?_
  refine lv_bipush (v := nI 8) hx hb dX1_headIsSound_19 (by decide) ?_
  refine o_callV (wr := [bC K h ad hw hh hlo hf]) (rest := []) (As := [.int (nI 10), .int (nI 423), .int (nI 8)]) C (c_Bits_holds la D K hh ah 18 lh gh 10 423 8 (by first | omega | assumption | (simp only [List.length_append, List.length_cons, List.length_nil, List.length_modify, List.length_set, nb_len, rb_len, rbp_len, sl_len, slN_len, wh_len, wt_len, hd10_len, hdB_len, thr_len, ldp_len, ldB_len, tens_len, whz_len, majL_len, mf_len, tkL_len, ldY_len, fif_len]; omega) | decide) (by first | omega | assumption | (simp only [List.length_append, List.length_cons, List.length_nil, List.length_modify, List.length_set, nb_len, rb_len, rbp_len, sl_len, slN_len, wh_len, wt_len, hd10_len, hdB_len, thr_len, ldp_len, ldB_len, tens_len, whz_len, majL_len, mf_len, tkL_len, ldY_len, fif_len]; omega) | decide) (by first | omega | assumption | (simp only [List.length_append, List.length_cons, List.length_nil, List.length_modify, List.length_set, nb_len, rb_len, rbp_len, sl_len, slN_len, wh_len, wt_len, hd10_len, hdB_len, thr_len, ldp_len, ldB_len, tens_len, whz_len, majL_len, mf_len, tkL_len, ldY_len, fif_len]; omega) | decide) (by first | omega | assumption | (simp only [List.length_append, List.length_cons, List.length_nil, List.length_modify, List.length_set, nb_len, rb_len, rbp_len, sl_len, slN_len, wh_len, wt_len, hd10_len, hdB_len, thr_len, ldp_len, ldB_len, tens_len, whz_len, majL_len, mf_len, tkL_len, ldY_len, fif_len]; omega) | decide) (by first | omega | assumption | (simp only [List.length_append, List.length_cons, List.length_nil, List.length_modify, List.length_set, nb_len, rb_len, rbp_len, sl_len, slN_len, wh_len, wt_len, hd10_len, hdB_len, thr_len, ldp_len, ldB_len, tens_len, whz_len, majL_len, mf_len, tkL_len, ldY_len, fif_len]; omega) | decide) (by first | omega | assumption | (simp only [List.length_append, List.length_cons, List.length_nil, List.length_modify, List.length_set, nb_len, rb_len, rbp_len, sl_len, slN_len, wh_len, wt_len, hd10_len, hdB_len, thr_len, ldp_len, ldB_len, tens_len, whz_len, majL_len, mf_len, tkL_len, ldY_len, fif_len]; omega) | decide)) kX1_139 vX0_holds (by decide) rfl ho [0, 1] 2 (by decide +kernel) rfl rfl rfl rfl rfl hl.1 rfl (Nat.le_of_ble_eq_true rfl) dX1_headIsSound_21 0 0 rfl rfl (by decide) (fun v u_2 H locs hq ho => ?_)
  obtain rfl := hq
  have ho : ow D vwCl A s.heap H locs [bB K hh ah 18 lh gh, bC K h ad hw hh hlo hf] := ho
  refine W.eq (g2 := F0 m 24 ls [.int (bI (decide (sl lh 10 8 = rb (crc 423 8 (sl lh 0 10)) 8)))]) rfl ?_
  refine o_ifb_eq (tgt := 70) hx hb dX1_headIsSound_24 (by decide) (fun c_3 => ?_) (fun c_3 => ?_)
  · skip
    refine lv_iconst (v := nI 0) hx hb dX1_headIsSound_70 (by decide) ?_
    have ho : ow D vwCl A s.heap H locs [bC K h ad hw hh hlo hf, bB K hh ah 18 lh gh] := ho.re [1, 0] 2 (by decide +kernel) rfl rfl
    exact o_iret hQ C rfl ho () (by unfold hOK; rw [c_3]; rfl) rfl (Nat.le_of_ble_eq_true rfl) (Nat.le_of_ble_eq_true rfl) dX1_headIsSound_71
  · skip
    refine lv_aload_n hx hb dX1_headIsSound_27 rfl (lv_at hl 1 rfl) ?_
    refine o_get (v := .ref hh) C ho 1 0 rfl rfl rfl 2 fX1_20 rfl dX1_headIsSound_28 ?_
    refine lv_iconst (v := nI 0) hx hb dX1_headIsSound_31 (by decide) ?_
    refine lv_iconst (v := nI 3) hx hb dX1_headIsSound_32 (by decide) ?_
    refine o_callV (wr := [bC K h ad hw hh hlo hf]) (rest := []) (As := [.int (nI 0), .int (nI 3)]) C (c_Bits_numberAt la D K hh ah 18 lh gh 0 3 (by first | omega | assumption | (simp only [List.length_append, List.length_cons, List.length_nil, List.length_modify, List.length_set, nb_len, rb_len, rbp_len, sl_len, slN_len, wh_len, wt_len, hd10_len, hdB_len, thr_len, ldp_len, ldB_len, tens_len, whz_len, majL_len, mf_len, tkL_len, ldY_len, fif_len]; omega) | decide) (by first | omega | assumption | (simp only [List.length_append, List.length_cons, List.length_nil, List.length_modify, List.length_set, nb_len, rb_len, rbp_len, sl_len, slN_len, wh_len, wt_len, hd10_len, hdB_len, thr_len, ldp_len, ldB_len, tens_len, whz_len, majL_len, mf_len, tkL_len, ldY_len, fif_len]; omega) | decide) (by first | omega | assumption | (simp only [List.length_append, List.length_cons, List.length_nil, List.length_modify, List.length_set, nb_len, rb_len, rbp_len, sl_len, slN_len, wh_len, wt_len, hd10_len, hdB_len, thr_len, ldp_len, ldB_len, tens_len, whz_len, majL_len, mf_len, tkL_len, ldY_len, fif_len]; omega) | decide) (by first | omega | assumption | (simp only [List.length_append, List.length_cons, List.length_nil, List.length_modify, List.length_set, nb_len, rb_len, rbp_len, sl_len, slN_len, wh_len, wt_len, hd10_len, hdB_len, thr_len, ldp_len, ldB_len, tens_len, whz_len, majL_len, mf_len, tkL_len, ldY_len, fif_len]; omega) | decide)) kX1_135 vX0_numberAt (by decide) rfl ho [0, 1] 2 (by decide +kernel) rfl rfl rfl rfl rfl hl.1 rfl (Nat.le_of_ble_eq_true rfl) dX1_headIsSound_33 0 0 rfl rfl (by decide) (fun v u_4 H locs hq ho => ?_)
    obtain rfl := hq
    have ho : ow D vwCl A s.heap H locs [bB K hh ah 18 lh gh, bC K h ad hw hh hlo hf] := ho
    refine W.eq (g2 := F0 m 36 ls [.int (nI (toN lh 0 3))]) rfl ?_
    refine lv_aload_n hx hb dX1_headIsSound_36 rfl (lv_at hl 1 rfl) ?_
    refine o_get (v := .int (nI ad)) C ho 1 0 rfl rfl rfl 0 fX1_29 rfl dX1_headIsSound_37 ?_
    refine o_icmp_ne (tgt := 70) hx hb dX1_headIsSound_40 (by decide) (by first | omega | exact and1_lt _) (by first | omega | exact and1_lt _) (fun c_5 => ?_) (fun c_5 => ?_)
    · skip
      refine lv_iconst (v := nI 0) hx hb dX1_headIsSound_70 (by decide) ?_
      have ho : ow D vwCl A s.heap H locs [bC K h ad hw hh hlo hf, bB K hh ah 18 lh gh] := ho.re [1, 0] 2 (by decide +kernel) rfl rfl
      exact o_iret hQ C rfl ho () (by unfold hOK; rw [c_3, decide_eq_false c_5]; rfl) rfl (Nat.le_of_ble_eq_true rfl) (Nat.le_of_ble_eq_true rfl) dX1_headIsSound_71
    · skip
      refine lv_aload_n hx hb dX1_headIsSound_43 rfl (lv_at hl 1 rfl) ?_
      refine o_get (v := .ref hh) C ho 1 0 rfl rfl rfl 2 fX1_20 rfl dX1_headIsSound_44 ?_
      refine lv_bipush (v := nI 7) hx hb dX1_headIsSound_47 (by decide) ?_
      refine o_callV (wr := [bC K h ad hw hh hlo hf]) (rest := []) (As := [.int (nI 7)]) C (c_Bits_at la D K hh ah 18 lh gh 7 (by first | omega | assumption | (simp only [List.length_append, List.length_cons, List.length_nil, List.length_modify, List.length_set, nb_len, rb_len, rbp_len, sl_len, slN_len, wh_len, wt_len, hd10_len, hdB_len, thr_len, ldp_len, ldB_len, tens_len, whz_len, majL_len, mf_len, tkL_len, ldY_len, fif_len]; omega) | decide) (by first | omega | assumption | (simp only [List.length_append, List.length_cons, List.length_nil, List.length_modify, List.length_set, nb_len, rb_len, rbp_len, sl_len, slN_len, wh_len, wt_len, hd10_len, hdB_len, thr_len, ldp_len, ldB_len, tens_len, whz_len, majL_len, mf_len, tkL_len, ldY_len, fif_len]; omega) | decide) (by first | omega | assumption | (simp only [List.length_append, List.length_cons, List.length_nil, List.length_modify, List.length_set, nb_len, rb_len, rbp_len, sl_len, slN_len, wh_len, wt_len, hd10_len, hdB_len, thr_len, ldp_len, ldB_len, tens_len, whz_len, majL_len, mf_len, tkL_len, ldY_len, fif_len]; omega) | decide)) kX1_106 vX0_at (by decide) rfl ho [0, 1] 2 (by decide +kernel) rfl rfl rfl rfl rfl hl.1 rfl (Nat.le_of_ble_eq_true rfl) dX1_headIsSound_49 0 0 rfl rfl (by decide) (fun v u_6 H locs hq ho => ?_)
      obtain rfl := hq
      have ho : ow D vwCl A s.heap H locs [bB K hh ah 18 lh gh, bC K h ad hw hh hlo hf] := ho
      refine W.eq (g2 := F0 m 52 ls [.int (bI (lh.getD 7 false))]) rfl ?_
      refine lv_iconst (v := nI 1) hx hb dX1_headIsSound_52 (by decide) ?_
      refine o_top (y := bI true) (rfl) ?_
      refine o_icmpb_ne (tgt := 70) hx hb dX1_headIsSound_53 (by decide) (fun c_7 => ?_) (fun c_7 => ?_)
      · skip
        refine lv_iconst (v := nI 0) hx hb dX1_headIsSound_70 (by decide) ?_
        have ho : ow D vwCl A s.heap H locs [bC K h ad hw hh hlo hf, bB K hh ah 18 lh gh] := ho.re [1, 0] 2 (by decide +kernel) rfl rfl
        exact o_iret hQ C rfl ho () (by unfold hOK; rw [c_3, decide_eq_true c_5, Bool.eq_false_iff.mpr c_7]; rfl) rfl (Nat.le_of_ble_eq_true rfl) (Nat.le_of_ble_eq_true rfl) dX1_headIsSound_71
      · skip
        refine lv_iload_n hx hb dX1_headIsSound_56 rfl (lv_at hl 0 rfl) ?_
        refine lv_iconst (v := nI 1) hx hb dX1_headIsSound_57 (by decide) ?_
        refine o_icmp_lt (tgt := 70) hx hb dX1_headIsSound_58 (by decide) (by first | omega | exact and1_lt _) (by first | omega | exact and1_lt _) (fun c_8 => ?_) (fun c_8 => ?_)
        · skip
          refine lv_iconst (v := nI 0) hx hb dX1_headIsSound_70 (by decide) ?_
          have ho : ow D vwCl A s.heap H locs [bC K h ad hw hh hlo hf, bB K hh ah 18 lh gh] := ho.re [1, 0] 2 (by decide +kernel) rfl rfl
          exact o_iret hQ C rfl ho () (by unfold hOK; rw [c_3, decide_eq_true c_5, c_7, decide_eq_false (by omega)]; rfl) rfl (Nat.le_of_ble_eq_true rfl) (Nat.le_of_ble_eq_true rfl) dX1_headIsSound_71
        · skip
          refine lv_iload_n hx hb dX1_headIsSound_61 rfl (lv_at hl 0 rfl) ?_
          refine lv_iconst (v := nI 4) hx hb dX1_headIsSound_62 (by decide) ?_
          refine o_icmp_gt (tgt := 70) hx hb dX1_headIsSound_63 (by decide) (by first | omega | exact and1_lt _) (by first | omega | exact and1_lt _) (fun c_9 => ?_) (fun c_9 => ?_)
          · skip
            refine lv_iconst (v := nI 0) hx hb dX1_headIsSound_70 (by decide) ?_
            have ho : ow D vwCl A s.heap H locs [bC K h ad hw hh hlo hf, bB K hh ah 18 lh gh] := ho.re [1, 0] 2 (by decide +kernel) rfl rfl
            exact o_iret hQ C rfl ho () (by unfold hOK; rw [c_3, decide_eq_true c_5, c_7, decide_eq_true c_8, decide_eq_false (by omega)]; rfl) rfl (Nat.le_of_ble_eq_true rfl) (Nat.le_of_ble_eq_true rfl) dX1_headIsSound_71
          · skip
            refine lv_iconst (v := nI 1) hx hb dX1_headIsSound_66 (by decide) ?_
            refine lv_goto (tgt := 71) hx hb dX1_headIsSound_67 (by decide) ?_
            have ho : ow D vwCl A s.heap H locs [bC K h ad hw hh hlo hf, bB K hh ah 18 lh gh] := ho.re [1, 0] 2 (by decide +kernel) rfl rfl
            exact o_iret hQ C rfl ho () (by unfold hOK; rw [c_3, decide_eq_true c_5, c_7, decide_eq_true c_8, decide_eq_true c_9]; rfl) rfl (Nat.le_of_ble_eq_true rfl) (Nat.le_of_ble_eq_true rfl) dX1_headIsSound_71

set_option maxHeartbeats 4000000 in
set_option maxRecDepth 100000 in
theorem c_Coder_readHead (la : Launch) (D : va_G) (K : Nat → ClassId) (h : Nat) (ad : Nat) (hw : Nat) (hh : Nat) (hlo : Nat) (hf : Nat) (ah : Nat) (lh : List Bool) (gh : Nat → Int32) (hr : Nat) (hm : Nat) (kd : Nat) (ak : Bool) (tu : Bool) (be : Bool) (cr : Nat) (qh : lh.length ≤ 18) : MT la D K yX1_readHead cX1_readHead 2 none (rmL 3 0 0) [.ref h, .ref hr] [bC K h ad hw hh hlo hf, bB K hh ah 18 lh gh, bF K hr hm kd ak tu be cr] Unit (fun v _ => v = none) (fun _ => [bC K h ad hw hh hlo hf, bB K hh ah 18 lh gh, bF K hr hm (toN lh 3 4) (lh.getD 8 false) (lh.getD 9 false) be cr]) := by
  refine Mt.ofW [(0, .ref h), (1, .ref hr)] (by decide) rfl (Nat.le_of_ble_eq_true rfl) ?_
  intro p e s m args below meth c A ls H locs Qz hQ C hin hl ho
  have hx := C.1.1
  have hb := C.1.2.1
  refine lv_aload_n hx hb dX1_readHead_0 rfl (lv_at hl 1 rfl) ?_
  refine lv_aload_n hx hb dX1_readHead_1 rfl (lv_at hl 0 rfl) ?_
  refine o_get (v := .ref hh) C ho 0 0 rfl rfl rfl 2 fX1_20 rfl dX1_readHead_2 ?_
  refine lv_iconst (v := nI 3) hx hb dX1_readHead_5 (by decide) ?_
  refine lv_iconst (v := nI 4) hx hb dX1_readHead_6 (by decide) ?_
  refine o_callV (wr := [bC K h ad hw hh hlo hf, bF K hr hm kd ak tu be cr]) (rest := [.ref hr]) (As := [.int (nI 3), .int (nI 4)]) C (c_Bits_numberAt la D K hh ah 18 lh gh 3 4 (by first | omega | assumption | (simp only [List.length_append, List.length_cons, List.length_nil, List.length_modify, List.length_set, nb_len, rb_len, rbp_len, sl_len, slN_len, wh_len, wt_len, hd10_len, hdB_len, thr_len, ldp_len, ldB_len, tens_len, whz_len, majL_len, mf_len, tkL_len, ldY_len, fif_len]; omega) | decide) (by first | omega | assumption | (simp only [List.length_append, List.length_cons, List.length_nil, List.length_modify, List.length_set, nb_len, rb_len, rbp_len, sl_len, slN_len, wh_len, wt_len, hd10_len, hdB_len, thr_len, ldp_len, ldB_len, tens_len, whz_len, majL_len, mf_len, tkL_len, ldY_len, fif_len]; omega) | decide) (by first | omega | assumption | (simp only [List.length_append, List.length_cons, List.length_nil, List.length_modify, List.length_set, nb_len, rb_len, rbp_len, sl_len, slN_len, wh_len, wt_len, hd10_len, hdB_len, thr_len, ldp_len, ldB_len, tens_len, whz_len, majL_len, mf_len, tkL_len, ldY_len, fif_len]; omega) | decide) (by first | omega | assumption | (simp only [List.length_append, List.length_cons, List.length_nil, List.length_modify, List.length_set, nb_len, rb_len, rbp_len, sl_len, slN_len, wh_len, wt_len, hd10_len, hdB_len, thr_len, ldp_len, ldB_len, tens_len, whz_len, majL_len, mf_len, tkL_len, ldY_len, fif_len]; omega) | decide)) kX1_135 vX0_numberAt (by decide) rfl ho [1, 0, 2] 3 (by decide +kernel) rfl rfl rfl rfl rfl hl.1 rfl (Nat.le_of_ble_eq_true rfl) dX1_readHead_7 0 0 rfl rfl (by decide) (fun v u_1 H locs hq ho => ?_)
  obtain rfl := hq
  have ho : ow D vwCl A s.heap H locs [bB K hh ah 18 lh gh, bC K h ad hw hh hlo hf, bF K hr hm kd ak tu be cr] := ho
  refine W.eq (g2 := F0 m 10 ls [.int (nI (toN lh 3 4)), .ref hr]) rfl ?_
  refine o_put (v := .int (nI (toN lh 3 4))) (bs' := [bB K hh ah 18 lh gh, bC K h ad hw hh hlo hf, bF K hr hm (toN lh 3 4) ak tu be cr]) C ho 2 0 rfl rfl rfl 1 fX1_50 pX3_1 rfl rfl (Nat.le_of_ble_eq_true rfl) dX1_readHead_10 rfl (fun H locs ho => ?_)
  refine lv_aload_n hx hb dX1_readHead_13 rfl (lv_at hl 1 rfl) ?_
  refine lv_aload_n hx hb dX1_readHead_14 rfl (lv_at hl 0 rfl) ?_
  refine o_get (v := .ref hh) C ho 1 0 rfl rfl rfl 2 fX1_20 rfl dX1_readHead_15 ?_
  refine lv_bipush (v := nI 8) hx hb dX1_readHead_18 (by decide) ?_
  refine o_callV (wr := [bC K h ad hw hh hlo hf, bF K hr hm (toN lh 3 4) ak tu be cr]) (rest := [.ref hr]) (As := [.int (nI 8)]) C (c_Bits_at la D K hh ah 18 lh gh 8 (by first | omega | assumption | (simp only [List.length_append, List.length_cons, List.length_nil, List.length_modify, List.length_set, nb_len, rb_len, rbp_len, sl_len, slN_len, wh_len, wt_len, hd10_len, hdB_len, thr_len, ldp_len, ldB_len, tens_len, whz_len, majL_len, mf_len, tkL_len, ldY_len, fif_len]; omega) | decide) (by first | omega | assumption | (simp only [List.length_append, List.length_cons, List.length_nil, List.length_modify, List.length_set, nb_len, rb_len, rbp_len, sl_len, slN_len, wh_len, wt_len, hd10_len, hdB_len, thr_len, ldp_len, ldB_len, tens_len, whz_len, majL_len, mf_len, tkL_len, ldY_len, fif_len]; omega) | decide) (by first | omega | assumption | (simp only [List.length_append, List.length_cons, List.length_nil, List.length_modify, List.length_set, nb_len, rb_len, rbp_len, sl_len, slN_len, wh_len, wt_len, hd10_len, hdB_len, thr_len, ldp_len, ldB_len, tens_len, whz_len, majL_len, mf_len, tkL_len, ldY_len, fif_len]; omega) | decide)) kX1_106 vX0_at (by decide) rfl ho [0, 1, 2] 3 (by decide +kernel) rfl rfl rfl rfl rfl hl.1 rfl (Nat.le_of_ble_eq_true rfl) dX1_readHead_20 0 0 rfl rfl (by decide) (fun v u_2 H locs hq ho => ?_)
  obtain rfl := hq
  have ho : ow D vwCl A s.heap H locs [bB K hh ah 18 lh gh, bC K h ad hw hh hlo hf, bF K hr hm (toN lh 3 4) ak tu be cr] := ho
  refine W.eq (g2 := F0 m 23 ls [.int (bI (lh.getD 8 false)), .ref hr]) rfl ?_
  refine o_put (v := .int (bI (lh.getD 8 false))) (bs' := [bB K hh ah 18 lh gh, bC K h ad hw hh hlo hf, bF K hr hm (toN lh 3 4) (lh.getD 8 false) tu be cr]) C ho 2 0 rfl rfl rfl 2 fX1_113 pX3_2 rfl rfl (Nat.le_of_ble_eq_true rfl) dX1_readHead_23 rfl (fun H locs ho => ?_)
  refine lv_aload_n hx hb dX1_readHead_26 rfl (lv_at hl 1 rfl) ?_
  refine lv_aload_n hx hb dX1_readHead_27 rfl (lv_at hl 0 rfl) ?_
  refine o_get (v := .ref hh) C ho 1 0 rfl rfl rfl 2 fX1_20 rfl dX1_readHead_28 ?_
  refine lv_bipush (v := nI 9) hx hb dX1_readHead_31 (by decide) ?_
  refine o_callV (wr := [bC K h ad hw hh hlo hf, bF K hr hm (toN lh 3 4) (lh.getD 8 false) tu be cr]) (rest := [.ref hr]) (As := [.int (nI 9)]) C (c_Bits_at la D K hh ah 18 lh gh 9 (by first | omega | assumption | (simp only [List.length_append, List.length_cons, List.length_nil, List.length_modify, List.length_set, nb_len, rb_len, rbp_len, sl_len, slN_len, wh_len, wt_len, hd10_len, hdB_len, thr_len, ldp_len, ldB_len, tens_len, whz_len, majL_len, mf_len, tkL_len, ldY_len, fif_len]; omega) | decide) (by first | omega | assumption | (simp only [List.length_append, List.length_cons, List.length_nil, List.length_modify, List.length_set, nb_len, rb_len, rbp_len, sl_len, slN_len, wh_len, wt_len, hd10_len, hdB_len, thr_len, ldp_len, ldB_len, tens_len, whz_len, majL_len, mf_len, tkL_len, ldY_len, fif_len]; omega) | decide) (by first | omega | assumption | (simp only [List.length_append, List.length_cons, List.length_nil, List.length_modify, List.length_set, nb_len, rb_len, rbp_len, sl_len, slN_len, wh_len, wt_len, hd10_len, hdB_len, thr_len, ldp_len, ldB_len, tens_len, whz_len, majL_len, mf_len, tkL_len, ldY_len, fif_len]; omega) | decide)) kX1_106 vX0_at (by decide) rfl ho [0, 1, 2] 3 (by decide +kernel) rfl rfl rfl rfl rfl hl.1 rfl (Nat.le_of_ble_eq_true rfl) dX1_readHead_33 0 0 rfl rfl (by decide) (fun v u_3 H locs hq ho => ?_)
  obtain rfl := hq
  have ho : ow D vwCl A s.heap H locs [bB K hh ah 18 lh gh, bC K h ad hw hh hlo hf, bF K hr hm (toN lh 3 4) (lh.getD 8 false) tu be cr] := ho
  refine W.eq (g2 := F0 m 36 ls [.int (bI (lh.getD 9 false)), .ref hr]) rfl ?_
  refine o_put (v := .int (bI (lh.getD 9 false))) (bs' := [bB K hh ah 18 lh gh, bC K h ad hw hh hlo hf, bF K hr hm (toN lh 3 4) (lh.getD 8 false) (lh.getD 9 false) be cr]) C ho 2 0 rfl rfl rfl 3 fX1_116 pX3_3 rfl rfl (Nat.le_of_ble_eq_true rfl) dX1_readHead_36 rfl (fun H locs ho => ?_)
  have ho : ow D vwCl A s.heap H locs [bC K h ad hw hh hlo hf, bB K hh ah 18 lh gh, bF K hr hm (toN lh 3 4) (lh.getD 8 false) (lh.getD 9 false) be cr] := ho.re [1, 0, 2] 3 (by decide +kernel) rfl rfl
  exact o_vret hQ C ho () rfl rfl (Nat.le_of_ble_eq_true rfl) (Nat.le_of_ble_eq_true rfl) dX1_readHead_39

set_option maxHeartbeats 4000000 in
set_option maxRecDepth 100000 in
theorem c_Coder_takePlain (la : Launch) (D : va_G) (K : Nat → ClassId) (h : Nat) (ad : Nat) (hw : Nat) (hh : Nat) (hlo : Nat) (hf : Nat) (alo : Nat) (glo : Nat → Int32) (ho_ : Nat) (ao : Nat) (lo_ : List Bool) (go : Nat → Int32) (qo : lo_.length ≤ 204) (qo2 : 54 ≤ lo_.length) : MT la D K yX1_takePlain cX1_takePlain 2 (some .boolean) (rmL 3 0 0) [.ref h, .ref ho_] [bC K h ad hw hh hlo hf, bB K hlo alo 150 [] glo, bB K ho_ ao 204 lo_ go] Unit (fun v _ => v = some (.int (bI true))) (fun _ => [bC K h ad hw hh hlo hf, bB K hlo alo 150 ([] ++ sl lo_ 54 (lo_.length - 54)) glo, bB K ho_ ao 204 lo_ go]) := by
  refine Mt.ofW [(0, .ref h), (1, .ref ho_)] (by decide) rfl (Nat.le_of_ble_eq_true rfl) ?_
  intro p e s m args below meth c A ls H locs Qz hQ C hin hl ho
  have hx := C.1.1
  have hb := C.1.2.1
  refine lv_aload_n hx hb dX1_takePlain_0 rfl (lv_at hl 0 rfl) ?_
  refine o_get (v := .ref hlo) C ho 0 0 rfl rfl rfl 3 fX1_23 rfl dX1_takePlain_1 ?_
  refine lv_aload_n hx hb dX1_takePlain_4 rfl (lv_at hl 1 rfl) ?_
  refine lv_bipush (v := nI 54) hx hb dX1_takePlain_5 (by decide) ?_
  refine lv_aload_n hx hb dX1_takePlain_7 rfl (lv_at hl 1 rfl) ?_
  refine o_get (v := .int (nI lo_.length)) C ho 2 0 rfl rfl rfl 1 fX1_57 rfl dX1_takePlain_8 ?_
  refine lv_bipush (v := nI 54) hx hb dX1_takePlain_11 (by decide) ?_
  refine o_sub hx hb dX1_takePlain_13 (by omega) ?_
  refine o_callV (wr := [bC K h ad hw hh hlo hf]) (rest := []) (As := [.ref ho_, .int (nI 54), .int (nI (lo_.length - 54))]) C (c_Bits_addAll la D K hlo alo 150 [] glo ho_ ao 204 lo_ go 54 (lo_.length - 54) (by first | omega | assumption | (simp only [List.length_append, List.length_cons, List.length_nil, List.length_modify, List.length_set, nb_len, rb_len, rbp_len, sl_len, slN_len, wh_len, wt_len, hd10_len, hdB_len, thr_len, ldp_len, ldB_len, tens_len, whz_len, majL_len, mf_len, tkL_len, ldY_len, fif_len]; omega) | decide) (by first | omega | assumption | (simp only [List.length_append, List.length_cons, List.length_nil, List.length_modify, List.length_set, nb_len, rb_len, rbp_len, sl_len, slN_len, wh_len, wt_len, hd10_len, hdB_len, thr_len, ldp_len, ldB_len, tens_len, whz_len, majL_len, mf_len, tkL_len, ldY_len, fif_len]; omega) | decide) (by first | omega | assumption | (simp only [List.length_append, List.length_cons, List.length_nil, List.length_modify, List.length_set, nb_len, rb_len, rbp_len, sl_len, slN_len, wh_len, wt_len, hd10_len, hdB_len, thr_len, ldp_len, ldB_len, tens_len, whz_len, majL_len, mf_len, tkL_len, ldY_len, fif_len]; omega) | decide) (by first | omega | assumption | (simp only [List.length_append, List.length_cons, List.length_nil, List.length_modify, List.length_set, nb_len, rb_len, rbp_len, sl_len, slN_len, wh_len, wt_len, hd10_len, hdB_len, thr_len, ldp_len, ldB_len, tens_len, whz_len, majL_len, mf_len, tkL_len, ldY_len, fif_len]; omega) | decide) (by first | omega | assumption | (simp only [List.length_append, List.length_cons, List.length_nil, List.length_modify, List.length_set, nb_len, rb_len, rbp_len, sl_len, slN_len, wh_len, wt_len, hd10_len, hdB_len, thr_len, ldp_len, ldB_len, tens_len, whz_len, majL_len, mf_len, tkL_len, ldY_len, fif_len]; omega) | decide)) kX1_60 vX0_addAll (by decide) rfl ho [1, 2, 0] 3 (by decide +kernel) rfl rfl rfl rfl rfl hl.1 rfl (Nat.le_of_ble_eq_true rfl) dX1_takePlain_14 0 0 rfl rfl (by decide) (fun v u_1 H locs hq ho => ?_)
  obtain rfl := hq
  have ho : ow D vwCl A s.heap H locs [bB K hlo alo 150 ([] ++ sl lo_ 54 (lo_.length - 54)) glo, bB K ho_ ao 204 lo_ go, bC K h ad hw hh hlo hf] := ho
  refine W.eq (g2 := F0 m 17 ls []) rfl ?_
  refine lv_iconst (v := nI 1) hx hb dX1_takePlain_17 (by decide) ?_
  have ho : ow D vwCl A s.heap H locs [bC K h ad hw hh hlo hf, bB K hlo alo 150 ([] ++ sl lo_ 54 (lo_.length - 54)) glo, bB K ho_ ao 204 lo_ go] := ho.re [2, 0, 1] 3 (by decide +kernel) rfl rfl
  exact o_iret hQ C rfl ho () rfl rfl (Nat.le_of_ble_eq_true rfl) (Nat.le_of_ble_eq_true rfl) dX1_takePlain_18

set_option maxHeartbeats 4000000 in
set_option maxRecDepth 100000 in
theorem c_Coder_mendFifteen (la : Launch) (D : va_G) (K : Nat → ClassId) (h : Nat) (ad : Nat) (hw : Nat) (hh : Nat) (hlo : Nat) (hf : Nat) (af : Nat) (lf : List Bool) (gf : Nat → Int32) (qf : lf.length = 15) : MT la D K yX1_mendFifteen cX1_mendFifteen 2 (some .boolean) (rmL 4 0 0) [.ref h] [bC K h ad hw hh hlo hf, bB K hf af 15 lf gf] Unit (fun v _ => v = some (.int (bI ((mnd lf).isSome)))) (fun _ => [bC K h ad hw hh hlo hf, bB K hf af 15 (mf lf) gf]) := by
  refine Mt.ofW [(0, .ref h)] (by decide) rfl (Nat.le_of_ble_eq_true rfl) ?_
  intro p e s m args below meth c A ls H locs Qz hQ C hin hl ho
  have hx := C.1.1
  have hb := C.1.2.1
  refine lv_iconst (v := nI 0) hx hb dX1_mendFifteen_0 (by decide) ?_
  refine lv_istore_n (lv' := [(1, .int (nI 0)), (0, .ref h)]) hx hb dX1_mendFifteen_1 rfl hl (by decide) rfl (fun ls hl => ?_)
  have LP2 : ∀ (fuel : Nat) (i : Nat) (_ : 15 - i < fuel) (_ : i ≤ 15) (_ : ∀ j, j < i → hl5 (lf.modify j (fun b => !b)) = false) (H : Heap) (locs : List Loc) (ls : Array Slot) (_ : ow D vwCl A s.heap H locs [bC K h ad hw hh hlo hf, bB K hf af 15 lf gf]) (_ : lv_has ls 2 [(0, .ref h), (1, .int (nI i))]), W p la e (rmL 4 0 0) s m args below meth c H locs 0 0 Qz (F0 m 2 ls []) := by
    intro fuel
    induction fuel with
    | zero => intro i h0; exact absurd h0 (Nat.not_lt_zero _)
    | succ fuel ih2 =>
      intro i hfu hi hj H locs ls ho hl
      refine lv_iload_n hx hb dX1_mendFifteen_2 rfl (lv_at hl 1 rfl) ?_
      refine lv_bipush (v := nI 15) hx hb dX1_mendFifteen_3 (by decide) ?_
      refine o_icmp_ge (tgt := 47) hx hb dX1_mendFifteen_5 (by decide) (by first | omega | exact and1_lt _) (by first | omega | exact and1_lt _) (fun c_1 => ?_) (fun c_1 => ?_)
      · skip
        have hm := mnd_none (fun j h => hj j (by omega))
        refine lv_iconst (v := nI 0) hx hb dX1_mendFifteen_47 (by decide) ?_
        exact o_iret hQ C rfl ho () (by rw [hm]; rfl) (by rw [show mf lf = lf by unfold mf; rw [hm]]) (Nat.le_of_ble_eq_true rfl) (Nat.le_of_ble_eq_true rfl) dX1_mendFifteen_48
      · skip
        refine lv_aload_n hx hb dX1_mendFifteen_8 rfl (lv_at hl 0 rfl) ?_
        refine o_get (v := .ref hf) C ho 0 0 rfl rfl rfl 4 fX1_26 rfl dX1_mendFifteen_9 ?_
        refine lv_iload_n hx hb dX1_mendFifteen_12 rfl (lv_at hl 1 rfl) ?_
        refine o_callV (wr := [bC K h ad hw hh hlo hf]) (rest := []) (As := [.int (nI i)]) C (c_Bits_turnOver la D K hf af 15 lf gf i (by first | omega | assumption | (simp only [List.length_append, List.length_cons, List.length_nil, List.length_modify, List.length_set, nb_len, rb_len, rbp_len, sl_len, slN_len, wh_len, wt_len, hd10_len, hdB_len, thr_len, ldp_len, ldB_len, tens_len, whz_len, majL_len, mf_len, tkL_len, ldY_len, fif_len]; omega) | decide) (by first | omega | assumption | (simp only [List.length_append, List.length_cons, List.length_nil, List.length_modify, List.length_set, nb_len, rb_len, rbp_len, sl_len, slN_len, wh_len, wt_len, hd10_len, hdB_len, thr_len, ldp_len, ldB_len, tens_len, whz_len, majL_len, mf_len, tkL_len, ldY_len, fif_len]; omega) | decide) (by first | omega | assumption | (simp only [List.length_append, List.length_cons, List.length_nil, List.length_modify, List.length_set, nb_len, rb_len, rbp_len, sl_len, slN_len, wh_len, wt_len, hd10_len, hdB_len, thr_len, ldp_len, ldB_len, tens_len, whz_len, majL_len, mf_len, tkL_len, ldY_len, fif_len]; omega) | decide)) kX1_146 vX0_turnOver (by decide) rfl ho [1, 0] 2 (by decide +kernel) rfl rfl rfl rfl rfl hl.1 rfl (Nat.le_of_ble_eq_true rfl) dX1_mendFifteen_13 0 0 rfl rfl (by decide) (fun v u_2 H locs hq ho => ?_)
        obtain rfl := hq
        have ho : ow D vwCl A s.heap H locs [bB K hf af 15 (lf.modify i (fun b => !b)) gf, bC K h ad hw hh hlo hf] := ho
        refine W.eq (g2 := F0 m 16 ls []) rfl ?_
        refine lv_aload_n hx hb dX1_mendFifteen_16 rfl (lv_at hl 0 rfl) ?_
        refine o_get (v := .ref hf) C ho 1 0 rfl rfl rfl 4 fX1_26 rfl dX1_mendFifteen_17 ?_
        refine lv_bipush (v := nI 10) hx hb dX1_mendFifteen_20 (by decide) ?_
        refine lv_bipush (v := nI 53) hx hb dX1_mendFifteen_22 (by decide) ?_
        refine lv_iconst (v := nI 5) hx hb dX1_mendFifteen_24 (by decide) ?_
        refine o_callV (wr := [bC K h ad hw hh hlo hf]) (rest := []) (As := [.int (nI 10), .int (nI 53), .int (nI 5)]) C (c_Bits_holds la D K hf af 15 (lf.modify i (fun b => !b)) gf 10 53 5 (by first | omega | assumption | (simp only [List.length_append, List.length_cons, List.length_nil, List.length_modify, List.length_set, nb_len, rb_len, rbp_len, sl_len, slN_len, wh_len, wt_len, hd10_len, hdB_len, thr_len, ldp_len, ldB_len, tens_len, whz_len, majL_len, mf_len, tkL_len, ldY_len, fif_len]; omega) | decide) (by first | omega | assumption | (simp only [List.length_append, List.length_cons, List.length_nil, List.length_modify, List.length_set, nb_len, rb_len, rbp_len, sl_len, slN_len, wh_len, wt_len, hd10_len, hdB_len, thr_len, ldp_len, ldB_len, tens_len, whz_len, majL_len, mf_len, tkL_len, ldY_len, fif_len]; omega) | decide) (by first | omega | assumption | (simp only [List.length_append, List.length_cons, List.length_nil, List.length_modify, List.length_set, nb_len, rb_len, rbp_len, sl_len, slN_len, wh_len, wt_len, hd10_len, hdB_len, thr_len, ldp_len, ldB_len, tens_len, whz_len, majL_len, mf_len, tkL_len, ldY_len, fif_len]; omega) | decide) (by first | omega | assumption | (simp only [List.length_append, List.length_cons, List.length_nil, List.length_modify, List.length_set, nb_len, rb_len, rbp_len, sl_len, slN_len, wh_len, wt_len, hd10_len, hdB_len, thr_len, ldp_len, ldB_len, tens_len, whz_len, majL_len, mf_len, tkL_len, ldY_len, fif_len]; omega) | decide) (by first | omega | assumption | (simp only [List.length_append, List.length_cons, List.length_nil, List.length_modify, List.length_set, nb_len, rb_len, rbp_len, sl_len, slN_len, wh_len, wt_len, hd10_len, hdB_len, thr_len, ldp_len, ldB_len, tens_len, whz_len, majL_len, mf_len, tkL_len, ldY_len, fif_len]; omega) | decide) (by first | omega | assumption | (simp only [List.length_append, List.length_cons, List.length_nil, List.length_modify, List.length_set, nb_len, rb_len, rbp_len, sl_len, slN_len, wh_len, wt_len, hd10_len, hdB_len, thr_len, ldp_len, ldB_len, tens_len, whz_len, majL_len, mf_len, tkL_len, ldY_len, fif_len]; omega) | decide)) kX1_139 vX0_holds (by decide) rfl ho [0, 1] 2 (by decide +kernel) rfl rfl rfl rfl rfl hl.1 rfl (Nat.le_of_ble_eq_true rfl) dX1_mendFifteen_25 0 0 rfl rfl (by decide) (fun v u_3 H locs hq ho => ?_)
        obtain rfl := hq
        have ho : ow D vwCl A s.heap H locs [bB K hf af 15 (lf.modify i (fun b => !b)) gf, bC K h ad hw hh hlo hf] := ho
        refine W.eq (g2 := F0 m 28 ls [.int (bI (decide (sl (lf.modify i (fun b => !b)) 10 5 = rb (crc 53 5 (sl (lf.modify i (fun b => !b)) 0 10)) 5)))]) rfl ?_
        refine o_ifb_eq (tgt := 33) hx hb dX1_mendFifteen_28 (by decide) (fun c_4 => ?_) (fun c_4 => ?_)
        · skip
          refine lv_aload_n hx hb dX1_mendFifteen_33 rfl (lv_at hl 0 rfl) ?_
          refine o_get (v := .ref hf) C ho 1 0 rfl rfl rfl 4 fX1_26 rfl dX1_mendFifteen_34 ?_
          refine lv_iload_n hx hb dX1_mendFifteen_37 rfl (lv_at hl 1 rfl) ?_
          refine o_callV (wr := [bC K h ad hw hh hlo hf]) (rest := []) (As := [.int (nI i)]) C (c_Bits_turnOver la D K hf af 15 (lf.modify i (fun b => !b)) gf i (by first | omega | assumption | (simp only [List.length_append, List.length_cons, List.length_nil, List.length_modify, List.length_set, nb_len, rb_len, rbp_len, sl_len, slN_len, wh_len, wt_len, hd10_len, hdB_len, thr_len, ldp_len, ldB_len, tens_len, whz_len, majL_len, mf_len, tkL_len, ldY_len, fif_len]; omega) | decide) (by first | omega | assumption | (simp only [List.length_append, List.length_cons, List.length_nil, List.length_modify, List.length_set, nb_len, rb_len, rbp_len, sl_len, slN_len, wh_len, wt_len, hd10_len, hdB_len, thr_len, ldp_len, ldB_len, tens_len, whz_len, majL_len, mf_len, tkL_len, ldY_len, fif_len]; omega) | decide) (by first | omega | assumption | (simp only [List.length_append, List.length_cons, List.length_nil, List.length_modify, List.length_set, nb_len, rb_len, rbp_len, sl_len, slN_len, wh_len, wt_len, hd10_len, hdB_len, thr_len, ldp_len, ldB_len, tens_len, whz_len, majL_len, mf_len, tkL_len, ldY_len, fif_len]; omega) | decide)) kX1_146 vX0_turnOver (by decide) rfl ho [0, 1] 2 (by decide +kernel) rfl rfl rfl rfl rfl hl.1 rfl (Nat.le_of_ble_eq_true rfl) dX1_mendFifteen_38 0 0 rfl rfl (by decide) (fun v u_5 H locs hq ho => ?_)
          obtain rfl := hq
          have ho : ow D vwCl A s.heap H locs [bB K hf af 15 ((lf.modify i (fun b => !b)).modify i (fun b => !b)) gf, bC K h ad hw hh hlo hf] := ho
          refine W.eq (g2 := F0 m 41 ls []) rfl ?_
          have e_6 : bB K hf af 15 ((lf.modify i (fun b => !b)).modify i (fun b => !b)) gf = bB K hf af 15 lf gf := by rw [mod_mod]
          have ho : ow D vwCl A s.heap H locs [bB K hf af 15 lf gf, bC K h ad hw hh hlo hf] := by rw [← e_6]; exact ho
          refine lv_iinc (v := nI (i + 1)) (lv' := [(1, .int (nI (i + 1))), (0, .ref h)]) hx hb dX1_mendFifteen_41 hl (k := 1) rfl (iincN _ _) (by decide) rfl (fun ls hl => ?_)
          refine lv_goto (tgt := 2) hx hb dX1_mendFifteen_44 (by decide) ?_
          have ho : ow D vwCl A s.heap H locs [bC K h ad hw hh hlo hf, bB K hf af 15 lf gf] := ho.re [1, 0] 2 (by decide +kernel) rfl rfl
          exact ih2 (i + 1) (by omega) (by omega) (lt_s hj c_4) _ _ _ ho (lv_sub hl [1, 0] rfl)
        · skip
          have hm := mnd_some (by omega) hj c_4
          refine lv_iconst (v := nI 1) hx hb dX1_mendFifteen_31 (by decide) ?_
          have ho : ow D vwCl A s.heap H locs [bC K h ad hw hh hlo hf, bB K hf af 15 (lf.modify i (fun b => !b)) gf] := ho.re [1, 0] 2 (by decide +kernel) rfl rfl
          exact o_iret hQ C rfl ho () (by rw [hm]; rfl) (by rw [show mf lf = lf.modify i (fun b => !b) by unfold mf; rw [hm]]) (Nat.le_of_ble_eq_true rfl) (Nat.le_of_ble_eq_true rfl) dX1_mendFifteen_32
  exact LP2 (15 - 0 + 1) 0 (Nat.lt_succ_self _) (by omega) lt_0 _ _ _ ho (lv_sub hl [1, 0] rfl)

set_option maxHeartbeats 4000000 in
set_option maxRecDepth 100000 in
theorem c_Coder_takeTens (la : Launch) (D : va_G) (K : Nat → ClassId) (h : Nat) (ad : Nat) (hw : Nat) (hh : Nat) (hlo : Nat) (hf : Nat) (alo : Nat) (glo : Nat → Int32) (af : Nat) (lf : List Bool) (gf : Nat → Int32) (ho_ : Nat) (ao : Nat) (lo_ : List Bool) (go : Nat → Int32) (hr : Nat) (hm : Nat) (kd : Nat) (ak : Bool) (tu : Bool) (be : Bool) (cr : Nat) (qf : lf.length ≤ 15) (qo : lo_.length ≤ 204) (qo2 : 54 ≤ lo_.length) : MT la D K yX1_takeTens cX1_takeTens 6 (some .boolean) (rmL 5 0 0) [.ref h, .ref ho_, .ref hr] [bC K h ad hw hh hlo hf, bB K hlo alo 150 [] glo, bB K hf af 15 lf gf, bB K ho_ ao 204 lo_ go, bF K hr hm kd ak tu be cr] (List Bool × (Nat → Int32)) (fun v u => v = some (.int (bI (tkS lo_ ((lo_.length - 54) / 15)))) ∧ u.1.length ≤ 15) (fun u => [bC K h ad hw hh hlo hf, bB K hlo alo 150 (tkL lo_ ((lo_.length - 54) / 15)) glo, bB K hf af 15 u.1 u.2, bB K ho_ ao 204 lo_ go, bF K hr hm kd ak tu be (cr + tkC lo_ ((lo_.length - 54) / 15))]) := by
  refine Mt.ofW [(0, .ref h), (1, .ref ho_), (2, .ref hr)] (by decide) rfl (Nat.le_of_ble_eq_true rfl) ?_
  intro p e s m args below meth c A ls H locs Qz hQ C hin hl ho
  have hx := C.1.1
  have hb := C.1.2.1
  refine lv_iconst (v := nI 1) hx hb dX1_takeTens_0 (by decide) ?_
  refine lv_istore_n (lv' := [(3, .int (nI 1)), (0, .ref h), (1, .ref ho_), (2, .ref hr)]) hx hb dX1_takeTens_1 rfl hl (by decide) rfl (fun ls hl => ?_)
  refine lv_bipush (v := nI 69) hx hb dX1_takeTens_2 (by decide) ?_
  refine lv_istore (lv' := [(4, .int (nI 69)), (3, .int (nI 1)), (0, .ref h), (1, .ref ho_), (2, .ref hr)]) hx hb dX1_takeTens_4 hl (by decide) rfl (fun ls hl => ?_)
  have e_1 : (.int (nI 1) : Value) = .int (bI (tkS lo_ 0)) := rfl
  have hl : lv_has ls 6 [(4, .int (nI 69)), (3, .int (bI (tkS lo_ 0))), (0, .ref h), (1, .ref ho_), (2, .ref hr)] := by rw [← e_1]; exact hl
  have e_2 : (.int (nI 69) : Value) = .int (nI (69 + 15 * 0)) := rfl
  have hl : lv_has ls 6 [(4, .int (nI (69 + 15 * 0))), (3, .int (bI (tkS lo_ 0))), (0, .ref h), (1, .ref ho_), (2, .ref hr)] := by rw [← e_2]; exact hl
  have e_3 : bB K hlo alo 150 [] glo = bB K hlo alo 150 (tkL lo_ 0) glo := rfl
  have ho : ow D vwCl A s.heap H locs [bC K h ad hw hh hlo hf, bB K hlo alo 150 (tkL lo_ 0) glo, bB K hf af 15 lf gf, bB K ho_ ao 204 lo_ go, bF K hr hm kd ak tu be cr] := by rw [← e_3]; exact ho
  have e_4 : bF K hr hm kd ak tu be cr = bF K hr hm kd ak tu be (cr + tkC lo_ 0) := rfl
  have ho : ow D vwCl A s.heap H locs [bC K h ad hw hh hlo hf, bB K hlo alo 150 (tkL lo_ 0) glo, bB K hf af 15 lf gf, bB K ho_ ao 204 lo_ go, bF K hr hm kd ak tu be (cr + tkC lo_ 0)] := by rw [← e_4]; exact ho
  have LP6 : ∀ (fuel : Nat) (k : Nat) (lv : List Bool) (gv : Nat → Int32) (_ : (lo_.length - 54) / 15 - k < fuel) (_ : k ≤ (lo_.length - 54) / 15) (_ : lv.length ≤ 15) (H : Heap) (locs : List Loc) (ls : Array Slot) (_ : ow D vwCl A s.heap H locs [bC K h ad hw hh hlo hf, bB K hlo alo 150 (tkL lo_ k) glo, bB K hf af 15 lv gv, bB K ho_ ao 204 lo_ go, bF K hr hm kd ak tu be (cr + tkC lo_ k)]) (_ : lv_has ls 6 [(0, .ref h), (1, .ref ho_), (2, .ref hr), (3, .int (bI (tkS lo_ k))), (4, .int (nI (69 + 15 * k)))]), W p la e (rmL 5 0 0) s m args below meth c H locs 0 0 Qz (F0 m 6 ls []) := by
    intro fuel
    induction fuel with
    | zero => intro k lv gv h0; exact absurd h0 (Nat.not_lt_zero _)
    | succ fuel ih6 =>
      intro k lv gv hfu hk hlv H locs ls ho hl
      have htl := tkL_len lo_ k
      refine lv_iload hx hb dX1_takeTens_6 (lv_at hl 4 rfl) ?_
      refine lv_aload_n hx hb dX1_takeTens_8 rfl (lv_at hl 1 rfl) ?_
      refine o_get (v := .int (nI lo_.length)) C ho 3 0 rfl rfl rfl 1 fX1_57 rfl dX1_takeTens_9 ?_
      refine o_icmp_gt (tgt := 112) hx hb dX1_takeTens_12 (by decide) (by first | omega | exact and1_lt _) (by first | omega | exact and1_lt _) (fun c_5 => ?_) (fun c_5 => ?_)
      · skip
        refine lv_iload_n hx hb dX1_takeTens_112 rfl (lv_at hl 3 rfl) ?_
        exact o_iret hQ C (nar_b _) ho (lv, gv) (⟨by rw [show (lo_.length - 54) / 15 = k by omega], hlv⟩) (by rw [show (lo_.length - 54) / 15 = k by omega]) (Nat.le_of_ble_eq_true rfl) (Nat.le_of_ble_eq_true rfl) dX1_takeTens_113
      · skip
        refine lv_aload_n hx hb dX1_takeTens_15 rfl (lv_at hl 0 rfl) ?_
        refine o_get (v := .ref hf) C ho 0 0 rfl rfl rfl 4 fX1_26 rfl dX1_takeTens_16 ?_
        refine o_callV (wr := [bC K h ad hw hh hlo hf, bB K hlo alo 150 (tkL lo_ k) glo, bB K ho_ ao 204 lo_ go, bF K hr hm kd ak tu be (cr + tkC lo_ k)]) (rest := []) (As := []) C (c_Bits_clear la D K hf af 15 lv gv (by first | omega | assumption | (simp only [List.length_append, List.length_cons, List.length_nil, List.length_modify, List.length_set, nb_len, rb_len, rbp_len, sl_len, slN_len, wh_len, wt_len, hd10_len, hdB_len, thr_len, ldp_len, ldB_len, tens_len, whz_len, majL_len, mf_len, tkL_len, ldY_len, fif_len]; omega) | decide) (by first | omega | assumption | (simp only [List.length_append, List.length_cons, List.length_nil, List.length_modify, List.length_set, nb_len, rb_len, rbp_len, sl_len, slN_len, wh_len, wt_len, hd10_len, hdB_len, thr_len, ldp_len, ldB_len, tens_len, whz_len, majL_len, mf_len, tkL_len, ldY_len, fif_len]; omega) | decide)) kX1_85 vX0_clear (by decide) rfl ho [2, 0, 1, 3, 4] 5 (by decide +kernel) rfl rfl rfl rfl rfl hl.1 rfl (Nat.le_of_ble_eq_true rfl) dX1_takeTens_19 0 0 rfl rfl (by decide) (fun v u_6 H locs hq ho => ?_)
        obtain rfl := hq
        have ho : ow D vwCl A s.heap H locs [bB K hf af 15 [] u_6, bC K h ad hw hh hlo hf, bB K hlo alo 150 (tkL lo_ k) glo, bB K ho_ ao 204 lo_ go, bF K hr hm kd ak tu be (cr + tkC lo_ k)] := ho
        refine W.eq (g2 := F0 m 22 ls []) rfl ?_
        refine lv_aload_n hx hb dX1_takeTens_22 rfl (lv_at hl 0 rfl) ?_
        refine o_get (v := .ref hf) C ho 1 0 rfl rfl rfl 4 fX1_26 rfl dX1_takeTens_23 ?_
        refine lv_aload_n hx hb dX1_takeTens_26 rfl (lv_at hl 1 rfl) ?_
        refine lv_iload hx hb dX1_takeTens_27 (lv_at hl 4 rfl) ?_
        refine lv_bipush (v := nI 15) hx hb dX1_takeTens_29 (by decide) ?_
        refine o_sub hx hb dX1_takeTens_31 (by omega) ?_
        refine lv_bipush (v := nI 15) hx hb dX1_takeTens_32 (by decide) ?_
        refine o_callV (wr := [bC K h ad hw hh hlo hf, bB K hlo alo 150 (tkL lo_ k) glo, bF K hr hm kd ak tu be (cr + tkC lo_ k)]) (rest := []) (As := [.ref ho_, .int (nI ((69 + 15 * k) - 15)), .int (nI 15)]) C (c_Bits_addAll la D K hf af 15 [] u_6 ho_ ao 204 lo_ go ((69 + 15 * k) - 15) 15 (by first | omega | assumption | (simp only [List.length_append, List.length_cons, List.length_nil, List.length_modify, List.length_set, nb_len, rb_len, rbp_len, sl_len, slN_len, wh_len, wt_len, hd10_len, hdB_len, thr_len, ldp_len, ldB_len, tens_len, whz_len, majL_len, mf_len, tkL_len, ldY_len, fif_len]; omega) | decide) (by first | omega | assumption | (simp only [List.length_append, List.length_cons, List.length_nil, List.length_modify, List.length_set, nb_len, rb_len, rbp_len, sl_len, slN_len, wh_len, wt_len, hd10_len, hdB_len, thr_len, ldp_len, ldB_len, tens_len, whz_len, majL_len, mf_len, tkL_len, ldY_len, fif_len]; omega) | decide) (by first | omega | assumption | (simp only [List.length_append, List.length_cons, List.length_nil, List.length_modify, List.length_set, nb_len, rb_len, rbp_len, sl_len, slN_len, wh_len, wt_len, hd10_len, hdB_len, thr_len, ldp_len, ldB_len, tens_len, whz_len, majL_len, mf_len, tkL_len, ldY_len, fif_len]; omega) | decide) (by first | omega | assumption | (simp only [List.length_append, List.length_cons, List.length_nil, List.length_modify, List.length_set, nb_len, rb_len, rbp_len, sl_len, slN_len, wh_len, wt_len, hd10_len, hdB_len, thr_len, ldp_len, ldB_len, tens_len, whz_len, majL_len, mf_len, tkL_len, ldY_len, fif_len]; omega) | decide) (by first | omega | assumption | (simp only [List.length_append, List.length_cons, List.length_nil, List.length_modify, List.length_set, nb_len, rb_len, rbp_len, sl_len, slN_len, wh_len, wt_len, hd10_len, hdB_len, thr_len, ldp_len, ldB_len, tens_len, whz_len, majL_len, mf_len, tkL_len, ldY_len, fif_len]; omega) | decide)) kX1_60 vX0_addAll (by decide) rfl ho [0, 3, 1, 2, 4] 5 (by decide +kernel) rfl rfl rfl rfl rfl hl.1 rfl (Nat.le_of_ble_eq_true rfl) dX1_takeTens_34 0 0 rfl rfl (by decide) (fun v u_7 H locs hq ho => ?_)
        obtain rfl := hq
        have ho : ow D vwCl A s.heap H locs [bB K hf af 15 ([] ++ sl lo_ ((69 + 15 * k) - 15) 15) u_6, bB K ho_ ao 204 lo_ go, bC K h ad hw hh hlo hf, bB K hlo alo 150 (tkL lo_ k) glo, bF K hr hm kd ak tu be (cr + tkC lo_ k)] := ho
        refine W.eq (g2 := F0 m 37 ls []) rfl ?_
        have e_8 : bB K hf af 15 ([] ++ sl lo_ ((69 + 15 * k) - 15) 15) u_6 = bB K hf af 15 (fif lo_ k) u_6 := by rw [fif, show 69 + 15 * k - 15 = 54 + 15 * k by omega]
        have ho : ow D vwCl A s.heap H locs [bB K hf af 15 (fif lo_ k) u_6, bB K ho_ ao 204 lo_ go, bC K h ad hw hh hlo hf, bB K hlo alo 150 (tkL lo_ k) glo, bF K hr hm kd ak tu be (cr + tkC lo_ k)] := by rw [← e_8]; exact ho
        refine lv_aload_n hx hb dX1_takeTens_37 rfl (lv_at hl 0 rfl) ?_
        refine o_get (v := .ref hf) C ho 2 0 rfl rfl rfl 4 fX1_26 rfl dX1_takeTens_38 ?_
        refine lv_bipush (v := nI 10) hx hb dX1_takeTens_41 (by decide) ?_
        refine lv_bipush (v := nI 53) hx hb dX1_takeTens_43 (by decide) ?_
        refine lv_iconst (v := nI 5) hx hb dX1_takeTens_45 (by decide) ?_
        refine o_callV (wr := [bB K ho_ ao 204 lo_ go, bC K h ad hw hh hlo hf, bB K hlo alo 150 (tkL lo_ k) glo, bF K hr hm kd ak tu be (cr + tkC lo_ k)]) (rest := []) (As := [.int (nI 10), .int (nI 53), .int (nI 5)]) C (c_Bits_holds la D K hf af 15 (fif lo_ k) u_6 10 53 5 (by first | omega | assumption | (simp only [List.length_append, List.length_cons, List.length_nil, List.length_modify, List.length_set, nb_len, rb_len, rbp_len, sl_len, slN_len, wh_len, wt_len, hd10_len, hdB_len, thr_len, ldp_len, ldB_len, tens_len, whz_len, majL_len, mf_len, tkL_len, ldY_len, fif_len]; omega) | decide) (by first | omega | assumption | (simp only [List.length_append, List.length_cons, List.length_nil, List.length_modify, List.length_set, nb_len, rb_len, rbp_len, sl_len, slN_len, wh_len, wt_len, hd10_len, hdB_len, thr_len, ldp_len, ldB_len, tens_len, whz_len, majL_len, mf_len, tkL_len, ldY_len, fif_len]; omega) | decide) (by first | omega | assumption | (simp only [List.length_append, List.length_cons, List.length_nil, List.length_modify, List.length_set, nb_len, rb_len, rbp_len, sl_len, slN_len, wh_len, wt_len, hd10_len, hdB_len, thr_len, ldp_len, ldB_len, tens_len, whz_len, majL_len, mf_len, tkL_len, ldY_len, fif_len]; omega) | decide) (by first | omega | assumption | (simp only [List.length_append, List.length_cons, List.length_nil, List.length_modify, List.length_set, nb_len, rb_len, rbp_len, sl_len, slN_len, wh_len, wt_len, hd10_len, hdB_len, thr_len, ldp_len, ldB_len, tens_len, whz_len, majL_len, mf_len, tkL_len, ldY_len, fif_len]; omega) | decide) (by first | omega | assumption | (simp only [List.length_append, List.length_cons, List.length_nil, List.length_modify, List.length_set, nb_len, rb_len, rbp_len, sl_len, slN_len, wh_len, wt_len, hd10_len, hdB_len, thr_len, ldp_len, ldB_len, tens_len, whz_len, majL_len, mf_len, tkL_len, ldY_len, fif_len]; omega) | decide) (by first | omega | assumption | (simp only [List.length_append, List.length_cons, List.length_nil, List.length_modify, List.length_set, nb_len, rb_len, rbp_len, sl_len, slN_len, wh_len, wt_len, hd10_len, hdB_len, thr_len, ldp_len, ldB_len, tens_len, whz_len, majL_len, mf_len, tkL_len, ldY_len, fif_len]; omega) | decide)) kX1_139 vX0_holds (by decide) rfl ho [0, 1, 2, 3, 4] 5 (by decide +kernel) rfl rfl rfl rfl rfl hl.1 rfl (Nat.le_of_ble_eq_true rfl) dX1_takeTens_46 0 0 rfl rfl (by decide) (fun v u_9 H locs hq ho => ?_)
        obtain rfl := hq
        have ho : ow D vwCl A s.heap H locs [bB K hf af 15 (fif lo_ k) u_6, bB K ho_ ao 204 lo_ go, bC K h ad hw hh hlo hf, bB K hlo alo 150 (tkL lo_ k) glo, bF K hr hm kd ak tu be (cr + tkC lo_ k)] := ho
        refine W.eq (g2 := F0 m 49 ls [.int (bI (decide (sl (fif lo_ k) 10 5 = rb (crc 53 5 (sl (fif lo_ k) 0 10)) 5)))]) rfl ?_
        refine o_ifb_ne (tgt := 92) hx hb dX1_takeTens_49 (by decide) (fun c_10 => ?_) (fun c_10 => ?_)
        · skip
          have ch : hl5 (fif lo_ k) = true := c_10
          have e_11 : (.int (bI (tkS lo_ k)) : Value) = .int (bI (tkS lo_ (k + 1))) := by rw [tkS_h ch]
          have hl : lv_has ls 6 [(0, .ref h), (1, .ref ho_), (2, .ref hr), (3, .int (bI (tkS lo_ (k + 1)))), (4, .int (nI (69 + 15 * k)))] := by rw [← e_11]; exact hl
          have e_12 : bF K hr hm kd ak tu be (cr + tkC lo_ k) = bF K hr hm kd ak tu be (cr + tkC lo_ (k + 1)) := congrArg (bF K hr hm kd ak tu be) (tkC_h ch)
          have ho : ow D vwCl A s.heap H locs [bB K hf af 15 (fif lo_ k) u_6, bB K ho_ ao 204 lo_ go, bC K h ad hw hh hlo hf, bB K hlo alo 150 (tkL lo_ k) glo, bF K hr hm kd ak tu be (cr + tkC lo_ (k + 1))] := by rw [← e_12]; exact ho
          have e_13 : bB K hf af 15 (fif lo_ k) u_6 = bB K hf af 15 (fx (fif lo_ k)) u_6 := by rw [fx_h ch]
          have ho : ow D vwCl A s.heap H locs [bB K hf af 15 (fx (fif lo_ k)) u_6, bB K ho_ ao 204 lo_ go, bC K h ad hw hh hlo hf, bB K hlo alo 150 (tkL lo_ k) glo, bF K hr hm kd ak tu be (cr + tkC lo_ (k + 1))] := by rw [← e_13]; exact ho
          refine lv_aload_n hx hb dX1_takeTens_92 rfl (lv_at hl 0 rfl) ?_
          refine o_get (v := .ref hlo) C ho 2 0 rfl rfl rfl 3 fX1_23 rfl dX1_takeTens_93 ?_
          refine lv_aload_n hx hb dX1_takeTens_96 rfl (lv_at hl 0 rfl) ?_
          refine o_get (v := .ref hf) C ho 2 0 rfl rfl rfl 4 fX1_26 rfl dX1_takeTens_97 ?_
          refine lv_iconst (v := nI 0) hx hb dX1_takeTens_100 (by decide) ?_
          refine lv_bipush (v := nI 10) hx hb dX1_takeTens_101 (by decide) ?_
          refine o_callV (wr := [bB K ho_ ao 204 lo_ go, bC K h ad hw hh hlo hf, bF K hr hm kd ak tu be (cr + tkC lo_ (k + 1))]) (rest := []) (As := [.ref hf, .int (nI 0), .int (nI 10)]) C (c_Bits_addAll la D K hlo alo 150 (tkL lo_ k) glo hf af 15 (fx (fif lo_ k)) u_6 0 10 (by first | omega | assumption | (simp only [List.length_append, List.length_cons, List.length_nil, List.length_modify, List.length_set, nb_len, rb_len, rbp_len, sl_len, slN_len, wh_len, wt_len, hd10_len, hdB_len, thr_len, ldp_len, ldB_len, tens_len, whz_len, majL_len, mf_len, tkL_len, ldY_len, fif_len]; omega) | decide) (by first | omega | assumption | (simp only [List.length_append, List.length_cons, List.length_nil, List.length_modify, List.length_set, nb_len, rb_len, rbp_len, sl_len, slN_len, wh_len, wt_len, hd10_len, hdB_len, thr_len, ldp_len, ldB_len, tens_len, whz_len, majL_len, mf_len, tkL_len, ldY_len, fif_len]; omega) | decide) (fx_le _) (by first | omega | assumption | (simp only [List.length_append, List.length_cons, List.length_nil, List.length_modify, List.length_set, nb_len, rb_len, rbp_len, sl_len, slN_len, wh_len, wt_len, hd10_len, hdB_len, thr_len, ldp_len, ldB_len, tens_len, whz_len, majL_len, mf_len, tkL_len, ldY_len, fif_len]; omega) | decide) (by first | omega | assumption | (simp only [List.length_append, List.length_cons, List.length_nil, List.length_modify, List.length_set, nb_len, rb_len, rbp_len, sl_len, slN_len, wh_len, wt_len, hd10_len, hdB_len, thr_len, ldp_len, ldB_len, tens_len, whz_len, majL_len, mf_len, tkL_len, ldY_len, fif_len]; omega) | decide)) kX1_60 vX0_addAll (by decide) rfl ho [3, 0, 1, 2, 4] 5 (by decide +kernel) rfl rfl rfl rfl rfl hl.1 rfl (Nat.le_of_ble_eq_true rfl) dX1_takeTens_103 0 0 rfl rfl (by decide) (fun v u_14 H locs hq ho => ?_)
          obtain rfl := hq
          have ho : ow D vwCl A s.heap H locs [bB K hlo alo 150 ((tkL lo_ k) ++ sl (fx (fif lo_ k)) 0 10) glo, bB K hf af 15 (fx (fif lo_ k)) u_6, bB K ho_ ao 204 lo_ go, bC K h ad hw hh hlo hf, bF K hr hm kd ak tu be (cr + tkC lo_ (k + 1))] := ho
          refine W.eq (g2 := F0 m 106 ls []) rfl ?_
          have e_15 : bB K hlo alo 150 ((tkL lo_ k) ++ sl (fx (fif lo_ k)) 0 10) glo = bB K hlo alo 150 (tkL lo_ (k + 1)) glo := rfl
          have ho : ow D vwCl A s.heap H locs [bB K hlo alo 150 (tkL lo_ (k + 1)) glo, bB K hf af 15 (fx (fif lo_ k)) u_6, bB K ho_ ao 204 lo_ go, bC K h ad hw hh hlo hf, bF K hr hm kd ak tu be (cr + tkC lo_ (k + 1))] := by rw [← e_15]; exact ho
          refine lv_iinc (v := nI (69 + 15 * k + 15)) (lv' := [(4, .int (nI (69 + 15 * k + 15))), (0, .ref h), (1, .ref ho_), (2, .ref hr), (3, .int (bI (tkS lo_ (k + 1))))]) hx hb dX1_takeTens_106 hl (k := 4) rfl (iincN _ _) (by decide) rfl (fun ls hl => ?_)
          have e_16 : (.int (nI (69 + 15 * k + 15)) : Value) = .int (nI (69 + 15 * (k + 1))) := rfl
          have hl : lv_has ls 6 [(4, .int (nI (69 + 15 * (k + 1)))), (0, .ref h), (1, .ref ho_), (2, .ref hr), (3, .int (bI (tkS lo_ (k + 1))))] := by rw [← e_16]; exact hl
          refine lv_goto (tgt := 6) hx hb dX1_takeTens_109 (by decide) ?_
          have ho : ow D vwCl A s.heap H locs [bC K h ad hw hh hlo hf, bB K hlo alo 150 (tkL lo_ (k + 1)) glo, bB K hf af 15 (fx (fif lo_ k)) u_6, bB K ho_ ao 204 lo_ go, bF K hr hm kd ak tu be (cr + tkC lo_ (k + 1))] := ho.re [3, 0, 1, 2, 4] 5 (by decide +kernel) rfl rfl
          exact ih6 (k + 1) (fx (fif lo_ k)) u_6 (by omega) (by omega) (fx_le _) _ _ _ ho (lv_sub hl [1, 2, 3, 4, 0] rfl)
        · skip
          have ch : hl5 (fif lo_ k) = false := c_10
          refine lv_aload_n hx hb dX1_takeTens_52 rfl (lv_at hl 0 rfl) ?_
          refine o_callV (wr := [bB K ho_ ao 204 lo_ go, bB K hlo alo 150 (tkL lo_ k) glo, bF K hr hm kd ak tu be (cr + tkC lo_ k)]) (rest := []) (As := []) C (c_Coder_mendFifteen la D K h ad hw hh hlo hf af (fif lo_ k) u_6 (fif_len _ _)) kX1_143 vX1_mendFifteen (by decide) rfl ho [2, 0, 1, 3, 4] 5 (by decide +kernel) rfl rfl rfl rfl rfl hl.1 rfl (Nat.le_of_ble_eq_true rfl) dX1_takeTens_53 0 0 rfl rfl (by decide) (fun v u_17 H locs hq ho => ?_)
          obtain rfl := hq
          have ho : ow D vwCl A s.heap H locs [bC K h ad hw hh hlo hf, bB K hf af 15 (mf (fif lo_ k)) u_6, bB K ho_ ao 204 lo_ go, bB K hlo alo 150 (tkL lo_ k) glo, bF K hr hm kd ak tu be (cr + tkC lo_ k)] := ho
          refine W.eq (g2 := F0 m 56 ls [.int (bI ((mnd (fif lo_ k)).isSome))]) rfl ?_
          refine lv_istore (lv' := [(5, .int (bI ((mnd (fif lo_ k)).isSome))), (0, .ref h), (1, .ref ho_), (2, .ref hr), (3, .int (bI (tkS lo_ k))), (4, .int (nI (69 + 15 * k)))]) hx hb dX1_takeTens_56 hl (by decide) rfl (fun ls hl => ?_)
          refine lv_aload_n hx hb dX1_takeTens_58 rfl (lv_at hl 3 rfl) ?_
          refine lv_dup hx hb dX1_takeTens_59 rfl ?_
          refine o_get (v := .int (nI (cr + tkC lo_ k))) C ho 4 0 rfl rfl rfl 5 fX1_64 rfl dX1_takeTens_60 ?_
          refine lv_iload hx hb dX1_takeTens_63 (lv_at hl 0 rfl) ?_
          refine o_ifb_eq (tgt := 72) hx hb dX1_takeTens_65 (by decide) (fun c_18 => ?_) (fun c_18 => ?_)
          · skip
            have cm : (mnd (fif lo_ k)).isSome = false := c_18
            refine lv_iconst (v := nI 0) hx hb dX1_takeTens_72 (by decide) ?_
            refine o_add hx hb dX1_takeTens_73 ?_
            refine o_put (v := .int (nI ((cr + tkC lo_ k) + 0))) (bs' := [bC K h ad hw hh hlo hf, bB K hf af 15 (mf (fif lo_ k)) u_6, bB K ho_ ao 204 lo_ go, bB K hlo alo 150 (tkL lo_ k) glo, bF K hr hm kd ak tu be ((cr + tkC lo_ k) + 0)]) C ho 4 0 rfl rfl rfl 5 fX1_64 pX3_5 rfl rfl (Nat.le_of_ble_eq_true rfl) dX1_takeTens_74 rfl (fun H locs ho => ?_)
            refine lv_iload_n hx hb dX1_takeTens_77 rfl (lv_at hl 4 rfl) ?_
            refine o_ifb_eq (tgt := 90) hx hb dX1_takeTens_78 (by decide) (fun c_19 => ?_) (fun c_19 => ?_)
            · skip
              have cs : tkS lo_ k = false := c_19
              refine lv_iconst (v := nI 0) hx hb dX1_takeTens_90 (by decide) ?_
              refine lv_istore_n (lv' := [(3, .int (nI 0)), (5, .int (bI ((mnd (fif lo_ k)).isSome))), (0, .ref h), (1, .ref ho_), (2, .ref hr), (4, .int (nI (69 + 15 * k)))]) hx hb dX1_takeTens_91 rfl hl (by decide) rfl (fun ls hl => ?_)
              have e_20 : (.int (nI 0) : Value) = .int (bI (tkS lo_ (k + 1))) := by rw [tkS_n ch cm]; rfl
              have hl : lv_has ls 6 [(3, .int (bI (tkS lo_ (k + 1)))), (5, .int (bI ((mnd (fif lo_ k)).isSome))), (0, .ref h), (1, .ref ho_), (2, .ref hr), (4, .int (nI (69 + 15 * k)))] := by rw [← e_20]; exact hl
              have e_21 : bF K hr hm kd ak tu be ((cr + tkC lo_ k) + 0) = bF K hr hm kd ak tu be (cr + tkC lo_ (k + 1)) := congrArg (bF K hr hm kd ak tu be) (tkC_n ch cm)
              have ho : ow D vwCl A s.heap H locs [bC K h ad hw hh hlo hf, bB K hf af 15 (mf (fif lo_ k)) u_6, bB K ho_ ao 204 lo_ go, bB K hlo alo 150 (tkL lo_ k) glo, bF K hr hm kd ak tu be (cr + tkC lo_ (k + 1))] := by rw [← e_21]; exact ho
              have e_22 : bB K hf af 15 (mf (fif lo_ k)) u_6 = bB K hf af 15 (fx (fif lo_ k)) u_6 := by rw [fx_m ch]
              have ho : ow D vwCl A s.heap H locs [bC K h ad hw hh hlo hf, bB K hf af 15 (fx (fif lo_ k)) u_6, bB K ho_ ao 204 lo_ go, bB K hlo alo 150 (tkL lo_ k) glo, bF K hr hm kd ak tu be (cr + tkC lo_ (k + 1))] := by rw [← e_22]; exact ho
              refine lv_aload_n hx hb dX1_takeTens_92 rfl (lv_at hl 2 rfl) ?_
              refine o_get (v := .ref hlo) C ho 0 0 rfl rfl rfl 3 fX1_23 rfl dX1_takeTens_93 ?_
              refine lv_aload_n hx hb dX1_takeTens_96 rfl (lv_at hl 2 rfl) ?_
              refine o_get (v := .ref hf) C ho 0 0 rfl rfl rfl 4 fX1_26 rfl dX1_takeTens_97 ?_
              refine lv_iconst (v := nI 0) hx hb dX1_takeTens_100 (by decide) ?_
              refine lv_bipush (v := nI 10) hx hb dX1_takeTens_101 (by decide) ?_
              refine o_callV (wr := [bC K h ad hw hh hlo hf, bB K ho_ ao 204 lo_ go, bF K hr hm kd ak tu be (cr + tkC lo_ (k + 1))]) (rest := []) (As := [.ref hf, .int (nI 0), .int (nI 10)]) C (c_Bits_addAll la D K hlo alo 150 (tkL lo_ k) glo hf af 15 (fx (fif lo_ k)) u_6 0 10 (by first | omega | assumption | (simp only [List.length_append, List.length_cons, List.length_nil, List.length_modify, List.length_set, nb_len, rb_len, rbp_len, sl_len, slN_len, wh_len, wt_len, hd10_len, hdB_len, thr_len, ldp_len, ldB_len, tens_len, whz_len, majL_len, mf_len, tkL_len, ldY_len, fif_len]; omega) | decide) (by first | omega | assumption | (simp only [List.length_append, List.length_cons, List.length_nil, List.length_modify, List.length_set, nb_len, rb_len, rbp_len, sl_len, slN_len, wh_len, wt_len, hd10_len, hdB_len, thr_len, ldp_len, ldB_len, tens_len, whz_len, majL_len, mf_len, tkL_len, ldY_len, fif_len]; omega) | decide) (fx_le _) (by first | omega | assumption | (simp only [List.length_append, List.length_cons, List.length_nil, List.length_modify, List.length_set, nb_len, rb_len, rbp_len, sl_len, slN_len, wh_len, wt_len, hd10_len, hdB_len, thr_len, ldp_len, ldB_len, tens_len, whz_len, majL_len, mf_len, tkL_len, ldY_len, fif_len]; omega) | decide) (by first | omega | assumption | (simp only [List.length_append, List.length_cons, List.length_nil, List.length_modify, List.length_set, nb_len, rb_len, rbp_len, sl_len, slN_len, wh_len, wt_len, hd10_len, hdB_len, thr_len, ldp_len, ldB_len, tens_len, whz_len, majL_len, mf_len, tkL_len, ldY_len, fif_len]; omega) | decide)) kX1_60 vX0_addAll (by decide) rfl ho [3, 1, 0, 2, 4] 5 (by decide +kernel) rfl rfl rfl rfl rfl hl.1 rfl (Nat.le_of_ble_eq_true rfl) dX1_takeTens_103 0 0 rfl rfl (by decide) (fun v u_23 H locs hq ho => ?_)
              obtain rfl := hq
              have ho : ow D vwCl A s.heap H locs [bB K hlo alo 150 ((tkL lo_ k) ++ sl (fx (fif lo_ k)) 0 10) glo, bB K hf af 15 (fx (fif lo_ k)) u_6, bC K h ad hw hh hlo hf, bB K ho_ ao 204 lo_ go, bF K hr hm kd ak tu be (cr + tkC lo_ (k + 1))] := ho
              refine W.eq (g2 := F0 m 106 ls []) rfl ?_
              have e_24 : bB K hlo alo 150 ((tkL lo_ k) ++ sl (fx (fif lo_ k)) 0 10) glo = bB K hlo alo 150 (tkL lo_ (k + 1)) glo := rfl
              have ho : ow D vwCl A s.heap H locs [bB K hlo alo 150 (tkL lo_ (k + 1)) glo, bB K hf af 15 (fx (fif lo_ k)) u_6, bC K h ad hw hh hlo hf, bB K ho_ ao 204 lo_ go, bF K hr hm kd ak tu be (cr + tkC lo_ (k + 1))] := by rw [← e_24]; exact ho
              refine lv_iinc (v := nI (69 + 15 * k + 15)) (lv' := [(4, .int (nI (69 + 15 * k + 15))), (3, .int (bI (tkS lo_ (k + 1)))), (5, .int (bI ((mnd (fif lo_ k)).isSome))), (0, .ref h), (1, .ref ho_), (2, .ref hr)]) hx hb dX1_takeTens_106 hl (k := 5) rfl (iincN _ _) (by decide) rfl (fun ls hl => ?_)
              have e_25 : (.int (nI (69 + 15 * k + 15)) : Value) = .int (nI (69 + 15 * (k + 1))) := rfl
              have hl : lv_has ls 6 [(4, .int (nI (69 + 15 * (k + 1)))), (3, .int (bI (tkS lo_ (k + 1)))), (5, .int (bI ((mnd (fif lo_ k)).isSome))), (0, .ref h), (1, .ref ho_), (2, .ref hr)] := by rw [← e_25]; exact hl
              refine lv_goto (tgt := 6) hx hb dX1_takeTens_109 (by decide) ?_
              have ho : ow D vwCl A s.heap H locs [bC K h ad hw hh hlo hf, bB K hlo alo 150 (tkL lo_ (k + 1)) glo, bB K hf af 15 (fx (fif lo_ k)) u_6, bB K ho_ ao 204 lo_ go, bF K hr hm kd ak tu be (cr + tkC lo_ (k + 1))] := ho.re [2, 0, 1, 3, 4] 5 (by decide +kernel) rfl rfl
              exact ih6 (k + 1) (fx (fif lo_ k)) u_6 (by omega) (by omega) (fx_le _) _ _ _ ho (lv_sub hl [3, 4, 5, 1, 0] rfl)
            · skip
              have cs : tkS lo_ k = true := c_19
              refine lv_iload hx hb dX1_takeTens_81 (lv_at hl 0 rfl) ?_
              refine o_ifb_eq (tgt := 90) hx hb dX1_takeTens_83 (by decide) (fun c_26 => ?_) (fun c_26 => ?_)
              · skip
                refine lv_iconst (v := nI 0) hx hb dX1_takeTens_90 (by decide) ?_
                refine lv_istore_n (lv' := [(3, .int (nI 0)), (5, .int (bI ((mnd (fif lo_ k)).isSome))), (0, .ref h), (1, .ref ho_), (2, .ref hr), (4, .int (nI (69 + 15 * k)))]) hx hb dX1_takeTens_91 rfl hl (by decide) rfl (fun ls hl => ?_)
                have e_27 : (.int (nI 0) : Value) = .int (bI (tkS lo_ (k + 1))) := by rw [tkS_n ch cm]; rfl
                have hl : lv_has ls 6 [(3, .int (bI (tkS lo_ (k + 1)))), (5, .int (bI ((mnd (fif lo_ k)).isSome))), (0, .ref h), (1, .ref ho_), (2, .ref hr), (4, .int (nI (69 + 15 * k)))] := by rw [← e_27]; exact hl
                have e_28 : bF K hr hm kd ak tu be ((cr + tkC lo_ k) + 0) = bF K hr hm kd ak tu be (cr + tkC lo_ (k + 1)) := congrArg (bF K hr hm kd ak tu be) (tkC_n ch cm)
                have ho : ow D vwCl A s.heap H locs [bC K h ad hw hh hlo hf, bB K hf af 15 (mf (fif lo_ k)) u_6, bB K ho_ ao 204 lo_ go, bB K hlo alo 150 (tkL lo_ k) glo, bF K hr hm kd ak tu be (cr + tkC lo_ (k + 1))] := by rw [← e_28]; exact ho
                have e_29 : bB K hf af 15 (mf (fif lo_ k)) u_6 = bB K hf af 15 (fx (fif lo_ k)) u_6 := by rw [fx_m ch]
                have ho : ow D vwCl A s.heap H locs [bC K h ad hw hh hlo hf, bB K hf af 15 (fx (fif lo_ k)) u_6, bB K ho_ ao 204 lo_ go, bB K hlo alo 150 (tkL lo_ k) glo, bF K hr hm kd ak tu be (cr + tkC lo_ (k + 1))] := by rw [← e_29]; exact ho
                refine lv_aload_n hx hb dX1_takeTens_92 rfl (lv_at hl 2 rfl) ?_
                refine o_get (v := .ref hlo) C ho 0 0 rfl rfl rfl 3 fX1_23 rfl dX1_takeTens_93 ?_
                refine lv_aload_n hx hb dX1_takeTens_96 rfl (lv_at hl 2 rfl) ?_
                refine o_get (v := .ref hf) C ho 0 0 rfl rfl rfl 4 fX1_26 rfl dX1_takeTens_97 ?_
                refine lv_iconst (v := nI 0) hx hb dX1_takeTens_100 (by decide) ?_
                refine lv_bipush (v := nI 10) hx hb dX1_takeTens_101 (by decide) ?_
                refine o_callV (wr := [bC K h ad hw hh hlo hf, bB K ho_ ao 204 lo_ go, bF K hr hm kd ak tu be (cr + tkC lo_ (k + 1))]) (rest := []) (As := [.ref hf, .int (nI 0), .int (nI 10)]) C (c_Bits_addAll la D K hlo alo 150 (tkL lo_ k) glo hf af 15 (fx (fif lo_ k)) u_6 0 10 (by first | omega | assumption | (simp only [List.length_append, List.length_cons, List.length_nil, List.length_modify, List.length_set, nb_len, rb_len, rbp_len, sl_len, slN_len, wh_len, wt_len, hd10_len, hdB_len, thr_len, ldp_len, ldB_len, tens_len, whz_len, majL_len, mf_len, tkL_len, ldY_len, fif_len]; omega) | decide) (by first | omega | assumption | (simp only [List.length_append, List.length_cons, List.length_nil, List.length_modify, List.length_set, nb_len, rb_len, rbp_len, sl_len, slN_len, wh_len, wt_len, hd10_len, hdB_len, thr_len, ldp_len, ldB_len, tens_len, whz_len, majL_len, mf_len, tkL_len, ldY_len, fif_len]; omega) | decide) (fx_le _) (by first | omega | assumption | (simp only [List.length_append, List.length_cons, List.length_nil, List.length_modify, List.length_set, nb_len, rb_len, rbp_len, sl_len, slN_len, wh_len, wt_len, hd10_len, hdB_len, thr_len, ldp_len, ldB_len, tens_len, whz_len, majL_len, mf_len, tkL_len, ldY_len, fif_len]; omega) | decide) (by first | omega | assumption | (simp only [List.length_append, List.length_cons, List.length_nil, List.length_modify, List.length_set, nb_len, rb_len, rbp_len, sl_len, slN_len, wh_len, wt_len, hd10_len, hdB_len, thr_len, ldp_len, ldB_len, tens_len, whz_len, majL_len, mf_len, tkL_len, ldY_len, fif_len]; omega) | decide)) kX1_60 vX0_addAll (by decide) rfl ho [3, 1, 0, 2, 4] 5 (by decide +kernel) rfl rfl rfl rfl rfl hl.1 rfl (Nat.le_of_ble_eq_true rfl) dX1_takeTens_103 0 0 rfl rfl (by decide) (fun v u_30 H locs hq ho => ?_)
                obtain rfl := hq
                have ho : ow D vwCl A s.heap H locs [bB K hlo alo 150 ((tkL lo_ k) ++ sl (fx (fif lo_ k)) 0 10) glo, bB K hf af 15 (fx (fif lo_ k)) u_6, bC K h ad hw hh hlo hf, bB K ho_ ao 204 lo_ go, bF K hr hm kd ak tu be (cr + tkC lo_ (k + 1))] := ho
                refine W.eq (g2 := F0 m 106 ls []) rfl ?_
                have e_31 : bB K hlo alo 150 ((tkL lo_ k) ++ sl (fx (fif lo_ k)) 0 10) glo = bB K hlo alo 150 (tkL lo_ (k + 1)) glo := rfl
                have ho : ow D vwCl A s.heap H locs [bB K hlo alo 150 (tkL lo_ (k + 1)) glo, bB K hf af 15 (fx (fif lo_ k)) u_6, bC K h ad hw hh hlo hf, bB K ho_ ao 204 lo_ go, bF K hr hm kd ak tu be (cr + tkC lo_ (k + 1))] := by rw [← e_31]; exact ho
                refine lv_iinc (v := nI (69 + 15 * k + 15)) (lv' := [(4, .int (nI (69 + 15 * k + 15))), (3, .int (bI (tkS lo_ (k + 1)))), (5, .int (bI ((mnd (fif lo_ k)).isSome))), (0, .ref h), (1, .ref ho_), (2, .ref hr)]) hx hb dX1_takeTens_106 hl (k := 5) rfl (iincN _ _) (by decide) rfl (fun ls hl => ?_)
                have e_32 : (.int (nI (69 + 15 * k + 15)) : Value) = .int (nI (69 + 15 * (k + 1))) := rfl
                have hl : lv_has ls 6 [(4, .int (nI (69 + 15 * (k + 1)))), (3, .int (bI (tkS lo_ (k + 1)))), (5, .int (bI ((mnd (fif lo_ k)).isSome))), (0, .ref h), (1, .ref ho_), (2, .ref hr)] := by rw [← e_32]; exact hl
                refine lv_goto (tgt := 6) hx hb dX1_takeTens_109 (by decide) ?_
                have ho : ow D vwCl A s.heap H locs [bC K h ad hw hh hlo hf, bB K hlo alo 150 (tkL lo_ (k + 1)) glo, bB K hf af 15 (fx (fif lo_ k)) u_6, bB K ho_ ao 204 lo_ go, bF K hr hm kd ak tu be (cr + tkC lo_ (k + 1))] := ho.re [2, 0, 1, 3, 4] 5 (by decide +kernel) rfl rfl
                exact ih6 (k + 1) (fx (fif lo_ k)) u_6 (by omega) (by omega) (fx_le _) _ _ _ ho (lv_sub hl [3, 4, 5, 1, 0] rfl)
              · skip
                exact absurd (c_26.symm.trans cm) (by decide)
          · skip
            have cm : (mnd (fif lo_ k)).isSome = true := c_18
            refine lv_iconst (v := nI 1) hx hb dX1_takeTens_68 (by decide) ?_
            refine lv_goto (tgt := 73) hx hb dX1_takeTens_69 (by decide) ?_
            refine o_add hx hb dX1_takeTens_73 ?_
            refine o_put (v := .int (nI ((cr + tkC lo_ k) + 1))) (bs' := [bC K h ad hw hh hlo hf, bB K hf af 15 (mf (fif lo_ k)) u_6, bB K ho_ ao 204 lo_ go, bB K hlo alo 150 (tkL lo_ k) glo, bF K hr hm kd ak tu be ((cr + tkC lo_ k) + 1)]) C ho 4 0 rfl rfl rfl 5 fX1_64 pX3_5 rfl rfl (Nat.le_of_ble_eq_true rfl) dX1_takeTens_74 rfl (fun H locs ho => ?_)
            refine lv_iload_n hx hb dX1_takeTens_77 rfl (lv_at hl 4 rfl) ?_
            refine o_ifb_eq (tgt := 90) hx hb dX1_takeTens_78 (by decide) (fun c_33 => ?_) (fun c_33 => ?_)
            · skip
              have cs : tkS lo_ k = false := c_33
              refine lv_iconst (v := nI 0) hx hb dX1_takeTens_90 (by decide) ?_
              refine lv_istore_n (lv' := [(3, .int (nI 0)), (5, .int (bI ((mnd (fif lo_ k)).isSome))), (0, .ref h), (1, .ref ho_), (2, .ref hr), (4, .int (nI (69 + 15 * k)))]) hx hb dX1_takeTens_91 rfl hl (by decide) rfl (fun ls hl => ?_)
              have e_34 : (.int (nI 0) : Value) = .int (bI (tkS lo_ (k + 1))) := by rw [tkS_m ch cm, cs]; rfl
              have hl : lv_has ls 6 [(3, .int (bI (tkS lo_ (k + 1)))), (5, .int (bI ((mnd (fif lo_ k)).isSome))), (0, .ref h), (1, .ref ho_), (2, .ref hr), (4, .int (nI (69 + 15 * k)))] := by rw [← e_34]; exact hl
              have e_35 : bF K hr hm kd ak tu be ((cr + tkC lo_ k) + 1) = bF K hr hm kd ak tu be (cr + tkC lo_ (k + 1)) := congrArg (bF K hr hm kd ak tu be) (tkC_m ch cm)
              have ho : ow D vwCl A s.heap H locs [bC K h ad hw hh hlo hf, bB K hf af 15 (mf (fif lo_ k)) u_6, bB K ho_ ao 204 lo_ go, bB K hlo alo 150 (tkL lo_ k) glo, bF K hr hm kd ak tu be (cr + tkC lo_ (k + 1))] := by rw [← e_35]; exact ho
              have e_36 : bB K hf af 15 (mf (fif lo_ k)) u_6 = bB K hf af 15 (fx (fif lo_ k)) u_6 := by rw [fx_m ch]
              have ho : ow D vwCl A s.heap H locs [bC K h ad hw hh hlo hf, bB K hf af 15 (fx (fif lo_ k)) u_6, bB K ho_ ao 204 lo_ go, bB K hlo alo 150 (tkL lo_ k) glo, bF K hr hm kd ak tu be (cr + tkC lo_ (k + 1))] := by rw [← e_36]; exact ho
              refine lv_aload_n hx hb dX1_takeTens_92 rfl (lv_at hl 2 rfl) ?_
              refine o_get (v := .ref hlo) C ho 0 0 rfl rfl rfl 3 fX1_23 rfl dX1_takeTens_93 ?_
              refine lv_aload_n hx hb dX1_takeTens_96 rfl (lv_at hl 2 rfl) ?_
              refine o_get (v := .ref hf) C ho 0 0 rfl rfl rfl 4 fX1_26 rfl dX1_takeTens_97 ?_
              refine lv_iconst (v := nI 0) hx hb dX1_takeTens_100 (by decide) ?_
              refine lv_bipush (v := nI 10) hx hb dX1_takeTens_101 (by decide) ?_
              refine o_callV (wr := [bC K h ad hw hh hlo hf, bB K ho_ ao 204 lo_ go, bF K hr hm kd ak tu be (cr + tkC lo_ (k + 1))]) (rest := []) (As := [.ref hf, .int (nI 0), .int (nI 10)]) C (c_Bits_addAll la D K hlo alo 150 (tkL lo_ k) glo hf af 15 (fx (fif lo_ k)) u_6 0 10 (by first | omega | assumption | (simp only [List.length_append, List.length_cons, List.length_nil, List.length_modify, List.length_set, nb_len, rb_len, rbp_len, sl_len, slN_len, wh_len, wt_len, hd10_len, hdB_len, thr_len, ldp_len, ldB_len, tens_len, whz_len, majL_len, mf_len, tkL_len, ldY_len, fif_len]; omega) | decide) (by first | omega | assumption | (simp only [List.length_append, List.length_cons, List.length_nil, List.length_modify, List.length_set, nb_len, rb_len, rbp_len, sl_len, slN_len, wh_len, wt_len, hd10_len, hdB_len, thr_len, ldp_len, ldB_len, tens_len, whz_len, majL_len, mf_len, tkL_len, ldY_len, fif_len]; omega) | decide) (fx_le _) (by first | omega | assumption | (simp only [List.length_append, List.length_cons, List.length_nil, List.length_modify, List.length_set, nb_len, rb_len, rbp_len, sl_len, slN_len, wh_len, wt_len, hd10_len, hdB_len, thr_len, ldp_len, ldB_len, tens_len, whz_len, majL_len, mf_len, tkL_len, ldY_len, fif_len]; omega) | decide) (by first | omega | assumption | (simp only [List.length_append, List.length_cons, List.length_nil, List.length_modify, List.length_set, nb_len, rb_len, rbp_len, sl_len, slN_len, wh_len, wt_len, hd10_len, hdB_len, thr_len, ldp_len, ldB_len, tens_len, whz_len, majL_len, mf_len, tkL_len, ldY_len, fif_len]; omega) | decide)) kX1_60 vX0_addAll (by decide) rfl ho [3, 1, 0, 2, 4] 5 (by decide +kernel) rfl rfl rfl rfl rfl hl.1 rfl (Nat.le_of_ble_eq_true rfl) dX1_takeTens_103 0 0 rfl rfl (by decide) (fun v u_37 H locs hq ho => ?_)
              obtain rfl := hq
              have ho : ow D vwCl A s.heap H locs [bB K hlo alo 150 ((tkL lo_ k) ++ sl (fx (fif lo_ k)) 0 10) glo, bB K hf af 15 (fx (fif lo_ k)) u_6, bC K h ad hw hh hlo hf, bB K ho_ ao 204 lo_ go, bF K hr hm kd ak tu be (cr + tkC lo_ (k + 1))] := ho
              refine W.eq (g2 := F0 m 106 ls []) rfl ?_
              have e_38 : bB K hlo alo 150 ((tkL lo_ k) ++ sl (fx (fif lo_ k)) 0 10) glo = bB K hlo alo 150 (tkL lo_ (k + 1)) glo := rfl
              have ho : ow D vwCl A s.heap H locs [bB K hlo alo 150 (tkL lo_ (k + 1)) glo, bB K hf af 15 (fx (fif lo_ k)) u_6, bC K h ad hw hh hlo hf, bB K ho_ ao 204 lo_ go, bF K hr hm kd ak tu be (cr + tkC lo_ (k + 1))] := by rw [← e_38]; exact ho
              refine lv_iinc (v := nI (69 + 15 * k + 15)) (lv' := [(4, .int (nI (69 + 15 * k + 15))), (3, .int (bI (tkS lo_ (k + 1)))), (5, .int (bI ((mnd (fif lo_ k)).isSome))), (0, .ref h), (1, .ref ho_), (2, .ref hr)]) hx hb dX1_takeTens_106 hl (k := 5) rfl (iincN _ _) (by decide) rfl (fun ls hl => ?_)
              have e_39 : (.int (nI (69 + 15 * k + 15)) : Value) = .int (nI (69 + 15 * (k + 1))) := rfl
              have hl : lv_has ls 6 [(4, .int (nI (69 + 15 * (k + 1)))), (3, .int (bI (tkS lo_ (k + 1)))), (5, .int (bI ((mnd (fif lo_ k)).isSome))), (0, .ref h), (1, .ref ho_), (2, .ref hr)] := by rw [← e_39]; exact hl
              refine lv_goto (tgt := 6) hx hb dX1_takeTens_109 (by decide) ?_
              have ho : ow D vwCl A s.heap H locs [bC K h ad hw hh hlo hf, bB K hlo alo 150 (tkL lo_ (k + 1)) glo, bB K hf af 15 (fx (fif lo_ k)) u_6, bB K ho_ ao 204 lo_ go, bF K hr hm kd ak tu be (cr + tkC lo_ (k + 1))] := ho.re [2, 0, 1, 3, 4] 5 (by decide +kernel) rfl rfl
              exact ih6 (k + 1) (fx (fif lo_ k)) u_6 (by omega) (by omega) (fx_le _) _ _ _ ho (lv_sub hl [3, 4, 5, 1, 0] rfl)
            · skip
              have cs : tkS lo_ k = true := c_33
              refine lv_iload hx hb dX1_takeTens_81 (lv_at hl 0 rfl) ?_
              refine o_ifb_eq (tgt := 90) hx hb dX1_takeTens_83 (by decide) (fun c_40 => ?_) (fun c_40 => ?_)
              · skip
                exact absurd (c_40.symm.trans cm) (by decide)
              · skip
                refine lv_iconst (v := nI 1) hx hb dX1_takeTens_86 (by decide) ?_
                refine lv_goto (tgt := 91) hx hb dX1_takeTens_87 (by decide) ?_
                refine lv_istore_n (lv' := [(3, .int (nI 1)), (5, .int (bI ((mnd (fif lo_ k)).isSome))), (0, .ref h), (1, .ref ho_), (2, .ref hr), (4, .int (nI (69 + 15 * k)))]) hx hb dX1_takeTens_91 rfl hl (by decide) rfl (fun ls hl => ?_)
                have e_41 : (.int (nI 1) : Value) = .int (bI (tkS lo_ (k + 1))) := by rw [tkS_m ch cm, cs]; rfl
                have hl : lv_has ls 6 [(3, .int (bI (tkS lo_ (k + 1)))), (5, .int (bI ((mnd (fif lo_ k)).isSome))), (0, .ref h), (1, .ref ho_), (2, .ref hr), (4, .int (nI (69 + 15 * k)))] := by rw [← e_41]; exact hl
                have e_42 : bF K hr hm kd ak tu be ((cr + tkC lo_ k) + 1) = bF K hr hm kd ak tu be (cr + tkC lo_ (k + 1)) := congrArg (bF K hr hm kd ak tu be) (tkC_m ch cm)
                have ho : ow D vwCl A s.heap H locs [bC K h ad hw hh hlo hf, bB K hf af 15 (mf (fif lo_ k)) u_6, bB K ho_ ao 204 lo_ go, bB K hlo alo 150 (tkL lo_ k) glo, bF K hr hm kd ak tu be (cr + tkC lo_ (k + 1))] := by rw [← e_42]; exact ho
                have e_43 : bB K hf af 15 (mf (fif lo_ k)) u_6 = bB K hf af 15 (fx (fif lo_ k)) u_6 := by rw [fx_m ch]
                have ho : ow D vwCl A s.heap H locs [bC K h ad hw hh hlo hf, bB K hf af 15 (fx (fif lo_ k)) u_6, bB K ho_ ao 204 lo_ go, bB K hlo alo 150 (tkL lo_ k) glo, bF K hr hm kd ak tu be (cr + tkC lo_ (k + 1))] := by rw [← e_43]; exact ho
                refine lv_aload_n hx hb dX1_takeTens_92 rfl (lv_at hl 2 rfl) ?_
                refine o_get (v := .ref hlo) C ho 0 0 rfl rfl rfl 3 fX1_23 rfl dX1_takeTens_93 ?_
                refine lv_aload_n hx hb dX1_takeTens_96 rfl (lv_at hl 2 rfl) ?_
                refine o_get (v := .ref hf) C ho 0 0 rfl rfl rfl 4 fX1_26 rfl dX1_takeTens_97 ?_
                refine lv_iconst (v := nI 0) hx hb dX1_takeTens_100 (by decide) ?_
                refine lv_bipush (v := nI 10) hx hb dX1_takeTens_101 (by decide) ?_
                refine o_callV (wr := [bC K h ad hw hh hlo hf, bB K ho_ ao 204 lo_ go, bF K hr hm kd ak tu be (cr + tkC lo_ (k + 1))]) (rest := []) (As := [.ref hf, .int (nI 0), .int (nI 10)]) C (c_Bits_addAll la D K hlo alo 150 (tkL lo_ k) glo hf af 15 (fx (fif lo_ k)) u_6 0 10 (by first | omega | assumption | (simp only [List.length_append, List.length_cons, List.length_nil, List.length_modify, List.length_set, nb_len, rb_len, rbp_len, sl_len, slN_len, wh_len, wt_len, hd10_len, hdB_len, thr_len, ldp_len, ldB_len, tens_len, whz_len, majL_len, mf_len, tkL_len, ldY_len, fif_len]; omega) | decide) (by first | omega | assumption | (simp only [List.length_append, List.length_cons, List.length_nil, List.length_modify, List.length_set, nb_len, rb_len, rbp_len, sl_len, slN_len, wh_len, wt_len, hd10_len, hdB_len, thr_len, ldp_len, ldB_len, tens_len, whz_len, majL_len, mf_len, tkL_len, ldY_len, fif_len]; omega) | decide) (fx_le _) (by first | omega | assumption | (simp only [List.length_append, List.length_cons, List.length_nil, List.length_modify, List.length_set, nb_len, rb_len, rbp_len, sl_len, slN_len, wh_len, wt_len, hd10_len, hdB_len, thr_len, ldp_len, ldB_len, tens_len, whz_len, majL_len, mf_len, tkL_len, ldY_len, fif_len]; omega) | decide) (by first | omega | assumption | (simp only [List.length_append, List.length_cons, List.length_nil, List.length_modify, List.length_set, nb_len, rb_len, rbp_len, sl_len, slN_len, wh_len, wt_len, hd10_len, hdB_len, thr_len, ldp_len, ldB_len, tens_len, whz_len, majL_len, mf_len, tkL_len, ldY_len, fif_len]; omega) | decide)) kX1_60 vX0_addAll (by decide) rfl ho [3, 1, 0, 2, 4] 5 (by decide +kernel) rfl rfl rfl rfl rfl hl.1 rfl (Nat.le_of_ble_eq_true rfl) dX1_takeTens_103 0 0 rfl rfl (by decide) (fun v u_44 H locs hq ho => ?_)
                obtain rfl := hq
                have ho : ow D vwCl A s.heap H locs [bB K hlo alo 150 ((tkL lo_ k) ++ sl (fx (fif lo_ k)) 0 10) glo, bB K hf af 15 (fx (fif lo_ k)) u_6, bC K h ad hw hh hlo hf, bB K ho_ ao 204 lo_ go, bF K hr hm kd ak tu be (cr + tkC lo_ (k + 1))] := ho
                refine W.eq (g2 := F0 m 106 ls []) rfl ?_
                have e_45 : bB K hlo alo 150 ((tkL lo_ k) ++ sl (fx (fif lo_ k)) 0 10) glo = bB K hlo alo 150 (tkL lo_ (k + 1)) glo := rfl
                have ho : ow D vwCl A s.heap H locs [bB K hlo alo 150 (tkL lo_ (k + 1)) glo, bB K hf af 15 (fx (fif lo_ k)) u_6, bC K h ad hw hh hlo hf, bB K ho_ ao 204 lo_ go, bF K hr hm kd ak tu be (cr + tkC lo_ (k + 1))] := by rw [← e_45]; exact ho
                refine lv_iinc (v := nI (69 + 15 * k + 15)) (lv' := [(4, .int (nI (69 + 15 * k + 15))), (3, .int (bI (tkS lo_ (k + 1)))), (5, .int (bI ((mnd (fif lo_ k)).isSome))), (0, .ref h), (1, .ref ho_), (2, .ref hr)]) hx hb dX1_takeTens_106 hl (k := 5) rfl (iincN _ _) (by decide) rfl (fun ls hl => ?_)
                have e_46 : (.int (nI (69 + 15 * k + 15)) : Value) = .int (nI (69 + 15 * (k + 1))) := rfl
                have hl : lv_has ls 6 [(4, .int (nI (69 + 15 * (k + 1)))), (3, .int (bI (tkS lo_ (k + 1)))), (5, .int (bI ((mnd (fif lo_ k)).isSome))), (0, .ref h), (1, .ref ho_), (2, .ref hr)] := by rw [← e_46]; exact hl
                refine lv_goto (tgt := 6) hx hb dX1_takeTens_109 (by decide) ?_
                have ho : ow D vwCl A s.heap H locs [bC K h ad hw hh hlo hf, bB K hlo alo 150 (tkL lo_ (k + 1)) glo, bB K hf af 15 (fx (fif lo_ k)) u_6, bB K ho_ ao 204 lo_ go, bF K hr hm kd ak tu be (cr + tkC lo_ (k + 1))] := ho.re [2, 0, 1, 3, 4] 5 (by decide +kernel) rfl rfl
                exact ih6 (k + 1) (fx (fif lo_ k)) u_6 (by omega) (by omega) (fx_le _) _ _ _ ho (lv_sub hl [3, 4, 5, 1, 0] rfl)
  exact LP6 ((lo_.length - 54) / 15 - 0 + 1) 0 lf gf (Nat.lt_succ_self _) (by omega) qf _ _ _ ho (lv_sub hl [2, 3, 4, 1, 0] rfl)
