set_option maxHeartbeats 4000000 in
set_option maxRecDepth 100000 in
theorem c_Out_loaded1 (la : Launch) (D : va_G) (K : Nat → ClassId) (h : Nat) (hw : Nat) (hq : Nat) (hs : Nat) (hf : Nat) (fr : Nat) (gu : Bool) (tu : Bool)  : MT la D K yX7_loaded cX7_loaded 1 (some (.object "RadioPair$Frame")) (rmL 1 0 0) [.ref h] [bO K h hw hq hs hf fr true gu tu] Unit (fun v _ => v = some (.ref hf)) (fun _ => [bO K h hw hq hs hf fr true gu tu]) := by
  refine Mt.ofW [(0, .ref h)] (by decide) rfl (Nat.le_of_ble_eq_true rfl) ?_
  intro p e s m args below meth c A ls H locs Qz hQ C hin hl ho
  have hx := C.1.1
  have hb := C.1.2.1
  refine lv_aload_n hx hb dX7_loaded_0 rfl (lv_at hl 0 rfl) ?_
  refine o_get (v := .int (bI true)) C ho 0 0 rfl rfl rfl 5 fX7_48 rfl dX7_loaded_1 ?_
  refine o_ifb_ne (tgt := 29) hx hb dX7_loaded_4 (by decide) (fun _ => ?_) (fun c9 => absurd c9 (by decide))
  refine lv_aload_n hx hb dX7_loaded_29 rfl (lv_at hl 0 rfl) ?_
  refine o_get (v := .int (bI true)) C ho 0 0 rfl rfl rfl 5 fX7_48 rfl dX7_loaded_30 ?_
  refine o_ifb_eq (tgt := 43) hx hb dX7_loaded_33 (by decide) (fun c9 => absurd c9 (by decide)) (fun _ => ?_)
  refine lv_aload_n hx hb dX7_loaded_36 rfl (lv_at hl 0 rfl) ?_
  refine o_get (v := .ref hf) C ho 0 0 rfl rfl rfl 3 fX7_33 rfl dX7_loaded_37 ?_
  refine lv_goto (tgt := 44) hx hb dX7_loaded_40 (by decide) ?_
  exact o_aret hQ C (Or.inr ⟨_, rfl⟩) ho () rfl rfl (Nat.le_of_ble_eq_true rfl) (Nat.le_of_ble_eq_true rfl) dX7_loaded_44

set_option maxHeartbeats 4000000 in
set_option maxRecDepth 100000 in
theorem c_Out_loaded2 (la : Launch) (D : va_G) (K : Nat → ClassId) (h : Nat) (hw : Nat) (hq : Nat) (hs : Nat) (hf : Nat) (fr : Nat) (gu : Bool) (tu : Bool) (as_ : Nat) (ls_ : List Nat) (gs_ : Nat → Int32) (hm : Nat) (kd : Nat) (ak : Bool) (ft : Bool) (be : Bool) (cr : Nat) (am : Nat) (lm : List Nat) (gm : Nat → Int32) (q1 : fr < ls_.length) (q2 : ls_.length ≤ 41) (q3 : lm.length ≤ 63) : MT la D K yX7_loaded cX7_loaded 1 (some (.object "RadioPair$Frame")) (rmL 4 0 0) [.ref h] [bO K h hw hq hs hf fr false gu tu, bM K hs as_ 41 ls_ gs_, bF K hf hm kd ak ft be cr, bM K hm am 63 lm gm] (Nat → Int32) (fun v _ => v = some (.ref hf)) (fun u => [bO K h hw hq hs hf (fr + nxt gu (ls_.length - fr)) true gu (!tu), bM K hs as_ 41 ls_ gs_, bF K hf hm (cond gu 3 4) ak (!tu) (decide (fr = 0)) cr, bM K hm am 63 (slN ls_ fr (nxt gu (ls_.length - fr))) u]) := by
  refine Mt.ofW [(0, .ref h)] (by decide) rfl (Nat.le_of_ble_eq_true rfl) ?_
  intro p e s m args below meth c A ls H locs Qz hQ C hin hl ho
  have hx := C.1.1
  have hb := C.1.2.1
  refine lv_aload_n hx hb dX7_loaded_0 rfl (lv_at hl 0 rfl) ?_
  refine o_get (v := .int (bI false)) C ho 0 0 rfl rfl rfl 5 fX7_48 rfl dX7_loaded_1 ?_
  refine o_ifb_ne (tgt := 29) hx hb dX7_loaded_4 (by decide) (fun c9 => absurd c9 (by decide)) (fun _ => ?_)
  refine lv_aload_n hx hb dX7_loaded_7 rfl (lv_at hl 0 rfl) ?_
  refine o_callV (wr := [bF K hf hm kd ak ft be cr, bM K hm am 63 lm gm]) (rest := []) (As := []) C (c_Out_bytesLeft la D K h hw hq hs hf fr false gu tu as_ ls_ gs_ (by first | omega | assumption | (simp only [List.length_append, List.length_cons, List.length_nil, List.length_modify, List.length_set, nb_len, rb_len, rbp_len, sl_len, slN_len, wh_len, wt_len, hd10_len, hdB_len, thr_len, ldp_len, ldB_len, tens_len, whz_len, majL_len, mf_len, tkL_len, ldY_len, fif_len, ldY_len]; omega) | decide)) kX7_54 vX7_bytesLeft (by decide) rfl ho [0, 1, 2, 3] 4 (by decide +kernel) rfl rfl rfl rfl rfl hl.1 rfl (Nat.le_of_ble_eq_true rfl) dX7_loaded_8 0 0 rfl rfl (by decide) (fun v u_1 H locs hq ho => ?_)
  obtain rfl := hq
  have ho : ow D vwCl A s.heap H locs [bO K h hw hq hs hf fr false gu tu, bM K hs as_ 41 ls_ gs_, bF K hf hm kd ak ft be cr, bM K hm am 63 lm gm] := ho
  refine W.eq (g2 := F0 m 11 ls [.int (nI (ls_.length - fr))]) rfl ?_
  refine o_if_ne (tgt := 18) hx hb dX7_loaded_11 (by decide) (by omega) (fun c_2 => ?_) (fun c_2 => ?_)
  · skip
    refine lv_aload_n hx hb dX7_loaded_18 rfl (lv_at hl 0 rfl) ?_
    refine o_callV (wr := [bF K hf hm kd ak ft be cr, bM K hm am 63 lm gm]) (rest := []) (As := []) C (c_Out_bytesLeft la D K h hw hq hs hf fr false gu tu as_ ls_ gs_ (by first | omega | assumption | (simp only [List.length_append, List.length_cons, List.length_nil, List.length_modify, List.length_set, nb_len, rb_len, rbp_len, sl_len, slN_len, wh_len, wt_len, hd10_len, hdB_len, thr_len, ldp_len, ldB_len, tens_len, whz_len, majL_len, mf_len, tkL_len, ldY_len, fif_len, ldY_len]; omega) | decide)) kX7_54 vX7_bytesLeft (by decide) rfl ho [0, 1, 2, 3] 4 (by decide +kernel) rfl rfl rfl rfl rfl hl.1 rfl (Nat.le_of_ble_eq_true rfl) dX7_loaded_19 0 0 rfl rfl (by decide) (fun v u_3 H locs hq ho => ?_)
    obtain rfl := hq
    have ho : ow D vwCl A s.heap H locs [bO K h hw hq hs hf fr false gu tu, bM K hs as_ 41 ls_ gs_, bF K hf hm kd ak ft be cr, bM K hm am 63 lm gm] := ho
    refine W.eq (g2 := F0 m 22 ls [.int (nI (ls_.length - fr))]) rfl ?_
    refine o_if_le (tgt := 29) hx hb dX7_loaded_22 (by decide) (by omega) (fun c_4 => ?_) (fun c_4 => ?_)
    · skip
      exact absurd c_4 (by omega)
    · skip
      refine lv_aload_n hx hb dX7_loaded_25 rfl (lv_at hl 0 rfl) ?_
      refine o_callV (wr := []) (rest := []) (As := []) C (c_Out_makeFrame la D K h hw hq hs hf fr false gu tu as_ ls_ gs_ hm kd ak ft be cr am lm gm (by first | omega | assumption | (simp only [List.length_append, List.length_cons, List.length_nil, List.length_modify, List.length_set, nb_len, rb_len, rbp_len, sl_len, slN_len, wh_len, wt_len, hd10_len, hdB_len, thr_len, ldp_len, ldB_len, tens_len, whz_len, majL_len, mf_len, tkL_len, ldY_len, fif_len, ldY_len]; omega) | decide) (by first | omega | assumption | (simp only [List.length_append, List.length_cons, List.length_nil, List.length_modify, List.length_set, nb_len, rb_len, rbp_len, sl_len, slN_len, wh_len, wt_len, hd10_len, hdB_len, thr_len, ldp_len, ldB_len, tens_len, whz_len, majL_len, mf_len, tkL_len, ldY_len, fif_len, ldY_len]; omega) | decide) (by first | omega | assumption | (simp only [List.length_append, List.length_cons, List.length_nil, List.length_modify, List.length_set, nb_len, rb_len, rbp_len, sl_len, slN_len, wh_len, wt_len, hd10_len, hdB_len, thr_len, ldp_len, ldB_len, tens_len, whz_len, majL_len, mf_len, tkL_len, ldY_len, fif_len, ldY_len]; omega) | decide)) kX7_61 vX7_makeFrame (by decide) rfl ho [0, 1, 2, 3] 4 (by decide +kernel) rfl rfl rfl rfl rfl hl.1 rfl (Nat.le_of_ble_eq_true rfl) dX7_loaded_26 0 0 rfl rfl (by decide) (fun v u_5 H locs hq ho => ?_)
      obtain rfl := hq
      have ho : ow D vwCl A s.heap H locs [bO K h hw hq hs hf (fr + nxt gu (ls_.length - fr)) true gu (!tu), bM K hs as_ 41 ls_ gs_, bF K hf hm (cond gu 3 4) ak (!tu) (decide (fr = 0)) cr, bM K hm am 63 (slN ls_ fr (nxt gu (ls_.length - fr))) u_5] := ho
      refine W.eq (g2 := F0 m 29 ls []) rfl ?_
      refine lv_aload_n hx hb dX7_loaded_29 rfl (lv_at hl 0 rfl) ?_
      refine o_get (v := .int (bI true)) C ho 0 0 rfl rfl rfl 5 fX7_48 rfl dX7_loaded_30 ?_
      refine o_ifb_eq (tgt := 43) hx hb dX7_loaded_33 (by decide) (fun c9 => absurd c9 (by decide)) (fun _ => ?_)
      refine lv_aload_n hx hb dX7_loaded_36 rfl (lv_at hl 0 rfl) ?_
      refine o_get (v := .ref hf) C ho 0 0 rfl rfl rfl 3 fX7_33 rfl dX7_loaded_37 ?_
      refine lv_goto (tgt := 44) hx hb dX7_loaded_40 (by decide) ?_
      exact o_aret hQ C (Or.inr ⟨_, rfl⟩) ho u_5 rfl rfl (Nat.le_of_ble_eq_true rfl) (Nat.le_of_ble_eq_true rfl) dX7_loaded_44
  · skip
    exact absurd c_2 (by omega)

set_option maxHeartbeats 4000000 in
set_option maxRecDepth 100000 in
theorem c_Out_loaded3 (la : Launch) (D : va_G) (K : Nat → ClassId) (h : Nat) (hw : Nat) (hq : Nat) (hs : Nat) (hf : Nat) (fr : Nat) (gu : Bool) (tu : Bool) (q : Nat) (mh : Nat → Nat) (fi : Nat) (sz : Nat) (ma : Nat → Nat) (ml : Nat → List Nat) (mg : Nat → Nat → Int32) (as_ : Nat) (ls_ : List Nat) (gs_ : Nat → Int32) (hm : Nat) (kd : Nat) (ak : Bool) (ft : Bool) (be : Bool) (cr : Nat) (am : Nat) (lm : List Nat) (gm : Nat → Int32) (q1 : fr = ls_.length) (q2 : ls_.length ≤ 41) (q3 : lm.length ≤ 63) (q0 : 0 < sz) (q6 : sz ≤ 6) (qf : fi < 6) (qm : (ml fi).length ≤ 40) : MT la D K yX7_loaded cX7_loaded 1 (some (.object "RadioPair$Frame")) (rmL 4 0 0) [.ref h] [bO K h hw hq hs hf fr false gu tu, bH K hq q mh fi sz, bPool K mh ma 40 ml mg, bM K hs as_ 41 ls_ gs_, bF K hf hm kd ak ft be cr, bM K hm am 63 lm gm] ((Nat → Int32) × (Nat → Int32)) (fun v _ => v = some (.ref hf)) (fun u => [bO K h hw hq hs hf (0 + nxt gu ((ml fi).length + 1)) true gu (!tu), bH K hq q mh ((fi + 1) % 6) (sz - 1), bPool K mh ma 40 ml mg, bM K hs as_ 41 ((ml fi).length :: ml fi) u.1, bF K hf hm (cond gu 3 4) ak (!tu) (decide (0 = 0)) cr, bM K hm am 63 (slN ((ml fi).length :: ml fi) 0 (nxt gu ((ml fi).length + 1))) u.2]) := by
  refine Mt.ofW [(0, .ref h)] (by decide) rfl (Nat.le_of_ble_eq_true rfl) ?_
  intro p e s m args below meth c A ls H locs Qz hQ C hin hl ho
  have hx := C.1.1
  have hb := C.1.2.1
  refine lv_aload_n hx hb dX7_loaded_0 rfl (lv_at hl 0 rfl) ?_
  refine o_get (v := .int (bI false)) C ho 0 0 rfl rfl rfl 5 fX7_48 rfl dX7_loaded_1 ?_
  refine o_ifb_ne (tgt := 29) hx hb dX7_loaded_4 (by decide) (fun c9 => absurd c9 (by decide)) (fun _ => ?_)
  refine lv_aload_n hx hb dX7_loaded_7 rfl (lv_at hl 0 rfl) ?_
  refine o_callV (wr := [bH K hq q mh fi sz, bPool K mh ma 40 ml mg, bF K hf hm kd ak ft be cr, bM K hm am 63 lm gm]) (rest := []) (As := []) C (c_Out_bytesLeft la D K h hw hq hs hf fr false gu tu as_ ls_ gs_ (by first | omega | assumption | (simp only [List.length_append, List.length_cons, List.length_nil, List.length_modify, List.length_set, nb_len, rb_len, rbp_len, sl_len, slN_len, wh_len, wt_len, hd10_len, hdB_len, thr_len, ldp_len, ldB_len, tens_len, whz_len, majL_len, mf_len, tkL_len, ldY_len, fif_len, ldY_len]; omega) | decide)) kX7_54 vX7_bytesLeft (by decide) rfl ho [0, 3, 1, 2, 4, 5] 6 (by decide +kernel) rfl rfl rfl rfl rfl hl.1 rfl (Nat.le_of_ble_eq_true rfl) dX7_loaded_8 0 0 rfl rfl (by decide) (fun v u_1 H locs hq ho => ?_)
  obtain rfl := hq
  have ho : ow D vwCl A s.heap H locs [bO K h hw hq hs hf fr false gu tu, bM K hs as_ 41 ls_ gs_, bH K hq q mh fi sz, bPool K mh ma 40 ml mg, bF K hf hm kd ak ft be cr, bM K hm am 63 lm gm] := ho
  refine W.eq (g2 := F0 m 11 ls [.int (nI (ls_.length - fr))]) rfl ?_
  refine o_if_ne (tgt := 18) hx hb dX7_loaded_11 (by decide) (by omega) (fun c_2 => ?_) (fun c_2 => ?_)
  · skip
    exact absurd (by omega) c_2
  · skip
    refine lv_aload_n hx hb dX7_loaded_14 rfl (lv_at hl 0 rfl) ?_
    refine o_callV (wr := [bF K hf hm kd ak ft be cr, bM K hm am 63 lm gm]) (rest := []) (As := []) C (c_Out_begin1 la D K h hw hq hs hf fr false gu tu q mh fi sz ma ml mg as_ ls_ gs_ (by first | omega | assumption | (simp only [List.length_append, List.length_cons, List.length_nil, List.length_modify, List.length_set, nb_len, rb_len, rbp_len, sl_len, slN_len, wh_len, wt_len, hd10_len, hdB_len, thr_len, ldp_len, ldB_len, tens_len, whz_len, majL_len, mf_len, tkL_len, ldY_len, fif_len, ldY_len]; omega) | decide) (by first | omega | assumption | (simp only [List.length_append, List.length_cons, List.length_nil, List.length_modify, List.length_set, nb_len, rb_len, rbp_len, sl_len, slN_len, wh_len, wt_len, hd10_len, hdB_len, thr_len, ldp_len, ldB_len, tens_len, whz_len, majL_len, mf_len, tkL_len, ldY_len, fif_len, ldY_len]; omega) | decide) (by first | omega | assumption | (simp only [List.length_append, List.length_cons, List.length_nil, List.length_modify, List.length_set, nb_len, rb_len, rbp_len, sl_len, slN_len, wh_len, wt_len, hd10_len, hdB_len, thr_len, ldp_len, ldB_len, tens_len, whz_len, majL_len, mf_len, tkL_len, ldY_len, fif_len, ldY_len]; omega) | decide) (by first | omega | assumption | (simp only [List.length_append, List.length_cons, List.length_nil, List.length_modify, List.length_set, nb_len, rb_len, rbp_len, sl_len, slN_len, wh_len, wt_len, hd10_len, hdB_len, thr_len, ldp_len, ldB_len, tens_len, whz_len, majL_len, mf_len, tkL_len, ldY_len, fif_len, ldY_len]; omega) | decide)) kX7_58 vX7_beginMessage (by decide) rfl ho [0, 2, 3, 1, 4, 5] 6 (by decide +kernel) rfl rfl rfl rfl rfl hl.1 rfl (Nat.le_of_ble_eq_true rfl) dX7_loaded_15 0 0 rfl rfl (by decide) (fun v u_3 H locs hq ho => ?_)
    obtain rfl := hq
    have ho : ow D vwCl A s.heap H locs [bO K h hw hq hs hf 0 false gu tu, bH K hq q mh ((fi + 1) % 6) (sz - 1), bPool K mh ma 40 ml mg, bM K hs as_ 41 ((ml fi).length :: ml fi) u_3, bF K hf hm kd ak ft be cr, bM K hm am 63 lm gm] := ho
    refine W.eq (g2 := F0 m 18 ls []) rfl ?_
    refine lv_aload_n hx hb dX7_loaded_18 rfl (lv_at hl 0 rfl) ?_
    refine o_callV (wr := [bH K hq q mh ((fi + 1) % 6) (sz - 1), bPool K mh ma 40 ml mg, bF K hf hm kd ak ft be cr, bM K hm am 63 lm gm]) (rest := []) (As := []) C (c_Out_bytesLeft la D K h hw hq hs hf 0 false gu tu as_ ((ml fi).length :: ml fi) u_3 (by first | omega | assumption | (simp only [List.length_append, List.length_cons, List.length_nil, List.length_modify, List.length_set, nb_len, rb_len, rbp_len, sl_len, slN_len, wh_len, wt_len, hd10_len, hdB_len, thr_len, ldp_len, ldB_len, tens_len, whz_len, majL_len, mf_len, tkL_len, ldY_len, fif_len, ldY_len]; omega) | decide)) kX7_54 vX7_bytesLeft (by decide) rfl ho [0, 3, 1, 2, 4, 5] 6 (by decide +kernel) rfl rfl rfl rfl rfl hl.1 rfl (Nat.le_of_ble_eq_true rfl) dX7_loaded_19 0 0 rfl rfl (by decide) (fun v u_4 H locs hq ho => ?_)
    obtain rfl := hq
    have ho : ow D vwCl A s.heap H locs [bO K h hw hq hs hf 0 false gu tu, bM K hs as_ 41 ((ml fi).length :: ml fi) u_3, bH K hq q mh ((fi + 1) % 6) (sz - 1), bPool K mh ma 40 ml mg, bF K hf hm kd ak ft be cr, bM K hm am 63 lm gm] := ho
    refine W.eq (g2 := F0 m 22 ls [.int (nI (((ml fi).length :: ml fi).length - 0))]) rfl ?_
    refine o_top (y := nI ((ml fi).length + 1)) (rfl) ?_
    refine o_if_le (tgt := 29) hx hb dX7_loaded_22 (by decide) (by omega) (fun c_5 => ?_) (fun c_5 => ?_)
    · skip
      exact absurd c_5 (by omega)
    · skip
      refine lv_aload_n hx hb dX7_loaded_25 rfl (lv_at hl 0 rfl) ?_
      refine o_callV (wr := [bH K hq q mh ((fi + 1) % 6) (sz - 1), bPool K mh ma 40 ml mg]) (rest := []) (As := []) C (c_Out_makeFrame la D K h hw hq hs hf 0 false gu tu as_ ((ml fi).length :: ml fi) u_3 hm kd ak ft be cr am lm gm (by first | omega | assumption | (simp only [List.length_append, List.length_cons, List.length_nil, List.length_modify, List.length_set, nb_len, rb_len, rbp_len, sl_len, slN_len, wh_len, wt_len, hd10_len, hdB_len, thr_len, ldp_len, ldB_len, tens_len, whz_len, majL_len, mf_len, tkL_len, ldY_len, fif_len, ldY_len]; omega) | decide) (by first | omega | assumption | (simp only [List.length_append, List.length_cons, List.length_nil, List.length_modify, List.length_set, nb_len, rb_len, rbp_len, sl_len, slN_len, wh_len, wt_len, hd10_len, hdB_len, thr_len, ldp_len, ldB_len, tens_len, whz_len, majL_len, mf_len, tkL_len, ldY_len, fif_len, ldY_len]; omega) | decide) (by first | omega | assumption | (simp only [List.length_append, List.length_cons, List.length_nil, List.length_modify, List.length_set, nb_len, rb_len, rbp_len, sl_len, slN_len, wh_len, wt_len, hd10_len, hdB_len, thr_len, ldp_len, ldB_len, tens_len, whz_len, majL_len, mf_len, tkL_len, ldY_len, fif_len, ldY_len]; omega) | decide)) kX7_61 vX7_makeFrame (by decide) rfl ho [0, 1, 4, 5, 2, 3] 6 (by decide +kernel) rfl rfl rfl rfl rfl hl.1 rfl (Nat.le_of_ble_eq_true rfl) dX7_loaded_26 0 0 rfl rfl (by decide) (fun v u_6 H locs hq ho => ?_)
      obtain rfl := hq
      have ho : ow D vwCl A s.heap H locs [bO K h hw hq hs hf (0 + nxt gu (((ml fi).length :: ml fi).length - 0)) true gu (!tu), bM K hs as_ 41 ((ml fi).length :: ml fi) u_3, bF K hf hm (cond gu 3 4) ak (!tu) (decide (0 = 0)) cr, bM K hm am 63 (slN ((ml fi).length :: ml fi) 0 (nxt gu (((ml fi).length :: ml fi).length - 0))) u_6, bH K hq q mh ((fi + 1) % 6) (sz - 1), bPool K mh ma 40 ml mg] := ho
      refine W.eq (g2 := F0 m 29 ls []) rfl ?_
      refine lv_aload_n hx hb dX7_loaded_29 rfl (lv_at hl 0 rfl) ?_
      refine o_get (v := .int (bI true)) C ho 0 0 rfl rfl rfl 5 fX7_48 rfl dX7_loaded_30 ?_
      refine o_ifb_eq (tgt := 43) hx hb dX7_loaded_33 (by decide) (fun c9 => absurd c9 (by decide)) (fun _ => ?_)
      refine lv_aload_n hx hb dX7_loaded_36 rfl (lv_at hl 0 rfl) ?_
      refine o_get (v := .ref hf) C ho 0 0 rfl rfl rfl 3 fX7_33 rfl dX7_loaded_37 ?_
      refine lv_goto (tgt := 44) hx hb dX7_loaded_40 (by decide) ?_
      have ho : ow D vwCl A s.heap H locs [bO K h hw hq hs hf (0 + nxt gu (((ml fi).length :: ml fi).length - 0)) true gu (!tu), bH K hq q mh ((fi + 1) % 6) (sz - 1), bPool K mh ma 40 ml mg, bM K hs as_ 41 ((ml fi).length :: ml fi) u_3, bF K hf hm (cond gu 3 4) ak (!tu) (decide (0 = 0)) cr, bM K hm am 63 (slN ((ml fi).length :: ml fi) 0 (nxt gu (((ml fi).length :: ml fi).length - 0))) u_6] := ho.re [0, 4, 5, 1, 2, 3] 6 (by decide +kernel) rfl rfl
      exact o_aret hQ C (Or.inr ⟨_, rfl⟩) ho (u_3, u_6) rfl (by dsimp only [gs, List.getD_cons_zero, List.getD_cons_succ] <;> rfl) (Nat.le_of_ble_eq_true rfl) (Nat.le_of_ble_eq_true rfl) dX7_loaded_44

set_option maxHeartbeats 4000000 in
set_option maxRecDepth 100000 in
theorem c_Out_loaded4 (la : Launch) (D : va_G) (K : Nat → ClassId) (h : Nat) (hw : Nat) (hq : Nat) (hs : Nat) (hf : Nat) (fr : Nat) (gu : Bool) (tu : Bool) (q : Nat) (mh : Nat → Nat) (fi : Nat) (sz : Nat) (as_ : Nat) (ls_ : List Nat) (gs_ : Nat → Int32) (q1 : fr = ls_.length) (q2 : ls_.length ≤ 41) (q0 : sz = 0) : MT la D K yX7_loaded cX7_loaded 1 (some (.object "RadioPair$Frame")) (rmL 3 0 0) [.ref h] [bO K h hw hq hs hf fr false gu tu, bH K hq q mh fi sz, bM K hs as_ 41 ls_ gs_] Unit (fun v _ => v = some (.null)) (fun _ => [bO K h hw hq hs hf fr false gu tu, bH K hq q mh fi sz, bM K hs as_ 41 ls_ gs_]) := by
  refine Mt.ofW [(0, .ref h)] (by decide) rfl (Nat.le_of_ble_eq_true rfl) ?_
  intro p e s m args below meth c A ls H locs Qz hQ C hin hl ho
  have hx := C.1.1
  have hb := C.1.2.1
  refine lv_aload_n hx hb dX7_loaded_0 rfl (lv_at hl 0 rfl) ?_
  refine o_get (v := .int (bI false)) C ho 0 0 rfl rfl rfl 5 fX7_48 rfl dX7_loaded_1 ?_
  refine o_ifb_ne (tgt := 29) hx hb dX7_loaded_4 (by decide) (fun c9 => absurd c9 (by decide)) (fun _ => ?_)
  refine lv_aload_n hx hb dX7_loaded_7 rfl (lv_at hl 0 rfl) ?_
  refine o_callV (wr := [bH K hq q mh fi sz]) (rest := []) (As := []) C (c_Out_bytesLeft la D K h hw hq hs hf fr false gu tu as_ ls_ gs_ (by first | omega | assumption | (simp only [List.length_append, List.length_cons, List.length_nil, List.length_modify, List.length_set, nb_len, rb_len, rbp_len, sl_len, slN_len, wh_len, wt_len, hd10_len, hdB_len, thr_len, ldp_len, ldB_len, tens_len, whz_len, majL_len, mf_len, tkL_len, ldY_len, fif_len, ldY_len]; omega) | decide)) kX7_54 vX7_bytesLeft (by decide) rfl ho [0, 2, 1] 3 (by decide +kernel) rfl rfl rfl rfl rfl hl.1 rfl (Nat.le_of_ble_eq_true rfl) dX7_loaded_8 0 0 rfl rfl (by decide) (fun v u_1 H locs hq ho => ?_)
  obtain rfl := hq
  have ho : ow D vwCl A s.heap H locs [bO K h hw hq hs hf fr false gu tu, bM K hs as_ 41 ls_ gs_, bH K hq q mh fi sz] := ho
  refine W.eq (g2 := F0 m 11 ls [.int (nI (ls_.length - fr))]) rfl ?_
  refine o_if_ne (tgt := 18) hx hb dX7_loaded_11 (by decide) (by omega) (fun c_2 => ?_) (fun c_2 => ?_)
  · skip
    exact absurd (by omega) c_2
  · skip
    refine lv_aload_n hx hb dX7_loaded_14 rfl (lv_at hl 0 rfl) ?_
    refine o_callV (wr := [bM K hs as_ 41 ls_ gs_]) (rest := []) (As := []) C (c_Out_begin0 la D K h hw hq hs hf fr false gu tu q mh fi sz (by first | omega | assumption | (simp only [List.length_append, List.length_cons, List.length_nil, List.length_modify, List.length_set, nb_len, rb_len, rbp_len, sl_len, slN_len, wh_len, wt_len, hd10_len, hdB_len, thr_len, ldp_len, ldB_len, tens_len, whz_len, majL_len, mf_len, tkL_len, ldY_len, fif_len, ldY_len]; omega) | decide)) kX7_58 vX7_beginMessage (by decide) rfl ho [0, 2, 1] 3 (by decide +kernel) rfl rfl rfl rfl rfl hl.1 rfl (Nat.le_of_ble_eq_true rfl) dX7_loaded_15 0 0 rfl rfl (by decide) (fun v u_3 H locs hq ho => ?_)
    obtain rfl := hq
    have ho : ow D vwCl A s.heap H locs [bO K h hw hq hs hf fr false gu tu, bH K hq q mh fi sz, bM K hs as_ 41 ls_ gs_] := ho
    refine W.eq (g2 := F0 m 18 ls []) rfl ?_
    refine lv_aload_n hx hb dX7_loaded_18 rfl (lv_at hl 0 rfl) ?_
    refine o_callV (wr := [bH K hq q mh fi sz]) (rest := []) (As := []) C (c_Out_bytesLeft la D K h hw hq hs hf fr false gu tu as_ ls_ gs_ (by first | omega | assumption | (simp only [List.length_append, List.length_cons, List.length_nil, List.length_modify, List.length_set, nb_len, rb_len, rbp_len, sl_len, slN_len, wh_len, wt_len, hd10_len, hdB_len, thr_len, ldp_len, ldB_len, tens_len, whz_len, majL_len, mf_len, tkL_len, ldY_len, fif_len, ldY_len]; omega) | decide)) kX7_54 vX7_bytesLeft (by decide) rfl ho [0, 2, 1] 3 (by decide +kernel) rfl rfl rfl rfl rfl hl.1 rfl (Nat.le_of_ble_eq_true rfl) dX7_loaded_19 0 0 rfl rfl (by decide) (fun v u_4 H locs hq ho => ?_)
    obtain rfl := hq
    have ho : ow D vwCl A s.heap H locs [bO K h hw hq hs hf fr false gu tu, bM K hs as_ 41 ls_ gs_, bH K hq q mh fi sz] := ho
    refine W.eq (g2 := F0 m 22 ls [.int (nI (ls_.length - fr))]) rfl ?_
    refine o_if_le (tgt := 29) hx hb dX7_loaded_22 (by decide) (by omega) (fun c_5 => ?_) (fun c_5 => ?_)
    · skip
      refine lv_aload_n hx hb dX7_loaded_29 rfl (lv_at hl 0 rfl) ?_
      refine o_get (v := .int (bI false)) C ho 0 0 rfl rfl rfl 5 fX7_48 rfl dX7_loaded_30 ?_
      refine o_ifb_eq (tgt := 43) hx hb dX7_loaded_33 (by decide) (fun _ => ?_) (fun c9 => absurd c9 (by decide))
      refine lv_null hx hb dX7_loaded_43 ?_
      have ho : ow D vwCl A s.heap H locs [bO K h hw hq hs hf fr false gu tu, bH K hq q mh fi sz, bM K hs as_ 41 ls_ gs_] := ho.re [0, 2, 1] 3 (by decide +kernel) rfl rfl
      exact o_aret hQ C (Or.inl rfl) ho () rfl rfl (Nat.le_of_ble_eq_true rfl) (Nat.le_of_ble_eq_true rfl) dX7_loaded_44
    · skip
      exact absurd c_5 (by omega)

set_option maxHeartbeats 4000000 in
set_option maxRecDepth 100000 in
theorem c_Dev_speak0 (la : Launch) (D : va_G) (K : Nat → ClassId) (h : Nat) (hD : Nat) (hi : Nat) (gd : Bool) (hb_ : Nat) (hbm : Nat) (bak : Bool) (bt_ : Bool) (bbe : Bool) (bcr : Nat)  : MT la D K yX2_speak cX2_speak 2 (some (.object "RadioPair$Frame")) (rmL 1 0 0) [.ref hD] [bD K hD h hi hb_ gd false, bF K hb_ hbm 2 bak bt_ bbe bcr] Unit (fun v _ => v = some (.null)) (fun _ => [bD K hD h hi hb_ gd false, bF K hb_ hbm 2 bak bt_ bbe bcr]) := by
  refine Mt.ofW [(0, .ref hD)] (by decide) rfl (Nat.le_of_ble_eq_true rfl) ?_
  intro p e s m args below meth c A ls H locs Qz hQ C hin hl ho
  have hx := C.1.1
  have hb := C.1.2.1
  refine lv_aload_n hx hb dX2_speak_0 rfl (lv_at hl 0 rfl) ?_
  refine o_get (v := .ref hb_) C ho 0 0 rfl rfl rfl 2 fX2_28 rfl dX2_speak_1 ?_
  refine o_get (v := .int (nI 2)) C ho 1 0 rfl rfl rfl 1 fX2_32 rfl dX2_speak_4 ?_
  refine lv_iconst (v := nI 2) hx hb dX2_speak_7 (by decide) ?_
  refine o_icmp_ne (tgt := 20) hx hb dX2_speak_8 (by decide) (by first | omega | exact and1_lt _) (by first | omega | exact and1_lt _) (fun c_1 => ?_) (fun c_1 => ?_)
  · skip
    exact absurd rfl c_1
  · skip
    refine lv_aload_n hx hb dX2_speak_11 rfl (lv_at hl 0 rfl) ?_
    refine o_get (v := .int (bI false)) C ho 0 0 rfl rfl rfl 4 fX2_36 rfl dX2_speak_12 ?_
    refine o_ifb_ne (tgt := 20) hx hb dX2_speak_15 (by decide) (fun c9 => absurd c9 (by decide)) (fun _ => ?_)
    refine lv_null hx hb dX2_speak_18 ?_
    exact o_aret hQ C (Or.inl rfl) ho () rfl rfl (Nat.le_of_ble_eq_true rfl) (Nat.le_of_ble_eq_true rfl) dX2_speak_19

set_option maxHeartbeats 4000000 in
set_option maxRecDepth 100000 in
theorem c_Dev_speak1_1 (la : Launch) (D : va_G) (K : Nat → ClassId) (hD : Nat) (hi : Nat) (gd : Bool) (hd : Bool) (h : Nat) (hw : Nat) (hq : Nat) (hs : Nat) (hf : Nat) (fr : Nat) (gu : Bool) (tu : Bool) (hm : Nat) (kd : Nat) (ak : Bool) (ft : Bool) (be : Bool) (cr : Nat) (hb_ : Nat) (hbm : Nat) (bak : Bool) (bt_ : Bool) (bbe : Bool) (bcr : Nat)  : MT la D K yX2_speak cX2_speak 2 (some (.object "RadioPair$Frame")) (rmL 2 0 0) [.ref hD] [bO K h hw hq hs hf fr true gu tu, bF K hf hm kd ak ft be cr, bD K hD h hi hb_ gd hd, bF K hb_ hbm 1 bak bt_ bbe bcr] Unit (fun v _ => v = some (.ref hf)) (fun _ => [bO K h hw hq hs hf fr true gu tu, bF K hf hm kd gd ft be cr, bD K hD h hi hb_ false false, bF K hb_ hbm 1 bak bt_ bbe bcr]) := by
  refine Mt.ofW [(0, .ref hD)] (by decide) rfl (Nat.le_of_ble_eq_true rfl) ?_
  intro p e s m args below meth c A ls H locs Qz hQ C hin hl ho
  have hx := C.1.1
  have hb := C.1.2.1
  refine lv_aload_n hx hb dX2_speak_0 rfl (lv_at hl 0 rfl) ?_
  refine o_get (v := .ref hb_) C ho 2 0 rfl rfl rfl 2 fX2_28 rfl dX2_speak_1 ?_
  refine o_get (v := .int (nI 1)) C ho 3 0 rfl rfl rfl 1 fX2_32 rfl dX2_speak_4 ?_
  refine lv_iconst (v := nI 2) hx hb dX2_speak_7 (by decide) ?_
  refine o_icmp_ne (tgt := 20) hx hb dX2_speak_8 (by decide) (by first | omega | exact and1_lt _) (by first | omega | exact and1_lt _) (fun c_1 => ?_) (fun c_1 => ?_)
  · skip
    refine lv_aload_n hx hb dX2_speak_20 rfl (lv_at hl 0 rfl) ?_
    refine o_get (v := .ref h) C ho 2 0 rfl rfl rfl 0 fX2_12 rfl dX2_speak_21 ?_
    refine o_callV (wr := [bF K hf hm kd ak ft be cr, bD K hD h hi hb_ gd hd, bF K hb_ hbm 1 bak bt_ bbe bcr]) (rest := []) (As := []) C (c_Out_loaded1 la D K h hw hq hs hf fr gu tu ) kX2_40 vX7_loaded (by decide) rfl ho [0, 1, 2, 3] 4 (by decide +kernel) rfl rfl rfl rfl rfl hl.1 rfl (Nat.le_of_ble_eq_true rfl) dX2_speak_24 0 0 rfl rfl (by decide) (fun v u_2 H locs hq ho => ?_)
    obtain rfl := hq
    have ho : ow D vwCl A s.heap H locs [bO K h hw hq hs hf fr true gu tu, bF K hf hm kd ak ft be cr, bD K hD h hi hb_ gd hd, bF K hb_ hbm 1 bak bt_ bbe bcr] := ho
    refine W.eq (g2 := F0 m 27 ls [.ref hf]) rfl ?_
    refine lv_astore_n (lv' := [(1, .ref hf), (0, .ref hD)]) hx hb dX2_speak_27 rfl hl (by decide) rfl (fun ls hl => ?_)
    refine lv_aload_n hx hb dX2_speak_28 rfl (lv_at hl 0 rfl) ?_
    refine lv_ifnonnull (tgt := 51) hx hb dX2_speak_29 (by decide) ?_
    refine lv_aload_n hx hb dX2_speak_51 rfl (lv_at hl 0 rfl) ?_
    refine lv_aload_n hx hb dX2_speak_52 rfl (lv_at hl 1 rfl) ?_
    refine o_get (v := .int (bI gd)) C ho 2 0 rfl rfl rfl 3 fX2_48 rfl dX2_speak_53 ?_
    refine o_ifb_eq (tgt := 63) hx hb dX2_speak_56 (by decide) (fun c_3 => ?_) (fun c_3 => ?_)
    · skip
      refine lv_iconst (v := nI 0) hx hb dX2_speak_63 (by decide) ?_
      refine o_put (v := .int (nI 0)) (bs' := [bO K h hw hq hs hf fr true gu tu, bF K hf hm kd false ft be cr, bD K hD h hi hb_ gd hd, bF K hb_ hbm 1 bak bt_ bbe bcr]) C ho 1 0 rfl rfl rfl 2 fX2_51 pX3_2 rfl rfl (Nat.le_of_ble_eq_true rfl) dX2_speak_64 rfl (fun H locs ho => ?_)
      have e_4 : bF K hf hm kd false ft be cr = bF K hf hm kd gd ft be cr := by rw [c_3]
      have ho : ow D vwCl A s.heap H locs [bO K h hw hq hs hf fr true gu tu, bF K hf hm kd gd ft be cr, bD K hD h hi hb_ gd hd, bF K hb_ hbm 1 bak bt_ bbe bcr] := by rw [← e_4]; exact ho
      refine lv_aload_n hx hb dX2_speak_67 rfl (lv_at hl 1 rfl) ?_
      refine lv_iconst (v := nI 0) hx hb dX2_speak_68 (by decide) ?_
      refine o_put (v := .int (nI 0)) (bs' := [bO K h hw hq hs hf fr true gu tu, bF K hf hm kd gd ft be cr, bD K hD h hi hb_ false hd, bF K hb_ hbm 1 bak bt_ bbe bcr]) C ho 2 0 rfl rfl rfl 3 fX2_48 pX2_3 rfl rfl (Nat.le_of_ble_eq_true rfl) dX2_speak_69 rfl (fun H locs ho => ?_)
      refine lv_aload_n hx hb dX2_speak_72 rfl (lv_at hl 1 rfl) ?_
      refine lv_iconst (v := nI 0) hx hb dX2_speak_73 (by decide) ?_
      refine o_put (v := .int (nI 0)) (bs' := [bO K h hw hq hs hf fr true gu tu, bF K hf hm kd gd ft be cr, bD K hD h hi hb_ false false, bF K hb_ hbm 1 bak bt_ bbe bcr]) C ho 2 0 rfl rfl rfl 4 fX2_36 pX2_4 rfl rfl (Nat.le_of_ble_eq_true rfl) dX2_speak_74 rfl (fun H locs ho => ?_)
      refine lv_aload_n hx hb dX2_speak_77 rfl (lv_at hl 0 rfl) ?_
      exact o_aret hQ C (Or.inr ⟨_, rfl⟩) ho () rfl rfl (Nat.le_of_ble_eq_true rfl) (Nat.le_of_ble_eq_true rfl) dX2_speak_78
    · skip
      refine lv_iconst (v := nI 1) hx hb dX2_speak_59 (by decide) ?_
      refine lv_goto (tgt := 64) hx hb dX2_speak_60 (by decide) ?_
      refine o_put (v := .int (nI 1)) (bs' := [bO K h hw hq hs hf fr true gu tu, bF K hf hm kd true ft be cr, bD K hD h hi hb_ gd hd, bF K hb_ hbm 1 bak bt_ bbe bcr]) C ho 1 0 rfl rfl rfl 2 fX2_51 pX3_2 rfl rfl (Nat.le_of_ble_eq_true rfl) dX2_speak_64 rfl (fun H locs ho => ?_)
      have e_5 : bF K hf hm kd true ft be cr = bF K hf hm kd gd ft be cr := by rw [c_3]
      have ho : ow D vwCl A s.heap H locs [bO K h hw hq hs hf fr true gu tu, bF K hf hm kd gd ft be cr, bD K hD h hi hb_ gd hd, bF K hb_ hbm 1 bak bt_ bbe bcr] := by rw [← e_5]; exact ho
      refine lv_aload_n hx hb dX2_speak_67 rfl (lv_at hl 1 rfl) ?_
      refine lv_iconst (v := nI 0) hx hb dX2_speak_68 (by decide) ?_
      refine o_put (v := .int (nI 0)) (bs' := [bO K h hw hq hs hf fr true gu tu, bF K hf hm kd gd ft be cr, bD K hD h hi hb_ false hd, bF K hb_ hbm 1 bak bt_ bbe bcr]) C ho 2 0 rfl rfl rfl 3 fX2_48 pX2_3 rfl rfl (Nat.le_of_ble_eq_true rfl) dX2_speak_69 rfl (fun H locs ho => ?_)
      refine lv_aload_n hx hb dX2_speak_72 rfl (lv_at hl 1 rfl) ?_
      refine lv_iconst (v := nI 0) hx hb dX2_speak_73 (by decide) ?_
      refine o_put (v := .int (nI 0)) (bs' := [bO K h hw hq hs hf fr true gu tu, bF K hf hm kd gd ft be cr, bD K hD h hi hb_ false false, bF K hb_ hbm 1 bak bt_ bbe bcr]) C ho 2 0 rfl rfl rfl 4 fX2_36 pX2_4 rfl rfl (Nat.le_of_ble_eq_true rfl) dX2_speak_74 rfl (fun H locs ho => ?_)
      refine lv_aload_n hx hb dX2_speak_77 rfl (lv_at hl 0 rfl) ?_
      exact o_aret hQ C (Or.inr ⟨_, rfl⟩) ho () rfl rfl (Nat.le_of_ble_eq_true rfl) (Nat.le_of_ble_eq_true rfl) dX2_speak_78
  · skip
    exact absurd c_1 (by decide)

set_option maxHeartbeats 4000000 in
set_option maxRecDepth 100000 in
theorem c_Dev_speak1_2 (la : Launch) (D : va_G) (K : Nat → ClassId) (hD : Nat) (hi : Nat) (gd : Bool) (hd : Bool) (h : Nat) (hw : Nat) (hq : Nat) (hs : Nat) (hf : Nat) (fr : Nat) (gu : Bool) (tu : Bool) (as_ : Nat) (ls_ : List Nat) (gs_ : Nat → Int32) (hm : Nat) (kd : Nat) (ak : Bool) (ft : Bool) (be : Bool) (cr : Nat) (am : Nat) (lm : List Nat) (gm : Nat → Int32) (hb_ : Nat) (hbm : Nat) (bak : Bool) (bt_ : Bool) (bbe : Bool) (bcr : Nat) (q1 : fr < ls_.length) (q2 : ls_.length ≤ 41) (q3 : lm.length ≤ 63) : MT la D K yX2_speak cX2_speak 2 (some (.object "RadioPair$Frame")) (rmL 5 0 0) [.ref hD] [bO K h hw hq hs hf fr false gu tu, bM K hs as_ 41 ls_ gs_, bF K hf hm kd ak ft be cr, bM K hm am 63 lm gm, bD K hD h hi hb_ gd hd, bF K hb_ hbm 1 bak bt_ bbe bcr] (Nat → Int32) (fun v _ => v = some (.ref hf)) (fun u => [bO K h hw hq hs hf (fr + nxt gu (ls_.length - fr)) true gu (!tu), bM K hs as_ 41 ls_ gs_, bF K hf hm (cond gu 3 4) gd (!tu) (decide (fr = 0)) cr, bM K hm am 63 (slN ls_ fr (nxt gu (ls_.length - fr))) u, bD K hD h hi hb_ false false, bF K hb_ hbm 1 bak bt_ bbe bcr]) := by
  refine Mt.ofW [(0, .ref hD)] (by decide) rfl (Nat.le_of_ble_eq_true rfl) ?_
  intro p e s m args below meth c A ls H locs Qz hQ C hin hl ho
  have hx := C.1.1
  have hb := C.1.2.1
  refine lv_aload_n hx hb dX2_speak_0 rfl (lv_at hl 0 rfl) ?_
  refine o_get (v := .ref hb_) C ho 4 0 rfl rfl rfl 2 fX2_28 rfl dX2_speak_1 ?_
  refine o_get (v := .int (nI 1)) C ho 5 0 rfl rfl rfl 1 fX2_32 rfl dX2_speak_4 ?_
  refine lv_iconst (v := nI 2) hx hb dX2_speak_7 (by decide) ?_
  refine o_icmp_ne (tgt := 20) hx hb dX2_speak_8 (by decide) (by first | omega | exact and1_lt _) (by first | omega | exact and1_lt _) (fun c_1 => ?_) (fun c_1 => ?_)
  · skip
    refine lv_aload_n hx hb dX2_speak_20 rfl (lv_at hl 0 rfl) ?_
    refine o_get (v := .ref h) C ho 4 0 rfl rfl rfl 0 fX2_12 rfl dX2_speak_21 ?_
    refine o_callV (wr := [bD K hD h hi hb_ gd hd, bF K hb_ hbm 1 bak bt_ bbe bcr]) (rest := []) (As := []) C (c_Out_loaded2 la D K h hw hq hs hf fr gu tu as_ ls_ gs_ hm kd ak ft be cr am lm gm (by first | omega | assumption | (simp only [List.length_append, List.length_cons, List.length_nil, List.length_modify, List.length_set, nb_len, rb_len, rbp_len, sl_len, slN_len, wh_len, wt_len, hd10_len, hdB_len, thr_len, ldp_len, ldB_len, tens_len, whz_len, majL_len, mf_len, tkL_len, ldY_len, fif_len, ldY_len]; omega) | decide) (by first | omega | assumption | (simp only [List.length_append, List.length_cons, List.length_nil, List.length_modify, List.length_set, nb_len, rb_len, rbp_len, sl_len, slN_len, wh_len, wt_len, hd10_len, hdB_len, thr_len, ldp_len, ldB_len, tens_len, whz_len, majL_len, mf_len, tkL_len, ldY_len, fif_len, ldY_len]; omega) | decide) (by first | omega | assumption | (simp only [List.length_append, List.length_cons, List.length_nil, List.length_modify, List.length_set, nb_len, rb_len, rbp_len, sl_len, slN_len, wh_len, wt_len, hd10_len, hdB_len, thr_len, ldp_len, ldB_len, tens_len, whz_len, majL_len, mf_len, tkL_len, ldY_len, fif_len, ldY_len]; omega) | decide)) kX2_40 vX7_loaded (by decide) rfl ho [0, 1, 2, 3, 4, 5] 6 (by decide +kernel) rfl rfl rfl rfl rfl hl.1 rfl (Nat.le_of_ble_eq_true rfl) dX2_speak_24 0 0 rfl rfl (by decide) (fun v u_2 H locs hq ho => ?_)
    obtain rfl := hq
    have ho : ow D vwCl A s.heap H locs [bO K h hw hq hs hf (fr + nxt gu (ls_.length - fr)) true gu (!tu), bM K hs as_ 41 ls_ gs_, bF K hf hm (cond gu 3 4) ak (!tu) (decide (fr = 0)) cr, bM K hm am 63 (slN ls_ fr (nxt gu (ls_.length - fr))) u_2, bD K hD h hi hb_ gd hd, bF K hb_ hbm 1 bak bt_ bbe bcr] := ho
    refine W.eq (g2 := F0 m 27 ls [.ref hf]) rfl ?_
    refine lv_astore_n (lv' := [(1, .ref hf), (0, .ref hD)]) hx hb dX2_speak_27 rfl hl (by decide) rfl (fun ls hl => ?_)
    refine lv_aload_n hx hb dX2_speak_28 rfl (lv_at hl 0 rfl) ?_
    refine lv_ifnonnull (tgt := 51) hx hb dX2_speak_29 (by decide) ?_
    refine lv_aload_n hx hb dX2_speak_51 rfl (lv_at hl 0 rfl) ?_
    refine lv_aload_n hx hb dX2_speak_52 rfl (lv_at hl 1 rfl) ?_
    refine o_get (v := .int (bI gd)) C ho 4 0 rfl rfl rfl 3 fX2_48 rfl dX2_speak_53 ?_
    refine o_ifb_eq (tgt := 63) hx hb dX2_speak_56 (by decide) (fun c_3 => ?_) (fun c_3 => ?_)
    · skip
      refine lv_iconst (v := nI 0) hx hb dX2_speak_63 (by decide) ?_
      refine o_put (v := .int (nI 0)) (bs' := [bO K h hw hq hs hf (fr + nxt gu (ls_.length - fr)) true gu (!tu), bM K hs as_ 41 ls_ gs_, bF K hf hm (cond gu 3 4) false (!tu) (decide (fr = 0)) cr, bM K hm am 63 (slN ls_ fr (nxt gu (ls_.length - fr))) u_2, bD K hD h hi hb_ gd hd, bF K hb_ hbm 1 bak bt_ bbe bcr]) C ho 2 0 rfl rfl rfl 2 fX2_51 pX3_2 rfl rfl (Nat.le_of_ble_eq_true rfl) dX2_speak_64 rfl (fun H locs ho => ?_)
      have e_4 : bF K hf hm (cond gu 3 4) false (!tu) (decide (fr = 0)) cr = bF K hf hm (cond gu 3 4) gd (!tu) (decide (fr = 0)) cr := by rw [c_3]
      have ho : ow D vwCl A s.heap H locs [bO K h hw hq hs hf (fr + nxt gu (ls_.length - fr)) true gu (!tu), bM K hs as_ 41 ls_ gs_, bF K hf hm (cond gu 3 4) gd (!tu) (decide (fr = 0)) cr, bM K hm am 63 (slN ls_ fr (nxt gu (ls_.length - fr))) u_2, bD K hD h hi hb_ gd hd, bF K hb_ hbm 1 bak bt_ bbe bcr] := by rw [← e_4]; exact ho
      refine lv_aload_n hx hb dX2_speak_67 rfl (lv_at hl 1 rfl) ?_
      refine lv_iconst (v := nI 0) hx hb dX2_speak_68 (by decide) ?_
      refine o_put (v := .int (nI 0)) (bs' := [bO K h hw hq hs hf (fr + nxt gu (ls_.length - fr)) true gu (!tu), bM K hs as_ 41 ls_ gs_, bF K hf hm (cond gu 3 4) gd (!tu) (decide (fr = 0)) cr, bM K hm am 63 (slN ls_ fr (nxt gu (ls_.length - fr))) u_2, bD K hD h hi hb_ false hd, bF K hb_ hbm 1 bak bt_ bbe bcr]) C ho 4 0 rfl rfl rfl 3 fX2_48 pX2_3 rfl rfl (Nat.le_of_ble_eq_true rfl) dX2_speak_69 rfl (fun H locs ho => ?_)
      refine lv_aload_n hx hb dX2_speak_72 rfl (lv_at hl 1 rfl) ?_
      refine lv_iconst (v := nI 0) hx hb dX2_speak_73 (by decide) ?_
      refine o_put (v := .int (nI 0)) (bs' := [bO K h hw hq hs hf (fr + nxt gu (ls_.length - fr)) true gu (!tu), bM K hs as_ 41 ls_ gs_, bF K hf hm (cond gu 3 4) gd (!tu) (decide (fr = 0)) cr, bM K hm am 63 (slN ls_ fr (nxt gu (ls_.length - fr))) u_2, bD K hD h hi hb_ false false, bF K hb_ hbm 1 bak bt_ bbe bcr]) C ho 4 0 rfl rfl rfl 4 fX2_36 pX2_4 rfl rfl (Nat.le_of_ble_eq_true rfl) dX2_speak_74 rfl (fun H locs ho => ?_)
      refine lv_aload_n hx hb dX2_speak_77 rfl (lv_at hl 0 rfl) ?_
      exact o_aret hQ C (Or.inr ⟨_, rfl⟩) ho u_2 rfl rfl (Nat.le_of_ble_eq_true rfl) (Nat.le_of_ble_eq_true rfl) dX2_speak_78
    · skip
      refine lv_iconst (v := nI 1) hx hb dX2_speak_59 (by decide) ?_
      refine lv_goto (tgt := 64) hx hb dX2_speak_60 (by decide) ?_
      refine o_put (v := .int (nI 1)) (bs' := [bO K h hw hq hs hf (fr + nxt gu (ls_.length - fr)) true gu (!tu), bM K hs as_ 41 ls_ gs_, bF K hf hm (cond gu 3 4) true (!tu) (decide (fr = 0)) cr, bM K hm am 63 (slN ls_ fr (nxt gu (ls_.length - fr))) u_2, bD K hD h hi hb_ gd hd, bF K hb_ hbm 1 bak bt_ bbe bcr]) C ho 2 0 rfl rfl rfl 2 fX2_51 pX3_2 rfl rfl (Nat.le_of_ble_eq_true rfl) dX2_speak_64 rfl (fun H locs ho => ?_)
      have e_5 : bF K hf hm (cond gu 3 4) true (!tu) (decide (fr = 0)) cr = bF K hf hm (cond gu 3 4) gd (!tu) (decide (fr = 0)) cr := by rw [c_3]
      have ho : ow D vwCl A s.heap H locs [bO K h hw hq hs hf (fr + nxt gu (ls_.length - fr)) true gu (!tu), bM K hs as_ 41 ls_ gs_, bF K hf hm (cond gu 3 4) gd (!tu) (decide (fr = 0)) cr, bM K hm am 63 (slN ls_ fr (nxt gu (ls_.length - fr))) u_2, bD K hD h hi hb_ gd hd, bF K hb_ hbm 1 bak bt_ bbe bcr] := by rw [← e_5]; exact ho
      refine lv_aload_n hx hb dX2_speak_67 rfl (lv_at hl 1 rfl) ?_
      refine lv_iconst (v := nI 0) hx hb dX2_speak_68 (by decide) ?_
      refine o_put (v := .int (nI 0)) (bs' := [bO K h hw hq hs hf (fr + nxt gu (ls_.length - fr)) true gu (!tu), bM K hs as_ 41 ls_ gs_, bF K hf hm (cond gu 3 4) gd (!tu) (decide (fr = 0)) cr, bM K hm am 63 (slN ls_ fr (nxt gu (ls_.length - fr))) u_2, bD K hD h hi hb_ false hd, bF K hb_ hbm 1 bak bt_ bbe bcr]) C ho 4 0 rfl rfl rfl 3 fX2_48 pX2_3 rfl rfl (Nat.le_of_ble_eq_true rfl) dX2_speak_69 rfl (fun H locs ho => ?_)
      refine lv_aload_n hx hb dX2_speak_72 rfl (lv_at hl 1 rfl) ?_
      refine lv_iconst (v := nI 0) hx hb dX2_speak_73 (by decide) ?_
      refine o_put (v := .int (nI 0)) (bs' := [bO K h hw hq hs hf (fr + nxt gu (ls_.length - fr)) true gu (!tu), bM K hs as_ 41 ls_ gs_, bF K hf hm (cond gu 3 4) gd (!tu) (decide (fr = 0)) cr, bM K hm am 63 (slN ls_ fr (nxt gu (ls_.length - fr))) u_2, bD K hD h hi hb_ false false, bF K hb_ hbm 1 bak bt_ bbe bcr]) C ho 4 0 rfl rfl rfl 4 fX2_36 pX2_4 rfl rfl (Nat.le_of_ble_eq_true rfl) dX2_speak_74 rfl (fun H locs ho => ?_)
      refine lv_aload_n hx hb dX2_speak_77 rfl (lv_at hl 0 rfl) ?_
      exact o_aret hQ C (Or.inr ⟨_, rfl⟩) ho u_2 rfl rfl (Nat.le_of_ble_eq_true rfl) (Nat.le_of_ble_eq_true rfl) dX2_speak_78
  · skip
    exact absurd c_1 (by decide)

set_option maxHeartbeats 4000000 in
set_option maxRecDepth 100000 in
theorem c_Dev_speak1_3 (la : Launch) (D : va_G) (K : Nat → ClassId) (hD : Nat) (hi : Nat) (gd : Bool) (hd : Bool) (h : Nat) (hw : Nat) (hq : Nat) (hs : Nat) (hf : Nat) (fr : Nat) (gu : Bool) (tu : Bool) (q : Nat) (mh : Nat → Nat) (fi : Nat) (sz : Nat) (ma : Nat → Nat) (ml : Nat → List Nat) (mg : Nat → Nat → Int32) (as_ : Nat) (ls_ : List Nat) (gs_ : Nat → Int32) (hm : Nat) (kd : Nat) (ak : Bool) (ft : Bool) (be : Bool) (cr : Nat) (am : Nat) (lm : List Nat) (gm : Nat → Int32) (hb_ : Nat) (hbm : Nat) (bak : Bool) (bt_ : Bool) (bbe : Bool) (bcr : Nat) (q1 : fr = ls_.length) (q2 : ls_.length ≤ 41) (q3 : lm.length ≤ 63) (q0 : 0 < sz) (q6 : sz ≤ 6) (qf : fi < 6) (qm : (ml fi).length ≤ 40) : MT la D K yX2_speak cX2_speak 2 (some (.object "RadioPair$Frame")) (rmL 5 0 0) [.ref hD] [bO K h hw hq hs hf fr false gu tu, bH K hq q mh fi sz, bPool K mh ma 40 ml mg, bM K hs as_ 41 ls_ gs_, bF K hf hm kd ak ft be cr, bM K hm am 63 lm gm, bD K hD h hi hb_ gd hd, bF K hb_ hbm 1 bak bt_ bbe bcr] ((Nat → Int32) × (Nat → Int32)) (fun v _ => v = some (.ref hf)) (fun u => [bO K h hw hq hs hf (0 + nxt gu ((ml fi).length + 1)) true gu (!tu), bH K hq q mh ((fi + 1) % 6) (sz - 1), bPool K mh ma 40 ml mg, bM K hs as_ 41 ((ml fi).length :: ml fi) u.1, bF K hf hm (cond gu 3 4) gd (!tu) (decide (0 = 0)) cr, bM K hm am 63 (slN ((ml fi).length :: ml fi) 0 (nxt gu ((ml fi).length + 1))) u.2, bD K hD h hi hb_ false false, bF K hb_ hbm 1 bak bt_ bbe bcr]) := by
  refine Mt.ofW [(0, .ref hD)] (by decide) rfl (Nat.le_of_ble_eq_true rfl) ?_
  intro p e s m args below meth c A ls H locs Qz hQ C hin hl ho
  have hx := C.1.1
  have hb := C.1.2.1
  refine lv_aload_n hx hb dX2_speak_0 rfl (lv_at hl 0 rfl) ?_
  refine o_get (v := .ref hb_) C ho 6 0 rfl rfl rfl 2 fX2_28 rfl dX2_speak_1 ?_
  refine o_get (v := .int (nI 1)) C ho 7 0 rfl rfl rfl 1 fX2_32 rfl dX2_speak_4 ?_
  refine lv_iconst (v := nI 2) hx hb dX2_speak_7 (by decide) ?_
  refine o_icmp_ne (tgt := 20) hx hb dX2_speak_8 (by decide) (by first | omega | exact and1_lt _) (by first | omega | exact and1_lt _) (fun c_1 => ?_) (fun c_1 => ?_)
  · skip
    refine lv_aload_n hx hb dX2_speak_20 rfl (lv_at hl 0 rfl) ?_
    refine o_get (v := .ref h) C ho 6 0 rfl rfl rfl 0 fX2_12 rfl dX2_speak_21 ?_
    refine o_callV (wr := [bD K hD h hi hb_ gd hd, bF K hb_ hbm 1 bak bt_ bbe bcr]) (rest := []) (As := []) C (c_Out_loaded3 la D K h hw hq hs hf fr gu tu q mh fi sz ma ml mg as_ ls_ gs_ hm kd ak ft be cr am lm gm (by first | omega | assumption | (simp only [List.length_append, List.length_cons, List.length_nil, List.length_modify, List.length_set, nb_len, rb_len, rbp_len, sl_len, slN_len, wh_len, wt_len, hd10_len, hdB_len, thr_len, ldp_len, ldB_len, tens_len, whz_len, majL_len, mf_len, tkL_len, ldY_len, fif_len, ldY_len]; omega) | decide) (by first | omega | assumption | (simp only [List.length_append, List.length_cons, List.length_nil, List.length_modify, List.length_set, nb_len, rb_len, rbp_len, sl_len, slN_len, wh_len, wt_len, hd10_len, hdB_len, thr_len, ldp_len, ldB_len, tens_len, whz_len, majL_len, mf_len, tkL_len, ldY_len, fif_len, ldY_len]; omega) | decide) (by first | omega | assumption | (simp only [List.length_append, List.length_cons, List.length_nil, List.length_modify, List.length_set, nb_len, rb_len, rbp_len, sl_len, slN_len, wh_len, wt_len, hd10_len, hdB_len, thr_len, ldp_len, ldB_len, tens_len, whz_len, majL_len, mf_len, tkL_len, ldY_len, fif_len, ldY_len]; omega) | decide) (by first | omega | assumption | (simp only [List.length_append, List.length_cons, List.length_nil, List.length_modify, List.length_set, nb_len, rb_len, rbp_len, sl_len, slN_len, wh_len, wt_len, hd10_len, hdB_len, thr_len, ldp_len, ldB_len, tens_len, whz_len, majL_len, mf_len, tkL_len, ldY_len, fif_len, ldY_len]; omega) | decide) (by first | omega | assumption | (simp only [List.length_append, List.length_cons, List.length_nil, List.length_modify, List.length_set, nb_len, rb_len, rbp_len, sl_len, slN_len, wh_len, wt_len, hd10_len, hdB_len, thr_len, ldp_len, ldB_len, tens_len, whz_len, majL_len, mf_len, tkL_len, ldY_len, fif_len, ldY_len]; omega) | decide) (by first | omega | assumption | (simp only [List.length_append, List.length_cons, List.length_nil, List.length_modify, List.length_set, nb_len, rb_len, rbp_len, sl_len, slN_len, wh_len, wt_len, hd10_len, hdB_len, thr_len, ldp_len, ldB_len, tens_len, whz_len, majL_len, mf_len, tkL_len, ldY_len, fif_len, ldY_len]; omega) | decide) (by first | omega | assumption | (simp only [List.length_append, List.length_cons, List.length_nil, List.length_modify, List.length_set, nb_len, rb_len, rbp_len, sl_len, slN_len, wh_len, wt_len, hd10_len, hdB_len, thr_len, ldp_len, ldB_len, tens_len, whz_len, majL_len, mf_len, tkL_len, ldY_len, fif_len, ldY_len]; omega) | decide)) kX2_40 vX7_loaded (by decide) rfl ho [0, 1, 2, 3, 4, 5, 6, 7] 8 (by decide +kernel) rfl rfl rfl rfl rfl hl.1 rfl (Nat.le_of_ble_eq_true rfl) dX2_speak_24 0 0 rfl rfl (by decide) (fun v u_2 H locs hq ho => ?_)
    obtain rfl := hq
    have ho : ow D vwCl A s.heap H locs [bO K h hw hq hs hf (0 + nxt gu ((ml fi).length + 1)) true gu (!tu), bH K hq q mh ((fi + 1) % 6) (sz - 1), bPool K mh ma 40 ml mg, bM K hs as_ 41 ((ml fi).length :: ml fi) u_2.1, bF K hf hm (cond gu 3 4) ak (!tu) (decide (0 = 0)) cr, bM K hm am 63 (slN ((ml fi).length :: ml fi) 0 (nxt gu ((ml fi).length + 1))) u_2.2, bD K hD h hi hb_ gd hd, bF K hb_ hbm 1 bak bt_ bbe bcr] := ho
    refine W.eq (g2 := F0 m 27 ls [.ref hf]) rfl ?_
    refine lv_astore_n (lv' := [(1, .ref hf), (0, .ref hD)]) hx hb dX2_speak_27 rfl hl (by decide) rfl (fun ls hl => ?_)
    refine lv_aload_n hx hb dX2_speak_28 rfl (lv_at hl 0 rfl) ?_
    refine lv_ifnonnull (tgt := 51) hx hb dX2_speak_29 (by decide) ?_
    refine lv_aload_n hx hb dX2_speak_51 rfl (lv_at hl 0 rfl) ?_
    refine lv_aload_n hx hb dX2_speak_52 rfl (lv_at hl 1 rfl) ?_
    refine o_get (v := .int (bI gd)) C ho 6 0 rfl rfl rfl 3 fX2_48 rfl dX2_speak_53 ?_
    refine o_ifb_eq (tgt := 63) hx hb dX2_speak_56 (by decide) (fun c_3 => ?_) (fun c_3 => ?_)
    · skip
      refine lv_iconst (v := nI 0) hx hb dX2_speak_63 (by decide) ?_
      refine o_put (v := .int (nI 0)) (bs' := [bO K h hw hq hs hf (0 + nxt gu ((ml fi).length + 1)) true gu (!tu), bH K hq q mh ((fi + 1) % 6) (sz - 1), bPool K mh ma 40 ml mg, bM K hs as_ 41 ((ml fi).length :: ml fi) u_2.1, bF K hf hm (cond gu 3 4) false (!tu) (decide (0 = 0)) cr, bM K hm am 63 (slN ((ml fi).length :: ml fi) 0 (nxt gu ((ml fi).length + 1))) u_2.2, bD K hD h hi hb_ gd hd, bF K hb_ hbm 1 bak bt_ bbe bcr]) C ho 4 0 rfl rfl rfl 2 fX2_51 pX3_2 rfl rfl (Nat.le_of_ble_eq_true rfl) dX2_speak_64 rfl (fun H locs ho => ?_)
      have e_4 : bF K hf hm (cond gu 3 4) false (!tu) (decide (0 = 0)) cr = bF K hf hm (cond gu 3 4) gd (!tu) (decide (0 = 0)) cr := by rw [c_3]
      have ho : ow D vwCl A s.heap H locs [bO K h hw hq hs hf (0 + nxt gu ((ml fi).length + 1)) true gu (!tu), bH K hq q mh ((fi + 1) % 6) (sz - 1), bPool K mh ma 40 ml mg, bM K hs as_ 41 ((ml fi).length :: ml fi) u_2.1, bF K hf hm (cond gu 3 4) gd (!tu) (decide (0 = 0)) cr, bM K hm am 63 (slN ((ml fi).length :: ml fi) 0 (nxt gu ((ml fi).length + 1))) u_2.2, bD K hD h hi hb_ gd hd, bF K hb_ hbm 1 bak bt_ bbe bcr] := by rw [← e_4]; exact ho
      refine lv_aload_n hx hb dX2_speak_67 rfl (lv_at hl 1 rfl) ?_
      refine lv_iconst (v := nI 0) hx hb dX2_speak_68 (by decide) ?_
      refine o_put (v := .int (nI 0)) (bs' := [bO K h hw hq hs hf (0 + nxt gu ((ml fi).length + 1)) true gu (!tu), bH K hq q mh ((fi + 1) % 6) (sz - 1), bPool K mh ma 40 ml mg, bM K hs as_ 41 ((ml fi).length :: ml fi) u_2.1, bF K hf hm (cond gu 3 4) gd (!tu) (decide (0 = 0)) cr, bM K hm am 63 (slN ((ml fi).length :: ml fi) 0 (nxt gu ((ml fi).length + 1))) u_2.2, bD K hD h hi hb_ false hd, bF K hb_ hbm 1 bak bt_ bbe bcr]) C ho 6 0 rfl rfl rfl 3 fX2_48 pX2_3 rfl rfl (Nat.le_of_ble_eq_true rfl) dX2_speak_69 rfl (fun H locs ho => ?_)
      refine lv_aload_n hx hb dX2_speak_72 rfl (lv_at hl 1 rfl) ?_
      refine lv_iconst (v := nI 0) hx hb dX2_speak_73 (by decide) ?_
      refine o_put (v := .int (nI 0)) (bs' := [bO K h hw hq hs hf (0 + nxt gu ((ml fi).length + 1)) true gu (!tu), bH K hq q mh ((fi + 1) % 6) (sz - 1), bPool K mh ma 40 ml mg, bM K hs as_ 41 ((ml fi).length :: ml fi) u_2.1, bF K hf hm (cond gu 3 4) gd (!tu) (decide (0 = 0)) cr, bM K hm am 63 (slN ((ml fi).length :: ml fi) 0 (nxt gu ((ml fi).length + 1))) u_2.2, bD K hD h hi hb_ false false, bF K hb_ hbm 1 bak bt_ bbe bcr]) C ho 6 0 rfl rfl rfl 4 fX2_36 pX2_4 rfl rfl (Nat.le_of_ble_eq_true rfl) dX2_speak_74 rfl (fun H locs ho => ?_)
      refine lv_aload_n hx hb dX2_speak_77 rfl (lv_at hl 0 rfl) ?_
      exact o_aret hQ C (Or.inr ⟨_, rfl⟩) ho (u_2.1, u_2.2) rfl (by dsimp only [gs, List.getD_cons_zero, List.getD_cons_succ] <;> rfl) (Nat.le_of_ble_eq_true rfl) (Nat.le_of_ble_eq_true rfl) dX2_speak_78
    · skip
      refine lv_iconst (v := nI 1) hx hb dX2_speak_59 (by decide) ?_
      refine lv_goto (tgt := 64) hx hb dX2_speak_60 (by decide) ?_
      refine o_put (v := .int (nI 1)) (bs' := [bO K h hw hq hs hf (0 + nxt gu ((ml fi).length + 1)) true gu (!tu), bH K hq q mh ((fi + 1) % 6) (sz - 1), bPool K mh ma 40 ml mg, bM K hs as_ 41 ((ml fi).length :: ml fi) u_2.1, bF K hf hm (cond gu 3 4) true (!tu) (decide (0 = 0)) cr, bM K hm am 63 (slN ((ml fi).length :: ml fi) 0 (nxt gu ((ml fi).length + 1))) u_2.2, bD K hD h hi hb_ gd hd, bF K hb_ hbm 1 bak bt_ bbe bcr]) C ho 4 0 rfl rfl rfl 2 fX2_51 pX3_2 rfl rfl (Nat.le_of_ble_eq_true rfl) dX2_speak_64 rfl (fun H locs ho => ?_)
      have e_5 : bF K hf hm (cond gu 3 4) true (!tu) (decide (0 = 0)) cr = bF K hf hm (cond gu 3 4) gd (!tu) (decide (0 = 0)) cr := by rw [c_3]
      have ho : ow D vwCl A s.heap H locs [bO K h hw hq hs hf (0 + nxt gu ((ml fi).length + 1)) true gu (!tu), bH K hq q mh ((fi + 1) % 6) (sz - 1), bPool K mh ma 40 ml mg, bM K hs as_ 41 ((ml fi).length :: ml fi) u_2.1, bF K hf hm (cond gu 3 4) gd (!tu) (decide (0 = 0)) cr, bM K hm am 63 (slN ((ml fi).length :: ml fi) 0 (nxt gu ((ml fi).length + 1))) u_2.2, bD K hD h hi hb_ gd hd, bF K hb_ hbm 1 bak bt_ bbe bcr] := by rw [← e_5]; exact ho
      refine lv_aload_n hx hb dX2_speak_67 rfl (lv_at hl 1 rfl) ?_
      refine lv_iconst (v := nI 0) hx hb dX2_speak_68 (by decide) ?_
      refine o_put (v := .int (nI 0)) (bs' := [bO K h hw hq hs hf (0 + nxt gu ((ml fi).length + 1)) true gu (!tu), bH K hq q mh ((fi + 1) % 6) (sz - 1), bPool K mh ma 40 ml mg, bM K hs as_ 41 ((ml fi).length :: ml fi) u_2.1, bF K hf hm (cond gu 3 4) gd (!tu) (decide (0 = 0)) cr, bM K hm am 63 (slN ((ml fi).length :: ml fi) 0 (nxt gu ((ml fi).length + 1))) u_2.2, bD K hD h hi hb_ false hd, bF K hb_ hbm 1 bak bt_ bbe bcr]) C ho 6 0 rfl rfl rfl 3 fX2_48 pX2_3 rfl rfl (Nat.le_of_ble_eq_true rfl) dX2_speak_69 rfl (fun H locs ho => ?_)
      refine lv_aload_n hx hb dX2_speak_72 rfl (lv_at hl 1 rfl) ?_
      refine lv_iconst (v := nI 0) hx hb dX2_speak_73 (by decide) ?_
      refine o_put (v := .int (nI 0)) (bs' := [bO K h hw hq hs hf (0 + nxt gu ((ml fi).length + 1)) true gu (!tu), bH K hq q mh ((fi + 1) % 6) (sz - 1), bPool K mh ma 40 ml mg, bM K hs as_ 41 ((ml fi).length :: ml fi) u_2.1, bF K hf hm (cond gu 3 4) gd (!tu) (decide (0 = 0)) cr, bM K hm am 63 (slN ((ml fi).length :: ml fi) 0 (nxt gu ((ml fi).length + 1))) u_2.2, bD K hD h hi hb_ false false, bF K hb_ hbm 1 bak bt_ bbe bcr]) C ho 6 0 rfl rfl rfl 4 fX2_36 pX2_4 rfl rfl (Nat.le_of_ble_eq_true rfl) dX2_speak_74 rfl (fun H locs ho => ?_)
      refine lv_aload_n hx hb dX2_speak_77 rfl (lv_at hl 0 rfl) ?_
      exact o_aret hQ C (Or.inr ⟨_, rfl⟩) ho (u_2.1, u_2.2) rfl (by dsimp only [gs, List.getD_cons_zero, List.getD_cons_succ] <;> rfl) (Nat.le_of_ble_eq_true rfl) (Nat.le_of_ble_eq_true rfl) dX2_speak_78
  · skip
    exact absurd c_1 (by decide)

set_option maxHeartbeats 4000000 in
set_option maxRecDepth 100000 in
theorem c_Dev_speak1_4 (la : Launch) (D : va_G) (K : Nat → ClassId) (hD : Nat) (hi : Nat) (gd : Bool) (hd : Bool) (h : Nat) (hw : Nat) (hq : Nat) (hs : Nat) (hf : Nat) (fr : Nat) (gu : Bool) (tu : Bool) (q : Nat) (mh : Nat → Nat) (fi : Nat) (sz : Nat) (as_ : Nat) (ls_ : List Nat) (gs_ : Nat → Int32) (hb_ : Nat) (hbm : Nat) (bak : Bool) (bt_ : Bool) (bbe : Bool) (bcr : Nat) (q1 : fr = ls_.length) (q2 : ls_.length ≤ 41) (q0 : sz = 0) : MT la D K yX2_speak cX2_speak 2 (some (.object "RadioPair$Frame")) (rmL 4 0 0) [.ref hD] [bO K h hw hq hs hf fr false gu tu, bH K hq q mh fi sz, bM K hs as_ 41 ls_ gs_, bD K hD h hi hb_ gd hd, bF K hb_ hbm 1 bak bt_ bbe bcr] Unit (fun v _ => v = some (.ref hb_)) (fun _ => [bO K h hw hq hs hf fr false gu tu, bH K hq q mh fi sz, bM K hs as_ 41 ls_ gs_, bD K hD h hi hb_ false false, bF K hb_ hbm 1 gd tu bbe bcr]) := by
  refine Mt.ofW [(0, .ref hD)] (by decide) rfl (Nat.le_of_ble_eq_true rfl) ?_
  intro p e s m args below meth c A ls H locs Qz hQ C hin hl ho
  have hx := C.1.1
  have hb := C.1.2.1
  refine lv_aload_n hx hb dX2_speak_0 rfl (lv_at hl 0 rfl) ?_
  refine o_get (v := .ref hb_) C ho 3 0 rfl rfl rfl 2 fX2_28 rfl dX2_speak_1 ?_
  refine o_get (v := .int (nI 1)) C ho 4 0 rfl rfl rfl 1 fX2_32 rfl dX2_speak_4 ?_
  refine lv_iconst (v := nI 2) hx hb dX2_speak_7 (by decide) ?_
  refine o_icmp_ne (tgt := 20) hx hb dX2_speak_8 (by decide) (by first | omega | exact and1_lt _) (by first | omega | exact and1_lt _) (fun c_1 => ?_) (fun c_1 => ?_)
  · skip
    refine lv_aload_n hx hb dX2_speak_20 rfl (lv_at hl 0 rfl) ?_
    refine o_get (v := .ref h) C ho 3 0 rfl rfl rfl 0 fX2_12 rfl dX2_speak_21 ?_
    refine o_callV (wr := [bD K hD h hi hb_ gd hd, bF K hb_ hbm 1 bak bt_ bbe bcr]) (rest := []) (As := []) C (c_Out_loaded4 la D K h hw hq hs hf fr gu tu q mh fi sz as_ ls_ gs_ (by first | omega | assumption | (simp only [List.length_append, List.length_cons, List.length_nil, List.length_modify, List.length_set, nb_len, rb_len, rbp_len, sl_len, slN_len, wh_len, wt_len, hd10_len, hdB_len, thr_len, ldp_len, ldB_len, tens_len, whz_len, majL_len, mf_len, tkL_len, ldY_len, fif_len, ldY_len]; omega) | decide) (by first | omega | assumption | (simp only [List.length_append, List.length_cons, List.length_nil, List.length_modify, List.length_set, nb_len, rb_len, rbp_len, sl_len, slN_len, wh_len, wt_len, hd10_len, hdB_len, thr_len, ldp_len, ldB_len, tens_len, whz_len, majL_len, mf_len, tkL_len, ldY_len, fif_len, ldY_len]; omega) | decide) (by first | omega | assumption | (simp only [List.length_append, List.length_cons, List.length_nil, List.length_modify, List.length_set, nb_len, rb_len, rbp_len, sl_len, slN_len, wh_len, wt_len, hd10_len, hdB_len, thr_len, ldp_len, ldB_len, tens_len, whz_len, majL_len, mf_len, tkL_len, ldY_len, fif_len, ldY_len]; omega) | decide)) kX2_40 vX7_loaded (by decide) rfl ho [0, 1, 2, 3, 4] 5 (by decide +kernel) rfl rfl rfl rfl rfl hl.1 rfl (Nat.le_of_ble_eq_true rfl) dX2_speak_24 0 0 rfl rfl (by decide) (fun v u_2 H locs hq ho => ?_)
    obtain rfl := hq
    have ho : ow D vwCl A s.heap H locs [bO K h hw hq hs hf fr false gu tu, bH K hq q mh fi sz, bM K hs as_ 41 ls_ gs_, bD K hD h hi hb_ gd hd, bF K hb_ hbm 1 bak bt_ bbe bcr] := ho
    refine W.eq (g2 := F0 m 27 ls [.null]) rfl ?_
    refine lv_astore_nN (lv' := [(1, .null), (0, .ref hD)]) hx hb dX2_speak_27 rfl hl (by decide) rfl (fun ls hl => ?_)
    refine lv_aload_nN hx hb dX2_speak_28 rfl (lv_at hl 0 rfl) ?_
    refine lv_ifnonnullN hx hb dX2_speak_29 ?_
    refine lv_aload_n hx hb dX2_speak_32 rfl (lv_at hl 1 rfl) ?_
    refine o_get (v := .ref hb_) C ho 3 0 rfl rfl rfl 2 fX2_28 rfl dX2_speak_33 ?_
    refine lv_aload_n hx hb dX2_speak_36 rfl (lv_at hl 1 rfl) ?_
    refine o_get (v := .ref h) C ho 3 0 rfl rfl rfl 0 fX2_12 rfl dX2_speak_37 ?_
    refine o_get (v := .int (bI tu)) C ho 0 0 rfl rfl rfl 7 fX2_44 rfl dX2_speak_40 ?_
    refine o_put (v := .int (bI tu)) (bs' := [bO K h hw hq hs hf fr false gu tu, bH K hq q mh fi sz, bM K hs as_ 41 ls_ gs_, bD K hD h hi hb_ gd hd, bF K hb_ hbm 1 bak tu bbe bcr]) C ho 4 0 rfl rfl rfl 3 fX2_47 pX3_3 rfl rfl (Nat.le_of_ble_eq_true rfl) dX2_speak_43 rfl (fun H locs ho => ?_)
    refine lv_aload_n hx hb dX2_speak_46 rfl (lv_at hl 1 rfl) ?_
    refine o_get (v := .ref hb_) C ho 3 0 rfl rfl rfl 2 fX2_28 rfl dX2_speak_47 ?_
    refine lv_astore_n (lv' := [(1, .ref hb_), (0, .ref hD)]) hx hb dX2_speak_50 rfl hl (by decide) rfl (fun ls hl => ?_)
    refine lv_aload_n hx hb dX2_speak_51 rfl (lv_at hl 0 rfl) ?_
    refine lv_aload_n hx hb dX2_speak_52 rfl (lv_at hl 1 rfl) ?_
    refine o_get (v := .int (bI gd)) C ho 3 0 rfl rfl rfl 3 fX2_48 rfl dX2_speak_53 ?_
    refine o_ifb_eq (tgt := 63) hx hb dX2_speak_56 (by decide) (fun c_3 => ?_) (fun c_3 => ?_)
    · skip
      refine lv_iconst (v := nI 0) hx hb dX2_speak_63 (by decide) ?_
      refine o_put (v := .int (nI 0)) (bs' := [bO K h hw hq hs hf fr false gu tu, bH K hq q mh fi sz, bM K hs as_ 41 ls_ gs_, bD K hD h hi hb_ gd hd, bF K hb_ hbm 1 false tu bbe bcr]) C ho 4 0 rfl rfl rfl 2 fX2_51 pX3_2 rfl rfl (Nat.le_of_ble_eq_true rfl) dX2_speak_64 rfl (fun H locs ho => ?_)
      have e_4 : bF K hb_ hbm 1 false tu bbe bcr = bF K hb_ hbm 1 gd tu bbe bcr := by rw [c_3]
      have ho : ow D vwCl A s.heap H locs [bO K h hw hq hs hf fr false gu tu, bH K hq q mh fi sz, bM K hs as_ 41 ls_ gs_, bD K hD h hi hb_ gd hd, bF K hb_ hbm 1 gd tu bbe bcr] := by rw [← e_4]; exact ho
      refine lv_aload_n hx hb dX2_speak_67 rfl (lv_at hl 1 rfl) ?_
      refine lv_iconst (v := nI 0) hx hb dX2_speak_68 (by decide) ?_
      refine o_put (v := .int (nI 0)) (bs' := [bO K h hw hq hs hf fr false gu tu, bH K hq q mh fi sz, bM K hs as_ 41 ls_ gs_, bD K hD h hi hb_ false hd, bF K hb_ hbm 1 gd tu bbe bcr]) C ho 3 0 rfl rfl rfl 3 fX2_48 pX2_3 rfl rfl (Nat.le_of_ble_eq_true rfl) dX2_speak_69 rfl (fun H locs ho => ?_)
      refine lv_aload_n hx hb dX2_speak_72 rfl (lv_at hl 1 rfl) ?_
      refine lv_iconst (v := nI 0) hx hb dX2_speak_73 (by decide) ?_
      refine o_put (v := .int (nI 0)) (bs' := [bO K h hw hq hs hf fr false gu tu, bH K hq q mh fi sz, bM K hs as_ 41 ls_ gs_, bD K hD h hi hb_ false false, bF K hb_ hbm 1 gd tu bbe bcr]) C ho 3 0 rfl rfl rfl 4 fX2_36 pX2_4 rfl rfl (Nat.le_of_ble_eq_true rfl) dX2_speak_74 rfl (fun H locs ho => ?_)
      refine lv_aload_n hx hb dX2_speak_77 rfl (lv_at hl 0 rfl) ?_
      exact o_aret hQ C (Or.inr ⟨_, rfl⟩) ho () rfl rfl (Nat.le_of_ble_eq_true rfl) (Nat.le_of_ble_eq_true rfl) dX2_speak_78
    · skip
      refine lv_iconst (v := nI 1) hx hb dX2_speak_59 (by decide) ?_
      refine lv_goto (tgt := 64) hx hb dX2_speak_60 (by decide) ?_
      refine o_put (v := .int (nI 1)) (bs' := [bO K h hw hq hs hf fr false gu tu, bH K hq q mh fi sz, bM K hs as_ 41 ls_ gs_, bD K hD h hi hb_ gd hd, bF K hb_ hbm 1 true tu bbe bcr]) C ho 4 0 rfl rfl rfl 2 fX2_51 pX3_2 rfl rfl (Nat.le_of_ble_eq_true rfl) dX2_speak_64 rfl (fun H locs ho => ?_)
      have e_5 : bF K hb_ hbm 1 true tu bbe bcr = bF K hb_ hbm 1 gd tu bbe bcr := by rw [c_3]
      have ho : ow D vwCl A s.heap H locs [bO K h hw hq hs hf fr false gu tu, bH K hq q mh fi sz, bM K hs as_ 41 ls_ gs_, bD K hD h hi hb_ gd hd, bF K hb_ hbm 1 gd tu bbe bcr] := by rw [← e_5]; exact ho
      refine lv_aload_n hx hb dX2_speak_67 rfl (lv_at hl 1 rfl) ?_
      refine lv_iconst (v := nI 0) hx hb dX2_speak_68 (by decide) ?_
      refine o_put (v := .int (nI 0)) (bs' := [bO K h hw hq hs hf fr false gu tu, bH K hq q mh fi sz, bM K hs as_ 41 ls_ gs_, bD K hD h hi hb_ false hd, bF K hb_ hbm 1 gd tu bbe bcr]) C ho 3 0 rfl rfl rfl 3 fX2_48 pX2_3 rfl rfl (Nat.le_of_ble_eq_true rfl) dX2_speak_69 rfl (fun H locs ho => ?_)
      refine lv_aload_n hx hb dX2_speak_72 rfl (lv_at hl 1 rfl) ?_
      refine lv_iconst (v := nI 0) hx hb dX2_speak_73 (by decide) ?_
      refine o_put (v := .int (nI 0)) (bs' := [bO K h hw hq hs hf fr false gu tu, bH K hq q mh fi sz, bM K hs as_ 41 ls_ gs_, bD K hD h hi hb_ false false, bF K hb_ hbm 1 gd tu bbe bcr]) C ho 3 0 rfl rfl rfl 4 fX2_36 pX2_4 rfl rfl (Nat.le_of_ble_eq_true rfl) dX2_speak_74 rfl (fun H locs ho => ?_)
      refine lv_aload_n hx hb dX2_speak_77 rfl (lv_at hl 0 rfl) ?_
      exact o_aret hQ C (Or.inr ⟨_, rfl⟩) ho () rfl rfl (Nat.le_of_ble_eq_true rfl) (Nat.le_of_ble_eq_true rfl) dX2_speak_78
  · skip
    exact absurd c_1 (by decide)

set_option maxHeartbeats 4000000 in
set_option maxRecDepth 100000 in
theorem c_Dev_speak2_1 (la : Launch) (D : va_G) (K : Nat → ClassId) (hD : Nat) (hi : Nat) (gd : Bool) (h : Nat) (hw : Nat) (hq : Nat) (hs : Nat) (hf : Nat) (fr : Nat) (gu : Bool) (tu : Bool) (hm : Nat) (kd : Nat) (ak : Bool) (ft : Bool) (be : Bool) (cr : Nat) (hb_ : Nat) (hbm : Nat) (bak : Bool) (bt_ : Bool) (bbe : Bool) (bcr : Nat)  : MT la D K yX2_speak cX2_speak 2 (some (.object "RadioPair$Frame")) (rmL 2 0 0) [.ref hD] [bO K h hw hq hs hf fr true gu tu, bF K hf hm kd ak ft be cr, bD K hD h hi hb_ gd true, bF K hb_ hbm 2 bak bt_ bbe bcr] Unit (fun v _ => v = some (.ref hf)) (fun _ => [bO K h hw hq hs hf fr true gu tu, bF K hf hm kd gd ft be cr, bD K hD h hi hb_ false false, bF K hb_ hbm 2 bak bt_ bbe bcr]) := by
  refine Mt.ofW [(0, .ref hD)] (by decide) rfl (Nat.le_of_ble_eq_true rfl) ?_
  intro p e s m args below meth c A ls H locs Qz hQ C hin hl ho
  have hx := C.1.1
  have hb := C.1.2.1
  refine lv_aload_n hx hb dX2_speak_0 rfl (lv_at hl 0 rfl) ?_
  refine o_get (v := .ref hb_) C ho 2 0 rfl rfl rfl 2 fX2_28 rfl dX2_speak_1 ?_
  refine o_get (v := .int (nI 2)) C ho 3 0 rfl rfl rfl 1 fX2_32 rfl dX2_speak_4 ?_
  refine lv_iconst (v := nI 2) hx hb dX2_speak_7 (by decide) ?_
  refine o_icmp_ne (tgt := 20) hx hb dX2_speak_8 (by decide) (by first | omega | exact and1_lt _) (by first | omega | exact and1_lt _) (fun c_1 => ?_) (fun c_1 => ?_)
  · skip
    exact absurd rfl c_1
  · skip
    refine lv_aload_n hx hb dX2_speak_11 rfl (lv_at hl 0 rfl) ?_
    refine o_get (v := .int (bI true)) C ho 2 0 rfl rfl rfl 4 fX2_36 rfl dX2_speak_12 ?_
    refine o_ifb_ne (tgt := 20) hx hb dX2_speak_15 (by decide) (fun _ => ?_) (fun c9 => absurd c9 (by decide))
    refine lv_aload_n hx hb dX2_speak_20 rfl (lv_at hl 0 rfl) ?_
    refine o_get (v := .ref h) C ho 2 0 rfl rfl rfl 0 fX2_12 rfl dX2_speak_21 ?_
    refine o_callV (wr := [bF K hf hm kd ak ft be cr, bD K hD h hi hb_ gd true, bF K hb_ hbm 2 bak bt_ bbe bcr]) (rest := []) (As := []) C (c_Out_loaded1 la D K h hw hq hs hf fr gu tu ) kX2_40 vX7_loaded (by decide) rfl ho [0, 1, 2, 3] 4 (by decide +kernel) rfl rfl rfl rfl rfl hl.1 rfl (Nat.le_of_ble_eq_true rfl) dX2_speak_24 0 0 rfl rfl (by decide) (fun v u_2 H locs hq ho => ?_)
    obtain rfl := hq
    have ho : ow D vwCl A s.heap H locs [bO K h hw hq hs hf fr true gu tu, bF K hf hm kd ak ft be cr, bD K hD h hi hb_ gd true, bF K hb_ hbm 2 bak bt_ bbe bcr] := ho
    refine W.eq (g2 := F0 m 27 ls [.ref hf]) rfl ?_
    refine lv_astore_n (lv' := [(1, .ref hf), (0, .ref hD)]) hx hb dX2_speak_27 rfl hl (by decide) rfl (fun ls hl => ?_)
    refine lv_aload_n hx hb dX2_speak_28 rfl (lv_at hl 0 rfl) ?_
    refine lv_ifnonnull (tgt := 51) hx hb dX2_speak_29 (by decide) ?_
    refine lv_aload_n hx hb dX2_speak_51 rfl (lv_at hl 0 rfl) ?_
    refine lv_aload_n hx hb dX2_speak_52 rfl (lv_at hl 1 rfl) ?_
    refine o_get (v := .int (bI gd)) C ho 2 0 rfl rfl rfl 3 fX2_48 rfl dX2_speak_53 ?_
    refine o_ifb_eq (tgt := 63) hx hb dX2_speak_56 (by decide) (fun c_3 => ?_) (fun c_3 => ?_)
    · skip
      refine lv_iconst (v := nI 0) hx hb dX2_speak_63 (by decide) ?_
      refine o_put (v := .int (nI 0)) (bs' := [bO K h hw hq hs hf fr true gu tu, bF K hf hm kd false ft be cr, bD K hD h hi hb_ gd true, bF K hb_ hbm 2 bak bt_ bbe bcr]) C ho 1 0 rfl rfl rfl 2 fX2_51 pX3_2 rfl rfl (Nat.le_of_ble_eq_true rfl) dX2_speak_64 rfl (fun H locs ho => ?_)
      have e_4 : bF K hf hm kd false ft be cr = bF K hf hm kd gd ft be cr := by rw [c_3]
      have ho : ow D vwCl A s.heap H locs [bO K h hw hq hs hf fr true gu tu, bF K hf hm kd gd ft be cr, bD K hD h hi hb_ gd true, bF K hb_ hbm 2 bak bt_ bbe bcr] := by rw [← e_4]; exact ho
      refine lv_aload_n hx hb dX2_speak_67 rfl (lv_at hl 1 rfl) ?_
      refine lv_iconst (v := nI 0) hx hb dX2_speak_68 (by decide) ?_
      refine o_put (v := .int (nI 0)) (bs' := [bO K h hw hq hs hf fr true gu tu, bF K hf hm kd gd ft be cr, bD K hD h hi hb_ false true, bF K hb_ hbm 2 bak bt_ bbe bcr]) C ho 2 0 rfl rfl rfl 3 fX2_48 pX2_3 rfl rfl (Nat.le_of_ble_eq_true rfl) dX2_speak_69 rfl (fun H locs ho => ?_)
      refine lv_aload_n hx hb dX2_speak_72 rfl (lv_at hl 1 rfl) ?_
      refine lv_iconst (v := nI 0) hx hb dX2_speak_73 (by decide) ?_
      refine o_put (v := .int (nI 0)) (bs' := [bO K h hw hq hs hf fr true gu tu, bF K hf hm kd gd ft be cr, bD K hD h hi hb_ false false, bF K hb_ hbm 2 bak bt_ bbe bcr]) C ho 2 0 rfl rfl rfl 4 fX2_36 pX2_4 rfl rfl (Nat.le_of_ble_eq_true rfl) dX2_speak_74 rfl (fun H locs ho => ?_)
      refine lv_aload_n hx hb dX2_speak_77 rfl (lv_at hl 0 rfl) ?_
      exact o_aret hQ C (Or.inr ⟨_, rfl⟩) ho () rfl rfl (Nat.le_of_ble_eq_true rfl) (Nat.le_of_ble_eq_true rfl) dX2_speak_78
    · skip
      refine lv_iconst (v := nI 1) hx hb dX2_speak_59 (by decide) ?_
      refine lv_goto (tgt := 64) hx hb dX2_speak_60 (by decide) ?_
      refine o_put (v := .int (nI 1)) (bs' := [bO K h hw hq hs hf fr true gu tu, bF K hf hm kd true ft be cr, bD K hD h hi hb_ gd true, bF K hb_ hbm 2 bak bt_ bbe bcr]) C ho 1 0 rfl rfl rfl 2 fX2_51 pX3_2 rfl rfl (Nat.le_of_ble_eq_true rfl) dX2_speak_64 rfl (fun H locs ho => ?_)
      have e_5 : bF K hf hm kd true ft be cr = bF K hf hm kd gd ft be cr := by rw [c_3]
      have ho : ow D vwCl A s.heap H locs [bO K h hw hq hs hf fr true gu tu, bF K hf hm kd gd ft be cr, bD K hD h hi hb_ gd true, bF K hb_ hbm 2 bak bt_ bbe bcr] := by rw [← e_5]; exact ho
      refine lv_aload_n hx hb dX2_speak_67 rfl (lv_at hl 1 rfl) ?_
      refine lv_iconst (v := nI 0) hx hb dX2_speak_68 (by decide) ?_
      refine o_put (v := .int (nI 0)) (bs' := [bO K h hw hq hs hf fr true gu tu, bF K hf hm kd gd ft be cr, bD K hD h hi hb_ false true, bF K hb_ hbm 2 bak bt_ bbe bcr]) C ho 2 0 rfl rfl rfl 3 fX2_48 pX2_3 rfl rfl (Nat.le_of_ble_eq_true rfl) dX2_speak_69 rfl (fun H locs ho => ?_)
      refine lv_aload_n hx hb dX2_speak_72 rfl (lv_at hl 1 rfl) ?_
      refine lv_iconst (v := nI 0) hx hb dX2_speak_73 (by decide) ?_
      refine o_put (v := .int (nI 0)) (bs' := [bO K h hw hq hs hf fr true gu tu, bF K hf hm kd gd ft be cr, bD K hD h hi hb_ false false, bF K hb_ hbm 2 bak bt_ bbe bcr]) C ho 2 0 rfl rfl rfl 4 fX2_36 pX2_4 rfl rfl (Nat.le_of_ble_eq_true rfl) dX2_speak_74 rfl (fun H locs ho => ?_)
      refine lv_aload_n hx hb dX2_speak_77 rfl (lv_at hl 0 rfl) ?_
      exact o_aret hQ C (Or.inr ⟨_, rfl⟩) ho () rfl rfl (Nat.le_of_ble_eq_true rfl) (Nat.le_of_ble_eq_true rfl) dX2_speak_78

set_option maxHeartbeats 4000000 in
set_option maxRecDepth 100000 in
theorem c_Dev_speak2_2 (la : Launch) (D : va_G) (K : Nat → ClassId) (hD : Nat) (hi : Nat) (gd : Bool) (h : Nat) (hw : Nat) (hq : Nat) (hs : Nat) (hf : Nat) (fr : Nat) (gu : Bool) (tu : Bool) (as_ : Nat) (ls_ : List Nat) (gs_ : Nat → Int32) (hm : Nat) (kd : Nat) (ak : Bool) (ft : Bool) (be : Bool) (cr : Nat) (am : Nat) (lm : List Nat) (gm : Nat → Int32) (hb_ : Nat) (hbm : Nat) (bak : Bool) (bt_ : Bool) (bbe : Bool) (bcr : Nat) (q1 : fr < ls_.length) (q2 : ls_.length ≤ 41) (q3 : lm.length ≤ 63) : MT la D K yX2_speak cX2_speak 2 (some (.object "RadioPair$Frame")) (rmL 5 0 0) [.ref hD] [bO K h hw hq hs hf fr false gu tu, bM K hs as_ 41 ls_ gs_, bF K hf hm kd ak ft be cr, bM K hm am 63 lm gm, bD K hD h hi hb_ gd true, bF K hb_ hbm 2 bak bt_ bbe bcr] (Nat → Int32) (fun v _ => v = some (.ref hf)) (fun u => [bO K h hw hq hs hf (fr + nxt gu (ls_.length - fr)) true gu (!tu), bM K hs as_ 41 ls_ gs_, bF K hf hm (cond gu 3 4) gd (!tu) (decide (fr = 0)) cr, bM K hm am 63 (slN ls_ fr (nxt gu (ls_.length - fr))) u, bD K hD h hi hb_ false false, bF K hb_ hbm 2 bak bt_ bbe bcr]) := by
  refine Mt.ofW [(0, .ref hD)] (by decide) rfl (Nat.le_of_ble_eq_true rfl) ?_
  intro p e s m args below meth c A ls H locs Qz hQ C hin hl ho
  have hx := C.1.1
  have hb := C.1.2.1
  refine lv_aload_n hx hb dX2_speak_0 rfl (lv_at hl 0 rfl) ?_
  refine o_get (v := .ref hb_) C ho 4 0 rfl rfl rfl 2 fX2_28 rfl dX2_speak_1 ?_
  refine o_get (v := .int (nI 2)) C ho 5 0 rfl rfl rfl 1 fX2_32 rfl dX2_speak_4 ?_
  refine lv_iconst (v := nI 2) hx hb dX2_speak_7 (by decide) ?_
  refine o_icmp_ne (tgt := 20) hx hb dX2_speak_8 (by decide) (by first | omega | exact and1_lt _) (by first | omega | exact and1_lt _) (fun c_1 => ?_) (fun c_1 => ?_)
  · skip
    exact absurd rfl c_1
  · skip
    refine lv_aload_n hx hb dX2_speak_11 rfl (lv_at hl 0 rfl) ?_
    refine o_get (v := .int (bI true)) C ho 4 0 rfl rfl rfl 4 fX2_36 rfl dX2_speak_12 ?_
    refine o_ifb_ne (tgt := 20) hx hb dX2_speak_15 (by decide) (fun _ => ?_) (fun c9 => absurd c9 (by decide))
    refine lv_aload_n hx hb dX2_speak_20 rfl (lv_at hl 0 rfl) ?_
    refine o_get (v := .ref h) C ho 4 0 rfl rfl rfl 0 fX2_12 rfl dX2_speak_21 ?_
    refine o_callV (wr := [bD K hD h hi hb_ gd true, bF K hb_ hbm 2 bak bt_ bbe bcr]) (rest := []) (As := []) C (c_Out_loaded2 la D K h hw hq hs hf fr gu tu as_ ls_ gs_ hm kd ak ft be cr am lm gm (by first | omega | assumption | (simp only [List.length_append, List.length_cons, List.length_nil, List.length_modify, List.length_set, nb_len, rb_len, rbp_len, sl_len, slN_len, wh_len, wt_len, hd10_len, hdB_len, thr_len, ldp_len, ldB_len, tens_len, whz_len, majL_len, mf_len, tkL_len, ldY_len, fif_len, ldY_len]; omega) | decide) (by first | omega | assumption | (simp only [List.length_append, List.length_cons, List.length_nil, List.length_modify, List.length_set, nb_len, rb_len, rbp_len, sl_len, slN_len, wh_len, wt_len, hd10_len, hdB_len, thr_len, ldp_len, ldB_len, tens_len, whz_len, majL_len, mf_len, tkL_len, ldY_len, fif_len, ldY_len]; omega) | decide) (by first | omega | assumption | (simp only [List.length_append, List.length_cons, List.length_nil, List.length_modify, List.length_set, nb_len, rb_len, rbp_len, sl_len, slN_len, wh_len, wt_len, hd10_len, hdB_len, thr_len, ldp_len, ldB_len, tens_len, whz_len, majL_len, mf_len, tkL_len, ldY_len, fif_len, ldY_len]; omega) | decide)) kX2_40 vX7_loaded (by decide) rfl ho [0, 1, 2, 3, 4, 5] 6 (by decide +kernel) rfl rfl rfl rfl rfl hl.1 rfl (Nat.le_of_ble_eq_true rfl) dX2_speak_24 0 0 rfl rfl (by decide) (fun v u_2 H locs hq ho => ?_)
    obtain rfl := hq
    have ho : ow D vwCl A s.heap H locs [bO K h hw hq hs hf (fr + nxt gu (ls_.length - fr)) true gu (!tu), bM K hs as_ 41 ls_ gs_, bF K hf hm (cond gu 3 4) ak (!tu) (decide (fr = 0)) cr, bM K hm am 63 (slN ls_ fr (nxt gu (ls_.length - fr))) u_2, bD K hD h hi hb_ gd true, bF K hb_ hbm 2 bak bt_ bbe bcr] := ho
    refine W.eq (g2 := F0 m 27 ls [.ref hf]) rfl ?_
    refine lv_astore_n (lv' := [(1, .ref hf), (0, .ref hD)]) hx hb dX2_speak_27 rfl hl (by decide) rfl (fun ls hl => ?_)
    refine lv_aload_n hx hb dX2_speak_28 rfl (lv_at hl 0 rfl) ?_
    refine lv_ifnonnull (tgt := 51) hx hb dX2_speak_29 (by decide) ?_
    refine lv_aload_n hx hb dX2_speak_51 rfl (lv_at hl 0 rfl) ?_
    refine lv_aload_n hx hb dX2_speak_52 rfl (lv_at hl 1 rfl) ?_
    refine o_get (v := .int (bI gd)) C ho 4 0 rfl rfl rfl 3 fX2_48 rfl dX2_speak_53 ?_
    refine o_ifb_eq (tgt := 63) hx hb dX2_speak_56 (by decide) (fun c_3 => ?_) (fun c_3 => ?_)
    · skip
      refine lv_iconst (v := nI 0) hx hb dX2_speak_63 (by decide) ?_
      refine o_put (v := .int (nI 0)) (bs' := [bO K h hw hq hs hf (fr + nxt gu (ls_.length - fr)) true gu (!tu), bM K hs as_ 41 ls_ gs_, bF K hf hm (cond gu 3 4) false (!tu) (decide (fr = 0)) cr, bM K hm am 63 (slN ls_ fr (nxt gu (ls_.length - fr))) u_2, bD K hD h hi hb_ gd true, bF K hb_ hbm 2 bak bt_ bbe bcr]) C ho 2 0 rfl rfl rfl 2 fX2_51 pX3_2 rfl rfl (Nat.le_of_ble_eq_true rfl) dX2_speak_64 rfl (fun H locs ho => ?_)
      have e_4 : bF K hf hm (cond gu 3 4) false (!tu) (decide (fr = 0)) cr = bF K hf hm (cond gu 3 4) gd (!tu) (decide (fr = 0)) cr := by rw [c_3]
      have ho : ow D vwCl A s.heap H locs [bO K h hw hq hs hf (fr + nxt gu (ls_.length - fr)) true gu (!tu), bM K hs as_ 41 ls_ gs_, bF K hf hm (cond gu 3 4) gd (!tu) (decide (fr = 0)) cr, bM K hm am 63 (slN ls_ fr (nxt gu (ls_.length - fr))) u_2, bD K hD h hi hb_ gd true, bF K hb_ hbm 2 bak bt_ bbe bcr] := by rw [← e_4]; exact ho
      refine lv_aload_n hx hb dX2_speak_67 rfl (lv_at hl 1 rfl) ?_
      refine lv_iconst (v := nI 0) hx hb dX2_speak_68 (by decide) ?_
      refine o_put (v := .int (nI 0)) (bs' := [bO K h hw hq hs hf (fr + nxt gu (ls_.length - fr)) true gu (!tu), bM K hs as_ 41 ls_ gs_, bF K hf hm (cond gu 3 4) gd (!tu) (decide (fr = 0)) cr, bM K hm am 63 (slN ls_ fr (nxt gu (ls_.length - fr))) u_2, bD K hD h hi hb_ false true, bF K hb_ hbm 2 bak bt_ bbe bcr]) C ho 4 0 rfl rfl rfl 3 fX2_48 pX2_3 rfl rfl (Nat.le_of_ble_eq_true rfl) dX2_speak_69 rfl (fun H locs ho => ?_)
      refine lv_aload_n hx hb dX2_speak_72 rfl (lv_at hl 1 rfl) ?_
      refine lv_iconst (v := nI 0) hx hb dX2_speak_73 (by decide) ?_
      refine o_put (v := .int (nI 0)) (bs' := [bO K h hw hq hs hf (fr + nxt gu (ls_.length - fr)) true gu (!tu), bM K hs as_ 41 ls_ gs_, bF K hf hm (cond gu 3 4) gd (!tu) (decide (fr = 0)) cr, bM K hm am 63 (slN ls_ fr (nxt gu (ls_.length - fr))) u_2, bD K hD h hi hb_ false false, bF K hb_ hbm 2 bak bt_ bbe bcr]) C ho 4 0 rfl rfl rfl 4 fX2_36 pX2_4 rfl rfl (Nat.le_of_ble_eq_true rfl) dX2_speak_74 rfl (fun H locs ho => ?_)
      refine lv_aload_n hx hb dX2_speak_77 rfl (lv_at hl 0 rfl) ?_
      exact o_aret hQ C (Or.inr ⟨_, rfl⟩) ho u_2 rfl rfl (Nat.le_of_ble_eq_true rfl) (Nat.le_of_ble_eq_true rfl) dX2_speak_78
    · skip
      refine lv_iconst (v := nI 1) hx hb dX2_speak_59 (by decide) ?_
      refine lv_goto (tgt := 64) hx hb dX2_speak_60 (by decide) ?_
      refine o_put (v := .int (nI 1)) (bs' := [bO K h hw hq hs hf (fr + nxt gu (ls_.length - fr)) true gu (!tu), bM K hs as_ 41 ls_ gs_, bF K hf hm (cond gu 3 4) true (!tu) (decide (fr = 0)) cr, bM K hm am 63 (slN ls_ fr (nxt gu (ls_.length - fr))) u_2, bD K hD h hi hb_ gd true, bF K hb_ hbm 2 bak bt_ bbe bcr]) C ho 2 0 rfl rfl rfl 2 fX2_51 pX3_2 rfl rfl (Nat.le_of_ble_eq_true rfl) dX2_speak_64 rfl (fun H locs ho => ?_)
      have e_5 : bF K hf hm (cond gu 3 4) true (!tu) (decide (fr = 0)) cr = bF K hf hm (cond gu 3 4) gd (!tu) (decide (fr = 0)) cr := by rw [c_3]
      have ho : ow D vwCl A s.heap H locs [bO K h hw hq hs hf (fr + nxt gu (ls_.length - fr)) true gu (!tu), bM K hs as_ 41 ls_ gs_, bF K hf hm (cond gu 3 4) gd (!tu) (decide (fr = 0)) cr, bM K hm am 63 (slN ls_ fr (nxt gu (ls_.length - fr))) u_2, bD K hD h hi hb_ gd true, bF K hb_ hbm 2 bak bt_ bbe bcr] := by rw [← e_5]; exact ho
      refine lv_aload_n hx hb dX2_speak_67 rfl (lv_at hl 1 rfl) ?_
      refine lv_iconst (v := nI 0) hx hb dX2_speak_68 (by decide) ?_
      refine o_put (v := .int (nI 0)) (bs' := [bO K h hw hq hs hf (fr + nxt gu (ls_.length - fr)) true gu (!tu), bM K hs as_ 41 ls_ gs_, bF K hf hm (cond gu 3 4) gd (!tu) (decide (fr = 0)) cr, bM K hm am 63 (slN ls_ fr (nxt gu (ls_.length - fr))) u_2, bD K hD h hi hb_ false true, bF K hb_ hbm 2 bak bt_ bbe bcr]) C ho 4 0 rfl rfl rfl 3 fX2_48 pX2_3 rfl rfl (Nat.le_of_ble_eq_true rfl) dX2_speak_69 rfl (fun H locs ho => ?_)
      refine lv_aload_n hx hb dX2_speak_72 rfl (lv_at hl 1 rfl) ?_
      refine lv_iconst (v := nI 0) hx hb dX2_speak_73 (by decide) ?_
      refine o_put (v := .int (nI 0)) (bs' := [bO K h hw hq hs hf (fr + nxt gu (ls_.length - fr)) true gu (!tu), bM K hs as_ 41 ls_ gs_, bF K hf hm (cond gu 3 4) gd (!tu) (decide (fr = 0)) cr, bM K hm am 63 (slN ls_ fr (nxt gu (ls_.length - fr))) u_2, bD K hD h hi hb_ false false, bF K hb_ hbm 2 bak bt_ bbe bcr]) C ho 4 0 rfl rfl rfl 4 fX2_36 pX2_4 rfl rfl (Nat.le_of_ble_eq_true rfl) dX2_speak_74 rfl (fun H locs ho => ?_)
      refine lv_aload_n hx hb dX2_speak_77 rfl (lv_at hl 0 rfl) ?_
      exact o_aret hQ C (Or.inr ⟨_, rfl⟩) ho u_2 rfl rfl (Nat.le_of_ble_eq_true rfl) (Nat.le_of_ble_eq_true rfl) dX2_speak_78

set_option maxHeartbeats 4000000 in
set_option maxRecDepth 100000 in
theorem c_Dev_speak2_3 (la : Launch) (D : va_G) (K : Nat → ClassId) (hD : Nat) (hi : Nat) (gd : Bool) (h : Nat) (hw : Nat) (hq : Nat) (hs : Nat) (hf : Nat) (fr : Nat) (gu : Bool) (tu : Bool) (q : Nat) (mh : Nat → Nat) (fi : Nat) (sz : Nat) (ma : Nat → Nat) (ml : Nat → List Nat) (mg : Nat → Nat → Int32) (as_ : Nat) (ls_ : List Nat) (gs_ : Nat → Int32) (hm : Nat) (kd : Nat) (ak : Bool) (ft : Bool) (be : Bool) (cr : Nat) (am : Nat) (lm : List Nat) (gm : Nat → Int32) (hb_ : Nat) (hbm : Nat) (bak : Bool) (bt_ : Bool) (bbe : Bool) (bcr : Nat) (q1 : fr = ls_.length) (q2 : ls_.length ≤ 41) (q3 : lm.length ≤ 63) (q0 : 0 < sz) (q6 : sz ≤ 6) (qf : fi < 6) (qm : (ml fi).length ≤ 40) : MT la D K yX2_speak cX2_speak 2 (some (.object "RadioPair$Frame")) (rmL 5 0 0) [.ref hD] [bO K h hw hq hs hf fr false gu tu, bH K hq q mh fi sz, bPool K mh ma 40 ml mg, bM K hs as_ 41 ls_ gs_, bF K hf hm kd ak ft be cr, bM K hm am 63 lm gm, bD K hD h hi hb_ gd true, bF K hb_ hbm 2 bak bt_ bbe bcr] ((Nat → Int32) × (Nat → Int32)) (fun v _ => v = some (.ref hf)) (fun u => [bO K h hw hq hs hf (0 + nxt gu ((ml fi).length + 1)) true gu (!tu), bH K hq q mh ((fi + 1) % 6) (sz - 1), bPool K mh ma 40 ml mg, bM K hs as_ 41 ((ml fi).length :: ml fi) u.1, bF K hf hm (cond gu 3 4) gd (!tu) (decide (0 = 0)) cr, bM K hm am 63 (slN ((ml fi).length :: ml fi) 0 (nxt gu ((ml fi).length + 1))) u.2, bD K hD h hi hb_ false false, bF K hb_ hbm 2 bak bt_ bbe bcr]) := by
  refine Mt.ofW [(0, .ref hD)] (by decide) rfl (Nat.le_of_ble_eq_true rfl) ?_
  intro p e s m args below meth c A ls H locs Qz hQ C hin hl ho
  have hx := C.1.1
  have hb := C.1.2.1
  refine lv_aload_n hx hb dX2_speak_0 rfl (lv_at hl 0 rfl) ?_
  refine o_get (v := .ref hb_) C ho 6 0 rfl rfl rfl 2 fX2_28 rfl dX2_speak_1 ?_
  refine o_get (v := .int (nI 2)) C ho 7 0 rfl rfl rfl 1 fX2_32 rfl dX2_speak_4 ?_
  refine lv_iconst (v := nI 2) hx hb dX2_speak_7 (by decide) ?_
  refine o_icmp_ne (tgt := 20) hx hb dX2_speak_8 (by decide) (by first | omega | exact and1_lt _) (by first | omega | exact and1_lt _) (fun c_1 => ?_) (fun c_1 => ?_)
  · skip
    exact absurd rfl c_1
  · skip
    refine lv_aload_n hx hb dX2_speak_11 rfl (lv_at hl 0 rfl) ?_
    refine o_get (v := .int (bI true)) C ho 6 0 rfl rfl rfl 4 fX2_36 rfl dX2_speak_12 ?_
    refine o_ifb_ne (tgt := 20) hx hb dX2_speak_15 (by decide) (fun _ => ?_) (fun c9 => absurd c9 (by decide))
    refine lv_aload_n hx hb dX2_speak_20 rfl (lv_at hl 0 rfl) ?_
    refine o_get (v := .ref h) C ho 6 0 rfl rfl rfl 0 fX2_12 rfl dX2_speak_21 ?_
    refine o_callV (wr := [bD K hD h hi hb_ gd true, bF K hb_ hbm 2 bak bt_ bbe bcr]) (rest := []) (As := []) C (c_Out_loaded3 la D K h hw hq hs hf fr gu tu q mh fi sz ma ml mg as_ ls_ gs_ hm kd ak ft be cr am lm gm (by first | omega | assumption | (simp only [List.length_append, List.length_cons, List.length_nil, List.length_modify, List.length_set, nb_len, rb_len, rbp_len, sl_len, slN_len, wh_len, wt_len, hd10_len, hdB_len, thr_len, ldp_len, ldB_len, tens_len, whz_len, majL_len, mf_len, tkL_len, ldY_len, fif_len, ldY_len]; omega) | decide) (by first | omega | assumption | (simp only [List.length_append, List.length_cons, List.length_nil, List.length_modify, List.length_set, nb_len, rb_len, rbp_len, sl_len, slN_len, wh_len, wt_len, hd10_len, hdB_len, thr_len, ldp_len, ldB_len, tens_len, whz_len, majL_len, mf_len, tkL_len, ldY_len, fif_len, ldY_len]; omega) | decide) (by first | omega | assumption | (simp only [List.length_append, List.length_cons, List.length_nil, List.length_modify, List.length_set, nb_len, rb_len, rbp_len, sl_len, slN_len, wh_len, wt_len, hd10_len, hdB_len, thr_len, ldp_len, ldB_len, tens_len, whz_len, majL_len, mf_len, tkL_len, ldY_len, fif_len, ldY_len]; omega) | decide) (by first | omega | assumption | (simp only [List.length_append, List.length_cons, List.length_nil, List.length_modify, List.length_set, nb_len, rb_len, rbp_len, sl_len, slN_len, wh_len, wt_len, hd10_len, hdB_len, thr_len, ldp_len, ldB_len, tens_len, whz_len, majL_len, mf_len, tkL_len, ldY_len, fif_len, ldY_len]; omega) | decide) (by first | omega | assumption | (simp only [List.length_append, List.length_cons, List.length_nil, List.length_modify, List.length_set, nb_len, rb_len, rbp_len, sl_len, slN_len, wh_len, wt_len, hd10_len, hdB_len, thr_len, ldp_len, ldB_len, tens_len, whz_len, majL_len, mf_len, tkL_len, ldY_len, fif_len, ldY_len]; omega) | decide) (by first | omega | assumption | (simp only [List.length_append, List.length_cons, List.length_nil, List.length_modify, List.length_set, nb_len, rb_len, rbp_len, sl_len, slN_len, wh_len, wt_len, hd10_len, hdB_len, thr_len, ldp_len, ldB_len, tens_len, whz_len, majL_len, mf_len, tkL_len, ldY_len, fif_len, ldY_len]; omega) | decide) (by first | omega | assumption | (simp only [List.length_append, List.length_cons, List.length_nil, List.length_modify, List.length_set, nb_len, rb_len, rbp_len, sl_len, slN_len, wh_len, wt_len, hd10_len, hdB_len, thr_len, ldp_len, ldB_len, tens_len, whz_len, majL_len, mf_len, tkL_len, ldY_len, fif_len, ldY_len]; omega) | decide)) kX2_40 vX7_loaded (by decide) rfl ho [0, 1, 2, 3, 4, 5, 6, 7] 8 (by decide +kernel) rfl rfl rfl rfl rfl hl.1 rfl (Nat.le_of_ble_eq_true rfl) dX2_speak_24 0 0 rfl rfl (by decide) (fun v u_2 H locs hq ho => ?_)
    obtain rfl := hq
    have ho : ow D vwCl A s.heap H locs [bO K h hw hq hs hf (0 + nxt gu ((ml fi).length + 1)) true gu (!tu), bH K hq q mh ((fi + 1) % 6) (sz - 1), bPool K mh ma 40 ml mg, bM K hs as_ 41 ((ml fi).length :: ml fi) u_2.1, bF K hf hm (cond gu 3 4) ak (!tu) (decide (0 = 0)) cr, bM K hm am 63 (slN ((ml fi).length :: ml fi) 0 (nxt gu ((ml fi).length + 1))) u_2.2, bD K hD h hi hb_ gd true, bF K hb_ hbm 2 bak bt_ bbe bcr] := ho
    refine W.eq (g2 := F0 m 27 ls [.ref hf]) rfl ?_
    refine lv_astore_n (lv' := [(1, .ref hf), (0, .ref hD)]) hx hb dX2_speak_27 rfl hl (by decide) rfl (fun ls hl => ?_)
    refine lv_aload_n hx hb dX2_speak_28 rfl (lv_at hl 0 rfl) ?_
    refine lv_ifnonnull (tgt := 51) hx hb dX2_speak_29 (by decide) ?_
    refine lv_aload_n hx hb dX2_speak_51 rfl (lv_at hl 0 rfl) ?_
    refine lv_aload_n hx hb dX2_speak_52 rfl (lv_at hl 1 rfl) ?_
    refine o_get (v := .int (bI gd)) C ho 6 0 rfl rfl rfl 3 fX2_48 rfl dX2_speak_53 ?_
    refine o_ifb_eq (tgt := 63) hx hb dX2_speak_56 (by decide) (fun c_3 => ?_) (fun c_3 => ?_)
    · skip
      refine lv_iconst (v := nI 0) hx hb dX2_speak_63 (by decide) ?_
      refine o_put (v := .int (nI 0)) (bs' := [bO K h hw hq hs hf (0 + nxt gu ((ml fi).length + 1)) true gu (!tu), bH K hq q mh ((fi + 1) % 6) (sz - 1), bPool K mh ma 40 ml mg, bM K hs as_ 41 ((ml fi).length :: ml fi) u_2.1, bF K hf hm (cond gu 3 4) false (!tu) (decide (0 = 0)) cr, bM K hm am 63 (slN ((ml fi).length :: ml fi) 0 (nxt gu ((ml fi).length + 1))) u_2.2, bD K hD h hi hb_ gd true, bF K hb_ hbm 2 bak bt_ bbe bcr]) C ho 4 0 rfl rfl rfl 2 fX2_51 pX3_2 rfl rfl (Nat.le_of_ble_eq_true rfl) dX2_speak_64 rfl (fun H locs ho => ?_)
      have e_4 : bF K hf hm (cond gu 3 4) false (!tu) (decide (0 = 0)) cr = bF K hf hm (cond gu 3 4) gd (!tu) (decide (0 = 0)) cr := by rw [c_3]
      have ho : ow D vwCl A s.heap H locs [bO K h hw hq hs hf (0 + nxt gu ((ml fi).length + 1)) true gu (!tu), bH K hq q mh ((fi + 1) % 6) (sz - 1), bPool K mh ma 40 ml mg, bM K hs as_ 41 ((ml fi).length :: ml fi) u_2.1, bF K hf hm (cond gu 3 4) gd (!tu) (decide (0 = 0)) cr, bM K hm am 63 (slN ((ml fi).length :: ml fi) 0 (nxt gu ((ml fi).length + 1))) u_2.2, bD K hD h hi hb_ gd true, bF K hb_ hbm 2 bak bt_ bbe bcr] := by rw [← e_4]; exact ho
      refine lv_aload_n hx hb dX2_speak_67 rfl (lv_at hl 1 rfl) ?_
      refine lv_iconst (v := nI 0) hx hb dX2_speak_68 (by decide) ?_
      refine o_put (v := .int (nI 0)) (bs' := [bO K h hw hq hs hf (0 + nxt gu ((ml fi).length + 1)) true gu (!tu), bH K hq q mh ((fi + 1) % 6) (sz - 1), bPool K mh ma 40 ml mg, bM K hs as_ 41 ((ml fi).length :: ml fi) u_2.1, bF K hf hm (cond gu 3 4) gd (!tu) (decide (0 = 0)) cr, bM K hm am 63 (slN ((ml fi).length :: ml fi) 0 (nxt gu ((ml fi).length + 1))) u_2.2, bD K hD h hi hb_ false true, bF K hb_ hbm 2 bak bt_ bbe bcr]) C ho 6 0 rfl rfl rfl 3 fX2_48 pX2_3 rfl rfl (Nat.le_of_ble_eq_true rfl) dX2_speak_69 rfl (fun H locs ho => ?_)
      refine lv_aload_n hx hb dX2_speak_72 rfl (lv_at hl 1 rfl) ?_
      refine lv_iconst (v := nI 0) hx hb dX2_speak_73 (by decide) ?_
      refine o_put (v := .int (nI 0)) (bs' := [bO K h hw hq hs hf (0 + nxt gu ((ml fi).length + 1)) true gu (!tu), bH K hq q mh ((fi + 1) % 6) (sz - 1), bPool K mh ma 40 ml mg, bM K hs as_ 41 ((ml fi).length :: ml fi) u_2.1, bF K hf hm (cond gu 3 4) gd (!tu) (decide (0 = 0)) cr, bM K hm am 63 (slN ((ml fi).length :: ml fi) 0 (nxt gu ((ml fi).length + 1))) u_2.2, bD K hD h hi hb_ false false, bF K hb_ hbm 2 bak bt_ bbe bcr]) C ho 6 0 rfl rfl rfl 4 fX2_36 pX2_4 rfl rfl (Nat.le_of_ble_eq_true rfl) dX2_speak_74 rfl (fun H locs ho => ?_)
      refine lv_aload_n hx hb dX2_speak_77 rfl (lv_at hl 0 rfl) ?_
      exact o_aret hQ C (Or.inr ⟨_, rfl⟩) ho (u_2.1, u_2.2) rfl (by dsimp only [gs, List.getD_cons_zero, List.getD_cons_succ] <;> rfl) (Nat.le_of_ble_eq_true rfl) (Nat.le_of_ble_eq_true rfl) dX2_speak_78
    · skip
      refine lv_iconst (v := nI 1) hx hb dX2_speak_59 (by decide) ?_
      refine lv_goto (tgt := 64) hx hb dX2_speak_60 (by decide) ?_
      refine o_put (v := .int (nI 1)) (bs' := [bO K h hw hq hs hf (0 + nxt gu ((ml fi).length + 1)) true gu (!tu), bH K hq q mh ((fi + 1) % 6) (sz - 1), bPool K mh ma 40 ml mg, bM K hs as_ 41 ((ml fi).length :: ml fi) u_2.1, bF K hf hm (cond gu 3 4) true (!tu) (decide (0 = 0)) cr, bM K hm am 63 (slN ((ml fi).length :: ml fi) 0 (nxt gu ((ml fi).length + 1))) u_2.2, bD K hD h hi hb_ gd true, bF K hb_ hbm 2 bak bt_ bbe bcr]) C ho 4 0 rfl rfl rfl 2 fX2_51 pX3_2 rfl rfl (Nat.le_of_ble_eq_true rfl) dX2_speak_64 rfl (fun H locs ho => ?_)
      have e_5 : bF K hf hm (cond gu 3 4) true (!tu) (decide (0 = 0)) cr = bF K hf hm (cond gu 3 4) gd (!tu) (decide (0 = 0)) cr := by rw [c_3]
      have ho : ow D vwCl A s.heap H locs [bO K h hw hq hs hf (0 + nxt gu ((ml fi).length + 1)) true gu (!tu), bH K hq q mh ((fi + 1) % 6) (sz - 1), bPool K mh ma 40 ml mg, bM K hs as_ 41 ((ml fi).length :: ml fi) u_2.1, bF K hf hm (cond gu 3 4) gd (!tu) (decide (0 = 0)) cr, bM K hm am 63 (slN ((ml fi).length :: ml fi) 0 (nxt gu ((ml fi).length + 1))) u_2.2, bD K hD h hi hb_ gd true, bF K hb_ hbm 2 bak bt_ bbe bcr] := by rw [← e_5]; exact ho
      refine lv_aload_n hx hb dX2_speak_67 rfl (lv_at hl 1 rfl) ?_
      refine lv_iconst (v := nI 0) hx hb dX2_speak_68 (by decide) ?_
      refine o_put (v := .int (nI 0)) (bs' := [bO K h hw hq hs hf (0 + nxt gu ((ml fi).length + 1)) true gu (!tu), bH K hq q mh ((fi + 1) % 6) (sz - 1), bPool K mh ma 40 ml mg, bM K hs as_ 41 ((ml fi).length :: ml fi) u_2.1, bF K hf hm (cond gu 3 4) gd (!tu) (decide (0 = 0)) cr, bM K hm am 63 (slN ((ml fi).length :: ml fi) 0 (nxt gu ((ml fi).length + 1))) u_2.2, bD K hD h hi hb_ false true, bF K hb_ hbm 2 bak bt_ bbe bcr]) C ho 6 0 rfl rfl rfl 3 fX2_48 pX2_3 rfl rfl (Nat.le_of_ble_eq_true rfl) dX2_speak_69 rfl (fun H locs ho => ?_)
      refine lv_aload_n hx hb dX2_speak_72 rfl (lv_at hl 1 rfl) ?_
      refine lv_iconst (v := nI 0) hx hb dX2_speak_73 (by decide) ?_
      refine o_put (v := .int (nI 0)) (bs' := [bO K h hw hq hs hf (0 + nxt gu ((ml fi).length + 1)) true gu (!tu), bH K hq q mh ((fi + 1) % 6) (sz - 1), bPool K mh ma 40 ml mg, bM K hs as_ 41 ((ml fi).length :: ml fi) u_2.1, bF K hf hm (cond gu 3 4) gd (!tu) (decide (0 = 0)) cr, bM K hm am 63 (slN ((ml fi).length :: ml fi) 0 (nxt gu ((ml fi).length + 1))) u_2.2, bD K hD h hi hb_ false false, bF K hb_ hbm 2 bak bt_ bbe bcr]) C ho 6 0 rfl rfl rfl 4 fX2_36 pX2_4 rfl rfl (Nat.le_of_ble_eq_true rfl) dX2_speak_74 rfl (fun H locs ho => ?_)
      refine lv_aload_n hx hb dX2_speak_77 rfl (lv_at hl 0 rfl) ?_
      exact o_aret hQ C (Or.inr ⟨_, rfl⟩) ho (u_2.1, u_2.2) rfl (by dsimp only [gs, List.getD_cons_zero, List.getD_cons_succ] <;> rfl) (Nat.le_of_ble_eq_true rfl) (Nat.le_of_ble_eq_true rfl) dX2_speak_78

set_option maxHeartbeats 4000000 in
set_option maxRecDepth 100000 in
theorem c_Dev_speak2_4 (la : Launch) (D : va_G) (K : Nat → ClassId) (hD : Nat) (hi : Nat) (gd : Bool) (h : Nat) (hw : Nat) (hq : Nat) (hs : Nat) (hf : Nat) (fr : Nat) (gu : Bool) (tu : Bool) (q : Nat) (mh : Nat → Nat) (fi : Nat) (sz : Nat) (as_ : Nat) (ls_ : List Nat) (gs_ : Nat → Int32) (hb_ : Nat) (hbm : Nat) (bak : Bool) (bt_ : Bool) (bbe : Bool) (bcr : Nat) (q1 : fr = ls_.length) (q2 : ls_.length ≤ 41) (q0 : sz = 0) : MT la D K yX2_speak cX2_speak 2 (some (.object "RadioPair$Frame")) (rmL 4 0 0) [.ref hD] [bO K h hw hq hs hf fr false gu tu, bH K hq q mh fi sz, bM K hs as_ 41 ls_ gs_, bD K hD h hi hb_ gd true, bF K hb_ hbm 2 bak bt_ bbe bcr] Unit (fun v _ => v = some (.ref hb_)) (fun _ => [bO K h hw hq hs hf fr false gu tu, bH K hq q mh fi sz, bM K hs as_ 41 ls_ gs_, bD K hD h hi hb_ false false, bF K hb_ hbm 2 gd tu bbe bcr]) := by
  refine Mt.ofW [(0, .ref hD)] (by decide) rfl (Nat.le_of_ble_eq_true rfl) ?_
  intro p e s m args below meth c A ls H locs Qz hQ C hin hl ho
  have hx := C.1.1
  have hb := C.1.2.1
  refine lv_aload_n hx hb dX2_speak_0 rfl (lv_at hl 0 rfl) ?_
  refine o_get (v := .ref hb_) C ho 3 0 rfl rfl rfl 2 fX2_28 rfl dX2_speak_1 ?_
  refine o_get (v := .int (nI 2)) C ho 4 0 rfl rfl rfl 1 fX2_32 rfl dX2_speak_4 ?_
  refine lv_iconst (v := nI 2) hx hb dX2_speak_7 (by decide) ?_
  refine o_icmp_ne (tgt := 20) hx hb dX2_speak_8 (by decide) (by first | omega | exact and1_lt _) (by first | omega | exact and1_lt _) (fun c_1 => ?_) (fun c_1 => ?_)
  · skip
    exact absurd rfl c_1
  · skip
    refine lv_aload_n hx hb dX2_speak_11 rfl (lv_at hl 0 rfl) ?_
    refine o_get (v := .int (bI true)) C ho 3 0 rfl rfl rfl 4 fX2_36 rfl dX2_speak_12 ?_
    refine o_ifb_ne (tgt := 20) hx hb dX2_speak_15 (by decide) (fun _ => ?_) (fun c9 => absurd c9 (by decide))
    refine lv_aload_n hx hb dX2_speak_20 rfl (lv_at hl 0 rfl) ?_
    refine o_get (v := .ref h) C ho 3 0 rfl rfl rfl 0 fX2_12 rfl dX2_speak_21 ?_
    refine o_callV (wr := [bD K hD h hi hb_ gd true, bF K hb_ hbm 2 bak bt_ bbe bcr]) (rest := []) (As := []) C (c_Out_loaded4 la D K h hw hq hs hf fr gu tu q mh fi sz as_ ls_ gs_ (by first | omega | assumption | (simp only [List.length_append, List.length_cons, List.length_nil, List.length_modify, List.length_set, nb_len, rb_len, rbp_len, sl_len, slN_len, wh_len, wt_len, hd10_len, hdB_len, thr_len, ldp_len, ldB_len, tens_len, whz_len, majL_len, mf_len, tkL_len, ldY_len, fif_len, ldY_len]; omega) | decide) (by first | omega | assumption | (simp only [List.length_append, List.length_cons, List.length_nil, List.length_modify, List.length_set, nb_len, rb_len, rbp_len, sl_len, slN_len, wh_len, wt_len, hd10_len, hdB_len, thr_len, ldp_len, ldB_len, tens_len, whz_len, majL_len, mf_len, tkL_len, ldY_len, fif_len, ldY_len]; omega) | decide) (by first | omega | assumption | (simp only [List.length_append, List.length_cons, List.length_nil, List.length_modify, List.length_set, nb_len, rb_len, rbp_len, sl_len, slN_len, wh_len, wt_len, hd10_len, hdB_len, thr_len, ldp_len, ldB_len, tens_len, whz_len, majL_len, mf_len, tkL_len, ldY_len, fif_len, ldY_len]; omega) | decide)) kX2_40 vX7_loaded (by decide) rfl ho [0, 1, 2, 3, 4] 5 (by decide +kernel) rfl rfl rfl rfl rfl hl.1 rfl (Nat.le_of_ble_eq_true rfl) dX2_speak_24 0 0 rfl rfl (by decide) (fun v u_2 H locs hq ho => ?_)
    obtain rfl := hq
    have ho : ow D vwCl A s.heap H locs [bO K h hw hq hs hf fr false gu tu, bH K hq q mh fi sz, bM K hs as_ 41 ls_ gs_, bD K hD h hi hb_ gd true, bF K hb_ hbm 2 bak bt_ bbe bcr] := ho
    refine W.eq (g2 := F0 m 27 ls [.null]) rfl ?_
    refine lv_astore_nN (lv' := [(1, .null), (0, .ref hD)]) hx hb dX2_speak_27 rfl hl (by decide) rfl (fun ls hl => ?_)
    refine lv_aload_nN hx hb dX2_speak_28 rfl (lv_at hl 0 rfl) ?_
    refine lv_ifnonnullN hx hb dX2_speak_29 ?_
    refine lv_aload_n hx hb dX2_speak_32 rfl (lv_at hl 1 rfl) ?_
    refine o_get (v := .ref hb_) C ho 3 0 rfl rfl rfl 2 fX2_28 rfl dX2_speak_33 ?_
    refine lv_aload_n hx hb dX2_speak_36 rfl (lv_at hl 1 rfl) ?_
    refine o_get (v := .ref h) C ho 3 0 rfl rfl rfl 0 fX2_12 rfl dX2_speak_37 ?_
    refine o_get (v := .int (bI tu)) C ho 0 0 rfl rfl rfl 7 fX2_44 rfl dX2_speak_40 ?_
    refine o_put (v := .int (bI tu)) (bs' := [bO K h hw hq hs hf fr false gu tu, bH K hq q mh fi sz, bM K hs as_ 41 ls_ gs_, bD K hD h hi hb_ gd true, bF K hb_ hbm 2 bak tu bbe bcr]) C ho 4 0 rfl rfl rfl 3 fX2_47 pX3_3 rfl rfl (Nat.le_of_ble_eq_true rfl) dX2_speak_43 rfl (fun H locs ho => ?_)
    refine lv_aload_n hx hb dX2_speak_46 rfl (lv_at hl 1 rfl) ?_
    refine o_get (v := .ref hb_) C ho 3 0 rfl rfl rfl 2 fX2_28 rfl dX2_speak_47 ?_
    refine lv_astore_n (lv' := [(1, .ref hb_), (0, .ref hD)]) hx hb dX2_speak_50 rfl hl (by decide) rfl (fun ls hl => ?_)
    refine lv_aload_n hx hb dX2_speak_51 rfl (lv_at hl 0 rfl) ?_
    refine lv_aload_n hx hb dX2_speak_52 rfl (lv_at hl 1 rfl) ?_
    refine o_get (v := .int (bI gd)) C ho 3 0 rfl rfl rfl 3 fX2_48 rfl dX2_speak_53 ?_
    refine o_ifb_eq (tgt := 63) hx hb dX2_speak_56 (by decide) (fun c_3 => ?_) (fun c_3 => ?_)
    · skip
      refine lv_iconst (v := nI 0) hx hb dX2_speak_63 (by decide) ?_
      refine o_put (v := .int (nI 0)) (bs' := [bO K h hw hq hs hf fr false gu tu, bH K hq q mh fi sz, bM K hs as_ 41 ls_ gs_, bD K hD h hi hb_ gd true, bF K hb_ hbm 2 false tu bbe bcr]) C ho 4 0 rfl rfl rfl 2 fX2_51 pX3_2 rfl rfl (Nat.le_of_ble_eq_true rfl) dX2_speak_64 rfl (fun H locs ho => ?_)
      have e_4 : bF K hb_ hbm 2 false tu bbe bcr = bF K hb_ hbm 2 gd tu bbe bcr := by rw [c_3]
      have ho : ow D vwCl A s.heap H locs [bO K h hw hq hs hf fr false gu tu, bH K hq q mh fi sz, bM K hs as_ 41 ls_ gs_, bD K hD h hi hb_ gd true, bF K hb_ hbm 2 gd tu bbe bcr] := by rw [← e_4]; exact ho
      refine lv_aload_n hx hb dX2_speak_67 rfl (lv_at hl 1 rfl) ?_
      refine lv_iconst (v := nI 0) hx hb dX2_speak_68 (by decide) ?_
      refine o_put (v := .int (nI 0)) (bs' := [bO K h hw hq hs hf fr false gu tu, bH K hq q mh fi sz, bM K hs as_ 41 ls_ gs_, bD K hD h hi hb_ false true, bF K hb_ hbm 2 gd tu bbe bcr]) C ho 3 0 rfl rfl rfl 3 fX2_48 pX2_3 rfl rfl (Nat.le_of_ble_eq_true rfl) dX2_speak_69 rfl (fun H locs ho => ?_)
      refine lv_aload_n hx hb dX2_speak_72 rfl (lv_at hl 1 rfl) ?_
      refine lv_iconst (v := nI 0) hx hb dX2_speak_73 (by decide) ?_
      refine o_put (v := .int (nI 0)) (bs' := [bO K h hw hq hs hf fr false gu tu, bH K hq q mh fi sz, bM K hs as_ 41 ls_ gs_, bD K hD h hi hb_ false false, bF K hb_ hbm 2 gd tu bbe bcr]) C ho 3 0 rfl rfl rfl 4 fX2_36 pX2_4 rfl rfl (Nat.le_of_ble_eq_true rfl) dX2_speak_74 rfl (fun H locs ho => ?_)
      refine lv_aload_n hx hb dX2_speak_77 rfl (lv_at hl 0 rfl) ?_
      exact o_aret hQ C (Or.inr ⟨_, rfl⟩) ho () rfl rfl (Nat.le_of_ble_eq_true rfl) (Nat.le_of_ble_eq_true rfl) dX2_speak_78
    · skip
      refine lv_iconst (v := nI 1) hx hb dX2_speak_59 (by decide) ?_
      refine lv_goto (tgt := 64) hx hb dX2_speak_60 (by decide) ?_
      refine o_put (v := .int (nI 1)) (bs' := [bO K h hw hq hs hf fr false gu tu, bH K hq q mh fi sz, bM K hs as_ 41 ls_ gs_, bD K hD h hi hb_ gd true, bF K hb_ hbm 2 true tu bbe bcr]) C ho 4 0 rfl rfl rfl 2 fX2_51 pX3_2 rfl rfl (Nat.le_of_ble_eq_true rfl) dX2_speak_64 rfl (fun H locs ho => ?_)
      have e_5 : bF K hb_ hbm 2 true tu bbe bcr = bF K hb_ hbm 2 gd tu bbe bcr := by rw [c_3]
      have ho : ow D vwCl A s.heap H locs [bO K h hw hq hs hf fr false gu tu, bH K hq q mh fi sz, bM K hs as_ 41 ls_ gs_, bD K hD h hi hb_ gd true, bF K hb_ hbm 2 gd tu bbe bcr] := by rw [← e_5]; exact ho
      refine lv_aload_n hx hb dX2_speak_67 rfl (lv_at hl 1 rfl) ?_
      refine lv_iconst (v := nI 0) hx hb dX2_speak_68 (by decide) ?_
      refine o_put (v := .int (nI 0)) (bs' := [bO K h hw hq hs hf fr false gu tu, bH K hq q mh fi sz, bM K hs as_ 41 ls_ gs_, bD K hD h hi hb_ false true, bF K hb_ hbm 2 gd tu bbe bcr]) C ho 3 0 rfl rfl rfl 3 fX2_48 pX2_3 rfl rfl (Nat.le_of_ble_eq_true rfl) dX2_speak_69 rfl (fun H locs ho => ?_)
      refine lv_aload_n hx hb dX2_speak_72 rfl (lv_at hl 1 rfl) ?_
      refine lv_iconst (v := nI 0) hx hb dX2_speak_73 (by decide) ?_
      refine o_put (v := .int (nI 0)) (bs' := [bO K h hw hq hs hf fr false gu tu, bH K hq q mh fi sz, bM K hs as_ 41 ls_ gs_, bD K hD h hi hb_ false false, bF K hb_ hbm 2 gd tu bbe bcr]) C ho 3 0 rfl rfl rfl 4 fX2_36 pX2_4 rfl rfl (Nat.le_of_ble_eq_true rfl) dX2_speak_74 rfl (fun H locs ho => ?_)
      refine lv_aload_n hx hb dX2_speak_77 rfl (lv_at hl 0 rfl) ?_
      exact o_aret hQ C (Or.inr ⟨_, rfl⟩) ho () rfl rfl (Nat.le_of_ble_eq_true rfl) (Nat.le_of_ble_eq_true rfl) dX2_speak_78
