set_option maxHeartbeats 4000000 in
set_option maxRecDepth 100000 in
theorem c_Out_loaded1 (la : Launch) (D : va_G) (K : Nat → ClassId) (h : Nat) (hw : Nat) (hq : Nat) (hs : Nat) (hf : Nat) (fr : Nat) (gu : Bool) (tu : Bool)  : MT la D K yX7_loaded cX7_loaded 1 (some (.object "RadioPair$Frame")) (rmL 1 0 0) [.ref h] [bO K h hw hq hs hf fr true gu tu] Unit (fun v _ => v = some (.ref hf)) (fun _ => [bO K h hw hq hs hf fr true gu tu]) := by
  refine Mt.ofW [(0, .ref h)] (by decide) rfl (Nat.le_of_ble_eq_true rfl) ?_
  intro p e s m args below meth c A ls H locs Qz hQ C hin hl ho
  have hx := C.1.1
  have hb := C.1.2.1
  refine lv_aload_n hx hb dX7_loaded_0 rfl (lv_at hl 0 rfl) ?_
  refine o_get (v := .int (bI true)) C ho 0 0 rfl rfl rfl 5 fX7_48 rfl dX7_loaded_1 ?_
  refine o_ifb_ne (tgt := 29) hx hb dX7_loaded_4 (by decide) (fun _ => ?_) (fun c9 => absurd c9 (by decide))
  refine lv_aload_n hx hb dX7_loaded_29 rfl (lv_at hl 0 rfl) ?_
  refine o_get (v := .int (bI true)) C ho 0 0 rfl rfl rfl 5 fX7_48 rfl dX7_loaded_30 ?_
  refine o_ifb_eq (tgt := 43) hx hb dX7_loaded_33 (by decide) (fun c9 => absurd c9 (by decide)) (fun _ => ?_)
  refine lv_aload_n hx hb dX7_loaded_36 rfl (lv_at hl 0 rfl) ?_
  refine o_get (v := .ref hf) C ho 0 0 rfl rfl rfl 3 fX7_33 rfl dX7_loaded_37 ?_
  refine lv_goto (tgt := 44) hx hb dX7_loaded_40 (by decide) ?_
  exact o_aret hQ C (Or.inr ⟨_, rfl⟩) ho () rfl rfl (Nat.le_of_ble_eq_true rfl) (Nat.le_of_ble_eq_true rfl) dX7_loaded_44

set_option maxHeartbeats 4000000 in
set_option maxRecDepth 100000 in
theorem c_Out_loaded2 (la : Launch) (D : va_G) (K : Nat → ClassId) (h : Nat) (hw : Nat) (hq : Nat) (hs : Nat) (hf : Nat) (fr : Nat) (gu : Bool) (tu : Bool) (as_ : Nat) (ls_ : List Nat) (gs_ : Nat → Int32) (hm : Nat) (kd : Nat) (ak : Bool) (ft : Bool) (be : Bool) (cr : Nat) (am : Nat) (lm : List Nat) (gm : Nat → Int32) (q1 : fr < ls_.length) (q2 : ls_.length ≤ 41) (q3 : lm.length ≤ 63) : MT la D K yX7_loaded cX7_loaded 1 (some (.object "RadioPair$Frame")) (rmL 4 0 0) [.ref h] [bO K h hw hq hs hf fr false gu tu, bM K hs as_ 41 ls_ gs_, bF K hf hm kd ak ft be cr, bM K hm am 63 lm gm] (Nat → Int32) (fun v _ => v = some (.ref hf)) (fun u => [bO K h hw hq hs hf (fr + nxt gu (ls_.length - fr)) true gu (!tu), bM K hs as_ 41 ls_ gs_, bF K hf hm (cond gu 3 4) ak (!tu) (decide (fr = 0)) cr, bM K hm am 63 (slN ls_ fr (nxt gu (ls_.length - fr))) u]) := by
  refine Mt.ofW [(0, .ref h)] (by decide) rfl (Nat.le_of_ble_eq_true rfl) ?_
  intro p e s m args below meth c A ls H locs Qz hQ C hin hl ho
  have hx := C.1.1
  have hb := C.1.2.1
  refine lv_aload_n hx hb dX7_loaded_0 rfl (lv_at hl 0 rfl) ?_
  refine o_get (v := .int (bI false)) C ho 0 0 rfl rfl rfl 5 fX7_48 rfl dX7_loaded_1 ?_
  refine o_ifb_ne (tgt := 29) hx hb dX7_loaded_4 (by decide) (fun c9 => absurd c9 (by decide)) (fun _ => ?_)
  refine lv_aload_n hx hb dX7_loaded_7 rfl (lv_at hl 0 rfl) ?_
  refine o_callV (wr := [bF K hf hm kd ak ft be cr, bM K hm am 63 lm gm]) (rest := []) (As := []) C (c_Out_bytesLeft la D K h hw hq hs hf fr false gu tu as_ ls_ gs_ (by first | omega | assumption | (simp only [List.length_append, List.length_cons, List.length_nil, List.length_modify, List.length_set, nb_len, rb_len, rbp_len, sl_len, slN_len, wh_len, wt_len, hd10_len, hdB_len, thr_len, ldp_len, ldB_len, tens_len, whz_len, majL_len, mf_len, tkL_len, ldY_len, fif_len, ldY_len]; omega) | decide)) kX7_54 vX7_bytesLeft (by decide) rfl ho [0, 1, 2, 3] 4 (by decide +kernel) rfl rfl rfl rfl rfl hl.1 rfl (Nat.le_of_ble_eq_true rfl) dX7_loaded_8 0 0 rfl rfl (by decide) (fun v u_1 H locs hq ho => ?_)
  obtain rfl := hq
  have ho : ow D vwCl A s.heap H locs [bO K h hw hq hs hf fr false gu tu, bM K hs as_ 41 ls_ gs_, bF K hf hm kd ak ft be cr, bM K hm am 63 lm gm] := ho
  refine W.eq (g2 := F0 m 11 ls [.int (nI (ls_.length - fr))]) rfl ?_
  refine o_if_ne (tgt := 18) hx hb dX7_loaded_11 (by decide) (by omega) (fun c_2 => ?_) (fun c_2 => ?_)
  · skip
    refine lv_aload_n hx hb dX7_loaded_18 rfl (lv_at hl 0 rfl) ?_
    refine o_callV (wr := [bF K hf hm kd ak ft be cr, bM K hm am 63 lm gm]) (rest := []) (As := []) C (c_Out_bytesLeft la D K h hw hq hs hf fr false gu tu as_ ls_ gs_ (by first | omega | assumption | (simp only [List.length_append, List.length_cons, List.length_nil, List.length_modify, List.length_set, nb_len, rb_len, rbp_len, sl_len, slN_len, wh_len, wt_len, hd10_len, hdB_len, thr_len, ldp_len, ldB_len, tens_len, whz_len, majL_len, mf_len, tkL_len, ldY_len, fif_len, ldY_len]; omega) | decide)) kX7_54 vX7_bytesLeft (by decide) rfl ho [0, 1, 2, 3] 4 (by decide +kernel) rfl rfl rfl rfl rfl hl.1 rfl (Nat.le_of_ble_eq_true rfl) dX7_loaded_19 0 0 rfl rfl (by decide) (fun v u_3 H locs hq ho => ?_)
    obtain rfl := hq
    have ho : ow D vwCl A s.heap H locs [bO K h hw hq hs hf fr false gu tu, bM K hs as_ 41 ls_ gs_, bF K hf hm kd ak ft be cr, bM K hm am 63 lm gm] := ho
    refine W.eq (g2 := F0 m 22 ls [.int (nI (ls_.length - fr))]) rfl ?_
    refine o_if_le (tgt := 29) hx hb dX7_loaded_22 (by decide) (by omega) (fun c_4 => ?_) (fun c_4 => ?_)
    · skip
      exact absurd c_4 (by omega)
    · skip
      refine lv_aload_n hx hb dX7_loaded_25 rfl (lv_at hl 0 rfl) ?_
      refine o_callV (wr := []) (rest := []) (As := []) C (c_Out_makeFrame la D K h hw hq hs hf fr false gu tu as_ ls_ gs_ hm kd ak ft be cr am lm gm (by first | omega | assumption | (simp only [List.length_append, List.length_cons, List.length_nil, List.length_modify, List.length_set, nb_len, rb_len, rbp_len, sl_len, slN_len, wh_len, wt_len, hd10_len, hdB_len, thr_len, ldp_len, ldB_len, tens_len, whz_len, majL_len, mf_len, tkL_len, ldY_len, fif_len, ldY_len]; omega) | decide) (by first | omega | assumption | (simp only [List.length_append, List.length_cons, List.length_nil, List.length_modify, List.length_set, nb_len, rb_len, rbp_len, sl_len, slN_len, wh_len, wt_len, hd10_len, hdB_len, thr_len, ldp_len, ldB_len, tens_len, whz_len, majL_len, mf_len, tkL_len, ldY_len, fif_len, ldY_len]; omega) | decide) (by first | omega | assumption | (simp only [List.length_append, List.length_cons, List.length_nil, List.length_modify, List.length_set, nb_len, rb_len, rbp_len, sl_len, slN_len, wh_len, wt_len, hd10_len, hdB_len, thr_len, ldp_len, ldB_len, tens_len, whz_len, majL_len, mf_len, tkL_len, ldY_len, fif_len, ldY_len]; omega) | decide)) kX7_61 vX7_makeFrame (by decide) rfl ho [0, 1, 2, 3] 4 (by decide +kernel) rfl rfl rfl rfl rfl hl.1 rfl (Nat.le_of_ble_eq_true rfl) dX7_loaded_26 0 0 rfl rfl (by decide) (fun v u_5 H locs hq ho => ?_)
      obtain rfl := hq
      have ho : ow D vwCl A s.heap H locs [bO K h hw hq hs hf (fr + nxt gu (ls_.length - fr)) true gu (!tu), bM K hs as_ 41 ls_ gs_, bF K hf hm (cond gu 3 4) ak (!tu) (decide (fr = 0)) cr, bM K hm am 63 (slN ls_ fr (nxt gu (ls_.length - fr))) u_5] := ho
      refine W.eq (g2 := F0 m 29 ls []) rfl ?_
      refine lv_aload_n hx hb dX7_loaded_29 rfl (lv_at hl 0 rfl) ?_
      refine o_get (v := .int (bI true)) C ho 0 0 rfl rfl rfl 5 fX7_48 rfl dX7_loaded_30 ?_
      refine o_ifb_eq (tgt := 43) hx hb dX7_loaded_33 (by decide) (fun c9 => absurd c9 (by decide)) (fun _ => ?_)
      refine lv_aload_n hx hb dX7_loaded_36 rfl (lv_at hl 0 rfl) ?_
      refine o_get (v := .ref hf) C ho 0 0 rfl rfl rfl 3 fX7_33 rfl dX7_loaded_37 ?_
      refine lv_goto (tgt := 44) hx hb dX7_loaded_40 (by decide) ?_
      exact o_aret hQ C (Or.inr ⟨_, rfl⟩) ho u_5 rfl rfl (Nat.le_of_ble_eq_true rfl) (Nat.le_of_ble_eq_true rfl) dX7_loaded_44
  · skip
    exact absurd c_2 (by omega)

set_option maxHeartbeats 4000000 in
set_option maxRecDepth 100000 in
theorem c_Out_loaded3 (la : Launch) (D : va_G) (K : Nat → ClassId) (h : Nat) (hw : Nat) (hq : Nat) (hs : Nat) (hf : Nat) (fr : Nat) (gu : Bool) (tu : Bool) (q : Nat) (mh : Nat → Nat) (fi : Nat) (sz : Nat) (ma : Nat → Nat) (ml : Nat → List Nat) (mg : Nat → Nat → Int32) (as_ : Nat) (ls_ : List Nat) (gs_ : Nat → Int32) (hm : Nat) (kd : Nat) (ak : Bool) (ft : Bool) (be : Bool) (cr : Nat) (am : Nat) (lm : List Nat) (gm : Nat → Int32) (q1 : fr = ls_.length) (q2 : ls_.length ≤ 41) (q3 : lm.length ≤ 63) (q0 : 0 < sz) (q6 : sz ≤ 6) (qf : fi < 6) (qm : (ml fi).length ≤ 40) : MT la D K yX7_loaded cX7_loaded 1 (some (.object "RadioPair$Frame")) (rmL 4 0 0) [.ref h] [bO K h hw hq hs hf fr false gu tu, bH K hq q mh fi sz, bPool K mh ma 40 ml mg, bM K hs as_ 41 ls_ gs_, bF K hf hm kd ak ft be cr, bM K hm am 63 lm gm] ((Nat → Int32) × (Nat → Int32)) (fun v _ => v = some (.ref hf)) (fun u => [bO K h hw hq hs hf (0 + nxt gu ((ml fi).length + 1)) true gu (!tu), bH K hq q mh ((fi + 1) % 6) (sz - 1), bPool K mh ma 40 ml mg, bM K hs as_ 41 ((ml fi).length :: ml fi) u.1, bF K hf hm (cond gu 3 4) ak (!tu) (decide (0 = 0)) cr, bM K hm am 63 (slN ((ml fi).length :: ml fi) 0 (nxt gu ((ml fi).length + 1))) u.2]) := by
  refine Mt.ofW [(0, .ref h)] (by decide) rfl (Nat.le_of_ble_eq_true rfl) ?_
  intro p e s m args below meth c A ls H locs Qz hQ C hin hl ho
  have hx := C.1.1
  have hb := C.1.2.1
  refine lv_aload_n hx hb dX7_loaded_0 rfl (lv_at hl 0 rfl) ?_
  refine o_get (v := .int (bI false)) C ho 0 0 rfl rfl rfl 5 fX7_48 rfl dX7_loaded_1 ?_
  refine o_ifb_ne (tgt := 29) hx hb dX7_loaded_4 (by decide) (fun c9 => absurd c9 (by decide)) (fun _ => ?_)
  refine lv_aload_n hx hb dX7_loaded_7 rfl (lv_at hl 0 rfl) ?_
  refine o_callV (wr := [bH K hq q mh fi sz, bPool K mh ma 40 ml mg, bF K hf hm kd ak ft be cr, bM K hm am 63 lm gm]) (rest := []) (As := []) C (c_Out_bytesLeft la D K h hw hq hs hf fr false gu tu as_ ls_ gs_ (by first | omega | assumption | (simp only [List.length_append, List.length_cons, List.length_nil, List.length_modify, List.length_set, nb_len, rb_len, rbp_len, sl_len, slN_len, wh_len, wt_len, hd10_len, hdB_len, thr_len, ldp_len, ldB_len, tens_len, whz_len, majL_len, mf_len, tkL_len, ldY_len, fif_len, ldY_len]; omega) | decide)) kX7_54 vX7_bytesLeft (by decide) rfl ho [0, 3, 1, 2, 4, 5] 6 (by decide +kernel) rfl rfl rfl rfl rfl hl.1 rfl (Nat.le_of_ble_eq_true rfl) dX7_loaded_8 0 0 rfl rfl (by decide) (fun v u_1 H locs hq ho => ?_)
  obtain rfl := hq
  have ho : ow D vwCl A s.heap H locs [bO K h hw hq hs hf fr false gu tu, bM K hs as_ 41 ls_ gs_, bH K hq q mh fi sz, bPool K mh ma 40 ml mg, bF K hf hm kd ak ft be cr, bM K hm am 63 lm gm] := ho
  refine W.eq (g2 := F0 m 11 ls [.int (nI (ls_.length - fr))]) rfl ?_
  refine o_if_ne (tgt := 18) hx hb dX7_loaded_11 (by decide) (by omega) (fun c_2 => ?_) (fun c_2 => ?_)
  · skip
    exact absurd (by omega) c_2
  · skip
    refine lv_aload_n hx hb dX7_loaded_14 rfl (lv_at hl 0 rfl) ?_
    refine o_callV (wr := [bF K hf hm kd ak ft be cr, bM K hm am 63 lm gm]) (rest := []) (As := []) C (c_Out_begin1 la D K h hw hq hs hf fr false gu tu q mh fi sz ma ml mg as_ ls_ gs_ (by first | omega | assumption | (simp only [List.length_append, List.length_cons, List.length_nil, List.length_modify, List.length_set, nb_len, rb_len, rbp_len, sl_len, slN_len, wh_len, wt_len, hd10_len, hdB_len, thr_len, ldp_len, ldB_len, tens_len, whz_len, majL_len, mf_len, tkL_len, ldY_len, fif_len, ldY_len]; omega) | decide) (by first | omega | assumption | (simp only [List.length_append, List.length_cons, List.length_nil, List.length_modify, List.length_set, nb_len, rb_len, rbp_len, sl_len, slN_len, wh_len, wt_len, hd10_len, hdB_len, thr_len, ldp_len, ldB_len, tens_len, whz_len, majL_len, mf_len, tkL_len, ldY_len, fif_len, ldY_len]; omega) | decide) (by first | omega | assumption | (simp only [List.length_append, List.length_cons, List.length_nil, List.length_modify, List.length_set, nb_len, rb_len, rbp_len, sl_len, slN_len, wh_len, wt_len, hd10_len, hdB_len, thr_len, ldp_len, ldB_len, tens_len, whz_len, majL_len, mf_len, tkL_len, ldY_len, fif_len, ldY_len]; omega) | decide) (by first | omega | assumption | (simp only [List.length_append, List.length_cons, List.length_nil, List.length_modify, List.length_set, nb_len, rb_len, rbp_len, sl_len, slN_len, wh_len, wt_len, hd10_len, hdB_len, thr_len, ldp_len, ldB_len, tens_len, whz_len, majL_len, mf_len, tkL_len, ldY_len, fif_len, ldY_len]; omega) | decide)) kX7_58 vX7_beginMessage (by decide) rfl ho [0, 2, 3, 1, 4, 5] 6 (by decide +kernel) rfl rfl rfl rfl rfl hl.1 rfl (Nat.le_of_ble_eq_true rfl) dX7_loaded_15 0 0 rfl rfl (by decide) (fun v u_3 H locs hq ho => ?_)
    obtain rfl := hq
    have ho : ow D vwCl A s.heap H locs [bO K h hw hq hs hf 0 false gu tu, bH K hq q mh ((fi + 1) % 6) (sz - 1), bPool K mh ma 40 ml mg, bM K hs as_ 41 ((ml fi).length :: ml fi) u_3, bF K hf hm kd ak ft be cr, bM K hm am 63 lm gm] := ho
    refine W.eq (g2 := F0 m 18 ls []) rfl ?_
    refine lv_aload_n hx hb dX7_loaded_18 rfl (lv_at hl 0 rfl) ?_
    refine o_callV (wr := [bH K hq q mh ((fi + 1) % 6) (sz - 1), bPool K mh ma 40 ml mg, bF K hf hm kd ak ft be cr, bM K hm am 63 lm gm]) (rest := []) (As := []) C (c_Out_bytesLeft la D K h hw hq hs hf 0 false gu tu as_ ((ml fi).length :: ml fi) u_3 (by first | omega | assumption | (simp only [List.length_append, List.length_cons, List.length_nil, List.length_modify, List.length_set, nb_len, rb_len, rbp_len, sl_len, slN_len, wh_len, wt_len, hd10_len, hdB_len, thr_len, ldp_len, ldB_len, tens_len, whz_len, majL_len, mf_len, tkL_len, ldY_len, fif_len, ldY_len]; omega) | decide)) kX7_54 vX7_bytesLeft (by decide) rfl ho [0, 3, 1, 2, 4, 5] 6 (by decide +kernel) rfl rfl rfl rfl rfl hl.1 rfl (Nat.le_of_ble_eq_true rfl) dX7_loaded_19 0 0 rfl rfl (by decide) (fun v u_4 H locs hq ho => ?_)
    obtain rfl := hq
    have ho : ow D vwCl A s.heap H locs [bO K h hw hq hs hf 0 false gu tu, bM K hs as_ 41 ((ml fi).length :: ml fi) u_3, bH K hq q mh ((fi + 1) % 6) (sz - 1), bPool K mh ma 40 ml mg, bF K hf hm kd ak ft be cr, bM K hm am 63 lm gm] := ho
    refine W.eq (g2 := F0 m 22 ls [.int (nI (((ml fi).length :: ml fi).length - 0))]) rfl ?_
    refine o_top (y := nI ((ml fi).length + 1)) (rfl) ?_
    refine o_if_le (tgt := 29) hx hb dX7_loaded_22 (by decide) (by omega) (fun c_5 => ?_) (fun c_5 => ?_)
    · skip
      exact absurd c_5 (by omega)
    · skip
      refine lv_aload_n hx hb dX7_loaded_25 rfl (lv_at hl 0 rfl) ?_
      refine o_callV (wr := [bH K hq q mh ((fi + 1) % 6) (sz - 1), bPool K mh ma 40 ml mg]) (rest := []) (As := []) C (c_Out_makeFrame la D K h hw hq hs hf 0 false gu tu as_ ((ml fi).length :: ml fi) u_3 hm kd ak ft be cr am lm gm (by first | omega | assumption | (simp only [List.length_append, List.length_cons, List.length_nil, List.length_modify, List.length_set, nb_len, rb_len, rbp_len, sl_len, slN_len, wh_len, wt_len, hd10_len, hdB_len, thr_len, ldp_len, ldB_len, tens_len, whz_len, majL_len, mf_len, tkL_len, ldY_len, fif_len, ldY_len]; omega) | decide) (by first | omega | assumption | (simp only [List.length_append, List.length_cons, List.length_nil, List.length_modify, List.length_set, nb_len, rb_len, rbp_len, sl_len, slN_len, wh_len, wt_len, hd10_len, hdB_len, thr_len, ldp_len, ldB_len, tens_len, whz_len, majL_len, mf_len, tkL_len, ldY_len, fif_len, ldY_len]; omega) | decide) (by first | omega | assumption | (simp only [List.length_append, List.length_cons, List.length_nil, List.length_modify, List.length_set, nb_len, rb_len, rbp_len, sl_len, slN_len, wh_len, wt_len, hd10_len, hdB_len, thr_len, ldp_len, ldB_len, tens_len, whz_len, majL_len, mf_len, tkL_len, ldY_len, fif_len, ldY_len]; omega) | decide)) kX7_61 vX7_makeFrame (by decide) rfl ho [0, 1, 4, 5, 2, 3] 6 (by decide +kernel) rfl rfl rfl rfl rfl hl.1 rfl (Nat.le_of_ble_eq_true rfl) dX7_loaded_26 0 0 rfl rfl (by decide) (fun v u_6 H locs hq ho => ?_)
      obtain rfl := hq
      have ho : ow D vwCl A s.heap H locs [bO K h hw hq hs hf (0 + nxt gu (((ml fi).length :: ml fi).length - 0)) true gu (!tu), bM K hs as_ 41 ((ml fi).length :: ml fi) u_3, bF K hf hm (cond gu 3 4) ak (!tu) (decide (0 = 0)) cr, bM K hm am 63 (slN ((ml fi).length :: ml fi) 0 (nxt gu (((ml fi).length :: ml fi).length - 0))) u_6, bH K hq q mh ((fi + 1) % 6) (sz - 1), bPool K mh ma 40 ml mg] := ho
      refine W.eq (g2 := F0 m 29 ls []) rfl ?_
      refine lv_aload_n hx hb dX7_loaded_29 rfl (lv_at hl 0 rfl) ?_
      refine o_get (v := .int (bI true)) C ho 0 0 rfl rfl rfl 5 fX7_48 rfl dX7_loaded_30 ?_
      refine o_ifb_eq (tgt := 43) hx hb dX7_loaded_33 (by decide) (fun c9 => absurd c9 (by decide)) (fun _ => ?_)
      refine lv_aload_n hx hb dX7_loaded_36 rfl (lv_at hl 0 rfl) ?_
      refine o_get (v := .ref hf) C ho 0 0 rfl rfl rfl 3 fX7_33 rfl dX7_loaded_37 ?_
      refine lv_goto (tgt := 44) hx hb dX7_loaded_40 (by decide) ?_
      have ho : ow D vwCl A s.heap H locs [bO K h hw hq hs hf (0 + nxt gu (((ml fi).length :: ml fi).length - 0)) true gu (!tu), bH K hq q mh ((fi + 1) % 6) (sz - 1), bPool K mh ma 40 ml mg, bM K hs as_ 41 ((ml fi).length :: ml fi) u_3, bF K hf hm (cond gu 3 4) ak (!tu) (decide (0 = 0)) cr, bM K hm am 63 (slN ((ml fi).length :: ml fi) 0 (nxt gu (((ml fi).length :: ml fi).length - 0))) u_6] := ho.re [0, 4, 5, 1, 2, 3] 6 (by decide +kernel) rfl rfl
      exact o_aret hQ C (Or.inr ⟨_, rfl⟩) ho (u_3, u_6) rfl (by dsimp only [gs, List.getD_cons_zero, List.getD_cons_succ] <;> rfl) (Nat.le_of_ble_eq_true rfl) (Nat.le_of_ble_eq_true rfl) dX7_loaded_44

set_option maxHeartbeats 4000000 in
set_option maxRecDepth 100000 in
theorem c_Out_loaded4 (la : Launch) (D : va_G) (K : Nat → ClassId) (h : Nat) (hw : Nat) (hq : Nat) (hs : Nat) (hf : Nat) (fr : Nat) (gu : Bool) (tu : Bool) (q : Nat) (mh : Nat → Nat) (fi : Nat) (sz : Nat) (as_ : Nat) (ls_ : List Nat) (gs_ : Nat → Int32) (q1 : fr = ls_.length) (q2 : ls_.length ≤ 41) (q0 : sz = 0) : MT la D K yX7_loaded cX7_loaded 1 (some (.object "RadioPair$Frame")) (rmL 3 0 0) [.ref h] [bO K h hw hq hs hf fr false gu tu, bH K hq q mh fi sz, bM K hs as_ 41 ls_ gs_] Unit (fun v _ => v = some (.null)) (fun _ => [bO K h hw hq hs hf fr false gu tu, bH K hq q mh fi sz, bM K hs as_ 41 ls_ gs_]) := by
  refine Mt.ofW [(0, .ref h)] (by decide) rfl (Nat.le_of_ble_eq_true rfl) ?_
  intro p e s m args below meth c A ls H locs Qz hQ C hin hl ho
  have hx := C.1.1
  have hb := C.1.2.1
  refine lv_aload_n hx hb dX7_loaded_0 rfl (lv_at hl 0 rfl) ?_
  refine o_get (v := .int (bI false)) C ho 0 0 rfl rfl rfl 5 fX7_48 rfl dX7_loaded_1 ?_
  refine o_ifb_ne (tgt := 29) hx hb dX7_loaded_4 (by decide) (fun c9 => absurd c9 (by decide)) (fun _ => ?_)
  refine lv_aload_n hx hb dX7_loaded_7 rfl (lv_at hl 0 rfl) ?_
  refine o_callV (wr := [bH K hq q mh fi sz]) (rest := []) (As := []) C (c_Out_bytesLeft la D K h hw hq hs hf fr false gu tu as_ ls_ gs_ (by first | omega | assumption | (simp only [List.length_append, List.length_cons, List.length_nil, List.length_modify, List.length_set, nb_len, rb_len, rbp_len, sl_len, slN_len, wh_len, wt_len, hd10_len, hdB_len, thr_len, ldp_len, ldB_len, tens_len, whz_len, majL_len, mf_len, tkL_len, ldY_len, fif_len, ldY_len]; omega) | decide)) kX7_54 vX7_bytesLeft (by decide) rfl ho [0, 2, 1] 3 (by decide +kernel) rfl rfl rfl rfl rfl hl.1 rfl (Nat.le_of_ble_eq_true rfl) dX7_loaded_8 0 0 rfl rfl (by decide) (fun v u_1 H locs hq ho => ?_)
  obtain rfl := hq
  have ho : ow D vwCl A s.heap H locs [bO K h hw hq hs hf fr false gu tu, bM K hs as_ 41 ls_ gs_, bH K hq q mh fi sz] := ho
  refine W.eq (g2 := F0 m 11 ls [.int (nI (ls_.length - fr))]) rfl ?_
  refine o_if_ne (tgt := 18) hx hb dX7_loaded_11 (by decide) (by omega) (fun c_2 => ?_) (fun c_2 => ?_)
  · skip
    exact absurd (by omega) c_2
  · skip
    refine lv_aload_n hx hb dX7_loaded_14 rfl (lv_at hl 0 rfl) ?_
    refine o_callV (wr := [bM K hs as_ 41 ls_ gs_]) (rest := []) (As := []) C (c_Out_begin0 la D K h hw hq hs hf fr false gu tu q mh fi sz (by first | omega | assumption | (simp only [List.length_append, List.length_cons, List.length_nil, List.length_modify, List.length_set, nb_len, rb_len, rbp_len, sl_len, slN_len, wh_len, wt_len, hd10_len, hdB_len, thr_len, ldp_len, ldB_len, tens_len, whz_len, majL_len, mf_len, tkL_len, ldY_len, fif_len, ldY_len]; omega) | decide)) kX7_58 vX7_beginMessage (by decide) rfl ho [0, 2, 1] 3 (by decide +kernel) rfl rfl rfl rfl rfl hl.1 rfl (Nat.le_of_ble_eq_true rfl) dX7_loaded_15 0 0 rfl rfl (by decide) (fun v u_3 H locs hq ho => ?_)
    obtain rfl := hq
    have ho : ow D vwCl A s.heap H locs [bO K h hw hq hs hf fr false gu tu, bH K hq q mh fi sz, bM K hs as_ 41 ls_ gs_] := ho
    refine W.eq (g2 := F0 m 18 ls []) rfl ?_
    refine lv_aload_n hx hb dX7_loaded_18 rfl (lv_at hl 0 rfl) ?_
    refine o_callV (wr := [bH K hq q mh fi sz]) (rest := []) (As := []) C (c_Out_bytesLeft la D K h hw hq hs hf fr false gu tu as_ ls_ gs_ (by first | omega | assumption | (simp only [List.length_append, List.length_cons, List.length_nil, List.length_modify, List.length_set, nb_len, rb_len, rbp_len, sl_len, slN_len, wh_len, wt_len, hd10_len, hdB_len, thr_len, ldp_len, ldB_len, tens_len, whz_len, majL_len, mf_len, tkL_len, ldY_len, fif_len, ldY_len]; omega) | decide)) kX7_54 vX7_bytesLeft (by decide) rfl ho [0, 2, 1] 3 (by decide +kernel) rfl rfl rfl rfl rfl hl.1 rfl (Nat.le_of_ble_eq_true rfl) dX7_loaded_19 0 0 rfl rfl (by decide) (fun v u_4 H locs hq ho => ?_)
    obtain rfl := hq
    have ho : ow D vwCl A s.heap H locs [bO K h hw hq hs hf fr false gu tu, bM K hs as_ 41 ls_ gs_, bH K hq q mh fi sz] := ho
    refine W.eq (g2 := F0 m 22 ls [.int (nI (ls_.length - fr))]) rfl ?_
    refine o_if_le (tgt := 29) hx hb dX7_loaded_22 (by decide) (by omega) (fun c_5 => ?_) (fun c_5 => ?_)
    · skip
      refine lv_aload_n hx hb dX7_loaded_29 rfl (lv_at hl 0 rfl) ?_
      refine o_get (v := .int (bI false)) C ho 0 0 rfl rfl rfl 5 fX7_48 rfl dX7_loaded_30 ?_
      refine o_ifb_eq (tgt := 43) hx hb dX7_loaded_33 (by decide) (fun _ => ?_) (fun c9 => absurd c9 (by decide))
      refine lv_null hx hb dX7_loaded_43 ?_
      have ho : ow D vwCl A s.heap H locs [bO K h hw hq hs hf fr false gu tu, bH K hq q mh fi sz, bM K hs as_ 41 ls_ gs_] := ho.re [0, 2, 1] 3 (by decide +kernel) rfl rfl
      exact o_aret hQ C (Or.inl rfl) ho () rfl rfl (Nat.le_of_ble_eq_true rfl) (Nat.le_of_ble_eq_true rfl) dX7_loaded_44
    · skip
      exact absurd c_5 (by omega)

set_option maxHeartbeats 4000000 in
set_option maxRecDepth 100000 in
theorem c_Dev_speak0 (la : Launch) (D : va_G) (K : Nat → ClassId) (h : Nat) (hD : Nat) (hi : Nat) (gd : Bool) (hb_ : Nat) (hbm : Nat) (bak : Bool) (bt_ : Bool) (bbe : Bool) (bcr : Nat)  : MT la D K yX2_speak cX2_speak 2 (some (.object "RadioPair$Frame")) (rmL 1 0 0) [.ref hD] [bD K hD h hi hb_ gd false, bF K hb_ hbm 2 bak bt_ bbe bcr] Unit (fun v _ => v = some (.null)) (fun _ => [bD K hD h hi hb_ gd false, bF K hb_ hbm 2 bak bt_ bbe bcr]) := by
  refine Mt.ofW [(0, .ref hD)] (by decide) rfl (Nat.le_of_ble_eq_true rfl) ?_
  intro p e s m args below meth c A ls H locs Qz hQ C hin hl ho
  have hx := C.1.1
  have hb := C.1.2.1
  refine lv_aload_n hx hb dX2_speak_0 rfl (lv_at hl 0 rfl) ?_
  refine o_get (v := .ref hb_) C ho 0 0 rfl rfl rfl 2 fX2_28 rfl dX2_speak_1 ?_
  refine o_get (v := .int (nI 2)) C ho 1 0 rfl rfl rfl 1 fX2_32 rfl dX2_speak_4 ?_
  refine lv_iconst (v := nI 2) hx hb dX2_speak_7 (by decide) ?_
  refine o_icmp_ne (tgt := 20) hx hb dX2_speak_8 (by decide) (by decide) (by decide) (fun c9 => absurd c9 (by decide)) (fun _ => ?_)
  refine lv_aload_n hx hb dX2_speak_11 rfl (lv_at hl 0 rfl) ?_
  refine o_get (v := .int (bI false)) C ho 0 0 rfl rfl rfl 4 fX2_36 rfl dX2_speak_12 ?_
  refine o_ifb_ne (tgt := 20) hx hb dX2_speak_15 (by decide) (fun c9 => absurd c9 (by decide)) (fun _ => ?_)
  refine lv_null hx hb dX2_speak_18 ?_
  exact o_aret hQ C (Or.inl rfl) ho () rfl rfl (Nat.le_of_ble_eq_true rfl) (Nat.le_of_ble_eq_true rfl) dX2_speak_19

set_option maxHeartbeats 4000000 in
set_option maxRecDepth 100000 in
theorem c_Dev_speak1_1 (la : Launch) (D : va_G) (K : Nat → ClassId) (hD : Nat) (hi : Nat) (gd : Bool) (hd : Bool) (h : Nat) (hw : Nat) (hq : Nat) (hs : Nat) (hf : Nat) (fr : Nat) (gu : Bool) (tu : Bool) (hm : Nat) (kd : Nat) (ak : Bool) (ft : Bool) (be : Bool) (cr : Nat) (hb_ : Nat) (hbm : Nat) (bak : Bool) (bt_ : Bool) (bbe : Bool) (bcr : Nat)  : MT la D K yX2_speak cX2_speak 2 (some (.object "RadioPair$Frame")) (rmL 2 0 0) [.ref hD] [bD K hD h hi hb_ gd hd, bO K h hw hq hs hf fr true gu tu, bF K hf hm kd ak ft be cr, bF K hb_ hbm 1 bak bt_ bbe bcr] Unit (fun v _ => v = some (.ref hf)) (fun _ => [bD K hD h hi hb_ false false, bO K h hw hq hs hf fr true gu tu, bF K hf hm kd gd ft be cr, bF K hb_ hbm 1 bak bt_ bbe bcr]) := by
  refine Mt.ofW [(0, .ref hD)] (by decide) rfl (Nat.le_of_ble_eq_true rfl) ?_
  intro p e s m args below meth c A ls H locs Qz hQ C hin hl ho
  have hx := C.1.1
  have hb := C.1.2.1
  refine lv_aload_n hx hb dX2_speak_0 rfl (lv_at hl 0 rfl) ?_
  refine o_get (v := .ref hb_) C ho 0 0 rfl rfl rfl 2 fX2_28 rfl dX2_speak_1 ?_
  refine o_get (v := .int (nI 1)) C ho 3 0 rfl rfl rfl 1 fX2_32 rfl dX2_speak_4 ?_
  refine lv_iconst (v := nI 2) hx hb dX2_speak_7 (by decide) ?_
  refine o_icmp_ne (tgt := 20) hx hb dX2_speak_8 (by decide) (by decide) (by decide) (fun _ => ?_) (fun c9 => absurd c9 (by decide))
  refine lv_aload_n hx hb dX2_speak_20 rfl (lv_at hl 0 rfl) ?_
  refine o_get (v := .ref h) C ho 0 0 rfl rfl rfl 0 fX2_12 rfl dX2_speak_21 ?_
  refine o_callV (wr := [bD K hD h hi hb_ gd hd, bF K hf hm kd ak ft be cr, bF K hb_ hbm 1 bak bt_ bbe bcr]) (rest := []) (As := []) C (c_Out_loaded1 la D K h hw hq hs hf fr gu tu ) kX2_40 vX7_loaded (by decide) rfl ho [1, 0, 2, 3] 4 (by decide +kernel) rfl rfl rfl rfl rfl hl.1 rfl (Nat.le_of_ble_eq_true rfl) dX2_speak_24 0 0 rfl rfl (by decide) (fun v u_1 H locs hq ho => ?_)
  obtain rfl := hq
  have ho : ow D vwCl A s.heap H locs [bO K h hw hq hs hf fr true gu tu, bD K hD h hi hb_ gd hd, bF K hf hm kd ak ft be cr, bF K hb_ hbm 1 bak bt_ bbe bcr] := ho
  refine W.eq (g2 := F0 m 27 ls [.ref hf]) rfl ?_
  refine lv_astore_n (lv' := [(1, .ref hf), (0, .ref hD)]) hx hb dX2_speak_27 rfl hl (by decide) rfl (fun ls hl => ?_)
  refine lv_aload_n hx hb dX2_speak_28 rfl (lv_at hl 0 rfl) ?_
  refine lv_ifnonnull (tgt := 51) hx hb dX2_speak_29 (by decide) ?_
  refine lv_aload_n hx hb dX2_speak_51 rfl (lv_at hl 0 rfl) ?_
  refine lv_aload_n hx hb dX2_speak_52 rfl (lv_at hl 1 rfl) ?_
  refine o_get (v := .int (bI gd)) C ho 1 0 rfl rfl rfl 3 fX2_48 rfl dX2_speak_53 ?_
  refine o_ifb_eq (tgt := 63) hx hb dX2_speak_56 (by decide) (fun c_2 => ?_) (fun c_2 => ?_)
  · skip
    refine lv_iconst (v := nI 0) hx hb dX2_speak_63 (by decide) ?_
    refine o_put (v := .int (nI 0)) (bs' := [bO K h hw hq hs hf fr true gu tu, bD K hD h hi hb_ gd hd, bF K hf hm kd false ft be cr, bF K hb_ hbm 1 bak bt_ bbe bcr]) C ho 2 0 rfl rfl rfl 2 fX2_51 pX3_2 rfl rfl (Nat.le_of_ble_eq_true rfl) dX2_speak_64 rfl (fun H locs ho => ?_)
    have e_3 : bF K hf hm kd false ft be cr = bF K hf hm kd gd ft be cr := by rw [c_2]
    have ho : ow D vwCl A s.heap H locs [bO K h hw hq hs hf fr true gu tu, bD K hD h hi hb_ gd hd, bF K hf hm kd gd ft be cr, bF K hb_ hbm 1 bak bt_ bbe bcr] := by rw [← e_3]; exact ho
    refine lv_aload_n hx hb dX2_speak_67 rfl (lv_at hl 1 rfl) ?_
    refine lv_iconst (v := nI 0) hx hb dX2_speak_68 (by decide) ?_
    refine o_put (v := .int (nI 0)) (bs' := [bO K h hw hq hs hf fr true gu tu, bD K hD h hi hb_ false hd, bF K hf hm kd gd ft be cr, bF K hb_ hbm 1 bak bt_ bbe bcr]) C ho 1 0 rfl rfl rfl 3 fX2_48 pX2_3 rfl rfl (Nat.le_of_ble_eq_true rfl) dX2_speak_69 rfl (fun H locs ho => ?_)
    refine lv_aload_n hx hb dX2_speak_72 rfl (lv_at hl 1 rfl) ?_
    refine lv_iconst (v := nI 0) hx hb dX2_speak_73 (by decide) ?_
    refine o_put (v := .int (nI 0)) (bs' := [bO K h hw hq hs hf fr true gu tu, bD K hD h hi hb_ false false, bF K hf hm kd gd ft be cr, bF K hb_ hbm 1 bak bt_ bbe bcr]) C ho 1 0 rfl rfl rfl 4 fX2_36 pX2_4 rfl rfl (Nat.le_of_ble_eq_true rfl) dX2_speak_74 rfl (fun H locs ho => ?_)
    refine lv_aload_n hx hb dX2_speak_77 rfl (lv_at hl 0 rfl) ?_
    have ho : ow D vwCl A s.heap H locs [bD K hD h hi hb_ false false, bO K h hw hq hs hf fr true gu tu, bF K hf hm kd gd ft be cr, bF K hb_ hbm 1 bak bt_ bbe bcr] := ho.re [1, 0, 2, 3] 4 (by decide +kernel) rfl rfl
    exact o_aret hQ C (Or.inr ⟨_, rfl⟩) ho () rfl rfl (Nat.le_of_ble_eq_true rfl) (Nat.le_of_ble_eq_true rfl) dX2_speak_78
  · skip
    refine lv_iconst (v := nI 1) hx hb dX2_speak_59 (by decide) ?_
    refine lv_goto (tgt := 64) hx hb dX2_speak_60 (by decide) ?_
    refine o_put (v := .int (nI 1)) (bs' := [bO K h hw hq hs hf fr true gu tu, bD K hD h hi hb_ gd hd, bF K hf hm kd true ft be cr, bF K hb_ hbm 1 bak bt_ bbe bcr]) C ho 2 0 rfl rfl rfl 2 fX2_51 pX3_2 rfl rfl (Nat.le_of_ble_eq_true rfl) dX2_speak_64 rfl (fun H locs ho => ?_)
    have e_4 : bF K hf hm kd true ft be cr = bF K hf hm kd gd ft be cr := by rw [c_2]
    have ho : ow D vwCl A s.heap H locs [bO K h hw hq hs hf fr true gu tu, bD K hD h hi hb_ gd hd, bF K hf hm kd gd ft be cr, bF K hb_ hbm 1 bak bt_ bbe bcr] := by rw [← e_4]; exact ho
    refine lv_aload_n hx hb dX2_speak_67 rfl (lv_at hl 1 rfl) ?_
    refine lv_iconst (v := nI 0) hx hb dX2_speak_68 (by decide) ?_
    refine o_put (v := .int (nI 0)) (bs' := [bO K h hw hq hs hf fr true gu tu, bD K hD h hi hb_ false hd, bF K hf hm kd gd ft be cr, bF K hb_ hbm 1 bak bt_ bbe bcr]) C ho 1 0 rfl rfl rfl 3 fX2_48 pX2_3 rfl rfl (Nat.le_of_ble_eq_true rfl) dX2_speak_69 rfl (fun H locs ho => ?_)
    refine lv_aload_n hx hb dX2_speak_72 rfl (lv_at hl 1 rfl) ?_
    refine lv_iconst (v := nI 0) hx hb dX2_speak_73 (by decide) ?_
    refine o_put (v := .int (nI 0)) (bs' := [bO K h hw hq hs hf fr true gu tu, bD K hD h hi hb_ false false, bF K hf hm kd gd ft be cr, bF K hb_ hbm 1 bak bt_ bbe bcr]) C ho 1 0 rfl rfl rfl 4 fX2_36 pX2_4 rfl rfl (Nat.le_of_ble_eq_true rfl) dX2_speak_74 rfl (fun H locs ho => ?_)
    refine lv_aload_n hx hb dX2_speak_77 rfl (lv_at hl 0 rfl) ?_
    have ho : ow D vwCl A s.heap H locs [bD K hD h hi hb_ false false, bO K h hw hq hs hf fr true gu tu, bF K hf hm kd gd ft be cr, bF K hb_ hbm 1 bak bt_ bbe bcr] := ho.re [1, 0, 2, 3] 4 (by decide +kernel) rfl rfl
    exact o_aret hQ C (Or.inr ⟨_, rfl⟩) ho () rfl rfl (Nat.le_of_ble_eq_true rfl) (Nat.le_of_ble_eq_true rfl) dX2_speak_78

set_option maxHeartbeats 4000000 in
set_option maxRecDepth 100000 in
theorem c_Dev_speak1_2 (la : Launch) (D : va_G) (K : Nat → ClassId) (hD : Nat) (hi : Nat) (gd : Bool) (hd : Bool) (h : Nat) (hw : Nat) (hq : Nat) (hs : Nat) (hf : Nat) (fr : Nat) (gu : Bool) (tu : Bool) (as_ : Nat) (ls_ : List Nat) (gs_ : Nat → Int32) (hm : Nat) (kd : Nat) (ak : Bool) (ft : Bool) (be : Bool) (cr : Nat) (am : Nat) (lm : List Nat) (gm : Nat → Int32) (hb_ : Nat) (hbm : Nat) (bak : Bool) (bt_ : Bool) (bbe : Bool) (bcr : Nat) (q1 : fr < ls_.length) (q2 : ls_.length ≤ 41) (q3 : lm.length ≤ 63) : MT la D K yX2_speak cX2_speak 2 (some (.object "RadioPair$Frame")) (rmL 5 0 0) [.ref hD] [bD K hD h hi hb_ gd hd, bO K h hw hq hs hf fr false gu tu, bM K hs as_ 41 ls_ gs_, bF K hf hm kd ak ft be cr, bM K hm am 63 lm gm, bF K hb_ hbm 1 bak bt_ bbe bcr] (Nat → Int32) (fun v _ => v = some (.ref hf)) (fun u => [bD K hD h hi hb_ false false, bO K h hw hq hs hf (fr + nxt gu (ls_.length - fr)) true gu (!tu), bM K hs as_ 41 ls_ gs_, bF K hf hm (cond gu 3 4) gd (!tu) (decide (fr = 0)) cr, bM K hm am 63 (slN ls_ fr (nxt gu (ls_.length - fr))) u, bF K hb_ hbm 1 bak bt_ bbe bcr]) := by
  refine Mt.ofW [(0, .ref hD)] (by decide) rfl (Nat.le_of_ble_eq_true rfl) ?_
  intro p e s m args below meth c A ls H locs Qz hQ C hin hl ho
  have hx := C.1.1
  have hb := C.1.2.1
  refine lv_aload_n hx hb dX2_speak_0 rfl (lv_at hl 0 rfl) ?_
  refine o_get (v := .ref hb_) C ho 0 0 rfl rfl rfl 2 fX2_28 rfl dX2_speak_1 ?_
  refine o_get (v := .int (nI 1)) C ho 5 0 rfl rfl rfl 1 fX2_32 rfl dX2_speak_4 ?_
  refine lv_iconst (v := nI 2) hx hb dX2_speak_7 (by decide) ?_
  refine o_icmp_ne (tgt := 20) hx hb dX2_speak_8 (by decide) (by decide) (by decide) (fun _ => ?_) (fun c9 => absurd c9 (by decide))
  refine lv_aload_n hx hb dX2_speak_20 rfl (lv_at hl 0 rfl) ?_
  refine o_get (v := .ref h) C ho 0 0 rfl rfl rfl 0 fX2_12 rfl dX2_speak_21 ?_
  refine o_callV (wr := [bD K hD h hi hb_ gd hd, bF K hb_ hbm 1 bak bt_ bbe bcr]) (rest := []) (As := []) C (c_Out_loaded2 la D K h hw hq hs hf fr gu tu as_ ls_ gs_ hm kd ak ft be cr am lm gm (by first | omega | assumption | (simp only [List.length_append, List.length_cons, List.length_nil, List.length_modify, List.length_set, nb_len, rb_len, rbp_len, sl_len, slN_len, wh_len, wt_len, hd10_len, hdB_len, thr_len, ldp_len, ldB_len, tens_len, whz_len, majL_len, mf_len, tkL_len, ldY_len, fif_len, ldY_len]; omega) | decide) (by first | omega | assumption | (simp only [List.length_append, List.length_cons, List.length_nil, List.length_modify, List.length_set, nb_len, rb_len, rbp_len, sl_len, slN_len, wh_len, wt_len, hd10_len, hdB_len, thr_len, ldp_len, ldB_len, tens_len, whz_len, majL_len, mf_len, tkL_len, ldY_len, fif_len, ldY_len]; omega) | decide) (by first | omega | assumption | (simp only [List.length_append, List.length_cons, List.length_nil, List.length_modify, List.length_set, nb_len, rb_len, rbp_len, sl_len, slN_len, wh_len, wt_len, hd10_len, hdB_len, thr_len, ldp_len, ldB_len, tens_len, whz_len, majL_len, mf_len, tkL_len, ldY_len, fif_len, ldY_len]; omega) | decide)) kX2_40 vX7_loaded (by decide) rfl ho [1, 2, 3, 4, 0, 5] 6 (by decide +kernel) rfl rfl rfl rfl rfl hl.1 rfl (Nat.le_of_ble_eq_true rfl) dX2_speak_24 0 0 rfl rfl (by decide) (fun v u_1 H locs hq ho => ?_)
  obtain rfl := hq
  have ho : ow D vwCl A s.heap H locs [bO K h hw hq hs hf (fr + nxt gu (ls_.length - fr)) true gu (!tu), bM K hs as_ 41 ls_ gs_, bF K hf hm (cond gu 3 4) ak (!tu) (decide (fr = 0)) cr, bM K hm am 63 (slN ls_ fr (nxt gu (ls_.length - fr))) u_1, bD K hD h hi hb_ gd hd, bF K hb_ hbm 1 bak bt_ bbe bcr] := ho
  refine W.eq (g2 := F0 m 27 ls [.ref hf]) rfl ?_
  refine lv_astore_n (lv' := [(1, .ref hf), (0, .ref hD)]) hx hb dX2_speak_27 rfl hl (by decide) rfl (fun ls hl => ?_)
  refine lv_aload_n hx hb dX2_speak_28 rfl (lv_at hl 0 rfl) ?_
  refine lv_ifnonnull (tgt := 51) hx hb dX2_speak_29 (by decide) ?_
  refine lv_aload_n hx hb dX2_speak_51 rfl (lv_at hl 0 rfl) ?_
  refine lv_aload_n hx hb dX2_speak_52 rfl (lv_at hl 1 rfl) ?_
  refine o_get (v := .int (bI gd)) C ho 4 0 rfl rfl rfl 3 fX2_48 rfl dX2_speak_53 ?_
  refine o_ifb_eq (tgt := 63) hx hb dX2_speak_56 (by decide) (fun c_2 => ?_) (fun c_2 => ?_)
  · skip
    refine lv_iconst (v := nI 0) hx hb dX2_speak_63 (by decide) ?_
    refine o_put (v := .int (nI 0)) (bs' := [bO K h hw hq hs hf (fr + nxt gu (ls_.length - fr)) true gu (!tu), bM K hs as_ 41 ls_ gs_, bF K hf hm (cond gu 3 4) false (!tu) (decide (fr = 0)) cr, bM K hm am 63 (slN ls_ fr (nxt gu (ls_.length - fr))) u_1, bD K hD h hi hb_ gd hd, bF K hb_ hbm 1 bak bt_ bbe bcr]) C ho 2 0 rfl rfl rfl 2 fX2_51 pX3_2 rfl rfl (Nat.le_of_ble_eq_true rfl) dX2_speak_64 rfl (fun H locs ho => ?_)
    have e_3 : bF K hf hm (cond gu 3 4) false (!tu) (decide (fr = 0)) cr = bF K hf hm (cond gu 3 4) gd (!tu) (decide (fr = 0)) cr := by rw [c_2]
    have ho : ow D vwCl A s.heap H locs [bO K h hw hq hs hf (fr + nxt gu (ls_.length - fr)) true gu (!tu), bM K hs as_ 41 ls_ gs_, bF K hf hm (cond gu 3 4) gd (!tu) (decide (fr = 0)) cr, bM K hm am 63 (slN ls_ fr (nxt gu (ls_.length - fr))) u_1, bD K hD h hi hb_ gd hd, bF K hb_ hbm 1 bak bt_ bbe bcr] := by rw [← e_3]; exact ho
    refine lv_aload_n hx hb dX2_speak_67 rfl (lv_at hl 1 rfl) ?_
    refine lv_iconst (v := nI 0) hx hb dX2_speak_68 (by decide) ?_
    refine o_put (v := .int (nI 0)) (bs' := [bO K h hw hq hs hf (fr + nxt gu (ls_.length - fr)) true gu (!tu), bM K hs as_ 41 ls_ gs_, bF K hf hm (cond gu 3 4) gd (!tu) (decide (fr = 0)) cr, bM K hm am 63 (slN ls_ fr (nxt gu (ls_.length - fr))) u_1, bD K hD h hi hb_ false hd, bF K hb_ hbm 1 bak bt_ bbe bcr]) C ho 4 0 rfl rfl rfl 3 fX2_48 pX2_3 rfl rfl (Nat.le_of_ble_eq_true rfl) dX2_speak_69 rfl (fun H locs ho => ?_)
    refine lv_aload_n hx hb dX2_speak_72 rfl (lv_at hl 1 rfl) ?_
    refine lv_iconst (v := nI 0) hx hb dX2_speak_73 (by decide) ?_
    refine o_put (v := .int (nI 0)) (bs' := [bO K h hw hq hs hf (fr + nxt gu (ls_.length - fr)) true gu (!tu), bM K hs as_ 41 ls_ gs_, bF K hf hm (cond gu 3 4) gd (!tu) (decide (fr = 0)) cr, bM K hm am 63 (slN ls_ fr (nxt gu (ls_.length - fr))) u_1, bD K hD h hi hb_ false false, bF K hb_ hbm 1 bak bt_ bbe bcr]) C ho 4 0 rfl rfl rfl 4 fX2_36 pX2_4 rfl rfl (Nat.le_of_ble_eq_true rfl) dX2_speak_74 rfl (fun H locs ho => ?_)
    refine lv_aload_n hx hb dX2_speak_77 rfl (lv_at hl 0 rfl) ?_
    have ho : ow D vwCl A s.heap H locs [bD K hD h hi hb_ false false, bO K h hw hq hs hf (fr + nxt gu (ls_.length - fr)) true gu (!tu), bM K hs as_ 41 ls_ gs_, bF K hf hm (cond gu 3 4) gd (!tu) (decide (fr = 0)) cr, bM K hm am 63 (slN ls_ fr (nxt gu (ls_.length - fr))) u_1, bF K hb_ hbm 1 bak bt_ bbe bcr] := ho.re [4, 0, 1, 2, 3, 5] 6 (by decide +kernel) rfl rfl
    exact o_aret hQ C (Or.inr ⟨_, rfl⟩) ho u_1 rfl rfl (Nat.le_of_ble_eq_true rfl) (Nat.le_of_ble_eq_true rfl) dX2_speak_78
  · skip
    refine lv_iconst (v := nI 1) hx hb dX2_speak_59 (by decide) ?_
    refine lv_goto (tgt := 64) hx hb dX2_speak_60 (by decide) ?_
    refine o_put (v := .int (nI 1)) (bs' := [bO K h hw hq hs hf (fr + nxt gu (ls_.length - fr)) true gu (!tu), bM K hs as_ 41 ls_ gs_, bF K hf hm (cond gu 3 4) true (!tu) (decide (fr = 0)) cr, bM K hm am 63 (slN ls_ fr (nxt gu (ls_.length - fr))) u_1, bD K hD h hi hb_ gd hd, bF K hb_ hbm 1 bak bt_ bbe bcr]) C ho 2 0 rfl rfl rfl 2 fX2_51 pX3_2 rfl rfl (Nat.le_of_ble_eq_true rfl) dX2_speak_64 rfl (fun H locs ho => ?_)
    have e_4 : bF K hf hm (cond gu 3 4) true (!tu) (decide (fr = 0)) cr = bF K hf hm (cond gu 3 4) gd (!tu) (decide (fr = 0)) cr := by rw [c_2]
    have ho : ow D vwCl A s.heap H locs [bO K h hw hq hs hf (fr + nxt gu (ls_.length - fr)) true gu (!tu), bM K hs as_ 41 ls_ gs_, bF K hf hm (cond gu 3 4) gd (!tu) (decide (fr = 0)) cr, bM K hm am 63 (slN ls_ fr (nxt gu (ls_.length - fr))) u_1, bD K hD h hi hb_ gd hd, bF K hb_ hbm 1 bak bt_ bbe bcr] := by rw [← e_4]; exact ho
    refine lv_aload_n hx hb dX2_speak_67 rfl (lv_at hl 1 rfl) ?_
    refine lv_iconst (v := nI 0) hx hb dX2_speak_68 (by decide) ?_
    refine o_put (v := .int (nI 0)) (bs' := [bO K h hw hq hs hf (fr + nxt gu (ls_.length - fr)) true gu (!tu), bM K hs as_ 41 ls_ gs_, bF K hf hm (cond gu 3 4) gd (!tu) (decide (fr = 0)) cr, bM K hm am 63 (slN ls_ fr (nxt gu (ls_.length - fr))) u_1, bD K hD h hi hb_ false hd, bF K hb_ hbm 1 bak bt_ bbe bcr]) C ho 4 0 rfl rfl rfl 3 fX2_48 pX2_3 rfl rfl (Nat.le_of_ble_eq_true rfl) dX2_speak_69 rfl (fun H locs ho => ?_)
    refine lv_aload_n hx hb dX2_speak_72 rfl (lv_at hl 1 rfl) ?_
    refine lv_iconst (v := nI 0) hx hb dX2_speak_73 (by decide) ?_
    refine o_put (v := .int (nI 0)) (bs' := [bO K h hw hq hs hf (fr + nxt gu (ls_.length - fr)) true gu (!tu), bM K hs as_ 41 ls_ gs_, bF K hf hm (cond gu 3 4) gd (!tu) (decide (fr = 0)) cr, bM K hm am 63 (slN ls_ fr (nxt gu (ls_.length - fr))) u_1, bD K hD h hi hb_ false false, bF K hb_ hbm 1 bak bt_ bbe bcr]) C ho 4 0 rfl rfl rfl 4 fX2_36 pX2_4 rfl rfl (Nat.le_of_ble_eq_true rfl) dX2_speak_74 rfl (fun H locs ho => ?_)
    refine lv_aload_n hx hb dX2_speak_77 rfl (lv_at hl 0 rfl) ?_
    have ho : ow D vwCl A s.heap H locs [bD K hD h hi hb_ false false, bO K h hw hq hs hf (fr + nxt gu (ls_.length - fr)) true gu (!tu), bM K hs as_ 41 ls_ gs_, bF K hf hm (cond gu 3 4) gd (!tu) (decide (fr = 0)) cr, bM K hm am 63 (slN ls_ fr (nxt gu (ls_.length - fr))) u_1, bF K hb_ hbm 1 bak bt_ bbe bcr] := ho.re [4, 0, 1, 2, 3, 5] 6 (by decide +kernel) rfl rfl
    exact o_aret hQ C (Or.inr ⟨_, rfl⟩) ho u_1 rfl rfl (Nat.le_of_ble_eq_true rfl) (Nat.le_of_ble_eq_true rfl) dX2_speak_78

set_option maxHeartbeats 4000000 in
set_option maxRecDepth 100000 in
theorem c_Dev_speak1_3 (la : Launch) (D : va_G) (K : Nat → ClassId) (hD : Nat) (hi : Nat) (gd : Bool) (hd : Bool) (h : Nat) (hw : Nat) (hq : Nat) (hs : Nat) (hf : Nat) (fr : Nat) (gu : Bool) (tu : Bool) (q : Nat) (mh : Nat → Nat) (fi : Nat) (sz : Nat) (ma : Nat → Nat) (ml : Nat → List Nat) (mg : Nat → Nat → Int32) (as_ : Nat) (ls_ : List Nat) (gs_ : Nat → Int32) (hm : Nat) (kd : Nat) (ak : Bool) (ft : Bool) (be : Bool) (cr : Nat) (am : Nat) (lm : List Nat) (gm : Nat → Int32) (hb_ : Nat) (hbm : Nat) (bak : Bool) (bt_ : Bool) (bbe : Bool) (bcr : Nat) (q1 : fr = ls_.length) (q2 : ls_.length ≤ 41) (q3 : lm.length ≤ 63) (q0 : 0 < sz) (q6 : sz ≤ 6) (qf : fi < 6) (qm : (ml fi).length ≤ 40) : MT la D K yX2_speak cX2_speak 2 (some (.object "RadioPair$Frame")) (rmL 5 0 0) [.ref hD] [bD K hD h hi hb_ gd hd, bO K h hw hq hs hf fr false gu tu, bH K hq q mh fi sz, bPool K mh ma 40 ml mg, bM K hs as_ 41 ls_ gs_, bF K hf hm kd ak ft be cr, bM K hm am 63 lm gm, bF K hb_ hbm 1 bak bt_ bbe bcr] ((Nat → Int32) × (Nat → Int32)) (fun v _ => v = some (.ref hf)) (fun u => [bD K hD h hi hb_ false false, bO K h hw hq hs hf (0 + nxt gu ((ml fi).length + 1)) true gu (!tu), bH K hq q mh ((fi + 1) % 6) (sz - 1), bPool K mh ma 40 ml mg, bM K hs as_ 41 ((ml fi).length :: ml fi) u.1, bF K hf hm (cond gu 3 4) gd (!tu) (decide (0 = 0)) cr, bM K hm am 63 (slN ((ml fi).length :: ml fi) 0 (nxt gu ((ml fi).length + 1))) u.2, bF K hb_ hbm 1 bak bt_ bbe bcr]) := by
  refine Mt.ofW [(0, .ref hD)] (by decide) rfl (Nat.le_of_ble_eq_true rfl) ?_
  intro p e s m args below meth c A ls H locs Qz hQ C hin hl ho
  have hx := C.1.1
  have hb := C.1.2.1
  refine lv_aload_n hx hb dX2_speak_0 rfl (lv_at hl 0 rfl) ?_
  refine o_get (v := .ref hb_) C ho 0 0 rfl rfl rfl 2 fX2_28 rfl dX2_speak_1 ?_
  refine o_get (v := .int (nI 1)) C ho 7 0 rfl rfl rfl 1 fX2_32 rfl dX2_speak_4 ?_
  refine lv_iconst (v := nI 2) hx hb dX2_speak_7 (by decide) ?_
  refine o_icmp_ne (tgt := 20) hx hb dX2_speak_8 (by decide) (by decide) (by decide) (fun _ => ?_) (fun c9 => absurd c9 (by decide))
  refine lv_aload_n hx hb dX2_speak_20 rfl (lv_at hl 0 rfl) ?_
  refine o_get (v := .ref h) C ho 0 0 rfl rfl rfl 0 fX2_12 rfl dX2_speak_21 ?_
  refine o_callV (wr := [bD K hD h hi hb_ gd hd, bF K hb_ hbm 1 bak bt_ bbe bcr]) (rest := []) (As := []) C (c_Out_loaded3 la D K h hw hq hs hf fr gu tu q mh fi sz ma ml mg as_ ls_ gs_ hm kd ak ft be cr am lm gm (by first | omega | assumption | (simp only [List.length_append, List.length_cons, List.length_nil, List.length_modify, List.length_set, nb_len, rb_len, rbp_len, sl_len, slN_len, wh_len, wt_len, hd10_len, hdB_len, thr_len, ldp_len, ldB_len, tens_len, whz_len, majL_len, mf_len, tkL_len, ldY_len, fif_len, ldY_len]; omega) | decide) (by first | omega | assumption | (simp only [List.length_append, List.length_cons, List.length_nil, List.length_modify, List.length_set, nb_len, rb_len, rbp_len, sl_len, slN_len, wh_len, wt_len, hd10_len, hdB_len, thr_len, ldp_len, ldB_len, tens_len, whz_len, majL_len, mf_len, tkL_len, ldY_len, fif_len, ldY_len]; omega) | decide) (by first | omega | assumption | (simp only [List.length_append, List.length_cons, List.length_nil, List.length_modify, List.length_set, nb_len, rb_len, rbp_len, sl_len, slN_len, wh_len, wt_len, hd10_len, hdB_len, thr_len, ldp_len, ldB_len, tens_len, whz_len, majL_len, mf_len, tkL_len, ldY_len, fif_len, ldY_len]; omega) | decide) (by first | omega | assumption | (simp only [List.length_append, List.length_cons, List.length_nil, List.length_modify, List.length_set, nb_len, rb_len, rbp_len, sl_len, slN_len, wh_len, wt_len, hd10_len, hdB_len, thr_len, ldp_len, ldB_len, tens_len, whz_len, majL_len, mf_len, tkL_len, ldY_len, fif_len, ldY_len]; omega) | decide) (by first | omega | assumption | (simp only [List.length_append, List.length_cons, List.length_nil, List.length_modify, List.length_set, nb_len, rb_len, rbp_len, sl_len, slN_len, wh_len, wt_len, hd10_len, hdB_len, thr_len, ldp_len, ldB_len, tens_len, whz_len, majL_len, mf_len, tkL_len, ldY_len, fif_len, ldY_len]; omega) | decide) (by first | omega | assumption | (simp only [List.length_append, List.length_cons, List.length_nil, List.length_modify, List.length_set, nb_len, rb_len, rbp_len, sl_len, slN_len, wh_len, wt_len, hd10_len, hdB_len, thr_len, ldp_len, ldB_len, tens_len, whz_len, majL_len, mf_len, tkL_len, ldY_len, fif_len, ldY_len]; omega) | decide) (by first | omega | assumption | (simp only [List.length_append, List.length_cons, List.length_nil, List.length_modify, List.length_set, nb_len, rb_len, rbp_len, sl_len, slN_len, wh_len, wt_len, hd10_len, hdB_len, thr_len, ldp_len, ldB_len, tens_len, whz_len, majL_len, mf_len, tkL_len, ldY_len, fif_len, ldY_len]; omega) | decide)) kX2_40 vX7_loaded (by decide) rfl ho [1, 2, 3, 4, 5, 6, 0, 7] 8 (by decide +kernel) rfl rfl rfl rfl rfl hl.1 rfl (Nat.le_of_ble_eq_true rfl) dX2_speak_24 0 0 rfl rfl (by decide) (fun v u_1 H locs hq ho => ?_)
  obtain rfl := hq
  have ho : ow D vwCl A s.heap H locs [bO K h hw hq hs hf (0 + nxt gu ((ml fi).length + 1)) true gu (!tu), bH K hq q mh ((fi + 1) % 6) (sz - 1), bPool K mh ma 40 ml mg, bM K hs as_ 41 ((ml fi).length :: ml fi) u_1.1, bF K hf hm (cond gu 3 4) ak (!tu) (decide (0 = 0)) cr, bM K hm am 63 (slN ((ml fi).length :: ml fi) 0 (nxt gu ((ml fi).length + 1))) u_1.2, bD K hD h hi hb_ gd hd, bF K hb_ hbm 1 bak bt_ bbe bcr] := ho
  refine W.eq (g2 := F0 m 27 ls [.ref hf]) rfl ?_
  refine lv_astore_n (lv' := [(1, .ref hf), (0, .ref hD)]) hx hb dX2_speak_27 rfl hl (by decide) rfl (fun ls hl => ?_)
  refine lv_aload_n hx hb dX2_speak_28 rfl (lv_at hl 0 rfl) ?_
  refine lv_ifnonnull (tgt := 51) hx hb dX2_speak_29 (by decide) ?_
  refine lv_aload_n hx hb dX2_speak_51 rfl (lv_at hl 0 rfl) ?_
  refine lv_aload_n hx hb dX2_speak_52 rfl (lv_at hl 1 rfl) ?_
  refine o_get (v := .int (bI gd)) C ho 6 0 rfl rfl rfl 3 fX2_48 rfl dX2_speak_53 ?_
  refine o_ifb_eq (tgt := 63) hx hb dX2_speak_56 (by decide) (fun c_2 => ?_) (fun c_2 => ?_)
  · skip
    refine lv_iconst (v := nI 0) hx hb dX2_speak_63 (by decide) ?_
    refine o_put (v := .int (nI 0)) (bs' := [bO K h hw hq hs hf (0 + nxt gu ((ml fi).length + 1)) true gu (!tu), bH K hq q mh ((fi + 1) % 6) (sz - 1), bPool K mh ma 40 ml mg, bM K hs as_ 41 ((ml fi).length :: ml fi) u_1.1, bF K hf hm (cond gu 3 4) false (!tu) (decide (0 = 0)) cr, bM K hm am 63 (slN ((ml fi).length :: ml fi) 0 (nxt gu ((ml fi).length + 1))) u_1.2, bD K hD h hi hb_ gd hd, bF K hb_ hbm 1 bak bt_ bbe bcr]) C ho 4 0 rfl rfl rfl 2 fX2_51 pX3_2 rfl rfl (Nat.le_of_ble_eq_true rfl) dX2_speak_64 rfl (fun H locs ho => ?_)
    have e_3 : bF K hf hm (cond gu 3 4) false (!tu) (decide (0 = 0)) cr = bF K hf hm (cond gu 3 4) gd (!tu) (decide (0 = 0)) cr := by rw [c_2]
    have ho : ow D vwCl A s.heap H locs [bO K h hw hq hs hf (0 + nxt gu ((ml fi).length + 1)) true gu (!tu), bH K hq q mh ((fi + 1) % 6) (sz - 1), bPool K mh ma 40 ml mg, bM K hs as_ 41 ((ml fi).length :: ml fi) u_1.1, bF K hf hm (cond gu 3 4) gd (!tu) (decide (0 = 0)) cr, bM K hm am 63 (slN ((ml fi).length :: ml fi) 0 (nxt gu ((ml fi).length + 1))) u_1.2, bD K hD h hi hb_ gd hd, bF K hb_ hbm 1 bak bt_ bbe bcr] := by rw [← e_3]; exact ho
    refine lv_aload_n hx hb dX2_speak_67 rfl (lv_at hl 1 rfl) ?_
    refine lv_iconst (v := nI 0) hx hb dX2_speak_68 (by decide) ?_
    refine o_put (v := .int (nI 0)) (bs' := [bO K h hw hq hs hf (0 + nxt gu ((ml fi).length + 1)) true gu (!tu), bH K hq q mh ((fi + 1) % 6) (sz - 1), bPool K mh ma 40 ml mg, bM K hs as_ 41 ((ml fi).length :: ml fi) u_1.1, bF K hf hm (cond gu 3 4) gd (!tu) (decide (0 = 0)) cr, bM K hm am 63 (slN ((ml fi).length :: ml fi) 0 (nxt gu ((ml fi).length + 1))) u_1.2, bD K hD h hi hb_ false hd, bF K hb_ hbm 1 bak bt_ bbe bcr]) C ho 6 0 rfl rfl rfl 3 fX2_48 pX2_3 rfl rfl (Nat.le_of_ble_eq_true rfl) dX2_speak_69 rfl (fun H locs ho => ?_)
    refine lv_aload_n hx hb dX2_speak_72 rfl (lv_at hl 1 rfl) ?_
    refine lv_iconst (v := nI 0) hx hb dX2_speak_73 (by decide) ?_
    refine o_put (v := .int (nI 0)) (bs' := [bO K h hw hq hs hf (0 + nxt gu ((ml fi).length + 1)) true gu (!tu), bH K hq q mh ((fi + 1) % 6) (sz - 1), bPool K mh ma 40 ml mg, bM K hs as_ 41 ((ml fi).length :: ml fi) u_1.1, bF K hf hm (cond gu 3 4) gd (!tu) (decide (0 = 0)) cr, bM K hm am 63 (slN ((ml fi).length :: ml fi) 0 (nxt gu ((ml fi).length + 1))) u_1.2, bD K hD h hi hb_ false false, bF K hb_ hbm 1 bak bt_ bbe bcr]) C ho 6 0 rfl rfl rfl 4 fX2_36 pX2_4 rfl rfl (Nat.le_of_ble_eq_true rfl) dX2_speak_74 rfl (fun H locs ho => ?_)
    refine lv_aload_n hx hb dX2_speak_77 rfl (lv_at hl 0 rfl) ?_
    have ho : ow D vwCl A s.heap H locs [bD K hD h hi hb_ false false, bO K h hw hq hs hf (0 + nxt gu ((ml fi).length + 1)) true gu (!tu), bH K hq q mh ((fi + 1) % 6) (sz - 1), bPool K mh ma 40 ml mg, bM K hs as_ 41 ((ml fi).length :: ml fi) u_1.1, bF K hf hm (cond gu 3 4) gd (!tu) (decide (0 = 0)) cr, bM K hm am 63 (slN ((ml fi).length :: ml fi) 0 (nxt gu ((ml fi).length + 1))) u_1.2, bF K hb_ hbm 1 bak bt_ bbe bcr] := ho.re [6, 0, 1, 2, 3, 4, 5, 7] 8 (by decide +kernel) rfl rfl
    exact o_aret hQ C (Or.inr ⟨_, rfl⟩) ho (u_1.1, u_1.2) rfl (by dsimp only [gs, List.getD_cons_zero, List.getD_cons_succ] <;> rfl) (Nat.le_of_ble_eq_true rfl) (Nat.le_of_ble_eq_true rfl) dX2_speak_78
  · skip
    refine lv_iconst (v := nI 1) hx hb dX2_speak_59 (by decide) ?_
    refine lv_goto (tgt := 64) hx hb dX2_speak_60 (by decide) ?_
    refine o_put (v := .int (nI 1)) (bs' := [bO K h hw hq hs hf (0 + nxt gu ((ml fi).length + 1)) true gu (!tu), bH K hq q mh ((fi + 1) % 6) (sz - 1), bPool K mh ma 40 ml mg, bM K hs as_ 41 ((ml fi).length :: ml fi) u_1.1, bF K hf hm (cond gu 3 4) true (!tu) (decide (0 = 0)) cr, bM K hm am 63 (slN ((ml fi).length :: ml fi) 0 (nxt gu ((ml fi).length + 1))) u_1.2, bD K hD h hi hb_ gd hd, bF K hb_ hbm 1 bak bt_ bbe bcr]) C ho 4 0 rfl rfl rfl 2 fX2_51 pX3_2 rfl rfl (Nat.le_of_ble_eq_true rfl) dX2_speak_64 rfl (fun H locs ho => ?_)
    have e_4 : bF K hf hm (cond gu 3 4) true (!tu) (decide (0 = 0)) cr = bF K hf hm (cond gu 3 4) gd (!tu) (decide (0 = 0)) cr := by rw [c_2]
    have ho : ow D vwCl A s.heap H locs [bO K h hw hq hs hf (0 + nxt gu ((ml fi).length + 1)) true gu (!tu), bH K hq q mh ((fi + 1) % 6) (sz - 1), bPool K mh ma 40 ml mg, bM K hs as_ 41 ((ml fi).length :: ml fi) u_1.1, bF K hf hm (cond gu 3 4) gd (!tu) (decide (0 = 0)) cr, bM K hm am 63 (slN ((ml fi).length :: ml fi) 0 (nxt gu ((ml fi).length + 1))) u_1.2, bD K hD h hi hb_ gd hd, bF K hb_ hbm 1 bak bt_ bbe bcr] := by rw [← e_4]; exact ho
    refine lv_aload_n hx hb dX2_speak_67 rfl (lv_at hl 1 rfl) ?_
    refine lv_iconst (v := nI 0) hx hb dX2_speak_68 (by decide) ?_
    refine o_put (v := .int (nI 0)) (bs' := [bO K h hw hq hs hf (0 + nxt gu ((ml fi).length + 1)) true gu (!tu), bH K hq q mh ((fi + 1) % 6) (sz - 1), bPool K mh ma 40 ml mg, bM K hs as_ 41 ((ml fi).length :: ml fi) u_1.1, bF K hf hm (cond gu 3 4) gd (!tu) (decide (0 = 0)) cr, bM K hm am 63 (slN ((ml fi).length :: ml fi) 0 (nxt gu ((ml fi).length + 1))) u_1.2, bD K hD h hi hb_ false hd, bF K hb_ hbm 1 bak bt_ bbe bcr]) C ho 6 0 rfl rfl rfl 3 fX2_48 pX2_3 rfl rfl (Nat.le_of_ble_eq_true rfl) dX2_speak_69 rfl (fun H locs ho => ?_)
    refine lv_aload_n hx hb dX2_speak_72 rfl (lv_at hl 1 rfl) ?_
    refine lv_iconst (v := nI 0) hx hb dX2_speak_73 (by decide) ?_
    refine o_put (v := .int (nI 0)) (bs' := [bO K h hw hq hs hf (0 + nxt gu ((ml fi).length + 1)) true gu (!tu), bH K hq q mh ((fi + 1) % 6) (sz - 1), bPool K mh ma 40 ml mg, bM K hs as_ 41 ((ml fi).length :: ml fi) u_1.1, bF K hf hm (cond gu 3 4) gd (!tu) (decide (0 = 0)) cr, bM K hm am 63 (slN ((ml fi).length :: ml fi) 0 (nxt gu ((ml fi).length + 1))) u_1.2, bD K hD h hi hb_ false false, bF K hb_ hbm 1 bak bt_ bbe bcr]) C ho 6 0 rfl rfl rfl 4 fX2_36 pX2_4 rfl rfl (Nat.le_of_ble_eq_true rfl) dX2_speak_74 rfl (fun H locs ho => ?_)
    refine lv_aload_n hx hb dX2_speak_77 rfl (lv_at hl 0 rfl) ?_
    have ho : ow D vwCl A s.heap H locs [bD K hD h hi hb_ false false, bO K h hw hq hs hf (0 + nxt gu ((ml fi).length + 1)) true gu (!tu), bH K hq q mh ((fi + 1) % 6) (sz - 1), bPool K mh ma 40 ml mg, bM K hs as_ 41 ((ml fi).length :: ml fi) u_1.1, bF K hf hm (cond gu 3 4) gd (!tu) (decide (0 = 0)) cr, bM K hm am 63 (slN ((ml fi).length :: ml fi) 0 (nxt gu ((ml fi).length + 1))) u_1.2, bF K hb_ hbm 1 bak bt_ bbe bcr] := ho.re [6, 0, 1, 2, 3, 4, 5, 7] 8 (by decide +kernel) rfl rfl
    exact o_aret hQ C (Or.inr ⟨_, rfl⟩) ho (u_1.1, u_1.2) rfl (by dsimp only [gs, List.getD_cons_zero, List.getD_cons_succ] <;> rfl) (Nat.le_of_ble_eq_true rfl) (Nat.le_of_ble_eq_true rfl) dX2_speak_78

set_option maxHeartbeats 4000000 in
set_option maxRecDepth 100000 in
theorem c_Dev_speak1_4 (la : Launch) (D : va_G) (K : Nat → ClassId) (hD : Nat) (hi : Nat) (gd : Bool) (hd : Bool) (h : Nat) (hw : Nat) (hq : Nat) (hs : Nat) (hf : Nat) (fr : Nat) (gu : Bool) (tu : Bool) (q : Nat) (mh : Nat → Nat) (fi : Nat) (sz : Nat) (as_ : Nat) (ls_ : List Nat) (gs_ : Nat → Int32) (hb_ : Nat) (hbm : Nat) (bak : Bool) (bt_ : Bool) (bbe : Bool) (bcr : Nat) (q1 : fr = ls_.length) (q2 : ls_.length ≤ 41) (q0 : sz = 0) : MT la D K yX2_speak cX2_speak 2 (some (.object "RadioPair$Frame")) (rmL 4 0 0) [.ref hD] [bD K hD h hi hb_ gd hd, bO K h hw hq hs hf fr false gu tu, bH K hq q mh fi sz, bM K hs as_ 41 ls_ gs_, bF K hb_ hbm 1 bak bt_ bbe bcr] Unit (fun v _ => v = some (.ref hb_)) (fun _ => [bD K hD h hi hb_ false false, bO K h hw hq hs hf fr false gu tu, bH K hq q mh fi sz, bM K hs as_ 41 ls_ gs_, bF K hb_ hbm 1 gd tu bbe bcr]) := by
  refine Mt.ofW [(0, .ref hD)] (by decide) rfl (Nat.le_of_ble_eq_true rfl) ?_
  intro p e s m args below meth c A ls H locs Qz hQ C hin hl ho
  have hx := C.1.1
  have hb := C.1.2.1
  refine lv_aload_n hx hb dX2_speak_0 rfl (lv_at hl 0 rfl) ?_
  refine o_get (v := .ref hb_) C ho 0 0 rfl rfl rfl 2 fX2_28 rfl dX2_speak_1 ?_
  refine o_get (v := .int (nI 1)) C ho 4 0 rfl rfl rfl 1 fX2_32 rfl dX2_speak_4 ?_
  refine lv_iconst (v := nI 2) hx hb dX2_speak_7 (by decide) ?_
  refine o_icmp_ne (tgt := 20) hx hb dX2_speak_8 (by decide) (by decide) (by decide) (fun _ => ?_) (fun c9 => absurd c9 (by decide))
  refine lv_aload_n hx hb dX2_speak_20 rfl (lv_at hl 0 rfl) ?_
  refine o_get (v := .ref h) C ho 0 0 rfl rfl rfl 0 fX2_12 rfl dX2_speak_21 ?_
  refine o_callV (wr := [bD K hD h hi hb_ gd hd, bF K hb_ hbm 1 bak bt_ bbe bcr]) (rest := []) (As := []) C (c_Out_loaded4 la D K h hw hq hs hf fr gu tu q mh fi sz as_ ls_ gs_ (by first | omega | assumption | (simp only [List.length_append, List.length_cons, List.length_nil, List.length_modify, List.length_set, nb_len, rb_len, rbp_len, sl_len, slN_len, wh_len, wt_len, hd10_len, hdB_len, thr_len, ldp_len, ldB_len, tens_len, whz_len, majL_len, mf_len, tkL_len, ldY_len, fif_len, ldY_len]; omega) | decide) (by first | omega | assumption | (simp only [List.length_append, List.length_cons, List.length_nil, List.length_modify, List.length_set, nb_len, rb_len, rbp_len, sl_len, slN_len, wh_len, wt_len, hd10_len, hdB_len, thr_len, ldp_len, ldB_len, tens_len, whz_len, majL_len, mf_len, tkL_len, ldY_len, fif_len, ldY_len]; omega) | decide) (by first | omega | assumption | (simp only [List.length_append, List.length_cons, List.length_nil, List.length_modify, List.length_set, nb_len, rb_len, rbp_len, sl_len, slN_len, wh_len, wt_len, hd10_len, hdB_len, thr_len, ldp_len, ldB_len, tens_len, whz_len, majL_len, mf_len, tkL_len, ldY_len, fif_len, ldY_len]; omega) | decide)) kX2_40 vX7_loaded (by decide) rfl ho [1, 2, 3, 0, 4] 5 (by decide +kernel) rfl rfl rfl rfl rfl hl.1 rfl (Nat.le_of_ble_eq_true rfl) dX2_speak_24 0 0 rfl rfl (by decide) (fun v u_1 H locs hq ho => ?_)
  obtain rfl := hq
  have ho : ow D vwCl A s.heap H locs [bO K h hw hq hs hf fr false gu tu, bH K hq q mh fi sz, bM K hs as_ 41 ls_ gs_, bD K hD h hi hb_ gd hd, bF K hb_ hbm 1 bak bt_ bbe bcr] := ho
  refine W.eq (g2 := F0 m 27 ls [.null]) rfl ?_
  refine lv_astore_nN (lv' := [(1, .null), (0, .ref hD)]) hx hb dX2_speak_27 rfl hl (by decide) rfl (fun ls hl => ?_)
  refine lv_aload_nN hx hb dX2_speak_28 rfl (lv_at hl 0 rfl) ?_
  refine lv_ifnonnullN hx hb dX2_speak_29 ?_
  refine lv_aload_n hx hb dX2_speak_32 rfl (lv_at hl 1 rfl) ?_
  refine o_get (v := .ref hb_) C ho 3 0 rfl rfl rfl 2 fX2_28 rfl dX2_speak_33 ?_
  refine lv_aload_n hx hb dX2_speak_36 rfl (lv_at hl 1 rfl) ?_
  refine o_get (v := .ref h) C ho 3 0 rfl rfl rfl 0 fX2_12 rfl dX2_speak_37 ?_
  refine o_get (v := .int (bI tu)) C ho 0 0 rfl rfl rfl 7 fX2_44 rfl dX2_speak_40 ?_
  refine o_put (v := .int (bI tu)) (bs' := [bO K h hw hq hs hf fr false gu tu, bH K hq q mh fi sz, bM K hs as_ 41 ls_ gs_, bD K hD h hi hb_ gd hd, bF K hb_ hbm 1 bak tu bbe bcr]) C ho 4 0 rfl rfl rfl 3 fX2_47 pX3_3 rfl rfl (Nat.le_of_ble_eq_true rfl) dX2_speak_43 rfl (fun H locs ho => ?_)
  refine lv_aload_n hx hb dX2_speak_46 rfl (lv_at hl 1 rfl) ?_
  refine o_get (v := .ref hb_) C ho 3 0 rfl rfl rfl 2 fX2_28 rfl dX2_speak_47 ?_
  refine lv_astore_n (lv' := [(1, .ref hb_), (0, .ref hD)]) hx hb dX2_speak_50 rfl hl (by decide) rfl (fun ls hl => ?_)
  refine lv_aload_n hx hb dX2_speak_51 rfl (lv_at hl 0 rfl) ?_
  refine lv_aload_n hx hb dX2_speak_52 rfl (lv_at hl 1 rfl) ?_
  refine o_get (v := .int (bI gd)) C ho 3 0 rfl rfl rfl 3 fX2_48 rfl dX2_speak_53 ?_
  refine o_ifb_eq (tgt := 63) hx hb dX2_speak_56 (by decide) (fun c_2 => ?_) (fun c_2 => ?_)
  · skip
    refine lv_iconst (v := nI 0) hx hb dX2_speak_63 (by decide) ?_
    refine o_put (v := .int (nI 0)) (bs' := [bO K h hw hq hs hf fr false gu tu, bH K hq q mh fi sz, bM K hs as_ 41 ls_ gs_, bD K hD h hi hb_ gd hd, bF K hb_ hbm 1 false tu bbe bcr]) C ho 4 0 rfl rfl rfl 2 fX2_51 pX3_2 rfl rfl (Nat.le_of_ble_eq_true rfl) dX2_speak_64 rfl (fun H locs ho => ?_)
    have e_3 : bF K hb_ hbm 1 false tu bbe bcr = bF K hb_ hbm 1 gd tu bbe bcr := by rw [c_2]
    have ho : ow D vwCl A s.heap H locs [bO K h hw hq hs hf fr false gu tu, bH K hq q mh fi sz, bM K hs as_ 41 ls_ gs_, bD K hD h hi hb_ gd hd, bF K hb_ hbm 1 gd tu bbe bcr] := by rw [← e_3]; exact ho
    refine lv_aload_n hx hb dX2_speak_67 rfl (lv_at hl 1 rfl) ?_
    refine lv_iconst (v := nI 0) hx hb dX2_speak_68 (by decide) ?_
    refine o_put (v := .int (nI 0)) (bs' := [bO K h hw hq hs hf fr false gu tu, bH K hq q mh fi sz, bM K hs as_ 41 ls_ gs_, bD K hD h hi hb_ false hd, bF K hb_ hbm 1 gd tu bbe bcr]) C ho 3 0 rfl rfl rfl 3 fX2_48 pX2_3 rfl rfl (Nat.le_of_ble_eq_true rfl) dX2_speak_69 rfl (fun H locs ho => ?_)
    refine lv_aload_n hx hb dX2_speak_72 rfl (lv_at hl 1 rfl) ?_
    refine lv_iconst (v := nI 0) hx hb dX2_speak_73 (by decide) ?_
    refine o_put (v := .int (nI 0)) (bs' := [bO K h hw hq hs hf fr false gu tu, bH K hq q mh fi sz, bM K hs as_ 41 ls_ gs_, bD K hD h hi hb_ false false, bF K hb_ hbm 1 gd tu bbe bcr]) C ho 3 0 rfl rfl rfl 4 fX2_36 pX2_4 rfl rfl (Nat.le_of_ble_eq_true rfl) dX2_speak_74 rfl (fun H locs ho => ?_)
    refine lv_aload_n hx hb dX2_speak_77 rfl (lv_at hl 0 rfl) ?_
    have ho : ow D vwCl A s.heap H locs [bD K hD h hi hb_ false false, bO K h hw hq hs hf fr false gu tu, bH K hq q mh fi sz, bM K hs as_ 41 ls_ gs_, bF K hb_ hbm 1 gd tu bbe bcr] := ho.re [3, 0, 1, 2, 4] 5 (by decide +kernel) rfl rfl
    exact o_aret hQ C (Or.inr ⟨_, rfl⟩) ho () rfl rfl (Nat.le_of_ble_eq_true rfl) (Nat.le_of_ble_eq_true rfl) dX2_speak_78
  · skip
    refine lv_iconst (v := nI 1) hx hb dX2_speak_59 (by decide) ?_
    refine lv_goto (tgt := 64) hx hb dX2_speak_60 (by decide) ?_
    refine o_put (v := .int (nI 1)) (bs' := [bO K h hw hq hs hf fr false gu tu, bH K hq q mh fi sz, bM K hs as_ 41 ls_ gs_, bD K hD h hi hb_ gd hd, bF K hb_ hbm 1 true tu bbe bcr]) C ho 4 0 rfl rfl rfl 2 fX2_51 pX3_2 rfl rfl (Nat.le_of_ble_eq_true rfl) dX2_speak_64 rfl (fun H locs ho => ?_)
    have e_4 : bF K hb_ hbm 1 true tu bbe bcr = bF K hb_ hbm 1 gd tu bbe bcr := by rw [c_2]
    have ho : ow D vwCl A s.heap H locs [bO K h hw hq hs hf fr false gu tu, bH K hq q mh fi sz, bM K hs as_ 41 ls_ gs_, bD K hD h hi hb_ gd hd, bF K hb_ hbm 1 gd tu bbe bcr] := by rw [← e_4]; exact ho
    refine lv_aload_n hx hb dX2_speak_67 rfl (lv_at hl 1 rfl) ?_
    refine lv_iconst (v := nI 0) hx hb dX2_speak_68 (by decide) ?_
    refine o_put (v := .int (nI 0)) (bs' := [bO K h hw hq hs hf fr false gu tu, bH K hq q mh fi sz, bM K hs as_ 41 ls_ gs_, bD K hD h hi hb_ false hd, bF K hb_ hbm 1 gd tu bbe bcr]) C ho 3 0 rfl rfl rfl 3 fX2_48 pX2_3 rfl rfl (Nat.le_of_ble_eq_true rfl) dX2_speak_69 rfl (fun H locs ho => ?_)
    refine lv_aload_n hx hb dX2_speak_72 rfl (lv_at hl 1 rfl) ?_
    refine lv_iconst (v := nI 0) hx hb dX2_speak_73 (by decide) ?_
    refine o_put (v := .int (nI 0)) (bs' := [bO K h hw hq hs hf fr false gu tu, bH K hq q mh fi sz, bM K hs as_ 41 ls_ gs_, bD K hD h hi hb_ false false, bF K hb_ hbm 1 gd tu bbe bcr]) C ho 3 0 rfl rfl rfl 4 fX2_36 pX2_4 rfl rfl (Nat.le_of_ble_eq_true rfl) dX2_speak_74 rfl (fun H locs ho => ?_)
    refine lv_aload_n hx hb dX2_speak_77 rfl (lv_at hl 0 rfl) ?_
    have ho : ow D vwCl A s.heap H locs [bD K hD h hi hb_ false false, bO K h hw hq hs hf fr false gu tu, bH K hq q mh fi sz, bM K hs as_ 41 ls_ gs_, bF K hb_ hbm 1 gd tu bbe bcr] := ho.re [3, 0, 1, 2, 4] 5 (by decide +kernel) rfl rfl
    exact o_aret hQ C (Or.inr ⟨_, rfl⟩) ho () rfl rfl (Nat.le_of_ble_eq_true rfl) (Nat.le_of_ble_eq_true rfl) dX2_speak_78

set_option maxHeartbeats 4000000 in
set_option maxRecDepth 100000 in
theorem c_Dev_speak2_1 (la : Launch) (D : va_G) (K : Nat → ClassId) (hD : Nat) (hi : Nat) (gd : Bool) (h : Nat) (hw : Nat) (hq : Nat) (hs : Nat) (hf : Nat) (fr : Nat) (gu : Bool) (tu : Bool) (hm : Nat) (kd : Nat) (ak : Bool) (ft : Bool) (be : Bool) (cr : Nat) (hb_ : Nat) (hbm : Nat) (bak : Bool) (bt_ : Bool) (bbe : Bool) (bcr : Nat)  : MT la D K yX2_speak cX2_speak 2 (some (.object "RadioPair$Frame")) (rmL 2 0 0) [.ref hD] [bD K hD h hi hb_ gd true, bO K h hw hq hs hf fr true gu tu, bF K hf hm kd ak ft be cr, bF K hb_ hbm 2 bak bt_ bbe bcr] Unit (fun v _ => v = some (.ref hf)) (fun _ => [bD K hD h hi hb_ false false, bO K h hw hq hs hf fr true gu tu, bF K hf hm kd gd ft be cr, bF K hb_ hbm 2 bak bt_ bbe bcr]) := by
  refine Mt.ofW [(0, .ref hD)] (by decide) rfl (Nat.le_of_ble_eq_true rfl) ?_
  intro p e s m args below meth c A ls H locs Qz hQ C hin hl ho
  have hx := C.1.1
  have hb := C.1.2.1
  refine lv_aload_n hx hb dX2_speak_0 rfl (lv_at hl 0 rfl) ?_
  refine o_get (v := .ref hb_) C ho 0 0 rfl rfl rfl 2 fX2_28 rfl dX2_speak_1 ?_
  refine o_get (v := .int (nI 2)) C ho 3 0 rfl rfl rfl 1 fX2_32 rfl dX2_speak_4 ?_
  refine lv_iconst (v := nI 2) hx hb dX2_speak_7 (by decide) ?_
  refine o_icmp_ne (tgt := 20) hx hb dX2_speak_8 (by decide) (by decide) (by decide) (fun c9 => absurd c9 (by decide)) (fun _ => ?_)
  refine lv_aload_n hx hb dX2_speak_11 rfl (lv_at hl 0 rfl) ?_
  refine o_get (v := .int (bI true)) C ho 0 0 rfl rfl rfl 4 fX2_36 rfl dX2_speak_12 ?_
  refine o_ifb_ne (tgt := 20) hx hb dX2_speak_15 (by decide) (fun _ => ?_) (fun c9 => absurd c9 (by decide))
  refine lv_aload_n hx hb dX2_speak_20 rfl (lv_at hl 0 rfl) ?_
  refine o_get (v := .ref h) C ho 0 0 rfl rfl rfl 0 fX2_12 rfl dX2_speak_21 ?_
  refine o_callV (wr := [bD K hD h hi hb_ gd true, bF K hf hm kd ak ft be cr, bF K hb_ hbm 2 bak bt_ bbe bcr]) (rest := []) (As := []) C (c_Out_loaded1 la D K h hw hq hs hf fr gu tu ) kX2_40 vX7_loaded (by decide) rfl ho [1, 0, 2, 3] 4 (by decide +kernel) rfl rfl rfl rfl rfl hl.1 rfl (Nat.le_of_ble_eq_true rfl) dX2_speak_24 0 0 rfl rfl (by decide) (fun v u_1 H locs hq ho => ?_)
  obtain rfl := hq
  have ho : ow D vwCl A s.heap H locs [bO K h hw hq hs hf fr true gu tu, bD K hD h hi hb_ gd true, bF K hf hm kd ak ft be cr, bF K hb_ hbm 2 bak bt_ bbe bcr] := ho
  refine W.eq (g2 := F0 m 27 ls [.ref hf]) rfl ?_
  refine lv_astore_n (lv' := [(1, .ref hf), (0, .ref hD)]) hx hb dX2_speak_27 rfl hl (by decide) rfl (fun ls hl => ?_)
  refine lv_aload_n hx hb dX2_speak_28 rfl (lv_at hl 0 rfl) ?_
  refine lv_ifnonnull (tgt := 51) hx hb dX2_speak_29 (by decide) ?_
  refine lv_aload_n hx hb dX2_speak_51 rfl (lv_at hl 0 rfl) ?_
  refine lv_aload_n hx hb dX2_speak_52 rfl (lv_at hl 1 rfl) ?_
  refine o_get (v := .int (bI gd)) C ho 1 0 rfl rfl rfl 3 fX2_48 rfl dX2_speak_53 ?_
  refine o_ifb_eq (tgt := 63) hx hb dX2_speak_56 (by decide) (fun c_2 => ?_) (fun c_2 => ?_)
  · skip
    refine lv_iconst (v := nI 0) hx hb dX2_speak_63 (by decide) ?_
    refine o_put (v := .int (nI 0)) (bs' := [bO K h hw hq hs hf fr true gu tu, bD K hD h hi hb_ gd true, bF K hf hm kd false ft be cr, bF K hb_ hbm 2 bak bt_ bbe bcr]) C ho 2 0 rfl rfl rfl 2 fX2_51 pX3_2 rfl rfl (Nat.le_of_ble_eq_true rfl) dX2_speak_64 rfl (fun H locs ho => ?_)
    have e_3 : bF K hf hm kd false ft be cr = bF K hf hm kd gd ft be cr := by rw [c_2]
    have ho : ow D vwCl A s.heap H locs [bO K h hw hq hs hf fr true gu tu, bD K hD h hi hb_ gd true, bF K hf hm kd gd ft be cr, bF K hb_ hbm 2 bak bt_ bbe bcr] := by rw [← e_3]; exact ho
    refine lv_aload_n hx hb dX2_speak_67 rfl (lv_at hl 1 rfl) ?_
    refine lv_iconst (v := nI 0) hx hb dX2_speak_68 (by decide) ?_
    refine o_put (v := .int (nI 0)) (bs' := [bO K h hw hq hs hf fr true gu tu, bD K hD h hi hb_ false true, bF K hf hm kd gd ft be cr, bF K hb_ hbm 2 bak bt_ bbe bcr]) C ho 1 0 rfl rfl rfl 3 fX2_48 pX2_3 rfl rfl (Nat.le_of_ble_eq_true rfl) dX2_speak_69 rfl (fun H locs ho => ?_)
    refine lv_aload_n hx hb dX2_speak_72 rfl (lv_at hl 1 rfl) ?_
    refine lv_iconst (v := nI 0) hx hb dX2_speak_73 (by decide) ?_
    refine o_put (v := .int (nI 0)) (bs' := [bO K h hw hq hs hf fr true gu tu, bD K hD h hi hb_ false false, bF K hf hm kd gd ft be cr, bF K hb_ hbm 2 bak bt_ bbe bcr]) C ho 1 0 rfl rfl rfl 4 fX2_36 pX2_4 rfl rfl (Nat.le_of_ble_eq_true rfl) dX2_speak_74 rfl (fun H locs ho => ?_)
    refine lv_aload_n hx hb dX2_speak_77 rfl (lv_at hl 0 rfl) ?_
    have ho : ow D vwCl A s.heap H locs [bD K hD h hi hb_ false false, bO K h hw hq hs hf fr true gu tu, bF K hf hm kd gd ft be cr, bF K hb_ hbm 2 bak bt_ bbe bcr] := ho.re [1, 0, 2, 3] 4 (by decide +kernel) rfl rfl
    exact o_aret hQ C (Or.inr ⟨_, rfl⟩) ho () rfl rfl (Nat.le_of_ble_eq_true rfl) (Nat.le_of_ble_eq_true rfl) dX2_speak_78
  · skip
    refine lv_iconst (v := nI 1) hx hb dX2_speak_59 (by decide) ?_
    refine lv_goto (tgt := 64) hx hb dX2_speak_60 (by decide) ?_
    refine o_put (v := .int (nI 1)) (bs' := [bO K h hw hq hs hf fr true gu tu, bD K hD h hi hb_ gd true, bF K hf hm kd true ft be cr, bF K hb_ hbm 2 bak bt_ bbe bcr]) C ho 2 0 rfl rfl rfl 2 fX2_51 pX3_2 rfl rfl (Nat.le_of_ble_eq_true rfl) dX2_speak_64 rfl (fun H locs ho => ?_)
    have e_4 : bF K hf hm kd true ft be cr = bF K hf hm kd gd ft be cr := by rw [c_2]
    have ho : ow D vwCl A s.heap H locs [bO K h hw hq hs hf fr true gu tu, bD K hD h hi hb_ gd true, bF K hf hm kd gd ft be cr, bF K hb_ hbm 2 bak bt_ bbe bcr] := by rw [← e_4]; exact ho
    refine lv_aload_n hx hb dX2_speak_67 rfl (lv_at hl 1 rfl) ?_
    refine lv_iconst (v := nI 0) hx hb dX2_speak_68 (by decide) ?_
    refine o_put (v := .int (nI 0)) (bs' := [bO K h hw hq hs hf fr true gu tu, bD K hD h hi hb_ false true, bF K hf hm kd gd ft be cr, bF K hb_ hbm 2 bak bt_ bbe bcr]) C ho 1 0 rfl rfl rfl 3 fX2_48 pX2_3 rfl rfl (Nat.le_of_ble_eq_true rfl) dX2_speak_69 rfl (fun H locs ho => ?_)
    refine lv_aload_n hx hb dX2_speak_72 rfl (lv_at hl 1 rfl) ?_
    refine lv_iconst (v := nI 0) hx hb dX2_speak_73 (by decide) ?_
    refine o_put (v := .int (nI 0)) (bs' := [bO K h hw hq hs hf fr true gu tu, bD K hD h hi hb_ false false, bF K hf hm kd gd ft be cr, bF K hb_ hbm 2 bak bt_ bbe bcr]) C ho 1 0 rfl rfl rfl 4 fX2_36 pX2_4 rfl rfl (Nat.le_of_ble_eq_true rfl) dX2_speak_74 rfl (fun H locs ho => ?_)
    refine lv_aload_n hx hb dX2_speak_77 rfl (lv_at hl 0 rfl) ?_
    have ho : ow D vwCl A s.heap H locs [bD K hD h hi hb_ false false, bO K h hw hq hs hf fr true gu tu, bF K hf hm kd gd ft be cr, bF K hb_ hbm 2 bak bt_ bbe bcr] := ho.re [1, 0, 2, 3] 4 (by decide +kernel) rfl rfl
    exact o_aret hQ C (Or.inr ⟨_, rfl⟩) ho () rfl rfl (Nat.le_of_ble_eq_true rfl) (Nat.le_of_ble_eq_true rfl) dX2_speak_78

set_option maxHeartbeats 4000000 in
set_option maxRecDepth 100000 in
theorem c_Dev_speak2_2 (la : Launch) (D : va_G) (K : Nat → ClassId) (hD : Nat) (hi : Nat) (gd : Bool) (h : Nat) (hw : Nat) (hq : Nat) (hs : Nat) (hf : Nat) (fr : Nat) (gu : Bool) (tu : Bool) (as_ : Nat) (ls_ : List Nat) (gs_ : Nat → Int32) (hm : Nat) (kd : Nat) (ak : Bool) (ft : Bool) (be : Bool) (cr : Nat) (am : Nat) (lm : List Nat) (gm : Nat → Int32) (hb_ : Nat) (hbm : Nat) (bak : Bool) (bt_ : Bool) (bbe : Bool) (bcr : Nat) (q1 : fr < ls_.length) (q2 : ls_.length ≤ 41) (q3 : lm.length ≤ 63) : MT la D K yX2_speak cX2_speak 2 (some (.object "RadioPair$Frame")) (rmL 5 0 0) [.ref hD] [bD K hD h hi hb_ gd true, bO K h hw hq hs hf fr false gu tu, bM K hs as_ 41 ls_ gs_, bF K hf hm kd ak ft be cr, bM K hm am 63 lm gm, bF K hb_ hbm 2 bak bt_ bbe bcr] (Nat → Int32) (fun v _ => v = some (.ref hf)) (fun u => [bD K hD h hi hb_ false false, bO K h hw hq hs hf (fr + nxt gu (ls_.length - fr)) true gu (!tu), bM K hs as_ 41 ls_ gs_, bF K hf hm (cond gu 3 4) gd (!tu) (decide (fr = 0)) cr, bM K hm am 63 (slN ls_ fr (nxt gu (ls_.length - fr))) u, bF K hb_ hbm 2 bak bt_ bbe bcr]) := by
  refine Mt.ofW [(0, .ref hD)] (by decide) rfl (Nat.le_of_ble_eq_true rfl) ?_
  intro p e s m args below meth c A ls H locs Qz hQ C hin hl ho
  have hx := C.1.1
  have hb := C.1.2.1
  refine lv_aload_n hx hb dX2_speak_0 rfl (lv_at hl 0 rfl) ?_
  refine o_get (v := .ref hb_) C ho 0 0 rfl rfl rfl 2 fX2_28 rfl dX2_speak_1 ?_
  refine o_get (v := .int (nI 2)) C ho 5 0 rfl rfl rfl 1 fX2_32 rfl dX2_speak_4 ?_
  refine lv_iconst (v := nI 2) hx hb dX2_speak_7 (by decide) ?_
  refine o_icmp_ne (tgt := 20) hx hb dX2_speak_8 (by decide) (by decide) (by decide) (fun c9 => absurd c9 (by decide)) (fun _ => ?_)
  refine lv_aload_n hx hb dX2_speak_11 rfl (lv_at hl 0 rfl) ?_
  refine o_get (v := .int (bI true)) C ho 0 0 rfl rfl rfl 4 fX2_36 rfl dX2_speak_12 ?_
  refine o_ifb_ne (tgt := 20) hx hb dX2_speak_15 (by decide) (fun _ => ?_) (fun c9 => absurd c9 (by decide))
  refine lv_aload_n hx hb dX2_speak_20 rfl (lv_at hl 0 rfl) ?_
  refine o_get (v := .ref h) C ho 0 0 rfl rfl rfl 0 fX2_12 rfl dX2_speak_21 ?_
  refine o_callV (wr := [bD K hD h hi hb_ gd true, bF K hb_ hbm 2 bak bt_ bbe bcr]) (rest := []) (As := []) C (c_Out_loaded2 la D K h hw hq hs hf fr gu tu as_ ls_ gs_ hm kd ak ft be cr am lm gm (by first | omega | assumption | (simp only [List.length_append, List.length_cons, List.length_nil, List.length_modify, List.length_set, nb_len, rb_len, rbp_len, sl_len, slN_len, wh_len, wt_len, hd10_len, hdB_len, thr_len, ldp_len, ldB_len, tens_len, whz_len, majL_len, mf_len, tkL_len, ldY_len, fif_len, ldY_len]; omega) | decide) (by first | omega | assumption | (simp only [List.length_append, List.length_cons, List.length_nil, List.length_modify, List.length_set, nb_len, rb_len, rbp_len, sl_len, slN_len, wh_len, wt_len, hd10_len, hdB_len, thr_len, ldp_len, ldB_len, tens_len, whz_len, majL_len, mf_len, tkL_len, ldY_len, fif_len, ldY_len]; omega) | decide) (by first | omega | assumption | (simp only [List.length_append, List.length_cons, List.length_nil, List.length_modify, List.length_set, nb_len, rb_len, rbp_len, sl_len, slN_len, wh_len, wt_len, hd10_len, hdB_len, thr_len, ldp_len, ldB_len, tens_len, whz_len, majL_len, mf_len, tkL_len, ldY_len, fif_len, ldY_len]; omega) | decide)) kX2_40 vX7_loaded (by decide) rfl ho [1, 2, 3, 4, 0, 5] 6 (by decide +kernel) rfl rfl rfl rfl rfl hl.1 rfl (Nat.le_of_ble_eq_true rfl) dX2_speak_24 0 0 rfl rfl (by decide) (fun v u_1 H locs hq ho => ?_)
  obtain rfl := hq
  have ho : ow D vwCl A s.heap H locs [bO K h hw hq hs hf (fr + nxt gu (ls_.length - fr)) true gu (!tu), bM K hs as_ 41 ls_ gs_, bF K hf hm (cond gu 3 4) ak (!tu) (decide (fr = 0)) cr, bM K hm am 63 (slN ls_ fr (nxt gu (ls_.length - fr))) u_1, bD K hD h hi hb_ gd true, bF K hb_ hbm 2 bak bt_ bbe bcr] := ho
  refine W.eq (g2 := F0 m 27 ls [.ref hf]) rfl ?_
  refine lv_astore_n (lv' := [(1, .ref hf), (0, .ref hD)]) hx hb dX2_speak_27 rfl hl (by decide) rfl (fun ls hl => ?_)
  refine lv_aload_n hx hb dX2_speak_28 rfl (lv_at hl 0 rfl) ?_
  refine lv_ifnonnull (tgt := 51) hx hb dX2_speak_29 (by decide) ?_
  refine lv_aload_n hx hb dX2_speak_51 rfl (lv_at hl 0 rfl) ?_
  refine lv_aload_n hx hb dX2_speak_52 rfl (lv_at hl 1 rfl) ?_
  refine o_get (v := .int (bI gd)) C ho 4 0 rfl rfl rfl 3 fX2_48 rfl dX2_speak_53 ?_
  refine o_ifb_eq (tgt := 63) hx hb dX2_speak_56 (by decide) (fun c_2 => ?_) (fun c_2 => ?_)
  · skip
    refine lv_iconst (v := nI 0) hx hb dX2_speak_63 (by decide) ?_
    refine o_put (v := .int (nI 0)) (bs' := [bO K h hw hq hs hf (fr + nxt gu (ls_.length - fr)) true gu (!tu), bM K hs as_ 41 ls_ gs_, bF K hf hm (cond gu 3 4) false (!tu) (decide (fr = 0)) cr, bM K hm am 63 (slN ls_ fr (nxt gu (ls_.length - fr))) u_1, bD K hD h hi hb_ gd true, bF K hb_ hbm 2 bak bt_ bbe bcr]) C ho 2 0 rfl rfl rfl 2 fX2_51 pX3_2 rfl rfl (Nat.le_of_ble_eq_true rfl) dX2_speak_64 rfl (fun H locs ho => ?_)
    have e_3 : bF K hf hm (cond gu 3 4) false (!tu) (decide (fr = 0)) cr = bF K hf hm (cond gu 3 4) gd (!tu) (decide (fr = 0)) cr := by rw [c_2]
    have ho : ow D vwCl A s.heap H locs [bO K h hw hq hs hf (fr + nxt gu (ls_.length - fr)) true gu (!tu), bM K hs as_ 41 ls_ gs_, bF K hf hm (cond gu 3 4) gd (!tu) (decide (fr = 0)) cr, bM K hm am 63 (slN ls_ fr (nxt gu (ls_.length - fr))) u_1, bD K hD h hi hb_ gd true, bF K hb_ hbm 2 bak bt_ bbe bcr] := by rw [← e_3]; exact ho
    refine lv_aload_n hx hb dX2_speak_67 rfl (lv_at hl 1 rfl) ?_
    refine lv_iconst (v := nI 0) hx hb dX2_speak_68 (by decide) ?_
    refine o_put (v := .int (nI 0)) (bs' := [bO K h hw hq hs hf (fr + nxt gu (ls_.length - fr)) true gu (!tu), bM K hs as_ 41 ls_ gs_, bF K hf hm (cond gu 3 4) gd (!tu) (decide (fr = 0)) cr, bM K hm am 63 (slN ls_ fr (nxt gu (ls_.length - fr))) u_1, bD K hD h hi hb_ false true, bF K hb_ hbm 2 bak bt_ bbe bcr]) C ho 4 0 rfl rfl rfl 3 fX2_48 pX2_3 rfl rfl (Nat.le_of_ble_eq_true rfl) dX2_speak_69 rfl (fun H locs ho => ?_)
    refine lv_aload_n hx hb dX2_speak_72 rfl (lv_at hl 1 rfl) ?_
    refine lv_iconst (v := nI 0) hx hb dX2_speak_73 (by decide) ?_
    refine o_put (v := .int (nI 0)) (bs' := [bO K h hw hq hs hf (fr + nxt gu (ls_.length - fr)) true gu (!tu), bM K hs as_ 41 ls_ gs_, bF K hf hm (cond gu 3 4) gd (!tu) (decide (fr = 0)) cr, bM K hm am 63 (slN ls_ fr (nxt gu (ls_.length - fr))) u_1, bD K hD h hi hb_ false false, bF K hb_ hbm 2 bak bt_ bbe bcr]) C ho 4 0 rfl rfl rfl 4 fX2_36 pX2_4 rfl rfl (Nat.le_of_ble_eq_true rfl) dX2_speak_74 rfl (fun H locs ho => ?_)
    refine lv_aload_n hx hb dX2_speak_77 rfl (lv_at hl 0 rfl) ?_
    have ho : ow D vwCl A s.heap H locs [bD K hD h hi hb_ false false, bO K h hw hq hs hf (fr + nxt gu (ls_.length - fr)) true gu (!tu), bM K hs as_ 41 ls_ gs_, bF K hf hm (cond gu 3 4) gd (!tu) (decide (fr = 0)) cr, bM K hm am 63 (slN ls_ fr (nxt gu (ls_.length - fr))) u_1, bF K hb_ hbm 2 bak bt_ bbe bcr] := ho.re [4, 0, 1, 2, 3, 5] 6 (by decide +kernel) rfl rfl
    exact o_aret hQ C (Or.inr ⟨_, rfl⟩) ho u_1 rfl rfl (Nat.le_of_ble_eq_true rfl) (Nat.le_of_ble_eq_true rfl) dX2_speak_78
  · skip
    refine lv_iconst (v := nI 1) hx hb dX2_speak_59 (by decide) ?_
    refine lv_goto (tgt := 64) hx hb dX2_speak_60 (by decide) ?_
    refine o_put (v := .int (nI 1)) (bs' := [bO K h hw hq hs hf (fr + nxt gu (ls_.length - fr)) true gu (!tu), bM K hs as_ 41 ls_ gs_, bF K hf hm (cond gu 3 4) true (!tu) (decide (fr = 0)) cr, bM K hm am 63 (slN ls_ fr (nxt gu (ls_.length - fr))) u_1, bD K hD h hi hb_ gd true, bF K hb_ hbm 2 bak bt_ bbe bcr]) C ho 2 0 rfl rfl rfl 2 fX2_51 pX3_2 rfl rfl (Nat.le_of_ble_eq_true rfl) dX2_speak_64 rfl (fun H locs ho => ?_)
    have e_4 : bF K hf hm (cond gu 3 4) true (!tu) (decide (fr = 0)) cr = bF K hf hm (cond gu 3 4) gd (!tu) (decide (fr = 0)) cr := by rw [c_2]
    have ho : ow D vwCl A s.heap H locs [bO K h hw hq hs hf (fr + nxt gu (ls_.length - fr)) true gu (!tu), bM K hs as_ 41 ls_ gs_, bF K hf hm (cond gu 3 4) gd (!tu) (decide (fr = 0)) cr, bM K hm am 63 (slN ls_ fr (nxt gu (ls_.length - fr))) u_1, bD K hD h hi hb_ gd true, bF K hb_ hbm 2 bak bt_ bbe bcr] := by rw [← e_4]; exact ho
    refine lv_aload_n hx hb dX2_speak_67 rfl (lv_at hl 1 rfl) ?_
    refine lv_iconst (v := nI 0) hx hb dX2_speak_68 (by decide) ?_
    refine o_put (v := .int (nI 0)) (bs' := [bO K h hw hq hs hf (fr + nxt gu (ls_.length - fr)) true gu (!tu), bM K hs as_ 41 ls_ gs_, bF K hf hm (cond gu 3 4) gd (!tu) (decide (fr = 0)) cr, bM K hm am 63 (slN ls_ fr (nxt gu (ls_.length - fr))) u_1, bD K hD h hi hb_ false true, bF K hb_ hbm 2 bak bt_ bbe bcr]) C ho 4 0 rfl rfl rfl 3 fX2_48 pX2_3 rfl rfl (Nat.le_of_ble_eq_true rfl) dX2_speak_69 rfl (fun H locs ho => ?_)
    refine lv_aload_n hx hb dX2_speak_72 rfl (lv_at hl 1 rfl) ?_
    refine lv_iconst (v := nI 0) hx hb dX2_speak_73 (by decide) ?_
    refine o_put (v := .int (nI 0)) (bs' := [bO K h hw hq hs hf (fr + nxt gu (ls_.length - fr)) true gu (!tu), bM K hs as_ 41 ls_ gs_, bF K hf hm (cond gu 3 4) gd (!tu) (decide (fr = 0)) cr, bM K hm am 63 (slN ls_ fr (nxt gu (ls_.length - fr))) u_1, bD K hD h hi hb_ false false, bF K hb_ hbm 2 bak bt_ bbe bcr]) C ho 4 0 rfl rfl rfl 4 fX2_36 pX2_4 rfl rfl (Nat.le_of_ble_eq_true rfl) dX2_speak_74 rfl (fun H locs ho => ?_)
    refine lv_aload_n hx hb dX2_speak_77 rfl (lv_at hl 0 rfl) ?_
    have ho : ow D vwCl A s.heap H locs [bD K hD h hi hb_ false false, bO K h hw hq hs hf (fr + nxt gu (ls_.length - fr)) true gu (!tu), bM K hs as_ 41 ls_ gs_, bF K hf hm (cond gu 3 4) gd (!tu) (decide (fr = 0)) cr, bM K hm am 63 (slN ls_ fr (nxt gu (ls_.length - fr))) u_1, bF K hb_ hbm 2 bak bt_ bbe bcr] := ho.re [4, 0, 1, 2, 3, 5] 6 (by decide +kernel) rfl rfl
    exact o_aret hQ C (Or.inr ⟨_, rfl⟩) ho u_1 rfl rfl (Nat.le_of_ble_eq_true rfl) (Nat.le_of_ble_eq_true rfl) dX2_speak_78

set_option maxHeartbeats 4000000 in
set_option maxRecDepth 100000 in
theorem c_Dev_speak2_3 (la : Launch) (D : va_G) (K : Nat → ClassId) (hD : Nat) (hi : Nat) (gd : Bool) (h : Nat) (hw : Nat) (hq : Nat) (hs : Nat) (hf : Nat) (fr : Nat) (gu : Bool) (tu : Bool) (q : Nat) (mh : Nat → Nat) (fi : Nat) (sz : Nat) (ma : Nat → Nat) (ml : Nat → List Nat) (mg : Nat → Nat → Int32) (as_ : Nat) (ls_ : List Nat) (gs_ : Nat → Int32) (hm : Nat) (kd : Nat) (ak : Bool) (ft : Bool) (be : Bool) (cr : Nat) (am : Nat) (lm : List Nat) (gm : Nat → Int32) (hb_ : Nat) (hbm : Nat) (bak : Bool) (bt_ : Bool) (bbe : Bool) (bcr : Nat) (q1 : fr = ls_.length) (q2 : ls_.length ≤ 41) (q3 : lm.length ≤ 63) (q0 : 0 < sz) (q6 : sz ≤ 6) (qf : fi < 6) (qm : (ml fi).length ≤ 40) : MT la D K yX2_speak cX2_speak 2 (some (.object "RadioPair$Frame")) (rmL 5 0 0) [.ref hD] [bD K hD h hi hb_ gd true, bO K h hw hq hs hf fr false gu tu, bH K hq q mh fi sz, bPool K mh ma 40 ml mg, bM K hs as_ 41 ls_ gs_, bF K hf hm kd ak ft be cr, bM K hm am 63 lm gm, bF K hb_ hbm 2 bak bt_ bbe bcr] ((Nat → Int32) × (Nat → Int32)) (fun v _ => v = some (.ref hf)) (fun u => [bD K hD h hi hb_ false false, bO K h hw hq hs hf (0 + nxt gu ((ml fi).length + 1)) true gu (!tu), bH K hq q mh ((fi + 1) % 6) (sz - 1), bPool K mh ma 40 ml mg, bM K hs as_ 41 ((ml fi).length :: ml fi) u.1, bF K hf hm (cond gu 3 4) gd (!tu) (decide (0 = 0)) cr, bM K hm am 63 (slN ((ml fi).length :: ml fi) 0 (nxt gu ((ml fi).length + 1))) u.2, bF K hb_ hbm 2 bak bt_ bbe bcr]) := by
  refine Mt.ofW [(0, .ref hD)] (by decide) rfl (Nat.le_of_ble_eq_true rfl) ?_
  intro p e s m args below meth c A ls H locs Qz hQ C hin hl ho
  have hx := C.1.1
  have hb := C.1.2.1
  refine lv_aload_n hx hb dX2_speak_0 rfl (lv_at hl 0 rfl) ?_
  refine o_get (v := .ref hb_) C ho 0 0 rfl rfl rfl 2 fX2_28 rfl dX2_speak_1 ?_
  refine o_get (v := .int (nI 2)) C ho 7 0 rfl rfl rfl 1 fX2_32 rfl dX2_speak_4 ?_
  refine lv_iconst (v := nI 2) hx hb dX2_speak_7 (by decide) ?_
  refine o_icmp_ne (tgt := 20) hx hb dX2_speak_8 (by decide) (by decide) (by decide) (fun c9 => absurd c9 (by decide)) (fun _ => ?_)
  refine lv_aload_n hx hb dX2_speak_11 rfl (lv_at hl 0 rfl) ?_
  refine o_get (v := .int (bI true)) C ho 0 0 rfl rfl rfl 4 fX2_36 rfl dX2_speak_12 ?_
  refine o_ifb_ne (tgt := 20) hx hb dX2_speak_15 (by decide) (fun _ => ?_) (fun c9 => absurd c9 (by decide))
  refine lv_aload_n hx hb dX2_speak_20 rfl (lv_at hl 0 rfl) ?_
  refine o_get (v := .ref h) C ho 0 0 rfl rfl rfl 0 fX2_12 rfl dX2_speak_21 ?_
  refine o_callV (wr := [bD K hD h hi hb_ gd true, bF K hb_ hbm 2 bak bt_ bbe bcr]) (rest := []) (As := []) C (c_Out_loaded3 la D K h hw hq hs hf fr gu tu q mh fi sz ma ml mg as_ ls_ gs_ hm kd ak ft be cr am lm gm (by first | omega | assumption | (simp only [List.length_append, List.length_cons, List.length_nil, List.length_modify, List.length_set, nb_len, rb_len, rbp_len, sl_len, slN_len, wh_len, wt_len, hd10_len, hdB_len, thr_len, ldp_len, ldB_len, tens_len, whz_len, majL_len, mf_len, tkL_len, ldY_len, fif_len, ldY_len]; omega) | decide) (by first | omega | assumption | (simp only [List.length_append, List.length_cons, List.length_nil, List.length_modify, List.length_set, nb_len, rb_len, rbp_len, sl_len, slN_len, wh_len, wt_len, hd10_len, hdB_len, thr_len, ldp_len, ldB_len, tens_len, whz_len, majL_len, mf_len, tkL_len, ldY_len, fif_len, ldY_len]; omega) | decide) (by first | omega | assumption | (simp only [List.length_append, List.length_cons, List.length_nil, List.length_modify, List.length_set, nb_len, rb_len, rbp_len, sl_len, slN_len, wh_len, wt_len, hd10_len, hdB_len, thr_len, ldp_len, ldB_len, tens_len, whz_len, majL_len, mf_len, tkL_len, ldY_len, fif_len, ldY_len]; omega) | decide) (by first | omega | assumption | (simp only [List.length_append, List.length_cons, List.length_nil, List.length_modify, List.length_set, nb_len, rb_len, rbp_len, sl_len, slN_len, wh_len, wt_len, hd10_len, hdB_len, thr_len, ldp_len, ldB_len, tens_len, whz_len, majL_len, mf_len, tkL_len, ldY_len, fif_len, ldY_len]; omega) | decide) (by first | omega | assumption | (simp only [List.length_append, List.length_cons, List.length_nil, List.length_modify, List.length_set, nb_len, rb_len, rbp_len, sl_len, slN_len, wh_len, wt_len, hd10_len, hdB_len, thr_len, ldp_len, ldB_len, tens_len, whz_len, majL_len, mf_len, tkL_len, ldY_len, fif_len, ldY_len]; omega) | decide) (by first | omega | assumption | (simp only [List.length_append, List.length_cons, List.length_nil, List.length_modify, List.length_set, nb_len, rb_len, rbp_len, sl_len, slN_len, wh_len, wt_len, hd10_len, hdB_len, thr_len, ldp_len, ldB_len, tens_len, whz_len, majL_len, mf_len, tkL_len, ldY_len, fif_len, ldY_len]; omega) | decide) (by first | omega | assumption | (simp only [List.length_append, List.length_cons, List.length_nil, List.length_modify, List.length_set, nb_len, rb_len, rbp_len, sl_len, slN_len, wh_len, wt_len, hd10_len, hdB_len, thr_len, ldp_len, ldB_len, tens_len, whz_len, majL_len, mf_len, tkL_len, ldY_len, fif_len, ldY_len]; omega) | decide)) kX2_40 vX7_loaded (by decide) rfl ho [1, 2, 3, 4, 5, 6, 0, 7] 8 (by decide +kernel) rfl rfl rfl rfl rfl hl.1 rfl (Nat.le_of_ble_eq_true rfl) dX2_speak_24 0 0 rfl rfl (by decide) (fun v u_1 H locs hq ho => ?_)
  obtain rfl := hq
  have ho : ow D vwCl A s.heap H locs [bO K h hw hq hs hf (0 + nxt gu ((ml fi).length + 1)) true gu (!tu), bH K hq q mh ((fi + 1) % 6) (sz - 1), bPool K mh ma 40 ml mg, bM K hs as_ 41 ((ml fi).length :: ml fi) u_1.1, bF K hf hm (cond gu 3 4) ak (!tu) (decide (0 = 0)) cr, bM K hm am 63 (slN ((ml fi).length :: ml fi) 0 (nxt gu ((ml fi).length + 1))) u_1.2, bD K hD h hi hb_ gd true, bF K hb_ hbm 2 bak bt_ bbe bcr] := ho
  refine W.eq (g2 := F0 m 27 ls [.ref hf]) rfl ?_
  refine lv_astore_n (lv' := [(1, .ref hf), (0, .ref hD)]) hx hb dX2_speak_27 rfl hl (by decide) rfl (fun ls hl => ?_)
  refine lv_aload_n hx hb dX2_speak_28 rfl (lv_at hl 0 rfl) ?_
  refine lv_ifnonnull (tgt := 51) hx hb dX2_speak_29 (by decide) ?_
  refine lv_aload_n hx hb dX2_speak_51 rfl (lv_at hl 0 rfl) ?_
  refine lv_aload_n hx hb dX2_speak_52 rfl (lv_at hl 1 rfl) ?_
  refine o_get (v := .int (bI gd)) C ho 6 0 rfl rfl rfl 3 fX2_48 rfl dX2_speak_53 ?_
  refine o_ifb_eq (tgt := 63) hx hb dX2_speak_56 (by decide) (fun c_2 => ?_) (fun c_2 => ?_)
  · skip
    refine lv_iconst (v := nI 0) hx hb dX2_speak_63 (by decide) ?_
    refine o_put (v := .int (nI 0)) (bs' := [bO K h hw hq hs hf (0 + nxt gu ((ml fi).length + 1)) true gu (!tu), bH K hq q mh ((fi + 1) % 6) (sz - 1), bPool K mh ma 40 ml mg, bM K hs as_ 41 ((ml fi).length :: ml fi) u_1.1, bF K hf hm (cond gu 3 4) false (!tu) (decide (0 = 0)) cr, bM K hm am 63 (slN ((ml fi).length :: ml fi) 0 (nxt gu ((ml fi).length + 1))) u_1.2, bD K hD h hi hb_ gd true, bF K hb_ hbm 2 bak bt_ bbe bcr]) C ho 4 0 rfl rfl rfl 2 fX2_51 pX3_2 rfl rfl (Nat.le_of_ble_eq_true rfl) dX2_speak_64 rfl (fun H locs ho => ?_)
    have e_3 : bF K hf hm (cond gu 3 4) false (!tu) (decide (0 = 0)) cr = bF K hf hm (cond gu 3 4) gd (!tu) (decide (0 = 0)) cr := by rw [c_2]
    have ho : ow D vwCl A s.heap H locs [bO K h hw hq hs hf (0 + nxt gu ((ml fi).length + 1)) true gu (!tu), bH K hq q mh ((fi + 1) % 6) (sz - 1), bPool K mh ma 40 ml mg, bM K hs as_ 41 ((ml fi).length :: ml fi) u_1.1, bF K hf hm (cond gu 3 4) gd (!tu) (decide (0 = 0)) cr, bM K hm am 63 (slN ((ml fi).length :: ml fi) 0 (nxt gu ((ml fi).length + 1))) u_1.2, bD K hD h hi hb_ gd true, bF K hb_ hbm 2 bak bt_ bbe bcr] := by rw [← e_3]; exact ho
    refine lv_aload_n hx hb dX2_speak_67 rfl (lv_at hl 1 rfl) ?_
    refine lv_iconst (v := nI 0) hx hb dX2_speak_68 (by decide) ?_
    refine o_put (v := .int (nI 0)) (bs' := [bO K h hw hq hs hf (0 + nxt gu ((ml fi).length + 1)) true gu (!tu), bH K hq q mh ((fi + 1) % 6) (sz - 1), bPool K mh ma 40 ml mg, bM K hs as_ 41 ((ml fi).length :: ml fi) u_1.1, bF K hf hm (cond gu 3 4) gd (!tu) (decide (0 = 0)) cr, bM K hm am 63 (slN ((ml fi).length :: ml fi) 0 (nxt gu ((ml fi).length + 1))) u_1.2, bD K hD h hi hb_ false true, bF K hb_ hbm 2 bak bt_ bbe bcr]) C ho 6 0 rfl rfl rfl 3 fX2_48 pX2_3 rfl rfl (Nat.le_of_ble_eq_true rfl) dX2_speak_69 rfl (fun H locs ho => ?_)
    refine lv_aload_n hx hb dX2_speak_72 rfl (lv_at hl 1 rfl) ?_
    refine lv_iconst (v := nI 0) hx hb dX2_speak_73 (by decide) ?_
    refine o_put (v := .int (nI 0)) (bs' := [bO K h hw hq hs hf (0 + nxt gu ((ml fi).length + 1)) true gu (!tu), bH K hq q mh ((fi + 1) % 6) (sz - 1), bPool K mh ma 40 ml mg, bM K hs as_ 41 ((ml fi).length :: ml fi) u_1.1, bF K hf hm (cond gu 3 4) gd (!tu) (decide (0 = 0)) cr, bM K hm am 63 (slN ((ml fi).length :: ml fi) 0 (nxt gu ((ml fi).length + 1))) u_1.2, bD K hD h hi hb_ false false, bF K hb_ hbm 2 bak bt_ bbe bcr]) C ho 6 0 rfl rfl rfl 4 fX2_36 pX2_4 rfl rfl (Nat.le_of_ble_eq_true rfl) dX2_speak_74 rfl (fun H locs ho => ?_)
    refine lv_aload_n hx hb dX2_speak_77 rfl (lv_at hl 0 rfl) ?_
    have ho : ow D vwCl A s.heap H locs [bD K hD h hi hb_ false false, bO K h hw hq hs hf (0 + nxt gu ((ml fi).length + 1)) true gu (!tu), bH K hq q mh ((fi + 1) % 6) (sz - 1), bPool K mh ma 40 ml mg, bM K hs as_ 41 ((ml fi).length :: ml fi) u_1.1, bF K hf hm (cond gu 3 4) gd (!tu) (decide (0 = 0)) cr, bM K hm am 63 (slN ((ml fi).length :: ml fi) 0 (nxt gu ((ml fi).length + 1))) u_1.2, bF K hb_ hbm 2 bak bt_ bbe bcr] := ho.re [6, 0, 1, 2, 3, 4, 5, 7] 8 (by decide +kernel) rfl rfl
    exact o_aret hQ C (Or.inr ⟨_, rfl⟩) ho (u_1.1, u_1.2) rfl (by dsimp only [gs, List.getD_cons_zero, List.getD_cons_succ] <;> rfl) (Nat.le_of_ble_eq_true rfl) (Nat.le_of_ble_eq_true rfl) dX2_speak_78
  · skip
    refine lv_iconst (v := nI 1) hx hb dX2_speak_59 (by decide) ?_
    refine lv_goto (tgt := 64) hx hb dX2_speak_60 (by decide) ?_
    refine o_put (v := .int (nI 1)) (bs' := [bO K h hw hq hs hf (0 + nxt gu ((ml fi).length + 1)) true gu (!tu), bH K hq q mh ((fi + 1) % 6) (sz - 1), bPool K mh ma 40 ml mg, bM K hs as_ 41 ((ml fi).length :: ml fi) u_1.1, bF K hf hm (cond gu 3 4) true (!tu) (decide (0 = 0)) cr, bM K hm am 63 (slN ((ml fi).length :: ml fi) 0 (nxt gu ((ml fi).length + 1))) u_1.2, bD K hD h hi hb_ gd true, bF K hb_ hbm 2 bak bt_ bbe bcr]) C ho 4 0 rfl rfl rfl 2 fX2_51 pX3_2 rfl rfl (Nat.le_of_ble_eq_true rfl) dX2_speak_64 rfl (fun H locs ho => ?_)
    have e_4 : bF K hf hm (cond gu 3 4) true (!tu) (decide (0 = 0)) cr = bF K hf hm (cond gu 3 4) gd (!tu) (decide (0 = 0)) cr := by rw [c_2]
    have ho : ow D vwCl A s.heap H locs [bO K h hw hq hs hf (0 + nxt gu ((ml fi).length + 1)) true gu (!tu), bH K hq q mh ((fi + 1) % 6) (sz - 1), bPool K mh ma 40 ml mg, bM K hs as_ 41 ((ml fi).length :: ml fi) u_1.1, bF K hf hm (cond gu 3 4) gd (!tu) (decide (0 = 0)) cr, bM K hm am 63 (slN ((ml fi).length :: ml fi) 0 (nxt gu ((ml fi).length + 1))) u_1.2, bD K hD h hi hb_ gd true, bF K hb_ hbm 2 bak bt_ bbe bcr] := by rw [← e_4]; exact ho
    refine lv_aload_n hx hb dX2_speak_67 rfl (lv_at hl 1 rfl) ?_
    refine lv_iconst (v := nI 0) hx hb dX2_speak_68 (by decide) ?_
    refine o_put (v := .int (nI 0)) (bs' := [bO K h hw hq hs hf (0 + nxt gu ((ml fi).length + 1)) true gu (!tu), bH K hq q mh ((fi + 1) % 6) (sz - 1), bPool K mh ma 40 ml mg, bM K hs as_ 41 ((ml fi).length :: ml fi) u_1.1, bF K hf hm (cond gu 3 4) gd (!tu) (decide (0 = 0)) cr, bM K hm am 63 (slN ((ml fi).length :: ml fi) 0 (nxt gu ((ml fi).length + 1))) u_1.2, bD K hD h hi hb_ false true, bF K hb_ hbm 2 bak bt_ bbe bcr]) C ho 6 0 rfl rfl rfl 3 fX2_48 pX2_3 rfl rfl (Nat.le_of_ble_eq_true rfl) dX2_speak_69 rfl (fun H locs ho => ?_)
    refine lv_aload_n hx hb dX2_speak_72 rfl (lv_at hl 1 rfl) ?_
    refine lv_iconst (v := nI 0) hx hb dX2_speak_73 (by decide) ?_
    refine o_put (v := .int (nI 0)) (bs' := [bO K h hw hq hs hf (0 + nxt gu ((ml fi).length + 1)) true gu (!tu), bH K hq q mh ((fi + 1) % 6) (sz - 1), bPool K mh ma 40 ml mg, bM K hs as_ 41 ((ml fi).length :: ml fi) u_1.1, bF K hf hm (cond gu 3 4) gd (!tu) (decide (0 = 0)) cr, bM K hm am 63 (slN ((ml fi).length :: ml fi) 0 (nxt gu ((ml fi).length + 1))) u_1.2, bD K hD h hi hb_ false false, bF K hb_ hbm 2 bak bt_ bbe bcr]) C ho 6 0 rfl rfl rfl 4 fX2_36 pX2_4 rfl rfl (Nat.le_of_ble_eq_true rfl) dX2_speak_74 rfl (fun H locs ho => ?_)
    refine lv_aload_n hx hb dX2_speak_77 rfl (lv_at hl 0 rfl) ?_
    have ho : ow D vwCl A s.heap H locs [bD K hD h hi hb_ false false, bO K h hw hq hs hf (0 + nxt gu ((ml fi).length + 1)) true gu (!tu), bH K hq q mh ((fi + 1) % 6) (sz - 1), bPool K mh ma 40 ml mg, bM K hs as_ 41 ((ml fi).length :: ml fi) u_1.1, bF K hf hm (cond gu 3 4) gd (!tu) (decide (0 = 0)) cr, bM K hm am 63 (slN ((ml fi).length :: ml fi) 0 (nxt gu ((ml fi).length + 1))) u_1.2, bF K hb_ hbm 2 bak bt_ bbe bcr] := ho.re [6, 0, 1, 2, 3, 4, 5, 7] 8 (by decide +kernel) rfl rfl
    exact o_aret hQ C (Or.inr ⟨_, rfl⟩) ho (u_1.1, u_1.2) rfl (by dsimp only [gs, List.getD_cons_zero, List.getD_cons_succ] <;> rfl) (Nat.le_of_ble_eq_true rfl) (Nat.le_of_ble_eq_true rfl) dX2_speak_78

set_option maxHeartbeats 4000000 in
set_option maxRecDepth 100000 in
theorem c_Dev_speak2_4 (la : Launch) (D : va_G) (K : Nat → ClassId) (hD : Nat) (hi : Nat) (gd : Bool) (h : Nat) (hw : Nat) (hq : Nat) (hs : Nat) (hf : Nat) (fr : Nat) (gu : Bool) (tu : Bool) (q : Nat) (mh : Nat → Nat) (fi : Nat) (sz : Nat) (as_ : Nat) (ls_ : List Nat) (gs_ : Nat → Int32) (hb_ : Nat) (hbm : Nat) (bak : Bool) (bt_ : Bool) (bbe : Bool) (bcr : Nat) (q1 : fr = ls_.length) (q2 : ls_.length ≤ 41) (q0 : sz = 0) : MT la D K yX2_speak cX2_speak 2 (some (.object "RadioPair$Frame")) (rmL 4 0 0) [.ref hD] [bD K hD h hi hb_ gd true, bO K h hw hq hs hf fr false gu tu, bH K hq q mh fi sz, bM K hs as_ 41 ls_ gs_, bF K hb_ hbm 2 bak bt_ bbe bcr] Unit (fun v _ => v = some (.ref hb_)) (fun _ => [bD K hD h hi hb_ false false, bO K h hw hq hs hf fr false gu tu, bH K hq q mh fi sz, bM K hs as_ 41 ls_ gs_, bF K hb_ hbm 2 gd tu bbe bcr]) := by
  refine Mt.ofW [(0, .ref hD)] (by decide) rfl (Nat.le_of_ble_eq_true rfl) ?_
  intro p e s m args below meth c A ls H locs Qz hQ C hin hl ho
  have hx := C.1.1
  have hb := C.1.2.1
  refine lv_aload_n hx hb dX2_speak_0 rfl (lv_at hl 0 rfl) ?_
  refine o_get (v := .ref hb_) C ho 0 0 rfl rfl rfl 2 fX2_28 rfl dX2_speak_1 ?_
  refine o_get (v := .int (nI 2)) C ho 4 0 rfl rfl rfl 1 fX2_32 rfl dX2_speak_4 ?_
  refine lv_iconst (v := nI 2) hx hb dX2_speak_7 (by decide) ?_
  refine o_icmp_ne (tgt := 20) hx hb dX2_speak_8 (by decide) (by decide) (by decide) (fun c9 => absurd c9 (by decide)) (fun _ => ?_)
  refine lv_aload_n hx hb dX2_speak_11 rfl (lv_at hl 0 rfl) ?_
  refine o_get (v := .int (bI true)) C ho 0 0 rfl rfl rfl 4 fX2_36 rfl dX2_speak_12 ?_
  refine o_ifb_ne (tgt := 20) hx hb dX2_speak_15 (by decide) (fun _ => ?_) (fun c9 => absurd c9 (by decide))
  refine lv_aload_n hx hb dX2_speak_20 rfl (lv_at hl 0 rfl) ?_
  refine o_get (v := .ref h) C ho 0 0 rfl rfl rfl 0 fX2_12 rfl dX2_speak_21 ?_
  refine o_callV (wr := [bD K hD h hi hb_ gd true, bF K hb_ hbm 2 bak bt_ bbe bcr]) (rest := []) (As := []) C (c_Out_loaded4 la D K h hw hq hs hf fr gu tu q mh fi sz as_ ls_ gs_ (by first | omega | assumption | (simp only [List.length_append, List.length_cons, List.length_nil, List.length_modify, List.length_set, nb_len, rb_len, rbp_len, sl_len, slN_len, wh_len, wt_len, hd10_len, hdB_len, thr_len, ldp_len, ldB_len, tens_len, whz_len, majL_len, mf_len, tkL_len, ldY_len, fif_len, ldY_len]; omega) | decide) (by first | omega | assumption | (simp only [List.length_append, List.length_cons, List.length_nil, List.length_modify, List.length_set, nb_len, rb_len, rbp_len, sl_len, slN_len, wh_len, wt_len, hd10_len, hdB_len, thr_len, ldp_len, ldB_len, tens_len, whz_len, majL_len, mf_len, tkL_len, ldY_len, fif_len, ldY_len]; omega) | decide) (by first | omega | assumption | (simp only [List.length_append, List.length_cons, List.length_nil, List.length_modify, List.length_set, nb_len, rb_len, rbp_len, sl_len, slN_len, wh_len, wt_len, hd10_len, hdB_len, thr_len, ldp_len, ldB_len, tens_len, whz_len, majL_len, mf_len, tkL_len, ldY_len, fif_len, ldY_len]; omega) | decide)) kX2_40 vX7_loaded (by decide) rfl ho [1, 2, 3, 0, 4] 5 (by decide +kernel) rfl rfl rfl rfl rfl hl.1 rfl (Nat.le_of_ble_eq_true rfl) dX2_speak_24 0 0 rfl rfl (by decide) (fun v u_1 H locs hq ho => ?_)
  obtain rfl := hq
  have ho : ow D vwCl A s.heap H locs [bO K h hw hq hs hf fr false gu tu, bH K hq q mh fi sz, bM K hs as_ 41 ls_ gs_, bD K hD h hi hb_ gd true, bF K hb_ hbm 2 bak bt_ bbe bcr] := ho
  refine W.eq (g2 := F0 m 27 ls [.null]) rfl ?_
  refine lv_astore_nN (lv' := [(1, .null), (0, .ref hD)]) hx hb dX2_speak_27 rfl hl (by decide) rfl (fun ls hl => ?_)
  refine lv_aload_nN hx hb dX2_speak_28 rfl (lv_at hl 0 rfl) ?_
  refine lv_ifnonnullN hx hb dX2_speak_29 ?_
  refine lv_aload_n hx hb dX2_speak_32 rfl (lv_at hl 1 rfl) ?_
  refine o_get (v := .ref hb_) C ho 3 0 rfl rfl rfl 2 fX2_28 rfl dX2_speak_33 ?_
  refine lv_aload_n hx hb dX2_speak_36 rfl (lv_at hl 1 rfl) ?_
  refine o_get (v := .ref h) C ho 3 0 rfl rfl rfl 0 fX2_12 rfl dX2_speak_37 ?_
  refine o_get (v := .int (bI tu)) C ho 0 0 rfl rfl rfl 7 fX2_44 rfl dX2_speak_40 ?_
  refine o_put (v := .int (bI tu)) (bs' := [bO K h hw hq hs hf fr false gu tu, bH K hq q mh fi sz, bM K hs as_ 41 ls_ gs_, bD K hD h hi hb_ gd true, bF K hb_ hbm 2 bak tu bbe bcr]) C ho 4 0 rfl rfl rfl 3 fX2_47 pX3_3 rfl rfl (Nat.le_of_ble_eq_true rfl) dX2_speak_43 rfl (fun H locs ho => ?_)
  refine lv_aload_n hx hb dX2_speak_46 rfl (lv_at hl 1 rfl) ?_
  refine o_get (v := .ref hb_) C ho 3 0 rfl rfl rfl 2 fX2_28 rfl dX2_speak_47 ?_
  refine lv_astore_n (lv' := [(1, .ref hb_), (0, .ref hD)]) hx hb dX2_speak_50 rfl hl (by decide) rfl (fun ls hl => ?_)
  refine lv_aload_n hx hb dX2_speak_51 rfl (lv_at hl 0 rfl) ?_
  refine lv_aload_n hx hb dX2_speak_52 rfl (lv_at hl 1 rfl) ?_
  refine o_get (v := .int (bI gd)) C ho 3 0 rfl rfl rfl 3 fX2_48 rfl dX2_speak_53 ?_
  refine o_ifb_eq (tgt := 63) hx hb dX2_speak_56 (by decide) (fun c_2 => ?_) (fun c_2 => ?_)
  · skip
    refine lv_iconst (v := nI 0) hx hb dX2_speak_63 (by decide) ?_
    refine o_put (v := .int (nI 0)) (bs' := [bO K h hw hq hs hf fr false gu tu, bH K hq q mh fi sz, bM K hs as_ 41 ls_ gs_, bD K hD h hi hb_ gd true, bF K hb_ hbm 2 false tu bbe bcr]) C ho 4 0 rfl rfl rfl 2 fX2_51 pX3_2 rfl rfl (Nat.le_of_ble_eq_true rfl) dX2_speak_64 rfl (fun H locs ho => ?_)
    have e_3 : bF K hb_ hbm 2 false tu bbe bcr = bF K hb_ hbm 2 gd tu bbe bcr := by rw [c_2]
    have ho : ow D vwCl A s.heap H locs [bO K h hw hq hs hf fr false gu tu, bH K hq q mh fi sz, bM K hs as_ 41 ls_ gs_, bD K hD h hi hb_ gd true, bF K hb_ hbm 2 gd tu bbe bcr] := by rw [← e_3]; exact ho
    refine lv_aload_n hx hb dX2_speak_67 rfl (lv_at hl 1 rfl) ?_
    refine lv_iconst (v := nI 0) hx hb dX2_speak_68 (by decide) ?_
    refine o_put (v := .int (nI 0)) (bs' := [bO K h hw hq hs hf fr false gu tu, bH K hq q mh fi sz, bM K hs as_ 41 ls_ gs_, bD K hD h hi hb_ false true, bF K hb_ hbm 2 gd tu bbe bcr]) C ho 3 0 rfl rfl rfl 3 fX2_48 pX2_3 rfl rfl (Nat.le_of_ble_eq_true rfl) dX2_speak_69 rfl (fun H locs ho => ?_)
    refine lv_aload_n hx hb dX2_speak_72 rfl (lv_at hl 1 rfl) ?_
    refine lv_iconst (v := nI 0) hx hb dX2_speak_73 (by decide) ?_
    refine o_put (v := .int (nI 0)) (bs' := [bO K h hw hq hs hf fr false gu tu, bH K hq q mh fi sz, bM K hs as_ 41 ls_ gs_, bD K hD h hi hb_ false false, bF K hb_ hbm 2 gd tu bbe bcr]) C ho 3 0 rfl rfl rfl 4 fX2_36 pX2_4 rfl rfl (Nat.le_of_ble_eq_true rfl) dX2_speak_74 rfl (fun H locs ho => ?_)
    refine lv_aload_n hx hb dX2_speak_77 rfl (lv_at hl 0 rfl) ?_
    have ho : ow D vwCl A s.heap H locs [bD K hD h hi hb_ false false, bO K h hw hq hs hf fr false gu tu, bH K hq q mh fi sz, bM K hs as_ 41 ls_ gs_, bF K hb_ hbm 2 gd tu bbe bcr] := ho.re [3, 0, 1, 2, 4] 5 (by decide +kernel) rfl rfl
    exact o_aret hQ C (Or.inr ⟨_, rfl⟩) ho () rfl rfl (Nat.le_of_ble_eq_true rfl) (Nat.le_of_ble_eq_true rfl) dX2_speak_78
  · skip
    refine lv_iconst (v := nI 1) hx hb dX2_speak_59 (by decide) ?_
    refine lv_goto (tgt := 64) hx hb dX2_speak_60 (by decide) ?_
    refine o_put (v := .int (nI 1)) (bs' := [bO K h hw hq hs hf fr false gu tu, bH K hq q mh fi sz, bM K hs as_ 41 ls_ gs_, bD K hD h hi hb_ gd true, bF K hb_ hbm 2 true tu bbe bcr]) C ho 4 0 rfl rfl rfl 2 fX2_51 pX3_2 rfl rfl (Nat.le_of_ble_eq_true rfl) dX2_speak_64 rfl (fun H locs ho => ?_)
    have e_4 : bF K hb_ hbm 2 true tu bbe bcr = bF K hb_ hbm 2 gd tu bbe bcr := by rw [c_2]
    have ho : ow D vwCl A s.heap H locs [bO K h hw hq hs hf fr false gu tu, bH K hq q mh fi sz, bM K hs as_ 41 ls_ gs_, bD K hD h hi hb_ gd true, bF K hb_ hbm 2 gd tu bbe bcr] := by rw [← e_4]; exact ho
    refine lv_aload_n hx hb dX2_speak_67 rfl (lv_at hl 1 rfl) ?_
    refine lv_iconst (v := nI 0) hx hb dX2_speak_68 (by decide) ?_
    refine o_put (v := .int (nI 0)) (bs' := [bO K h hw hq hs hf fr false gu tu, bH K hq q mh fi sz, bM K hs as_ 41 ls_ gs_, bD K hD h hi hb_ false true, bF K hb_ hbm 2 gd tu bbe bcr]) C ho 3 0 rfl rfl rfl 3 fX2_48 pX2_3 rfl rfl (Nat.le_of_ble_eq_true rfl) dX2_speak_69 rfl (fun H locs ho => ?_)
    refine lv_aload_n hx hb dX2_speak_72 rfl (lv_at hl 1 rfl) ?_
    refine lv_iconst (v := nI 0) hx hb dX2_speak_73 (by decide) ?_
    refine o_put (v := .int (nI 0)) (bs' := [bO K h hw hq hs hf fr false gu tu, bH K hq q mh fi sz, bM K hs as_ 41 ls_ gs_, bD K hD h hi hb_ false false, bF K hb_ hbm 2 gd tu bbe bcr]) C ho 3 0 rfl rfl rfl 4 fX2_36 pX2_4 rfl rfl (Nat.le_of_ble_eq_true rfl) dX2_speak_74 rfl (fun H locs ho => ?_)
    refine lv_aload_n hx hb dX2_speak_77 rfl (lv_at hl 0 rfl) ?_
    have ho : ow D vwCl A s.heap H locs [bD K hD h hi hb_ false false, bO K h hw hq hs hf fr false gu tu, bH K hq q mh fi sz, bM K hs as_ 41 ls_ gs_, bF K hb_ hbm 2 gd tu bbe bcr] := ho.re [3, 0, 1, 2, 4] 5 (by decide +kernel) rfl rfl
    exact o_aret hQ C (Or.inr ⟨_, rfl⟩) ho () rfl rfl (Nat.le_of_ble_eq_true rfl) (Nat.le_of_ble_eq_true rfl) dX2_speak_78

set_option maxHeartbeats 4000000 in
set_option maxRecDepth 100000 in
theorem c_Dev_heedA (la : Launch) (D : va_G) (K : Nat → ClassId) (hD : Nat) (hi : Nat) (hb_ : Nat) (gd : Bool) (hd : Bool) (h : Nat) (hw : Nat) (hq : Nat) (hs : Nat) (hf : Nat) (fr : Nat) (fw : Bool) (gu : Bool) (tu : Bool) (ht : Nat) (hp : Nat) (pt : Bool) (du : Nat) (lt : Bool) (dr : Nat) (co : Nat) (hr : Nat) (hrm : Nat) (rk : Nat) (rak : Bool) (rt : Bool) (rbe : Bool) (rcr : Nat) (oc : Nat) (q1 : ¬ oc = 6) (q2 : oc < 100) : MT la D K yX2_heed cX2_heed 3 (some .int) (rmL 2 0 0) [.ref hD, .ref hr, .int (nI oc)] [bD K hD h hi hb_ gd hd, bO K h hw hq hs hf fr fw gu tu, bIn K hi ht hp pt du lt dr co, bF K hr hrm rk rak rt rbe rcr] Unit (fun v _ => v = some (.int (nI oc))) (fun _ => [bD K hD h hi hb_ gd true, bO K h hw hq hs hf fr (fw && !rak) gu tu, bIn K hi ht hp pt du lt dr (co + rcr), bF K hr hrm rk rak rt rbe rcr]) := by
  refine Mt.ofW [(0, .ref hD), (1, .ref hr), (2, .int (nI oc))] (by decide) rfl (Nat.le_of_ble_eq_true rfl) ?_
  intro p e s m args below meth c A ls H locs Qz hQ C hin hl ho
  have hx := C.1.1
  have hb := C.1.2.1
  refine lv_aload_n hx hb dX2_heed_0 rfl (lv_at hl 0 rfl) ?_
  refine lv_iconst (v := nI 1) hx hb dX2_heed_1 (by decide) ?_
  refine o_put (v := .int (nI 1)) (bs' := [bD K hD h hi hb_ gd true, bO K h hw hq hs hf fr fw gu tu, bIn K hi ht hp pt du lt dr co, bF K hr hrm rk rak rt rbe rcr]) C ho 0 0 rfl rfl rfl 4 fX2_36 pX2_4 rfl rfl (Nat.le_of_ble_eq_true rfl) dX2_heed_2 rfl (fun H locs ho => ?_)
  refine lv_aload_n hx hb dX2_heed_5 rfl (lv_at hl 0 rfl) ?_
  refine o_get (v := .ref hi) C ho 0 0 rfl rfl rfl 1 fX2_21 rfl dX2_heed_6 ?_
  refine lv_dup hx hb dX2_heed_9 rfl ?_
  refine o_get (v := .int (nI co)) C ho 2 0 rfl rfl rfl 6 fX2_54 rfl dX2_heed_10 ?_
  refine lv_aload_n hx hb dX2_heed_13 rfl (lv_at hl 1 rfl) ?_
  refine o_get (v := .int (nI rcr)) C ho 3 0 rfl rfl rfl 5 fX2_57 rfl dX2_heed_14 ?_
  refine o_add hx hb dX2_heed_17 ?_
  refine o_put (v := .int (nI (co + rcr))) (bs' := [bD K hD h hi hb_ gd true, bO K h hw hq hs hf fr fw gu tu, bIn K hi ht hp pt du lt dr (co + rcr), bF K hr hrm rk rak rt rbe rcr]) C ho 2 0 rfl rfl rfl 6 fX2_54 pX4_6 rfl rfl (Nat.le_of_ble_eq_true rfl) dX2_heed_18 rfl (fun H locs ho => ?_)
  refine lv_aload_n hx hb dX2_heed_21 rfl (lv_at hl 1 rfl) ?_
  refine o_get (v := .int (bI rak)) C ho 3 0 rfl rfl rfl 2 fX2_51 rfl dX2_heed_22 ?_
  refine lv_iconst (v := nI 1) hx hb dX2_heed_25 (by decide) ?_
  refine o_top (y := bI true) (rfl) ?_
  refine o_icmpb_ne (tgt := 36) hx hb dX2_heed_26 (by decide) (fun c_1 => ?_) (fun c_1 => ?_)
  · skip
    have e_2 : bO K h hw hq hs hf fr fw gu tu = bO K h hw hq hs hf fr (fw && !rak) gu tu := by rw [Bool.eq_false_iff.mpr c_1, Bool.not_false, Bool.and_true]
    have ho : ow D vwCl A s.heap H locs [bD K hD h hi hb_ gd true, bO K h hw hq hs hf fr (fw && !rak) gu tu, bIn K hi ht hp pt du lt dr (co + rcr), bF K hr hrm rk rak rt rbe rcr] := by rw [← e_2]; exact ho
    refine lv_iload_n hx hb dX2_heed_36 rfl (lv_at hl 2 rfl) ?_
    refine lv_bipush (v := nI 6) hx hb dX2_heed_37 (by decide) ?_
    refine o_icmp_eq (tgt := 44) hx hb dX2_heed_39 (by decide) (by first | omega | exact and1_lt _) (by first | omega | exact and1_lt _) (fun c_3 => ?_) (fun c_3 => ?_)
    · skip
      exact absurd c_3 q1
    · skip
      refine lv_iload_n hx hb dX2_heed_42 rfl (lv_at hl 2 rfl) ?_
      exact o_iret hQ C rfl ho () rfl rfl (Nat.le_of_ble_eq_true rfl) (Nat.le_of_ble_eq_true rfl) dX2_heed_43
  · skip
    refine lv_aload_n hx hb dX2_heed_29 rfl (lv_at hl 0 rfl) ?_
    refine o_get (v := .ref h) C ho 0 0 rfl rfl rfl 0 fX2_12 rfl dX2_heed_30 ?_
    refine o_callV (wr := [bD K hD h hi hb_ gd true, bIn K hi ht hp pt du lt dr (co + rcr), bF K hr hrm rk rak rt rbe rcr]) (rest := []) (As := []) C (c_Out_acknowledge la D K h hw hq hs hf fr fw gu tu ) kX2_58 vX7_acknowledge (by decide) rfl ho [1, 0, 2, 3] 4 (by decide +kernel) rfl rfl rfl rfl rfl hl.1 rfl (Nat.le_of_ble_eq_true rfl) dX2_heed_33 0 0 rfl rfl (by decide) (fun v u_4 H locs hq ho => ?_)
    obtain rfl := hq
    have ho : ow D vwCl A s.heap H locs [bO K h hw hq hs hf fr false gu tu, bD K hD h hi hb_ gd true, bIn K hi ht hp pt du lt dr (co + rcr), bF K hr hrm rk rak rt rbe rcr] := ho
    refine W.eq (g2 := F0 m 36 ls []) rfl ?_
    have e_5 : bO K h hw hq hs hf fr false gu tu = bO K h hw hq hs hf fr (fw && !rak) gu tu := by rw [c_1, Bool.not_true, Bool.and_false]
    have ho : ow D vwCl A s.heap H locs [bO K h hw hq hs hf fr (fw && !rak) gu tu, bD K hD h hi hb_ gd true, bIn K hi ht hp pt du lt dr (co + rcr), bF K hr hrm rk rak rt rbe rcr] := by rw [← e_5]; exact ho
    refine lv_iload_n hx hb dX2_heed_36 rfl (lv_at hl 2 rfl) ?_
    refine lv_bipush (v := nI 6) hx hb dX2_heed_37 (by decide) ?_
    refine o_icmp_eq (tgt := 44) hx hb dX2_heed_39 (by decide) (by first | omega | exact and1_lt _) (by first | omega | exact and1_lt _) (fun c_6 => ?_) (fun c_6 => ?_)
    · skip
      exact absurd c_6 q1
    · skip
      refine lv_iload_n hx hb dX2_heed_42 rfl (lv_at hl 2 rfl) ?_
      have ho : ow D vwCl A s.heap H locs [bD K hD h hi hb_ gd true, bO K h hw hq hs hf fr (fw && !rak) gu tu, bIn K hi ht hp pt du lt dr (co + rcr), bF K hr hrm rk rak rt rbe rcr] := ho.re [1, 0, 2, 3] 4 (by decide +kernel) rfl rfl
      exact o_iret hQ C rfl ho () rfl rfl (Nat.le_of_ble_eq_true rfl) (Nat.le_of_ble_eq_true rfl) dX2_heed_43

set_option maxHeartbeats 4000000 in
set_option maxRecDepth 100000 in
theorem c_Dev_heedB (la : Launch) (D : va_G) (K : Nat → ClassId) (hD : Nat) (hi : Nat) (hb_ : Nat) (gd : Bool) (hd : Bool) (h : Nat) (hw : Nat) (hq : Nat) (hs : Nat) (hf : Nat) (fr : Nat) (fw : Bool) (gu : Bool) (tu : Bool) (ht : Nat) (hp : Nat) (pt : Bool) (du : Nat) (lt : Bool) (dr : Nat) (co : Nat) (hr : Nat) (hrm : Nat) (rk : Nat) (rak : Bool) (rt : Bool) (rbe : Bool) (rcr : Nat) (q1 : rt = lt) : MT la D K yX2_heed cX2_heed 3 (some .int) (rmL 2 0 0) [.ref hD, .ref hr, .int (nI 6)] [bD K hD h hi hb_ gd hd, bO K h hw hq hs hf fr fw gu tu, bIn K hi ht hp pt du lt dr co, bF K hr hrm rk rak rt rbe rcr] Unit (fun v _ => v = some (.int (nI 8))) (fun _ => [bD K hD h hi hb_ true true, bO K h hw hq hs hf fr (fw && !rak) gu tu, bIn K hi ht hp pt du lt dr (co + rcr), bF K hr hrm rk rak rt rbe rcr]) := by
  refine Mt.ofW [(0, .ref hD), (1, .ref hr), (2, .int (nI 6))] (by decide) rfl (Nat.le_of_ble_eq_true rfl) ?_
  intro p e s m args below meth c A ls H locs Qz hQ C hin hl ho
  have hx := C.1.1
  have hb := C.1.2.1
  refine lv_aload_n hx hb dX2_heed_0 rfl (lv_at hl 0 rfl) ?_
  refine lv_iconst (v := nI 1) hx hb dX2_heed_1 (by decide) ?_
  refine o_put (v := .int (nI 1)) (bs' := [bD K hD h hi hb_ gd true, bO K h hw hq hs hf fr fw gu tu, bIn K hi ht hp pt du lt dr co, bF K hr hrm rk rak rt rbe rcr]) C ho 0 0 rfl rfl rfl 4 fX2_36 pX2_4 rfl rfl (Nat.le_of_ble_eq_true rfl) dX2_heed_2 rfl (fun H locs ho => ?_)
  refine lv_aload_n hx hb dX2_heed_5 rfl (lv_at hl 0 rfl) ?_
  refine o_get (v := .ref hi) C ho 0 0 rfl rfl rfl 1 fX2_21 rfl dX2_heed_6 ?_
  refine lv_dup hx hb dX2_heed_9 rfl ?_
  refine o_get (v := .int (nI co)) C ho 2 0 rfl rfl rfl 6 fX2_54 rfl dX2_heed_10 ?_
  refine lv_aload_n hx hb dX2_heed_13 rfl (lv_at hl 1 rfl) ?_
  refine o_get (v := .int (nI rcr)) C ho 3 0 rfl rfl rfl 5 fX2_57 rfl dX2_heed_14 ?_
  refine o_add hx hb dX2_heed_17 ?_
  refine o_put (v := .int (nI (co + rcr))) (bs' := [bD K hD h hi hb_ gd true, bO K h hw hq hs hf fr fw gu tu, bIn K hi ht hp pt du lt dr (co + rcr), bF K hr hrm rk rak rt rbe rcr]) C ho 2 0 rfl rfl rfl 6 fX2_54 pX4_6 rfl rfl (Nat.le_of_ble_eq_true rfl) dX2_heed_18 rfl (fun H locs ho => ?_)
  refine lv_aload_n hx hb dX2_heed_21 rfl (lv_at hl 1 rfl) ?_
  refine o_get (v := .int (bI rak)) C ho 3 0 rfl rfl rfl 2 fX2_51 rfl dX2_heed_22 ?_
  refine lv_iconst (v := nI 1) hx hb dX2_heed_25 (by decide) ?_
  refine o_top (y := bI true) (rfl) ?_
  refine o_icmpb_ne (tgt := 36) hx hb dX2_heed_26 (by decide) (fun c_1 => ?_) (fun c_1 => ?_)
  · skip
    have e_2 : bO K h hw hq hs hf fr fw gu tu = bO K h hw hq hs hf fr (fw && !rak) gu tu := by rw [Bool.eq_false_iff.mpr c_1, Bool.not_false, Bool.and_true]
    have ho : ow D vwCl A s.heap H locs [bD K hD h hi hb_ gd true, bO K h hw hq hs hf fr (fw && !rak) gu tu, bIn K hi ht hp pt du lt dr (co + rcr), bF K hr hrm rk rak rt rbe rcr] := by rw [← e_2]; exact ho
    refine lv_iload_n hx hb dX2_heed_36 rfl (lv_at hl 2 rfl) ?_
    refine lv_bipush (v := nI 6) hx hb dX2_heed_37 (by decide) ?_
    refine o_icmp_eq (tgt := 44) hx hb dX2_heed_39 (by decide) (by decide) (by decide) (fun _ => ?_) (fun c9 => absurd c9 (by decide))
    refine lv_aload_n hx hb dX2_heed_44 rfl (lv_at hl 0 rfl) ?_
    refine lv_iconst (v := nI 1) hx hb dX2_heed_45 (by decide) ?_
    refine o_put (v := .int (nI 1)) (bs' := [bD K hD h hi hb_ true true, bO K h hw hq hs hf fr (fw && !rak) gu tu, bIn K hi ht hp pt du lt dr (co + rcr), bF K hr hrm rk rak rt rbe rcr]) C ho 0 0 rfl rfl rfl 3 fX2_48 pX2_3 rfl rfl (Nat.le_of_ble_eq_true rfl) dX2_heed_46 rfl (fun H locs ho => ?_)
    refine lv_aload_n hx hb dX2_heed_49 rfl (lv_at hl 0 rfl) ?_
    refine o_get (v := .ref hi) C ho 0 0 rfl rfl rfl 1 fX2_21 rfl dX2_heed_50 ?_
    refine lv_aload_n hx hb dX2_heed_53 rfl (lv_at hl 1 rfl) ?_
    refine o_callV (wr := [bD K hD h hi hb_ true true, bO K h hw hq hs hf fr (fw && !rak) gu tu]) (rest := []) (As := [.ref hr]) C (c_In_isNew la D K hi ht hp pt du lt dr (co + rcr) hr hrm rk rak rt rbe rcr ) kX2_61 vX4_isNew (by decide) rfl ho [2, 3, 0, 1] 4 (by decide +kernel) rfl rfl rfl rfl rfl hl.1 rfl (Nat.le_of_ble_eq_true rfl) dX2_heed_54 0 0 rfl rfl (by decide) (fun v u_3 H locs hq ho => ?_)
    obtain rfl := hq
    have ho : ow D vwCl A s.heap H locs [bIn K hi ht hp pt du lt dr (co + rcr), bF K hr hrm rk rak rt rbe rcr, bD K hD h hi hb_ true true, bO K h hw hq hs hf fr (fw && !rak) gu tu] := ho
    refine W.eq (g2 := F0 m 57 ls [.int (bI (!decide (rt = lt)))]) rfl ?_
    refine o_ifb_ne (tgt := 63) hx hb dX2_heed_57 (by decide) (fun c_4 => ?_) (fun c_4 => ?_)
    · skip
      rw [decide_eq_true q1] at c_4; exact absurd c_4 (by decide)
    · skip
      refine lv_bipush (v := nI 8) hx hb dX2_heed_60 (by decide) ?_
      have ho : ow D vwCl A s.heap H locs [bD K hD h hi hb_ true true, bO K h hw hq hs hf fr (fw && !rak) gu tu, bIn K hi ht hp pt du lt dr (co + rcr), bF K hr hrm rk rak rt rbe rcr] := ho.re [2, 3, 0, 1] 4 (by decide +kernel) rfl rfl
      exact o_iret hQ C rfl ho () rfl rfl (Nat.le_of_ble_eq_true rfl) (Nat.le_of_ble_eq_true rfl) dX2_heed_62
  · skip
    refine lv_aload_n hx hb dX2_heed_29 rfl (lv_at hl 0 rfl) ?_
    refine o_get (v := .ref h) C ho 0 0 rfl rfl rfl 0 fX2_12 rfl dX2_heed_30 ?_
    refine o_callV (wr := [bD K hD h hi hb_ gd true, bIn K hi ht hp pt du lt dr (co + rcr), bF K hr hrm rk rak rt rbe rcr]) (rest := []) (As := []) C (c_Out_acknowledge la D K h hw hq hs hf fr fw gu tu ) kX2_58 vX7_acknowledge (by decide) rfl ho [1, 0, 2, 3] 4 (by decide +kernel) rfl rfl rfl rfl rfl hl.1 rfl (Nat.le_of_ble_eq_true rfl) dX2_heed_33 0 0 rfl rfl (by decide) (fun v u_5 H locs hq ho => ?_)
    obtain rfl := hq
    have ho : ow D vwCl A s.heap H locs [bO K h hw hq hs hf fr false gu tu, bD K hD h hi hb_ gd true, bIn K hi ht hp pt du lt dr (co + rcr), bF K hr hrm rk rak rt rbe rcr] := ho
    refine W.eq (g2 := F0 m 36 ls []) rfl ?_
    have e_6 : bO K h hw hq hs hf fr false gu tu = bO K h hw hq hs hf fr (fw && !rak) gu tu := by rw [c_1, Bool.not_true, Bool.and_false]
    have ho : ow D vwCl A s.heap H locs [bO K h hw hq hs hf fr (fw && !rak) gu tu, bD K hD h hi hb_ gd true, bIn K hi ht hp pt du lt dr (co + rcr), bF K hr hrm rk rak rt rbe rcr] := by rw [← e_6]; exact ho
    refine lv_iload_n hx hb dX2_heed_36 rfl (lv_at hl 2 rfl) ?_
    refine lv_bipush (v := nI 6) hx hb dX2_heed_37 (by decide) ?_
    refine o_icmp_eq (tgt := 44) hx hb dX2_heed_39 (by decide) (by decide) (by decide) (fun _ => ?_) (fun c9 => absurd c9 (by decide))
    refine lv_aload_n hx hb dX2_heed_44 rfl (lv_at hl 0 rfl) ?_
    refine lv_iconst (v := nI 1) hx hb dX2_heed_45 (by decide) ?_
    refine o_put (v := .int (nI 1)) (bs' := [bO K h hw hq hs hf fr (fw && !rak) gu tu, bD K hD h hi hb_ true true, bIn K hi ht hp pt du lt dr (co + rcr), bF K hr hrm rk rak rt rbe rcr]) C ho 1 0 rfl rfl rfl 3 fX2_48 pX2_3 rfl rfl (Nat.le_of_ble_eq_true rfl) dX2_heed_46 rfl (fun H locs ho => ?_)
    refine lv_aload_n hx hb dX2_heed_49 rfl (lv_at hl 0 rfl) ?_
    refine o_get (v := .ref hi) C ho 1 0 rfl rfl rfl 1 fX2_21 rfl dX2_heed_50 ?_
    refine lv_aload_n hx hb dX2_heed_53 rfl (lv_at hl 1 rfl) ?_
    refine o_callV (wr := [bO K h hw hq hs hf fr (fw && !rak) gu tu, bD K hD h hi hb_ true true]) (rest := []) (As := [.ref hr]) C (c_In_isNew la D K hi ht hp pt du lt dr (co + rcr) hr hrm rk rak rt rbe rcr ) kX2_61 vX4_isNew (by decide) rfl ho [2, 3, 0, 1] 4 (by decide +kernel) rfl rfl rfl rfl rfl hl.1 rfl (Nat.le_of_ble_eq_true rfl) dX2_heed_54 0 0 rfl rfl (by decide) (fun v u_7 H locs hq ho => ?_)
    obtain rfl := hq
    have ho : ow D vwCl A s.heap H locs [bIn K hi ht hp pt du lt dr (co + rcr), bF K hr hrm rk rak rt rbe rcr, bO K h hw hq hs hf fr (fw && !rak) gu tu, bD K hD h hi hb_ true true] := ho
    refine W.eq (g2 := F0 m 57 ls [.int (bI (!decide (rt = lt)))]) rfl ?_
    refine o_ifb_ne (tgt := 63) hx hb dX2_heed_57 (by decide) (fun c_8 => ?_) (fun c_8 => ?_)
    · skip
      rw [decide_eq_true q1] at c_8; exact absurd c_8 (by decide)
    · skip
      refine lv_bipush (v := nI 8) hx hb dX2_heed_60 (by decide) ?_
      have ho : ow D vwCl A s.heap H locs [bD K hD h hi hb_ true true, bO K h hw hq hs hf fr (fw && !rak) gu tu, bIn K hi ht hp pt du lt dr (co + rcr), bF K hr hrm rk rak rt rbe rcr] := ho.re [3, 2, 0, 1] 4 (by decide +kernel) rfl rfl
      exact o_iret hQ C rfl ho () rfl rfl (Nat.le_of_ble_eq_true rfl) (Nat.le_of_ble_eq_true rfl) dX2_heed_62

set_option maxHeartbeats 4000000 in
set_option maxRecDepth 100000 in
theorem c_Dev_heedC (la : Launch) (D : va_G) (K : Nat → ClassId) (hD : Nat) (hi : Nat) (hb_ : Nat) (gd : Bool) (hd : Bool) (h : Nat) (hw : Nat) (hq : Nat) (hs : Nat) (hf : Nat) (fr : Nat) (fw : Bool) (gu : Bool) (tu : Bool) (ht : Nat) (hp : Nat) (pt : Bool) (du : Nat) (lt : Bool) (dr : Nat) (co : Nat) (hr : Nat) (hrm : Nat) (rk : Nat) (rak : Bool) (rt : Bool) (rbe : Bool) (rcr : Nat) (q : Nat) (mh : Nat → Nat) (fi : Nat) (sz : Nat) (ma : Nat → Nat) (ml : Nat → List Nat) (mg : Nat → Nat → Int32) (ap : Nat) (pl : List Nat) (gp : Nat → Int32) (ram : Nat) (y : List Nat) (rgm : Nat → Int32) (q1 : ¬ rt = lt) (qf : fi < 6) (q6 : sz ≤ 6) (qd : du ≤ 255) (qp : pt = true → pl.length < du) (qp2 : pl.length ≤ 318) (qy : y.length ≤ 63) (qy1 : 1 ≤ y.length) (qy2 : y.getD 0 0 ≤ 255) : MT la D K yX2_heed cX2_heed 3 (some .int) (rmL 5 0 0) [.ref hD, .ref hr, .int (nI 6)] [bD K hD h hi hb_ gd hd, bO K h hw hq hs hf fr fw gu tu, bIn K hi ht hp pt du lt dr co, bF K hr hrm rk rak rt rbe rcr, bH K ht q mh fi sz, bPool K mh ma 255 ml mg, bM K hp ap 318 pl gp, bM K hrm ram 63 y rgm] ((Nat → Int32) × (Nat → List Nat) × (Nat → Nat → Int32)) (fun v u => v = some (.int (nI 6)) ∧ u.2.1 = cond (iApp rbe pt du pl y sz) (va_up ml ((fi + sz) % 6) (iPl1 rbe pt pl y)) ml) (fun u => [bD K hD h hi hb_ true true, bO K h hw hq hs hf fr (fw && !rak) gu tu, bIn K hi ht hp ((rbe || pt) && !iFin rbe pt du pl y) (iDu1 rbe du y) rt (iDr1 rbe pt dr + (iFin rbe pt du pl y && !iApp rbe pt du pl y sz).toNat) (co + rcr), bF K hr hrm rk rak rt rbe rcr, bH K ht q mh fi (sz + (iApp rbe pt du pl y sz).toNat), bPool K mh ma 255 u.2.1 u.2.2, bM K hp ap 318 (iPl1 rbe pt pl y) u.1, bM K hrm ram 63 y rgm]) := by
  refine Mt.ofW [(0, .ref hD), (1, .ref hr), (2, .int (nI 6))] (by decide) rfl (Nat.le_of_ble_eq_true rfl) ?_
  intro p e s m args below meth c A ls H locs Qz hQ C hin hl ho
  have hx := C.1.1
  have hb := C.1.2.1
  refine lv_aload_n hx hb dX2_heed_0 rfl (lv_at hl 0 rfl) ?_
  refine lv_iconst (v := nI 1) hx hb dX2_heed_1 (by decide) ?_
  refine o_put (v := .int (nI 1)) (bs' := [bD K hD h hi hb_ gd true, bO K h hw hq hs hf fr fw gu tu, bIn K hi ht hp pt du lt dr co, bF K hr hrm rk rak rt rbe rcr, bH K ht q mh fi sz, bPool K mh ma 255 ml mg, bM K hp ap 318 pl gp, bM K hrm ram 63 y rgm]) C ho 0 0 rfl rfl rfl 4 fX2_36 pX2_4 rfl rfl (Nat.le_of_ble_eq_true rfl) dX2_heed_2 rfl (fun H locs ho => ?_)
  refine lv_aload_n hx hb dX2_heed_5 rfl (lv_at hl 0 rfl) ?_
  refine o_get (v := .ref hi) C ho 0 0 rfl rfl rfl 1 fX2_21 rfl dX2_heed_6 ?_
  refine lv_dup hx hb dX2_heed_9 rfl ?_
  refine o_get (v := .int (nI co)) C ho 2 0 rfl rfl rfl 6 fX2_54 rfl dX2_heed_10 ?_
  refine lv_aload_n hx hb dX2_heed_13 rfl (lv_at hl 1 rfl) ?_
  refine o_get (v := .int (nI rcr)) C ho 3 0 rfl rfl rfl 5 fX2_57 rfl dX2_heed_14 ?_
  refine o_add hx hb dX2_heed_17 ?_
  refine o_put (v := .int (nI (co + rcr))) (bs' := [bD K hD h hi hb_ gd true, bO K h hw hq hs hf fr fw gu tu, bIn K hi ht hp pt du lt dr (co + rcr), bF K hr hrm rk rak rt rbe rcr, bH K ht q mh fi sz, bPool K mh ma 255 ml mg, bM K hp ap 318 pl gp, bM K hrm ram 63 y rgm]) C ho 2 0 rfl rfl rfl 6 fX2_54 pX4_6 rfl rfl (Nat.le_of_ble_eq_true rfl) dX2_heed_18 rfl (fun H locs ho => ?_)
  refine lv_aload_n hx hb dX2_heed_21 rfl (lv_at hl 1 rfl) ?_
  refine o_get (v := .int (bI rak)) C ho 3 0 rfl rfl rfl 2 fX2_51 rfl dX2_heed_22 ?_
  refine lv_iconst (v := nI 1) hx hb dX2_heed_25 (by decide) ?_
  refine o_top (y := bI true) (rfl) ?_
  refine o_icmpb_ne (tgt := 36) hx hb dX2_heed_26 (by decide) (fun c_1 => ?_) (fun c_1 => ?_)
  · skip
    have e_2 : bO K h hw hq hs hf fr fw gu tu = bO K h hw hq hs hf fr (fw && !rak) gu tu := by rw [Bool.eq_false_iff.mpr c_1, Bool.not_false, Bool.and_true]
    have ho : ow D vwCl A s.heap H locs [bD K hD h hi hb_ gd true, bO K h hw hq hs hf fr (fw && !rak) gu tu, bIn K hi ht hp pt du lt dr (co + rcr), bF K hr hrm rk rak rt rbe rcr, bH K ht q mh fi sz, bPool K mh ma 255 ml mg, bM K hp ap 318 pl gp, bM K hrm ram 63 y rgm] := by rw [← e_2]; exact ho
    refine lv_iload_n hx hb dX2_heed_36 rfl (lv_at hl 2 rfl) ?_
    refine lv_bipush (v := nI 6) hx hb dX2_heed_37 (by decide) ?_
    refine o_icmp_eq (tgt := 44) hx hb dX2_heed_39 (by decide) (by decide) (by decide) (fun _ => ?_) (fun c9 => absurd c9 (by decide))
    refine lv_aload_n hx hb dX2_heed_44 rfl (lv_at hl 0 rfl) ?_
    refine lv_iconst (v := nI 1) hx hb dX2_heed_45 (by decide) ?_
    refine o_put (v := .int (nI 1)) (bs' := [bD K hD h hi hb_ true true, bO K h hw hq hs hf fr (fw && !rak) gu tu, bIn K hi ht hp pt du lt dr (co + rcr), bF K hr hrm rk rak rt rbe rcr, bH K ht q mh fi sz, bPool K mh ma 255 ml mg, bM K hp ap 318 pl gp, bM K hrm ram 63 y rgm]) C ho 0 0 rfl rfl rfl 3 fX2_48 pX2_3 rfl rfl (Nat.le_of_ble_eq_true rfl) dX2_heed_46 rfl (fun H locs ho => ?_)
    refine lv_aload_n hx hb dX2_heed_49 rfl (lv_at hl 0 rfl) ?_
    refine o_get (v := .ref hi) C ho 0 0 rfl rfl rfl 1 fX2_21 rfl dX2_heed_50 ?_
    refine lv_aload_n hx hb dX2_heed_53 rfl (lv_at hl 1 rfl) ?_
    refine o_callV (wr := [bD K hD h hi hb_ true true, bO K h hw hq hs hf fr (fw && !rak) gu tu, bH K ht q mh fi sz, bPool K mh ma 255 ml mg, bM K hp ap 318 pl gp, bM K hrm ram 63 y rgm]) (rest := []) (As := [.ref hr]) C (c_In_isNew la D K hi ht hp pt du lt dr (co + rcr) hr hrm rk rak rt rbe rcr ) kX2_61 vX4_isNew (by decide) rfl ho [2, 3, 0, 1, 4, 5, 6, 7] 8 (by decide +kernel) rfl rfl rfl rfl rfl hl.1 rfl (Nat.le_of_ble_eq_true rfl) dX2_heed_54 0 0 rfl rfl (by decide) (fun v u_3 H locs hq ho => ?_)
    obtain rfl := hq
    have ho : ow D vwCl A s.heap H locs [bIn K hi ht hp pt du lt dr (co + rcr), bF K hr hrm rk rak rt rbe rcr, bD K hD h hi hb_ true true, bO K h hw hq hs hf fr (fw && !rak) gu tu, bH K ht q mh fi sz, bPool K mh ma 255 ml mg, bM K hp ap 318 pl gp, bM K hrm ram 63 y rgm] := ho
    refine W.eq (g2 := F0 m 57 ls [.int (bI (!decide (rt = lt)))]) rfl ?_
    refine o_ifb_ne (tgt := 63) hx hb dX2_heed_57 (by decide) (fun c_4 => ?_) (fun c_4 => ?_)
    · skip
      refine lv_aload_n hx hb dX2_heed_63 rfl (lv_at hl 0 rfl) ?_
      refine o_get (v := .ref hi) C ho 2 0 rfl rfl rfl 1 fX2_21 rfl dX2_heed_64 ?_
      refine lv_aload_n hx hb dX2_heed_67 rfl (lv_at hl 1 rfl) ?_
      refine o_callV (wr := [bD K hD h hi hb_ true true, bO K h hw hq hs hf fr (fw && !rak) gu tu]) (rest := []) (As := [.ref hr]) C (c_In_use la D K hi ht hp pt du lt dr (co + rcr) q mh fi sz ma ml mg ap pl gp hr hrm rk rak rt rbe rcr ram y rgm (by first | omega | assumption | (simp only [List.length_append, List.length_cons, List.length_nil, List.length_modify, List.length_set, nb_len, rb_len, rbp_len, sl_len, slN_len, wh_len, wt_len, hd10_len, hdB_len, thr_len, ldp_len, ldB_len, tens_len, whz_len, majL_len, mf_len, tkL_len, ldY_len, fif_len, ldY_len]; omega) | decide) (by first | omega | assumption | (simp only [List.length_append, List.length_cons, List.length_nil, List.length_modify, List.length_set, nb_len, rb_len, rbp_len, sl_len, slN_len, wh_len, wt_len, hd10_len, hdB_len, thr_len, ldp_len, ldB_len, tens_len, whz_len, majL_len, mf_len, tkL_len, ldY_len, fif_len, ldY_len]; omega) | decide) (by first | omega | assumption | (simp only [List.length_append, List.length_cons, List.length_nil, List.length_modify, List.length_set, nb_len, rb_len, rbp_len, sl_len, slN_len, wh_len, wt_len, hd10_len, hdB_len, thr_len, ldp_len, ldB_len, tens_len, whz_len, majL_len, mf_len, tkL_len, ldY_len, fif_len, ldY_len]; omega) | decide) (by first | omega | assumption | (simp only [List.length_append, List.length_cons, List.length_nil, List.length_modify, List.length_set, nb_len, rb_len, rbp_len, sl_len, slN_len, wh_len, wt_len, hd10_len, hdB_len, thr_len, ldp_len, ldB_len, tens_len, whz_len, majL_len, mf_len, tkL_len, ldY_len, fif_len, ldY_len]; omega) | decide) (by first | omega | assumption | (simp only [List.length_append, List.length_cons, List.length_nil, List.length_modify, List.length_set, nb_len, rb_len, rbp_len, sl_len, slN_len, wh_len, wt_len, hd10_len, hdB_len, thr_len, ldp_len, ldB_len, tens_len, whz_len, majL_len, mf_len, tkL_len, ldY_len, fif_len, ldY_len]; omega) | decide) (by first | omega | assumption | (simp only [List.length_append, List.length_cons, List.length_nil, List.length_modify, List.length_set, nb_len, rb_len, rbp_len, sl_len, slN_len, wh_len, wt_len, hd10_len, hdB_len, thr_len, ldp_len, ldB_len, tens_len, whz_len, majL_len, mf_len, tkL_len, ldY_len, fif_len, ldY_len]; omega) | decide) (by first | omega | assumption | (simp only [List.length_append, List.length_cons, List.length_nil, List.length_modify, List.length_set, nb_len, rb_len, rbp_len, sl_len, slN_len, wh_len, wt_len, hd10_len, hdB_len, thr_len, ldp_len, ldB_len, tens_len, whz_len, majL_len, mf_len, tkL_len, ldY_len, fif_len, ldY_len]; omega) | decide) (by first | omega | assumption | (simp only [List.length_append, List.length_cons, List.length_nil, List.length_modify, List.length_set, nb_len, rb_len, rbp_len, sl_len, slN_len, wh_len, wt_len, hd10_len, hdB_len, thr_len, ldp_len, ldB_len, tens_len, whz_len, majL_len, mf_len, tkL_len, ldY_len, fif_len, ldY_len]; omega) | decide)) kX2_65 vX4_use (by decide) rfl ho [0, 4, 5, 6, 1, 7, 2, 3] 8 (by decide +kernel) rfl rfl rfl rfl rfl hl.1 rfl (Nat.le_of_ble_eq_true rfl) dX2_heed_68 0 0 rfl rfl (by decide) (fun v u_5 H locs hq ho => ?_)
      obtain ⟨rfl, hqu⟩ := hq
      have ho : ow D vwCl A s.heap H locs [bIn K hi ht hp ((rbe || pt) && !iFin rbe pt du pl y) (iDu1 rbe du y) rt (iDr1 rbe pt dr + (iFin rbe pt du pl y && !iApp rbe pt du pl y sz).toNat) (co + rcr), bH K ht q mh fi (sz + (iApp rbe pt du pl y sz).toNat), bPool K mh ma 255 u_5.2.1 u_5.2.2, bM K hp ap 318 (iPl1 rbe pt pl y) u_5.1, bF K hr hrm rk rak rt rbe rcr, bM K hrm ram 63 y rgm, bD K hD h hi hb_ true true, bO K h hw hq hs hf fr (fw && !rak) gu tu] := ho
      refine W.eq (g2 := F0 m 71 ls []) rfl ?_
      refine lv_bipush (v := nI 6) hx hb dX2_heed_71 (by decide) ?_
      have ho : ow D vwCl A s.heap H locs [bD K hD h hi hb_ true true, bO K h hw hq hs hf fr (fw && !rak) gu tu, bIn K hi ht hp ((rbe || pt) && !iFin rbe pt du pl y) (iDu1 rbe du y) rt (iDr1 rbe pt dr + (iFin rbe pt du pl y && !iApp rbe pt du pl y sz).toNat) (co + rcr), bF K hr hrm rk rak rt rbe rcr, bH K ht q mh fi (sz + (iApp rbe pt du pl y sz).toNat), bPool K mh ma 255 u_5.2.1 u_5.2.2, bM K hp ap 318 (iPl1 rbe pt pl y) u_5.1, bM K hrm ram 63 y rgm] := ho.re [6, 7, 0, 4, 1, 2, 3, 5] 8 (by decide +kernel) rfl rfl
      exact o_iret hQ C rfl ho (u_5.1, u_5.2.1, u_5.2.2) (by dsimp only; exact ⟨rfl, hqu⟩) (by dsimp only [gs, List.getD_cons_zero, List.getD_cons_succ] <;> rfl) (Nat.le_of_ble_eq_true rfl) (Nat.le_of_ble_eq_true rfl) dX2_heed_73
    · skip
      rw [decide_eq_false q1] at c_4; exact absurd c_4 (by decide)
  · skip
    refine lv_aload_n hx hb dX2_heed_29 rfl (lv_at hl 0 rfl) ?_
    refine o_get (v := .ref h) C ho 0 0 rfl rfl rfl 0 fX2_12 rfl dX2_heed_30 ?_
    refine o_callV (wr := [bD K hD h hi hb_ gd true, bIn K hi ht hp pt du lt dr (co + rcr), bF K hr hrm rk rak rt rbe rcr, bH K ht q mh fi sz, bPool K mh ma 255 ml mg, bM K hp ap 318 pl gp, bM K hrm ram 63 y rgm]) (rest := []) (As := []) C (c_Out_acknowledge la D K h hw hq hs hf fr fw gu tu ) kX2_58 vX7_acknowledge (by decide) rfl ho [1, 0, 2, 3, 4, 5, 6, 7] 8 (by decide +kernel) rfl rfl rfl rfl rfl hl.1 rfl (Nat.le_of_ble_eq_true rfl) dX2_heed_33 0 0 rfl rfl (by decide) (fun v u_7 H locs hq ho => ?_)
    obtain rfl := hq
    have ho : ow D vwCl A s.heap H locs [bO K h hw hq hs hf fr false gu tu, bD K hD h hi hb_ gd true, bIn K hi ht hp pt du lt dr (co + rcr), bF K hr hrm rk rak rt rbe rcr, bH K ht q mh fi sz, bPool K mh ma 255 ml mg, bM K hp ap 318 pl gp, bM K hrm ram 63 y rgm] := ho
    refine W.eq (g2 := F0 m 36 ls []) rfl ?_
    have e_8 : bO K h hw hq hs hf fr false gu tu = bO K h hw hq hs hf fr (fw && !rak) gu tu := by rw [c_1, Bool.not_true, Bool.and_false]
    have ho : ow D vwCl A s.heap H locs [bO K h hw hq hs hf fr (fw && !rak) gu tu, bD K hD h hi hb_ gd true, bIn K hi ht hp pt du lt dr (co + rcr), bF K hr hrm rk rak rt rbe rcr, bH K ht q mh fi sz, bPool K mh ma 255 ml mg, bM K hp ap 318 pl gp, bM K hrm ram 63 y rgm] := by rw [← e_8]; exact ho
    refine lv_iload_n hx hb dX2_heed_36 rfl (lv_at hl 2 rfl) ?_
    refine lv_bipush (v := nI 6) hx hb dX2_heed_37 (by decide) ?_
    refine o_icmp_eq (tgt := 44) hx hb dX2_heed_39 (by decide) (by decide) (by decide) (fun _ => ?_) (fun c9 => absurd c9 (by decide))
    refine lv_aload_n hx hb dX2_heed_44 rfl (lv_at hl 0 rfl) ?_
    refine lv_iconst (v := nI 1) hx hb dX2_heed_45 (by decide) ?_
    refine o_put (v := .int (nI 1)) (bs' := [bO K h hw hq hs hf fr (fw && !rak) gu tu, bD K hD h hi hb_ true true, bIn K hi ht hp pt du lt dr (co + rcr), bF K hr hrm rk rak rt rbe rcr, bH K ht q mh fi sz, bPool K mh ma 255 ml mg, bM K hp ap 318 pl gp, bM K hrm ram 63 y rgm]) C ho 1 0 rfl rfl rfl 3 fX2_48 pX2_3 rfl rfl (Nat.le_of_ble_eq_true rfl) dX2_heed_46 rfl (fun H locs ho => ?_)
    refine lv_aload_n hx hb dX2_heed_49 rfl (lv_at hl 0 rfl) ?_
    refine o_get (v := .ref hi) C ho 1 0 rfl rfl rfl 1 fX2_21 rfl dX2_heed_50 ?_
    refine lv_aload_n hx hb dX2_heed_53 rfl (lv_at hl 1 rfl) ?_
    refine o_callV (wr := [bO K h hw hq hs hf fr (fw && !rak) gu tu, bD K hD h hi hb_ true true, bH K ht q mh fi sz, bPool K mh ma 255 ml mg, bM K hp ap 318 pl gp, bM K hrm ram 63 y rgm]) (rest := []) (As := [.ref hr]) C (c_In_isNew la D K hi ht hp pt du lt dr (co + rcr) hr hrm rk rak rt rbe rcr ) kX2_61 vX4_isNew (by decide) rfl ho [2, 3, 0, 1, 4, 5, 6, 7] 8 (by decide +kernel) rfl rfl rfl rfl rfl hl.1 rfl (Nat.le_of_ble_eq_true rfl) dX2_heed_54 0 0 rfl rfl (by decide) (fun v u_9 H locs hq ho => ?_)
    obtain rfl := hq
    have ho : ow D vwCl A s.heap H locs [bIn K hi ht hp pt du lt dr (co + rcr), bF K hr hrm rk rak rt rbe rcr, bO K h hw hq hs hf fr (fw && !rak) gu tu, bD K hD h hi hb_ true true, bH K ht q mh fi sz, bPool K mh ma 255 ml mg, bM K hp ap 318 pl gp, bM K hrm ram 63 y rgm] := ho
    refine W.eq (g2 := F0 m 57 ls [.int (bI (!decide (rt = lt)))]) rfl ?_
    refine o_ifb_ne (tgt := 63) hx hb dX2_heed_57 (by decide) (fun c_10 => ?_) (fun c_10 => ?_)
    · skip
      refine lv_aload_n hx hb dX2_heed_63 rfl (lv_at hl 0 rfl) ?_
      refine o_get (v := .ref hi) C ho 3 0 rfl rfl rfl 1 fX2_21 rfl dX2_heed_64 ?_
      refine lv_aload_n hx hb dX2_heed_67 rfl (lv_at hl 1 rfl) ?_
      refine o_callV (wr := [bO K h hw hq hs hf fr (fw && !rak) gu tu, bD K hD h hi hb_ true true]) (rest := []) (As := [.ref hr]) C (c_In_use la D K hi ht hp pt du lt dr (co + rcr) q mh fi sz ma ml mg ap pl gp hr hrm rk rak rt rbe rcr ram y rgm (by first | omega | assumption | (simp only [List.length_append, List.length_cons, List.length_nil, List.length_modify, List.length_set, nb_len, rb_len, rbp_len, sl_len, slN_len, wh_len, wt_len, hd10_len, hdB_len, thr_len, ldp_len, ldB_len, tens_len, whz_len, majL_len, mf_len, tkL_len, ldY_len, fif_len, ldY_len]; omega) | decide) (by first | omega | assumption | (simp only [List.length_append, List.length_cons, List.length_nil, List.length_modify, List.length_set, nb_len, rb_len, rbp_len, sl_len, slN_len, wh_len, wt_len, hd10_len, hdB_len, thr_len, ldp_len, ldB_len, tens_len, whz_len, majL_len, mf_len, tkL_len, ldY_len, fif_len, ldY_len]; omega) | decide) (by first | omega | assumption | (simp only [List.length_append, List.length_cons, List.length_nil, List.length_modify, List.length_set, nb_len, rb_len, rbp_len, sl_len, slN_len, wh_len, wt_len, hd10_len, hdB_len, thr_len, ldp_len, ldB_len, tens_len, whz_len, majL_len, mf_len, tkL_len, ldY_len, fif_len, ldY_len]; omega) | decide) (by first | omega | assumption | (simp only [List.length_append, List.length_cons, List.length_nil, List.length_modify, List.length_set, nb_len, rb_len, rbp_len, sl_len, slN_len, wh_len, wt_len, hd10_len, hdB_len, thr_len, ldp_len, ldB_len, tens_len, whz_len, majL_len, mf_len, tkL_len, ldY_len, fif_len, ldY_len]; omega) | decide) (by first | omega | assumption | (simp only [List.length_append, List.length_cons, List.length_nil, List.length_modify, List.length_set, nb_len, rb_len, rbp_len, sl_len, slN_len, wh_len, wt_len, hd10_len, hdB_len, thr_len, ldp_len, ldB_len, tens_len, whz_len, majL_len, mf_len, tkL_len, ldY_len, fif_len, ldY_len]; omega) | decide) (by first | omega | assumption | (simp only [List.length_append, List.length_cons, List.length_nil, List.length_modify, List.length_set, nb_len, rb_len, rbp_len, sl_len, slN_len, wh_len, wt_len, hd10_len, hdB_len, thr_len, ldp_len, ldB_len, tens_len, whz_len, majL_len, mf_len, tkL_len, ldY_len, fif_len, ldY_len]; omega) | decide) (by first | omega | assumption | (simp only [List.length_append, List.length_cons, List.length_nil, List.length_modify, List.length_set, nb_len, rb_len, rbp_len, sl_len, slN_len, wh_len, wt_len, hd10_len, hdB_len, thr_len, ldp_len, ldB_len, tens_len, whz_len, majL_len, mf_len, tkL_len, ldY_len, fif_len, ldY_len]; omega) | decide) (by first | omega | assumption | (simp only [List.length_append, List.length_cons, List.length_nil, List.length_modify, List.length_set, nb_len, rb_len, rbp_len, sl_len, slN_len, wh_len, wt_len, hd10_len, hdB_len, thr_len, ldp_len, ldB_len, tens_len, whz_len, majL_len, mf_len, tkL_len, ldY_len, fif_len, ldY_len]; omega) | decide)) kX2_65 vX4_use (by decide) rfl ho [0, 4, 5, 6, 1, 7, 2, 3] 8 (by decide +kernel) rfl rfl rfl rfl rfl hl.1 rfl (Nat.le_of_ble_eq_true rfl) dX2_heed_68 0 0 rfl rfl (by decide) (fun v u_11 H locs hq ho => ?_)
      obtain ⟨rfl, hqu⟩ := hq
      have ho : ow D vwCl A s.heap H locs [bIn K hi ht hp ((rbe || pt) && !iFin rbe pt du pl y) (iDu1 rbe du y) rt (iDr1 rbe pt dr + (iFin rbe pt du pl y && !iApp rbe pt du pl y sz).toNat) (co + rcr), bH K ht q mh fi (sz + (iApp rbe pt du pl y sz).toNat), bPool K mh ma 255 u_11.2.1 u_11.2.2, bM K hp ap 318 (iPl1 rbe pt pl y) u_11.1, bF K hr hrm rk rak rt rbe rcr, bM K hrm ram 63 y rgm, bO K h hw hq hs hf fr (fw && !rak) gu tu, bD K hD h hi hb_ true true] := ho
      refine W.eq (g2 := F0 m 71 ls []) rfl ?_
      refine lv_bipush (v := nI 6) hx hb dX2_heed_71 (by decide) ?_
      have ho : ow D vwCl A s.heap H locs [bD K hD h hi hb_ true true, bO K h hw hq hs hf fr (fw && !rak) gu tu, bIn K hi ht hp ((rbe || pt) && !iFin rbe pt du pl y) (iDu1 rbe du y) rt (iDr1 rbe pt dr + (iFin rbe pt du pl y && !iApp rbe pt du pl y sz).toNat) (co + rcr), bF K hr hrm rk rak rt rbe rcr, bH K ht q mh fi (sz + (iApp rbe pt du pl y sz).toNat), bPool K mh ma 255 u_11.2.1 u_11.2.2, bM K hp ap 318 (iPl1 rbe pt pl y) u_11.1, bM K hrm ram 63 y rgm] := ho.re [7, 6, 0, 4, 1, 2, 3, 5] 8 (by decide +kernel) rfl rfl
      exact o_iret hQ C rfl ho (u_11.1, u_11.2.1, u_11.2.2) (by dsimp only; exact ⟨rfl, hqu⟩) (by dsimp only [gs, List.getD_cons_zero, List.getD_cons_succ] <;> rfl) (Nat.le_of_ble_eq_true rfl) (Nat.le_of_ble_eq_true rfl) dX2_heed_73
    · skip
      rw [decide_eq_false q1] at c_10; exact absurd c_10 (by decide)

set_option maxHeartbeats 4000000 in
set_option maxRecDepth 100000 in
theorem c_Dev_tell0 (la : Launch) (D : va_G) (K : Nat → ClassId) (hD : Nat) (hi : Nat) (hb_ : Nat) (gd : Bool) (hd : Bool) (h : Nat) (hw : Nat) (hq : Nat) (hs : Nat) (hf : Nat) (fr : Nat) (fw : Bool) (gu : Bool) (tu : Bool) (q : Nat) (mh : Nat → Nat) (fi : Nat) (sz : Nat)  : MT la D K yX2_tell cX2_tell 2 (some .int) (rmL 1 0 0) [.ref hD, .int (nI 0)] [bD K hD h hi hb_ gd hd, bO K h hw hq hs hf fr fw gu tu, bH K hq q mh fi sz] Unit (fun v _ => v = some (.int (nI sz))) (fun _ => [bD K hD h hi hb_ gd hd, bO K h hw hq hs hf fr fw gu tu, bH K hq q mh fi sz]) := by
  refine Mt.ofW [(0, .ref hD), (1, .int (nI 0))] (by decide) rfl (Nat.le_of_ble_eq_true rfl) ?_
  intro p e s m args below meth c A ls H locs Qz hQ C hin hl ho
  have hx := C.1.1
  have hb := C.1.2.1
  refine lv_iload_n hx hb dX2_tell_0 rfl (lv_at hl 1 rfl) ?_
  refine lv_tableIn (off := 55) (tgt := 56) hx hb dX2_tell_1 (by decide) (by decide) rfl (by decide) ?_
  refine lv_aload_n hx hb dX2_tell_56 rfl (lv_at hl 0 rfl) ?_
  refine o_get (v := .ref h) C ho 0 0 rfl rfl rfl 0 fX2_12 rfl dX2_tell_57 ?_
  refine o_get (v := .ref hq) C ho 1 0 rfl rfl rfl 1 fX2_69 rfl dX2_tell_60 ?_
  refine o_get (v := .int (nI sz)) C ho 2 0 rfl rfl rfl 2 fX2_73 rfl dX2_tell_63 ?_
  exact o_iret hQ C rfl ho () rfl rfl (Nat.le_of_ble_eq_true rfl) (Nat.le_of_ble_eq_true rfl) dX2_tell_66

set_option maxHeartbeats 4000000 in
set_option maxRecDepth 100000 in
theorem c_Dev_tell1 (la : Launch) (D : va_G) (K : Nat → ClassId) (hD : Nat) (hi : Nat) (hb_ : Nat) (gd : Bool) (hd : Bool) (h : Nat) (ht : Nat) (hp : Nat) (pt : Bool) (du : Nat) (lt : Bool) (dr : Nat) (co : Nat) (q : Nat) (mh : Nat → Nat) (fi : Nat) (sz : Nat)  : MT la D K yX2_tell cX2_tell 2 (some .int) (rmL 1 0 0) [.ref hD, .int (nI 1)] [bD K hD h hi hb_ gd hd, bIn K hi ht hp pt du lt dr co, bH K ht q mh fi sz] Unit (fun v _ => v = some (.int (nI sz))) (fun _ => [bD K hD h hi hb_ gd hd, bIn K hi ht hp pt du lt dr co, bH K ht q mh fi sz]) := by
  refine Mt.ofW [(0, .ref hD), (1, .int (nI 1))] (by decide) rfl (Nat.le_of_ble_eq_true rfl) ?_
  intro p e s m args below meth c A ls H locs Qz hQ C hin hl ho
  have hx := C.1.1
  have hb := C.1.2.1
  refine lv_iload_n hx hb dX2_tell_0 rfl (lv_at hl 1 rfl) ?_
  refine lv_tableIn (off := 66) (tgt := 67) hx hb dX2_tell_1 (by decide) (by decide) rfl (by decide) ?_
  refine lv_aload_n hx hb dX2_tell_67 rfl (lv_at hl 0 rfl) ?_
  refine o_get (v := .ref hi) C ho 0 0 rfl rfl rfl 1 fX2_21 rfl dX2_tell_68 ?_
  refine o_get (v := .ref ht) C ho 1 0 rfl rfl rfl 0 fX2_78 rfl dX2_tell_71 ?_
  refine o_get (v := .int (nI sz)) C ho 2 0 rfl rfl rfl 2 fX2_73 rfl dX2_tell_74 ?_
  exact o_iret hQ C rfl ho () rfl rfl (Nat.le_of_ble_eq_true rfl) (Nat.le_of_ble_eq_true rfl) dX2_tell_77

set_option maxHeartbeats 4000000 in
set_option maxRecDepth 100000 in
theorem c_Dev_tell2 (la : Launch) (D : va_G) (K : Nat → ClassId) (hD : Nat) (hi : Nat) (hb_ : Nat) (gd : Bool) (hd : Bool) (h : Nat) (hw : Nat) (hq : Nat) (hs : Nat) (hf : Nat) (fr : Nat) (fw : Bool) (gu : Bool) (tu : Bool) (as_ : Nat) (ls_ : List Nat) (gs_ : Nat → Int32) (q1 : fr ≤ ls_.length) : MT la D K yX2_tell cX2_tell 2 (some .int) (rmL 2 0 0) [.ref hD, .int (nI 2)] [bD K hD h hi hb_ gd hd, bO K h hw hq hs hf fr fw gu tu, bM K hs as_ 41 ls_ gs_] Unit (fun v _ => v = some (.int (nI (ls_.length - fr)))) (fun _ => [bD K hD h hi hb_ gd hd, bO K h hw hq hs hf fr fw gu tu, bM K hs as_ 41 ls_ gs_]) := by
  refine Mt.ofW [(0, .ref hD), (1, .int (nI 2))] (by decide) rfl (Nat.le_of_ble_eq_true rfl) ?_
  intro p e s m args below meth c A ls H locs Qz hQ C hin hl ho
  have hx := C.1.1
  have hb := C.1.2.1
  refine lv_iload_n hx hb dX2_tell_0 rfl (lv_at hl 1 rfl) ?_
  refine lv_tableIn (off := 77) (tgt := 78) hx hb dX2_tell_1 (by decide) (by decide) rfl (by decide) ?_
  refine lv_aload_n hx hb dX2_tell_78 rfl (lv_at hl 0 rfl) ?_
  refine o_get (v := .ref h) C ho 0 0 rfl rfl rfl 0 fX2_12 rfl dX2_tell_79 ?_
  refine o_callV (wr := [bD K hD h hi hb_ gd hd]) (rest := []) (As := []) C (c_Out_bytesLeft la D K h hw hq hs hf fr fw gu tu as_ ls_ gs_ (by first | omega | assumption | (simp only [List.length_append, List.length_cons, List.length_nil, List.length_modify, List.length_set, nb_len, rb_len, rbp_len, sl_len, slN_len, wh_len, wt_len, hd10_len, hdB_len, thr_len, ldp_len, ldB_len, tens_len, whz_len, majL_len, mf_len, tkL_len, ldY_len, fif_len, ldY_len]; omega) | decide)) kX2_81 vX7_bytesLeft (by decide) rfl ho [1, 2, 0] 3 (by decide +kernel) rfl rfl rfl rfl rfl hl.1 rfl (Nat.le_of_ble_eq_true rfl) dX2_tell_82 0 0 rfl rfl (by decide) (fun v u_1 H locs hq ho => ?_)
  obtain rfl := hq
  have ho : ow D vwCl A s.heap H locs [bO K h hw hq hs hf fr fw gu tu, bM K hs as_ 41 ls_ gs_, bD K hD h hi hb_ gd hd] := ho
  refine W.eq (g2 := F0 m 85 ls [.int (nI (ls_.length - fr))]) rfl ?_
  have ho : ow D vwCl A s.heap H locs [bD K hD h hi hb_ gd hd, bO K h hw hq hs hf fr fw gu tu, bM K hs as_ 41 ls_ gs_] := ho.re [2, 0, 1] 3 (by decide +kernel) rfl rfl
  exact o_iret hQ C rfl ho () rfl rfl (Nat.le_of_ble_eq_true rfl) (Nat.le_of_ble_eq_true rfl) dX2_tell_85

set_option maxHeartbeats 4000000 in
set_option maxRecDepth 100000 in
theorem c_Dev_tell3 (la : Launch) (D : va_G) (K : Nat → ClassId) (hD : Nat) (hi : Nat) (hb_ : Nat) (gd : Bool) (hd : Bool) (h : Nat) (hw : Nat) (hq : Nat) (hs : Nat) (hf : Nat) (fr : Nat) (fw : Bool) (gu : Bool) (tu : Bool) (hm : Nat) (kd : Nat) (ak : Bool) (ft : Bool) (be : Bool) (cr : Nat) (am : Nat) (lm : List Nat) (gm : Nat → Int32)  : MT la D K yX2_tell cX2_tell 2 (some .int) (rmL 2 0 0) [.ref hD, .int (nI 3)] [bD K hD h hi hb_ gd hd, bO K h hw hq hs hf fr fw gu tu, bF K hf hm kd ak ft be cr, bM K hm am 63 lm gm] Unit (fun v _ => v = some (.int (nI (cond fw lm.length 0)))) (fun _ => [bD K hD h hi hb_ gd hd, bO K h hw hq hs hf fr fw gu tu, bF K hf hm kd ak ft be cr, bM K hm am 63 lm gm]) := by
  refine Mt.ofW [(0, .ref hD), (1, .int (nI 3))] (by decide) rfl (Nat.le_of_ble_eq_true rfl) ?_
  intro p e s m args below meth c A ls H locs Qz hQ C hin hl ho
  have hx := C.1.1
  have hb := C.1.2.1
  refine lv_iload_n hx hb dX2_tell_0 rfl (lv_at hl 1 rfl) ?_
  refine lv_tableIn (off := 85) (tgt := 86) hx hb dX2_tell_1 (by decide) (by decide) rfl (by decide) ?_
  refine lv_aload_n hx hb dX2_tell_86 rfl (lv_at hl 0 rfl) ?_
  refine o_get (v := .ref h) C ho 0 0 rfl rfl rfl 0 fX2_12 rfl dX2_tell_87 ?_
  refine o_callV (wr := [bD K hD h hi hb_ gd hd]) (rest := []) (As := []) C (c_Out_unack la D K h hw hq hs hf fr fw gu tu hm kd ak ft be cr am lm gm ) kX2_85 vX7_bytesUnacknowledged (by decide) rfl ho [1, 2, 3, 0] 4 (by decide +kernel) rfl rfl rfl rfl rfl hl.1 rfl (Nat.le_of_ble_eq_true rfl) dX2_tell_90 0 0 rfl rfl (by decide) (fun v u_1 H locs hq ho => ?_)
  obtain rfl := hq
  have ho : ow D vwCl A s.heap H locs [bO K h hw hq hs hf fr fw gu tu, bF K hf hm kd ak ft be cr, bM K hm am 63 lm gm, bD K hD h hi hb_ gd hd] := ho
  refine W.eq (g2 := F0 m 93 ls [.int (nI (cond fw lm.length 0))]) rfl ?_
  have ho : ow D vwCl A s.heap H locs [bD K hD h hi hb_ gd hd, bO K h hw hq hs hf fr fw gu tu, bF K hf hm kd ak ft be cr, bM K hm am 63 lm gm] := ho.re [3, 0, 1, 2] 4 (by decide +kernel) rfl rfl
  exact o_iret hQ C rfl ho () rfl rfl (Nat.le_of_ble_eq_true rfl) (Nat.le_of_ble_eq_true rfl) dX2_tell_93

set_option maxHeartbeats 4000000 in
set_option maxRecDepth 100000 in
theorem c_Dev_tell4 (la : Launch) (D : va_G) (K : Nat → ClassId) (hD : Nat) (hi : Nat) (hb_ : Nat) (gd : Bool) (hd : Bool) (h : Nat) (ht : Nat) (hp : Nat) (pt : Bool) (du : Nat) (lt : Bool) (dr : Nat) (co : Nat) (ap : Nat) (pl : List Nat) (gp : Nat → Int32)  : MT la D K yX2_tell cX2_tell 2 (some .int) (rmL 2 0 0) [.ref hD, .int (nI 4)] [bD K hD h hi hb_ gd hd, bIn K hi ht hp pt du lt dr co, bM K hp ap 318 pl gp] Unit (fun v _ => v = some (.int (nI (cond pt pl.length 0)))) (fun _ => [bD K hD h hi hb_ gd hd, bIn K hi ht hp pt du lt dr co, bM K hp ap 318 pl gp]) := by
  refine Mt.ofW [(0, .ref hD), (1, .int (nI 4))] (by decide) rfl (Nat.le_of_ble_eq_true rfl) ?_
  intro p e s m args below meth c A ls H locs Qz hQ C hin hl ho
  have hx := C.1.1
  have hb := C.1.2.1
  refine lv_iload_n hx hb dX2_tell_0 rfl (lv_at hl 1 rfl) ?_
  refine lv_tableIn (off := 93) (tgt := 94) hx hb dX2_tell_1 (by decide) (by decide) rfl (by decide) ?_
  refine lv_aload_n hx hb dX2_tell_94 rfl (lv_at hl 0 rfl) ?_
  refine o_get (v := .ref hi) C ho 0 0 rfl rfl rfl 1 fX2_21 rfl dX2_tell_95 ?_
  refine o_callV (wr := [bD K hD h hi hb_ gd hd]) (rest := []) (As := []) C (c_In_soFar la D K hi ht hp pt du lt dr co ap pl gp ) kX2_88 vX4_bytesSoFar (by decide) rfl ho [1, 2, 0] 3 (by decide +kernel) rfl rfl rfl rfl rfl hl.1 rfl (Nat.le_of_ble_eq_true rfl) dX2_tell_98 0 0 rfl rfl (by decide) (fun v u_1 H locs hq ho => ?_)
  obtain rfl := hq
  have ho : ow D vwCl A s.heap H locs [bIn K hi ht hp pt du lt dr co, bM K hp ap 318 pl gp, bD K hD h hi hb_ gd hd] := ho
  refine W.eq (g2 := F0 m 101 ls [.int (nI (cond pt pl.length 0))]) rfl ?_
  have ho : ow D vwCl A s.heap H locs [bD K hD h hi hb_ gd hd, bIn K hi ht hp pt du lt dr co, bM K hp ap 318 pl gp] := ho.re [2, 0, 1] 3 (by decide +kernel) rfl rfl
  exact o_iret hQ C rfl ho () rfl rfl (Nat.le_of_ble_eq_true rfl) (Nat.le_of_ble_eq_true rfl) dX2_tell_101

set_option maxHeartbeats 4000000 in
set_option maxRecDepth 100000 in
theorem c_Dev_tell5 (la : Launch) (D : va_G) (K : Nat → ClassId) (hD : Nat) (hi : Nat) (hb_ : Nat) (gd : Bool) (hd : Bool) (h : Nat) (ht : Nat) (hp : Nat) (pt : Bool) (du : Nat) (lt : Bool) (dr : Nat) (co : Nat)  : MT la D K yX2_tell cX2_tell 2 (some .int) (rmL 1 0 0) [.ref hD, .int (nI 5)] [bD K hD h hi hb_ gd hd, bIn K hi ht hp pt du lt dr co] Unit (fun v _ => v = some (.int (nI dr))) (fun _ => [bD K hD h hi hb_ gd hd, bIn K hi ht hp pt du lt dr co]) := by
  refine Mt.ofW [(0, .ref hD), (1, .int (nI 5))] (by decide) rfl (Nat.le_of_ble_eq_true rfl) ?_
  intro p e s m args below meth c A ls H locs Qz hQ C hin hl ho
  have hx := C.1.1
  have hb := C.1.2.1
  refine lv_iload_n hx hb dX2_tell_0 rfl (lv_at hl 1 rfl) ?_
  refine lv_tableIn (off := 101) (tgt := 102) hx hb dX2_tell_1 (by decide) (by decide) rfl (by decide) ?_
  refine lv_aload_n hx hb dX2_tell_102 rfl (lv_at hl 0 rfl) ?_
  refine o_get (v := .ref hi) C ho 0 0 rfl rfl rfl 1 fX2_21 rfl dX2_tell_103 ?_
  refine o_get (v := .int (nI dr)) C ho 1 0 rfl rfl rfl 5 fX2_91 rfl dX2_tell_106 ?_
  exact o_iret hQ C rfl ho () rfl rfl (Nat.le_of_ble_eq_true rfl) (Nat.le_of_ble_eq_true rfl) dX2_tell_109

set_option maxHeartbeats 4000000 in
set_option maxRecDepth 100000 in
theorem c_Dev_tell6 (la : Launch) (D : va_G) (K : Nat → ClassId) (hD : Nat) (hi : Nat) (hb_ : Nat) (gd : Bool) (hd : Bool) (h : Nat) (ht : Nat) (hp : Nat) (pt : Bool) (du : Nat) (lt : Bool) (dr : Nat) (co : Nat)  : MT la D K yX2_tell cX2_tell 2 (some .int) (rmL 1 0 0) [.ref hD, .int (nI 6)] [bD K hD h hi hb_ gd hd, bIn K hi ht hp pt du lt dr co] Unit (fun v _ => v = some (.int (nI co))) (fun _ => [bD K hD h hi hb_ gd hd, bIn K hi ht hp pt du lt dr co]) := by
  refine Mt.ofW [(0, .ref hD), (1, .int (nI 6))] (by decide) rfl (Nat.le_of_ble_eq_true rfl) ?_
  intro p e s m args below meth c A ls H locs Qz hQ C hin hl ho
  have hx := C.1.1
  have hb := C.1.2.1
  refine lv_iload_n hx hb dX2_tell_0 rfl (lv_at hl 1 rfl) ?_
  refine lv_tableIn (off := 109) (tgt := 110) hx hb dX2_tell_1 (by decide) (by decide) rfl (by decide) ?_
  refine lv_aload_n hx hb dX2_tell_110 rfl (lv_at hl 0 rfl) ?_
  refine o_get (v := .ref hi) C ho 0 0 rfl rfl rfl 1 fX2_21 rfl dX2_tell_111 ?_
  refine o_get (v := .int (nI co)) C ho 1 0 rfl rfl rfl 6 fX2_54 rfl dX2_tell_114 ?_
  exact o_iret hQ C rfl ho () rfl rfl (Nat.le_of_ble_eq_true rfl) (Nat.le_of_ble_eq_true rfl) dX2_tell_117

set_option maxHeartbeats 4000000 in
set_option maxRecDepth 100000 in
theorem c_Dev_tell7 (la : Launch) (D : va_G) (K : Nat → ClassId) (hD : Nat) (hi : Nat) (hb_ : Nat) (gd : Bool) (hd : Bool) (h : Nat) (hw : Nat) (hq : Nat) (hs : Nat) (hf : Nat) (fr : Nat) (fw : Bool) (gu : Bool) (tu : Bool)  : MT la D K yX2_tell cX2_tell 2 (some .int) (rmL 1 0 0) [.ref hD, .int (nI 7)] [bD K hD h hi hb_ gd hd, bO K h hw hq hs hf fr fw gu tu] Unit (fun v _ => v = some (.int (bI tu))) (fun _ => [bD K hD h hi hb_ gd hd, bO K h hw hq hs hf fr fw gu tu]) := by
  refine Mt.ofW [(0, .ref hD), (1, .int (nI 7))] (by decide) rfl (Nat.le_of_ble_eq_true rfl) ?_
  intro p e s m args below meth c A ls H locs Qz hQ C hin hl ho
  have hx := C.1.1
  have hb := C.1.2.1
  refine lv_iload_n hx hb dX2_tell_0 rfl (lv_at hl 1 rfl) ?_
  refine lv_tableIn (off := 117) (tgt := 118) hx hb dX2_tell_1 (by decide) (by decide) rfl (by decide) ?_
  refine lv_aload_n hx hb dX2_tell_118 rfl (lv_at hl 0 rfl) ?_
  refine o_get (v := .ref h) C ho 0 0 rfl rfl rfl 0 fX2_12 rfl dX2_tell_119 ?_
  refine o_get (v := .int (bI tu)) C ho 1 0 rfl rfl rfl 7 fX2_44 rfl dX2_tell_122 ?_
  exact o_iret hQ C rfl ho () rfl rfl (Nat.le_of_ble_eq_true rfl) (Nat.le_of_ble_eq_true rfl) dX2_tell_125

set_option maxHeartbeats 4000000 in
set_option maxRecDepth 100000 in
theorem c_Dev_tell8 (la : Launch) (D : va_G) (K : Nat → ClassId) (hD : Nat) (hi : Nat) (hb_ : Nat) (gd : Bool) (hd : Bool) (h : Nat)  : MT la D K yX2_tell cX2_tell 2 (some .int) (rmL 1 0 0) [.ref hD, .int (nI 8)] [bD K hD h hi hb_ gd hd] Unit (fun v _ => v = some (.int (bI gd))) (fun _ => [bD K hD h hi hb_ gd hd]) := by
  refine Mt.ofW [(0, .ref hD), (1, .int (nI 8))] (by decide) rfl (Nat.le_of_ble_eq_true rfl) ?_
  intro p e s m args below meth c A ls H locs Qz hQ C hin hl ho
  have hx := C.1.1
  have hb := C.1.2.1
  refine lv_iload_n hx hb dX2_tell_0 rfl (lv_at hl 1 rfl) ?_
  refine lv_tableIn (off := 125) (tgt := 126) hx hb dX2_tell_1 (by decide) (by decide) rfl (by decide) ?_
  refine lv_aload_n hx hb dX2_tell_126 rfl (lv_at hl 0 rfl) ?_
  refine o_get (v := .int (bI gd)) C ho 0 0 rfl rfl rfl 3 fX2_48 rfl dX2_tell_127 ?_
  refine o_ifb_eq (tgt := 137) hx hb dX2_tell_130 (by decide) (fun c_1 => ?_) (fun c_1 => ?_)
  · skip
    refine lv_iconst (v := nI 0) hx hb dX2_tell_137 (by decide) ?_
    exact o_iret hQ C rfl ho () (by rw [c_1]; rfl) rfl (Nat.le_of_ble_eq_true rfl) (Nat.le_of_ble_eq_true rfl) dX2_tell_138
  · skip
    refine lv_iconst (v := nI 1) hx hb dX2_tell_133 (by decide) ?_
    refine lv_goto (tgt := 138) hx hb dX2_tell_134 (by decide) ?_
    exact o_iret hQ C rfl ho () (by rw [c_1]; rfl) rfl (Nat.le_of_ble_eq_true rfl) (Nat.le_of_ble_eq_true rfl) dX2_tell_138

set_option maxHeartbeats 4000000 in
set_option maxRecDepth 100000 in
theorem c_Dev_tell9 (la : Launch) (D : va_G) (K : Nat → ClassId) (hD : Nat) (hi : Nat) (hb_ : Nat) (gd : Bool) (hd : Bool) (h : Nat)  : MT la D K yX2_tell cX2_tell 2 (some .int) (rmL 1 0 0) [.ref hD, .int (nI 9)] [bD K hD h hi hb_ gd hd] Unit (fun v _ => v = some (.int (bI hd))) (fun _ => [bD K hD h hi hb_ gd hd]) := by
  refine Mt.ofW [(0, .ref hD), (1, .int (nI 9))] (by decide) rfl (Nat.le_of_ble_eq_true rfl) ?_
  intro p e s m args below meth c A ls H locs Qz hQ C hin hl ho
  have hx := C.1.1
  have hb := C.1.2.1
  refine lv_iload_n hx hb dX2_tell_0 rfl (lv_at hl 1 rfl) ?_
  refine lv_tableIn (off := 138) (tgt := 139) hx hb dX2_tell_1 (by decide) (by decide) rfl (by decide) ?_
  refine lv_aload_n hx hb dX2_tell_139 rfl (lv_at hl 0 rfl) ?_
  refine o_get (v := .int (bI hd)) C ho 0 0 rfl rfl rfl 4 fX2_36 rfl dX2_tell_140 ?_
  refine o_ifb_eq (tgt := 150) hx hb dX2_tell_143 (by decide) (fun c_1 => ?_) (fun c_1 => ?_)
  · skip
    refine lv_iconst (v := nI 0) hx hb dX2_tell_150 (by decide) ?_
    exact o_iret hQ C rfl ho () (by rw [c_1]; rfl) rfl (Nat.le_of_ble_eq_true rfl) (Nat.le_of_ble_eq_true rfl) dX2_tell_151
  · skip
    refine lv_iconst (v := nI 1) hx hb dX2_tell_146 (by decide) ?_
    refine lv_goto (tgt := 151) hx hb dX2_tell_147 (by decide) ?_
    exact o_iret hQ C rfl ho () (by rw [c_1]; rfl) rfl (Nat.le_of_ble_eq_true rfl) (Nat.le_of_ble_eq_true rfl) dX2_tell_151

set_option maxHeartbeats 4000000 in
set_option maxRecDepth 100000 in
theorem c_Dev_tellX (la : Launch) (D : va_G) (K : Nat → ClassId) (hD : Nat) (hi : Nat) (hb_ : Nat) (gd : Bool) (hd : Bool) (h : Nat) (x : Int32) (qx : x.toInt < 0 ∨ 9 < x.toInt) : MT la D K yX2_tell cX2_tell 2 (some .int) (rmL 1 0 0) [.ref hD, .int x] [bD K hD h hi hb_ gd hd] Unit (fun v _ => v = some (.int (-1))) (fun _ => [bD K hD h hi hb_ gd hd]) := by
  refine Mt.ofW [(0, .ref hD), (1, .int x)] (by decide) rfl (Nat.le_of_ble_eq_true rfl) ?_
  intro p e s m args below meth c A ls H locs Qz hQ C hin hl ho
  have hx := C.1.1
  have hb := C.1.2.1
  refine lv_iload_n hx hb dX2_tell_0 rfl (lv_at hl 1 rfl) ?_
  refine lv_tableOut (tgt := 152) hx hb dX2_tell_1 qx (by decide) ?_
  refine lv_iconst (v := (-1)) hx hb dX2_tell_152 (by decide) ?_
  exact o_iret hQ C rfl ho () rfl rfl (Nat.le_of_ble_eq_true rfl) (Nat.le_of_ble_eq_true rfl) dX2_tell_153
