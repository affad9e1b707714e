set_option maxHeartbeats 4000000 in
set_option maxRecDepth 100000 in
theorem c_Out_bytesLeft (la : Launch) (D : va_G) (K : Nat → ClassId) (h : Nat) (hw : Nat) (hq : Nat) (hs : Nat) (hf : Nat) (fr : Nat) (fw : Bool) (gu : Bool) (tu : Bool) (as_ : Nat) (ls_ : List Nat) (gs_ : Nat → Int32) (q1 : fr ≤ ls_.length) : MT la D K yX7_bytesLeft cX7_bytesLeft 1 (some .int) (rmL 1 0 0) [.ref h] [bO K h hw hq hs hf fr fw gu tu, bM K hs as_ 41 ls_ gs_] Unit (fun v _ => v = some (.int (nI (ls_.length - fr)))) (fun _ => [bO K h hw hq hs hf fr fw gu tu, bM K hs as_ 41 ls_ gs_]) := by
  refine Mt.ofW [(0, .ref h)] (by decide) rfl (Nat.le_of_ble_eq_true rfl) ?_
  intro p e s m args below meth c A ls H locs Qz hQ C hin hl ho
  have hx := C.1.1
  have hb := C.1.2.1
  refine lv_aload_n hx hb dX7_bytesLeft_0 rfl (lv_at hl 0 rfl) ?_
  refine o_get (v := .ref hs) C ho 0 0 rfl rfl rfl 2 fX7_27 rfl dX7_bytesLeft_1 ?_
  refine o_get (v := .int (nI ls_.length)) C ho 1 0 rfl rfl rfl 1 fX7_41 rfl dX7_bytesLeft_4 ?_
  refine lv_aload_n hx hb dX7_bytesLeft_7 rfl (lv_at hl 0 rfl) ?_
  refine o_get (v := .int (nI fr)) C ho 0 0 rfl rfl rfl 4 fX7_45 rfl dX7_bytesLeft_8 ?_
  refine o_sub hx hb dX7_bytesLeft_11 (by omega) ?_
  exact o_iret hQ C rfl ho () rfl rfl (Nat.le_of_ble_eq_true rfl) (Nat.le_of_ble_eq_true rfl) dX7_bytesLeft_12

set_option maxHeartbeats 4000000 in
set_option maxRecDepth 100000 in
theorem c_Out_unack (la : Launch) (D : va_G) (K : Nat → ClassId) (h : Nat) (hw : Nat) (hq : Nat) (hs : Nat) (hf : Nat) (fr : Nat) (fw : Bool) (gu : Bool) (tu : Bool) (hm : Nat) (kd : Nat) (ak : Bool) (ft : Bool) (be : Bool) (cr : Nat) (am : Nat) (lm : List Nat) (gm : Nat → Int32)  : MT la D K yX7_bytesUnacknowledged cX7_bytesUnacknowledged 1 (some .int) (rmL 1 0 0) [.ref h] [bO K h hw hq hs hf fr fw gu tu, bF K hf hm kd ak ft be cr, bM K hm am 63 lm gm] Unit (fun v _ => v = some (.int (nI (cond fw lm.length 0)))) (fun _ => [bO K h hw hq hs hf fr fw gu tu, bF K hf hm kd ak ft be cr, bM K hm am 63 lm gm]) := by
  refine Mt.ofW [(0, .ref h)] (by decide) rfl (Nat.le_of_ble_eq_true rfl) ?_
  intro p e s m args below meth c A ls H locs Qz hQ C hin hl ho
  have hx := C.1.1
  have hb := C.1.2.1
  refine lv_aload_n hx hb dX7_bytesUnacknowledged_0 rfl (lv_at hl 0 rfl) ?_
  refine o_get (v := .int (bI fw)) C ho 0 0 rfl rfl rfl 5 fX7_48 rfl dX7_bytesUnacknowledged_1 ?_
  refine o_ifb_eq (tgt := 20) hx hb dX7_bytesUnacknowledged_4 (by decide) (fun c_1 => ?_) (fun c_1 => ?_)
  · skip
    refine lv_iconst (v := nI 0) hx hb dX7_bytesUnacknowledged_20 (by decide) ?_
    exact o_iret hQ C rfl ho () (by rw [c_1]; rfl) rfl (Nat.le_of_ble_eq_true rfl) (Nat.le_of_ble_eq_true rfl) dX7_bytesUnacknowledged_21
  · skip
    refine lv_aload_n hx hb dX7_bytesUnacknowledged_7 rfl (lv_at hl 0 rfl) ?_
    refine o_get (v := .ref hf) C ho 0 0 rfl rfl rfl 3 fX7_33 rfl dX7_bytesUnacknowledged_8 ?_
    refine o_get (v := .ref hm) C ho 1 0 rfl rfl rfl 0 fX7_51 rfl dX7_bytesUnacknowledged_11 ?_
    refine o_get (v := .int (nI lm.length)) C ho 2 0 rfl rfl rfl 1 fX7_41 rfl dX7_bytesUnacknowledged_14 ?_
    refine lv_goto (tgt := 21) hx hb dX7_bytesUnacknowledged_17 (by decide) ?_
    exact o_iret hQ C rfl ho () (by rw [c_1]; rfl) rfl (Nat.le_of_ble_eq_true rfl) (Nat.le_of_ble_eq_true rfl) dX7_bytesUnacknowledged_21

set_option maxHeartbeats 4000000 in
set_option maxRecDepth 100000 in
theorem c_Out_acknowledge (la : Launch) (D : va_G) (K : Nat → ClassId) (h : Nat) (hw : Nat) (hq : Nat) (hs : Nat) (hf : Nat) (fr : Nat) (fw : Bool) (gu : Bool) (tu : Bool)  : MT la D K yX7_acknowledge cX7_acknowledge 1 none (rmL 1 0 0) [.ref h] [bO K h hw hq hs hf fr fw gu tu] Unit (fun v _ => v = none) (fun _ => [bO K h hw hq hs hf fr false gu tu]) := by
  refine Mt.ofW [(0, .ref h)] (by decide) rfl (Nat.le_of_ble_eq_true rfl) ?_
  intro p e s m args below meth c A ls H locs Qz hQ C hin hl ho
  have hx := C.1.1
  have hb := C.1.2.1
  refine lv_aload_n hx hb dX7_acknowledge_0 rfl (lv_at hl 0 rfl) ?_
  refine lv_iconst (v := nI 0) hx hb dX7_acknowledge_1 (by decide) ?_
  refine o_put (v := .int (nI 0)) (bs' := [bO K h hw hq hs hf fr false gu tu]) C ho 0 0 rfl rfl rfl 5 fX7_48 pX7_5 rfl rfl (Nat.le_of_ble_eq_true rfl) dX7_acknowledge_2 rfl (fun H locs ho => ?_)
  exact o_vret hQ C ho () rfl rfl (Nat.le_of_ble_eq_true rfl) (Nat.le_of_ble_eq_true rfl) dX7_acknowledge_5

set_option maxHeartbeats 4000000 in
set_option maxRecDepth 100000 in
theorem c_Out_begin0 (la : Launch) (D : va_G) (K : Nat → ClassId) (h : Nat) (hw : Nat) (hq : Nat) (hs : Nat) (hf : Nat) (fr : Nat) (fw : Bool) (gu : Bool) (tu : Bool) (q : Nat) (mh : Nat → Nat) (fi : Nat) (sz : Nat) (q0 : sz = 0) : MT la D K yX7_beginMessage cX7_beginMessage 2 none (rmL 2 0 0) [.ref h] [bO K h hw hq hs hf fr fw gu tu, bH K hq q mh fi sz] Unit (fun v _ => v = none) (fun _ => [bO K h hw hq hs hf fr fw gu tu, bH K hq q mh fi sz]) := by
  refine Mt.ofW [(0, .ref h)] (by decide) rfl (Nat.le_of_ble_eq_true rfl) ?_
  intro p e s m args below meth c A ls H locs Qz hQ C hin hl ho
  have hx := C.1.1
  have hb := C.1.2.1
  refine lv_aload_n hx hb dX7_beginMessage_0 rfl (lv_at hl 0 rfl) ?_
  refine o_get (v := .ref hq) C ho 0 0 rfl rfl rfl 1 fX7_23 rfl dX7_beginMessage_1 ?_
  refine o_callV (wr := [bO K h hw hq hs hf fr fw gu tu]) (rest := []) (As := []) C (c_Row_oldest0 la D K hq q mh fi sz (by first | omega | assumption | (simp only [List.length_append, List.length_cons, List.length_nil, List.length_modify, List.length_set, nb_len, rb_len, rbp_len, sl_len, slN_len, wh_len, wt_len, hd10_len, hdB_len, thr_len, ldp_len, ldB_len, tens_len, whz_len, majL_len, mf_len, tkL_len, ldY_len, fif_len, ldY_len]; omega) | decide)) kX7_64 vX6_oldest (by decide) rfl ho [1, 0] 2 (by decide +kernel) rfl rfl rfl rfl rfl hl.1 rfl (Nat.le_of_ble_eq_true rfl) dX7_beginMessage_4 0 0 rfl rfl (by decide) (fun v u_1 H locs hq ho => ?_)
  obtain rfl := hq
  have ho : ow D vwCl A s.heap H locs [bH K hq q mh fi sz, bO K h hw hq hs hf fr fw gu tu] := ho
  refine W.eq (g2 := F0 m 7 ls [.null]) rfl ?_
  refine lv_astore_nN (lv' := [(1, .null), (0, .ref h)]) hx hb dX7_beginMessage_7 rfl hl (by decide) rfl (fun ls hl => ?_)
  refine lv_aload_nN hx hb dX7_beginMessage_8 rfl (lv_at hl 0 rfl) ?_
  refine lv_ifnullN (tgt := 55) hx hb dX7_beginMessage_9 (by decide) ?_
  have ho : ow D vwCl A s.heap H locs [bO K h hw hq hs hf fr fw gu tu, bH K hq q mh fi sz] := ho.re [1, 0] 2 (by decide +kernel) rfl rfl
  exact o_vret hQ C ho () rfl rfl (Nat.le_of_ble_eq_true rfl) (Nat.le_of_ble_eq_true rfl) dX7_beginMessage_55

set_option maxHeartbeats 4000000 in
set_option maxRecDepth 100000 in
theorem c_Out_begin1 (la : Launch) (D : va_G) (K : Nat → ClassId) (h : Nat) (hw : Nat) (hq : Nat) (hs : Nat) (hf : Nat) (fr : Nat) (fw : Bool) (gu : Bool) (tu : Bool) (q : Nat) (mh : Nat → Nat) (fi : Nat) (sz : Nat) (ma : Nat → Nat) (ml : Nat → List Nat) (mg : Nat → Nat → Int32) (as_ : Nat) (ls_ : List Nat) (gs_ : Nat → Int32) (q0 : 0 < sz) (q6 : sz ≤ 6) (qf : fi < 6) (qm : (ml fi).length ≤ 40) : MT la D K yX7_beginMessage cX7_beginMessage 2 none (rmL 3 0 0) [.ref h] [bO K h hw hq hs hf fr fw gu tu, bH K hq q mh fi sz, bPool K mh ma 40 ml mg, bM K hs as_ 41 ls_ gs_] (Nat → Int32) (fun v _ => v = none) (fun u => [bO K h hw hq hs hf 0 fw gu tu, bH K hq q mh ((fi + 1) % 6) (sz - 1), bPool K mh ma 40 ml mg, bM K hs as_ 41 ((ml fi).length :: ml fi) u]) := by
  refine Mt.ofW [(0, .ref h)] (by decide) rfl (Nat.le_of_ble_eq_true rfl) ?_
  intro p e s m args below meth c A ls H locs Qz hQ C hin hl ho
  have hx := C.1.1
  have hb := C.1.2.1
  refine lv_aload_n hx hb dX7_beginMessage_0 rfl (lv_at hl 0 rfl) ?_
  refine o_get (v := .ref hq) C ho 0 0 rfl rfl rfl 1 fX7_23 rfl dX7_beginMessage_1 ?_
  refine o_callV (wr := [bO K h hw hq hs hf fr fw gu tu, bPool K mh ma 40 ml mg, bM K hs as_ 41 ls_ gs_]) (rest := []) (As := []) C (c_Row_oldest la D K hq q mh fi sz (by first | omega | assumption | (simp only [List.length_append, List.length_cons, List.length_nil, List.length_modify, List.length_set, nb_len, rb_len, rbp_len, sl_len, slN_len, wh_len, wt_len, hd10_len, hdB_len, thr_len, ldp_len, ldB_len, tens_len, whz_len, majL_len, mf_len, tkL_len, ldY_len, fif_len, ldY_len]; omega) | decide) (by first | omega | assumption | (simp only [List.length_append, List.length_cons, List.length_nil, List.length_modify, List.length_set, nb_len, rb_len, rbp_len, sl_len, slN_len, wh_len, wt_len, hd10_len, hdB_len, thr_len, ldp_len, ldB_len, tens_len, whz_len, majL_len, mf_len, tkL_len, ldY_len, fif_len, ldY_len]; omega) | decide) (by first | omega | assumption | (simp only [List.length_append, List.length_cons, List.length_nil, List.length_modify, List.length_set, nb_len, rb_len, rbp_len, sl_len, slN_len, wh_len, wt_len, hd10_len, hdB_len, thr_len, ldp_len, ldB_len, tens_len, whz_len, majL_len, mf_len, tkL_len, ldY_len, fif_len, ldY_len]; omega) | decide)) kX7_64 vX6_oldest (by decide) rfl ho [1, 0, 2, 3] 4 (by decide +kernel) rfl rfl rfl rfl rfl hl.1 rfl (Nat.le_of_ble_eq_true rfl) dX7_beginMessage_4 0 0 rfl rfl (by decide) (fun v u_1 H locs hq ho => ?_)
  obtain rfl := hq
  have ho : ow D vwCl A s.heap H locs [bH K hq q mh fi sz, bO K h hw hq hs hf fr fw gu tu, bPool K mh ma 40 ml mg, bM K hs as_ 41 ls_ gs_] := ho
  refine W.eq (g2 := F0 m 7 ls [.ref (mh fi)]) rfl ?_
  refine lv_astore_n (lv' := [(1, .ref (mh fi)), (0, .ref h)]) hx hb dX7_beginMessage_7 rfl hl (by decide) rfl (fun ls hl => ?_)
  refine lv_aload_n hx hb dX7_beginMessage_8 rfl (lv_at hl 0 rfl) ?_
  refine lv_ifnull hx hb dX7_beginMessage_9 ?_
  have ho : ow D vwCl A s.heap H locs [bH K hq q mh fi sz, bO K h hw hq hs hf fr fw gu tu, bM K (mh fi) (ma fi) 40 (ml fi) (mg fi), bM K hs as_ 41 ls_ gs_, bPx K mh ma 40 ml mg fi] := ho.split 2 rfl (pool_split qf) rfl
  refine lv_aload_n hx hb dX7_beginMessage_12 rfl (lv_at hl 1 rfl) ?_
  refine o_get (v := .ref hs) C ho 1 0 rfl rfl rfl 2 fX7_27 rfl dX7_beginMessage_13 ?_
  refine o_callV (wr := [bH K hq q mh fi sz, bO K h hw hq hs hf fr fw gu tu, bM K (mh fi) (ma fi) 40 (ml fi) (mg fi), bPx K mh ma 40 ml mg fi]) (rest := []) (As := []) C (c_Msg_clear la D K hs as_ 41 ls_ gs_ ) kX7_68 vX5_clear (by decide) rfl ho [3, 0, 1, 2, 4] 5 (by decide +kernel) rfl rfl rfl rfl rfl hl.1 rfl (Nat.le_of_ble_eq_true rfl) dX7_beginMessage_16 0 0 rfl rfl (by decide) (fun v u_2 H locs hq ho => ?_)
  obtain rfl := hq
  have ho : ow D vwCl A s.heap H locs [bM K hs as_ 41 [] u_2, bH K hq q mh fi sz, bO K h hw hq hs hf fr fw gu tu, bM K (mh fi) (ma fi) 40 (ml fi) (mg fi), bPx K mh ma 40 ml mg fi] := ho
  refine W.eq (g2 := F0 m 19 ls []) rfl ?_
  refine lv_aload_n hx hb dX7_beginMessage_19 rfl (lv_at hl 1 rfl) ?_
  refine o_get (v := .ref hs) C ho 2 0 rfl rfl rfl 2 fX7_27 rfl dX7_beginMessage_20 ?_
  refine lv_aload_n hx hb dX7_beginMessage_23 rfl (lv_at hl 0 rfl) ?_
  refine o_get (v := .int (nI ((ml fi).length))) C ho 3 0 rfl rfl rfl 1 fX7_41 rfl dX7_beginMessage_24 ?_
  refine o_callV (wr := [bH K hq q mh fi sz, bO K h hw hq hs hf fr fw gu tu, bM K (mh fi) (ma fi) 40 (ml fi) (mg fi), bPx K mh ma 40 ml mg fi]) (rest := []) (As := [.int (nI ((ml fi).length))]) C (c_Msg_add la D K hs as_ 41 [] u_2 ((ml fi).length) (by first | omega | assumption | (simp only [List.length_append, List.length_cons, List.length_nil, List.length_modify, List.length_set, nb_len, rb_len, rbp_len, sl_len, slN_len, wh_len, wt_len, hd10_len, hdB_len, thr_len, ldp_len, ldB_len, tens_len, whz_len, majL_len, mf_len, tkL_len, ldY_len, fif_len, ldY_len]; omega) | decide) (by first | omega | assumption | (simp only [List.length_append, List.length_cons, List.length_nil, List.length_modify, List.length_set, nb_len, rb_len, rbp_len, sl_len, slN_len, wh_len, wt_len, hd10_len, hdB_len, thr_len, ldp_len, ldB_len, tens_len, whz_len, majL_len, mf_len, tkL_len, ldY_len, fif_len, ldY_len]; omega) | decide)) kX7_71 vX5_add (by decide) rfl ho [0, 1, 2, 3, 4] 5 (by decide +kernel) rfl rfl rfl rfl rfl hl.1 rfl (Nat.le_of_ble_eq_true rfl) dX7_beginMessage_27 0 0 rfl rfl (by decide) (fun v u_3 H locs hq ho => ?_)
  obtain rfl := hq
  have ho : ow D vwCl A s.heap H locs [bM K hs as_ 41 ([] ++ [((ml fi).length)]) u_2, bH K hq q mh fi sz, bO K h hw hq hs hf fr fw gu tu, bM K (mh fi) (ma fi) 40 (ml fi) (mg fi), bPx K mh ma 40 ml mg fi] := ho
  refine W.eq (g2 := F0 m 30 ls []) rfl ?_
  refine lv_aload_n hx hb dX7_beginMessage_30 rfl (lv_at hl 1 rfl) ?_
  refine o_get (v := .ref hs) C ho 2 0 rfl rfl rfl 2 fX7_27 rfl dX7_beginMessage_31 ?_
  refine lv_aload_n hx hb dX7_beginMessage_34 rfl (lv_at hl 0 rfl) ?_
  refine lv_iconst (v := nI 0) hx hb dX7_beginMessage_35 (by decide) ?_
  refine lv_aload_n hx hb dX7_beginMessage_36 rfl (lv_at hl 0 rfl) ?_
  refine o_get (v := .int (nI ((ml fi).length))) C ho 3 0 rfl rfl rfl 1 fX7_41 rfl dX7_beginMessage_37 ?_
  refine o_callV (wr := [bH K hq q mh fi sz, bO K h hw hq hs hf fr fw gu tu, bPx K mh ma 40 ml mg fi]) (rest := []) (As := [.ref (mh fi), .int (nI 0), .int (nI ((ml fi).length))]) C (c_Msg_addAll la D K hs as_ 41 ([] ++ [((ml fi).length)]) u_2 (mh fi) (ma fi) 40 (ml fi) (mg fi) 0 ((ml fi).length) (by first | omega | assumption | (simp only [List.length_append, List.length_cons, List.length_nil, List.length_modify, List.length_set, nb_len, rb_len, rbp_len, sl_len, slN_len, wh_len, wt_len, hd10_len, hdB_len, thr_len, ldp_len, ldB_len, tens_len, whz_len, majL_len, mf_len, tkL_len, ldY_len, fif_len, ldY_len]; omega) | decide) (by first | omega | assumption | (simp only [List.length_append, List.length_cons, List.length_nil, List.length_modify, List.length_set, nb_len, rb_len, rbp_len, sl_len, slN_len, wh_len, wt_len, hd10_len, hdB_len, thr_len, ldp_len, ldB_len, tens_len, whz_len, majL_len, mf_len, tkL_len, ldY_len, fif_len, ldY_len]; omega) | decide) (by first | omega | assumption | (simp only [List.length_append, List.length_cons, List.length_nil, List.length_modify, List.length_set, nb_len, rb_len, rbp_len, sl_len, slN_len, wh_len, wt_len, hd10_len, hdB_len, thr_len, ldp_len, ldB_len, tens_len, whz_len, majL_len, mf_len, tkL_len, ldY_len, fif_len, ldY_len]; omega) | decide) (by first | omega | assumption | (simp only [List.length_append, List.length_cons, List.length_nil, List.length_modify, List.length_set, nb_len, rb_len, rbp_len, sl_len, slN_len, wh_len, wt_len, hd10_len, hdB_len, thr_len, ldp_len, ldB_len, tens_len, whz_len, majL_len, mf_len, tkL_len, ldY_len, fif_len, ldY_len]; omega) | decide) (by first | omega | assumption | (simp only [List.length_append, List.length_cons, List.length_nil, List.length_modify, List.length_set, nb_len, rb_len, rbp_len, sl_len, slN_len, wh_len, wt_len, hd10_len, hdB_len, thr_len, ldp_len, ldB_len, tens_len, whz_len, majL_len, mf_len, tkL_len, ldY_len, fif_len, ldY_len]; omega) | decide) (by first | omega | assumption | (simp only [List.length_append, List.length_cons, List.length_nil, List.length_modify, List.length_set, nb_len, rb_len, rbp_len, sl_len, slN_len, wh_len, wt_len, hd10_len, hdB_len, thr_len, ldp_len, ldB_len, tens_len, whz_len, majL_len, mf_len, tkL_len, ldY_len, fif_len, ldY_len]; omega) | decide)) kX7_74 vX5_addAll (by decide) rfl ho [0, 3, 1, 2, 4] 5 (by decide +kernel) rfl rfl rfl rfl rfl hl.1 rfl (Nat.le_of_ble_eq_true rfl) dX7_beginMessage_40 0 0 rfl rfl (by decide) (fun v u_4 H locs hq ho => ?_)
  obtain rfl := hq
  have ho : ow D vwCl A s.heap H locs [bM K hs as_ 41 (([] ++ [((ml fi).length)]) ++ slN (ml fi) 0 (((ml fi).length) - 0)) u_2, bM K (mh fi) (ma fi) 40 (ml fi) (mg fi), bH K hq q mh fi sz, bO K h hw hq hs hf fr fw gu tu, bPx K mh ma 40 ml mg fi] := ho
  refine W.eq (g2 := F0 m 43 ls []) rfl ?_
  have e_5 : bM K hs as_ 41 (([] ++ [((ml fi).length)]) ++ slN (ml fi) 0 (((ml fi).length) - 0)) u_2 = bM K hs as_ 41 ((ml fi).length :: ml fi) u_2 := by rw [Nat.sub_zero, slN_all]; rfl
  have ho : ow D vwCl A s.heap H locs [bM K hs as_ 41 ((ml fi).length :: ml fi) u_2, bM K (mh fi) (ma fi) 40 (ml fi) (mg fi), bH K hq q mh fi sz, bO K h hw hq hs hf fr fw gu tu, bPx K mh ma 40 ml mg fi] := by rw [← e_5]; exact ho
  have ho : ow D vwCl A s.heap H locs [bM K hs as_ 41 ((ml fi).length :: ml fi) u_2, bPool K mh ma 40 ml mg, bH K hq q mh fi sz, bO K h hw hq hs hf fr fw gu tu] := ho.join (b := bPool K mh ma 40 ml mg) 1 4 rfl rfl rfl (by decide) (pool_same qf) rfl
  refine lv_aload_n hx hb dX7_beginMessage_43 rfl (lv_at hl 1 rfl) ?_
  refine lv_iconst (v := nI 0) hx hb dX7_beginMessage_44 (by decide) ?_
  refine o_put (v := .int (nI 0)) (bs' := [bM K hs as_ 41 ((ml fi).length :: ml fi) u_2, bPool K mh ma 40 ml mg, bH K hq q mh fi sz, bO K h hw hq hs hf 0 fw gu tu]) C ho 3 0 rfl rfl rfl 4 fX7_45 pX7_4 rfl rfl (Nat.le_of_ble_eq_true rfl) dX7_beginMessage_45 rfl (fun H locs ho => ?_)
  refine lv_aload_n hx hb dX7_beginMessage_48 rfl (lv_at hl 1 rfl) ?_
  refine o_get (v := .ref hq) C ho 3 0 rfl rfl rfl 1 fX7_23 rfl dX7_beginMessage_49 ?_
  refine o_callV (wr := [bM K hs as_ 41 ((ml fi).length :: ml fi) u_2, bPool K mh ma 40 ml mg, bO K h hw hq hs hf 0 fw gu tu]) (rest := []) (As := []) C (c_Row_dropOldest la D K hq q mh fi sz (by first | omega | assumption | (simp only [List.length_append, List.length_cons, List.length_nil, List.length_modify, List.length_set, nb_len, rb_len, rbp_len, sl_len, slN_len, wh_len, wt_len, hd10_len, hdB_len, thr_len, ldp_len, ldB_len, tens_len, whz_len, majL_len, mf_len, tkL_len, ldY_len, fif_len, ldY_len]; omega) | decide) (by first | omega | assumption | (simp only [List.length_append, List.length_cons, List.length_nil, List.length_modify, List.length_set, nb_len, rb_len, rbp_len, sl_len, slN_len, wh_len, wt_len, hd10_len, hdB_len, thr_len, ldp_len, ldB_len, tens_len, whz_len, majL_len, mf_len, tkL_len, ldY_len, fif_len, ldY_len]; omega) | decide) (by first | omega | assumption | (simp only [List.length_append, List.length_cons, List.length_nil, List.length_modify, List.length_set, nb_len, rb_len, rbp_len, sl_len, slN_len, wh_len, wt_len, hd10_len, hdB_len, thr_len, ldp_len, ldB_len, tens_len, whz_len, majL_len, mf_len, tkL_len, ldY_len, fif_len, ldY_len]; omega) | decide)) kX7_78 vX6_dropOldest (by decide) rfl ho [2, 0, 1, 3] 4 (by decide +kernel) rfl rfl rfl rfl rfl hl.1 rfl (Nat.le_of_ble_eq_true rfl) dX7_beginMessage_52 0 0 rfl rfl (by decide) (fun v u_6 H locs hq ho => ?_)
  obtain rfl := hq
  have ho : ow D vwCl A s.heap H locs [bH K hq q mh ((fi + 1) % 6) (sz - 1), bM K hs as_ 41 ((ml fi).length :: ml fi) u_2, bPool K mh ma 40 ml mg, bO K h hw hq hs hf 0 fw gu tu] := ho
  refine W.eq (g2 := F0 m 55 ls []) rfl ?_
  have ho : ow D vwCl A s.heap H locs [bO K h hw hq hs hf 0 fw gu tu, bH K hq q mh ((fi + 1) % 6) (sz - 1), bPool K mh ma 40 ml mg, bM K hs as_ 41 ((ml fi).length :: ml fi) u_2] := ho.re [3, 0, 2, 1] 4 (by decide +kernel) rfl rfl
  exact o_vret hQ C ho u_2 rfl rfl (Nat.le_of_ble_eq_true rfl) (Nat.le_of_ble_eq_true rfl) dX7_beginMessage_55

set_option maxHeartbeats 4000000 in
set_option maxRecDepth 100000 in
theorem c_Out_makeFrame (la : Launch) (D : va_G) (K : Nat → ClassId) (h : Nat) (hw : Nat) (hq : Nat) (hs : Nat) (hf : Nat) (fr : Nat) (fw : Bool) (gu : Bool) (tu : Bool) (as_ : Nat) (ls_ : List Nat) (gs_ : Nat → Int32) (hm : Nat) (kd : Nat) (ak : Bool) (ft : Bool) (be : Bool) (cr : Nat) (am : Nat) (lm : List Nat) (gm : Nat → Int32) (q1 : fr < ls_.length) (q2 : ls_.length ≤ 41) (q3 : lm.length ≤ 63) : MT la D K yX7_makeFrame cX7_makeFrame 2 none (rmL 3 0 0) [.ref h] [bO K h hw hq hs hf fr fw gu tu, bM K hs as_ 41 ls_ gs_, bF K hf hm kd ak ft be cr, bM K hm am 63 lm gm] (Nat → Int32) (fun v _ => v = none) (fun u => [bO K h hw hq hs hf (fr + nxt gu (ls_.length - fr)) true gu (!tu), bM K hs as_ 41 ls_ gs_, bF K hf hm (cond gu 3 4) ak (!tu) (decide (fr = 0)) cr, bM K hm am 63 (slN ls_ fr (nxt gu (ls_.length - fr))) u]) := by
  refine Mt.ofW [(0, .ref h)] (by decide) rfl (Nat.le_of_ble_eq_true rfl) ?_
  intro p e s m args below meth c A ls H locs Qz hQ C hin hl ho
  have hx := C.1.1
  have hb := C.1.2.1
  cases gu
  · skip
    refine lv_aload_n hx hb dX7_makeFrame_0 rfl (lv_at hl 0 rfl) ?_
    refine o_callV (wr := [bF K hf hm kd ak ft be cr, bM K hm am 63 lm gm]) (rest := []) (As := []) C (c_Out_bytesLeft la D K h hw hq hs hf fr fw false tu as_ ls_ gs_ (by first | omega | assumption | (simp only [List.length_append, List.length_cons, List.length_nil, List.length_modify, List.length_set, nb_len, rb_len, rbp_len, sl_len, slN_len, wh_len, wt_len, hd10_len, hdB_len, thr_len, ldp_len, ldB_len, tens_len, whz_len, majL_len, mf_len, tkL_len, ldY_len, fif_len, ldY_len]; omega) | decide)) kX7_54 vX7_bytesLeft (by decide) rfl ho [0, 1, 2, 3] 4 (by decide +kernel) rfl rfl rfl rfl rfl hl.1 rfl (Nat.le_of_ble_eq_true rfl) dX7_makeFrame_1 0 0 rfl rfl (by decide) (fun v u_1 H locs hq ho => ?_)
    obtain rfl := hq
    have ho : ow D vwCl A s.heap H locs [bO K h hw hq hs hf fr fw false tu, bM K hs as_ 41 ls_ gs_, bF K hf hm kd ak ft be cr, bM K hm am 63 lm gm] := ho
    refine W.eq (g2 := F0 m 4 ls [.int (nI (ls_.length - fr))]) rfl ?_
    refine lv_aload_n hx hb dX7_makeFrame_4 rfl (lv_at hl 0 rfl) ?_
    refine o_get (v := .int (bI false)) C ho 0 0 rfl rfl rfl 6 fX7_37 rfl dX7_makeFrame_5 ?_
    refine o_ifb_eq (tgt := 16) hx hb dX7_makeFrame_8 (by decide) (fun _ => ?_) (fun c9 => absurd c9 (by decide))
    refine lv_bipush (v := nI 13) hx hb dX7_makeFrame_16 (by decide) ?_
    refine va_mmin hx hb (C.1.2.2.1.trans hl.1.symm) C.1.2.2.2.1 (C.1.2.2.2.2 _ mX7_81) (C.1.2.2.2.2 _ m_min_s) (C.1.2.2.2.2 _ m_Math_i) (C.1.2.2.2.2 _ m_min_c) (Nat.le_of_ble_eq_true rfl) (Nat.le_of_ble_eq_true rfl) (Nat.le_of_ble_eq_true rfl) (Nat.le_of_ble_eq_true rfl) dX7_makeFrame_18 ?_
    refine o_top (imin_N (by omega) (by omega)) ?_
    refine o_top (y := nI (nxt false (ls_.length - fr))) (rfl) ?_
    have hn9 : nxt false (ls_.length - fr) ≤ 13 := by unfold nxt; dsimp only [cond]; omega
    have hn8 : nxt false (ls_.length - fr) ≤ ls_.length - fr := by unfold nxt; omega
    refine lv_istore_n (lv' := [(1, .int (nI (nxt false (ls_.length - fr)))), (0, .ref h)]) hx hb dX7_makeFrame_21 rfl hl (by decide) rfl (fun ls hl => ?_)
    refine lv_aload_n hx hb dX7_makeFrame_22 rfl (lv_at hl 1 rfl) ?_
    refine lv_dup hx hb dX7_makeFrame_23 rfl ?_
    refine o_get (v := .int (bI tu)) C ho 0 0 rfl rfl rfl 7 fX7_87 rfl dX7_makeFrame_24 ?_
    refine lv_iconst (v := nI 1) hx hb dX7_makeFrame_27 (by decide) ?_
    refine lv_ixor hx hb dX7_makeFrame_28 ?_
    refine o_top (y := bI (!tu)) (bI_not _) ?_
    refine o_put (v := .int (bI (!tu))) (bs' := [bO K h hw hq hs hf fr fw false (!tu), bM K hs as_ 41 ls_ gs_, bF K hf hm kd ak ft be cr, bM K hm am 63 lm gm]) C ho 0 0 rfl rfl rfl 7 fX7_87 pX7_7 rfl rfl (Nat.le_of_ble_eq_true rfl) dX7_makeFrame_29 rfl (fun H locs ho => ?_)
    refine lv_aload_n hx hb dX7_makeFrame_32 rfl (lv_at hl 1 rfl) ?_
    refine o_get (v := .ref hf) C ho 0 0 rfl rfl rfl 3 fX7_33 rfl dX7_makeFrame_33 ?_
    refine lv_aload_n hx hb dX7_makeFrame_36 rfl (lv_at hl 1 rfl) ?_
    refine o_get (v := .int (bI false)) C ho 0 0 rfl rfl rfl 6 fX7_37 rfl dX7_makeFrame_37 ?_
    refine o_ifb_eq (tgt := 47) hx hb dX7_makeFrame_40 (by decide) (fun _ => ?_) (fun c9 => absurd c9 (by decide))
    refine lv_iconst (v := nI 4) hx hb dX7_makeFrame_47 (by decide) ?_
    refine o_put (v := .int (nI 4)) (bs' := [bO K h hw hq hs hf fr fw false (!tu), bM K hs as_ 41 ls_ gs_, bF K hf hm 4 ak ft be cr, bM K hm am 63 lm gm]) C ho 2 0 rfl rfl rfl 1 fX7_90 pX3_1 rfl rfl (Nat.le_of_ble_eq_true rfl) dX7_makeFrame_48 rfl (fun H locs ho => ?_)
    refine lv_aload_n hx hb dX7_makeFrame_51 rfl (lv_at hl 1 rfl) ?_
    refine o_get (v := .ref hf) C ho 0 0 rfl rfl rfl 3 fX7_33 rfl dX7_makeFrame_52 ?_
    refine lv_aload_n hx hb dX7_makeFrame_55 rfl (lv_at hl 1 rfl) ?_
    refine o_get (v := .int (bI (!tu))) C ho 0 0 rfl rfl rfl 7 fX7_87 rfl dX7_makeFrame_56 ?_
    refine o_put (v := .int (bI (!tu))) (bs' := [bO K h hw hq hs hf fr fw false (!tu), bM K hs as_ 41 ls_ gs_, bF K hf hm 4 ak (!tu) be cr, bM K hm am 63 lm gm]) C ho 2 0 rfl rfl rfl 3 fX7_93 pX3_3 rfl rfl (Nat.le_of_ble_eq_true rfl) dX7_makeFrame_59 rfl (fun H locs ho => ?_)
    refine lv_aload_n hx hb dX7_makeFrame_62 rfl (lv_at hl 1 rfl) ?_
    refine o_get (v := .ref hf) C ho 0 0 rfl rfl rfl 3 fX7_33 rfl dX7_makeFrame_63 ?_
    refine lv_aload_n hx hb dX7_makeFrame_66 rfl (lv_at hl 1 rfl) ?_
    refine o_get (v := .int (nI fr)) C ho 0 0 rfl rfl rfl 4 fX7_45 rfl dX7_makeFrame_67 ?_
    refine o_if_ne (tgt := 77) hx hb dX7_makeFrame_70 (by decide) (by omega) (fun c_2 => ?_) (fun c_2 => ?_)
    · skip
      refine lv_iconst (v := nI 0) hx hb dX7_makeFrame_77 (by decide) ?_
      refine o_put (v := .int (nI 0)) (bs' := [bO K h hw hq hs hf fr fw false (!tu), bM K hs as_ 41 ls_ gs_, bF K hf hm 4 ak (!tu) false cr, bM K hm am 63 lm gm]) C ho 2 0 rfl rfl rfl 4 fX7_94 pX3_4 rfl rfl (Nat.le_of_ble_eq_true rfl) dX7_makeFrame_78 rfl (fun H locs ho => ?_)
      have e_3 : bF K hf hm 4 ak (!tu) false cr = bF K hf hm 4 ak (!tu) (decide (fr = 0)) cr := by rw [decide_eq_false c_2]
      have ho : ow D vwCl A s.heap H locs [bO K h hw hq hs hf fr fw false (!tu), bM K hs as_ 41 ls_ gs_, bF K hf hm 4 ak (!tu) (decide (fr = 0)) cr, bM K hm am 63 lm gm] := by rw [← e_3]; exact ho
      refine lv_aload_n hx hb dX7_makeFrame_81 rfl (lv_at hl 1 rfl) ?_
      refine o_get (v := .ref hf) C ho 0 0 rfl rfl rfl 3 fX7_33 rfl dX7_makeFrame_82 ?_
      refine o_get (v := .ref hm) C ho 2 0 rfl rfl rfl 0 fX7_51 rfl dX7_makeFrame_85 ?_
      refine o_callV (wr := [bO K h hw hq hs hf fr fw false (!tu), bM K hs as_ 41 ls_ gs_, bF K hf hm 4 ak (!tu) (decide (fr = 0)) cr]) (rest := []) (As := []) C (c_Msg_clear la D K hm am 63 lm gm ) kX7_68 vX5_clear (by decide) rfl ho [3, 0, 1, 2] 4 (by decide +kernel) rfl rfl rfl rfl rfl hl.1 rfl (Nat.le_of_ble_eq_true rfl) dX7_makeFrame_88 0 0 rfl rfl (by decide) (fun v u_4 H locs hq ho => ?_)
      obtain rfl := hq
      have ho : ow D vwCl A s.heap H locs [bM K hm am 63 [] u_4, bO K h hw hq hs hf fr fw false (!tu), bM K hs as_ 41 ls_ gs_, bF K hf hm 4 ak (!tu) (decide (fr = 0)) cr] := ho
      refine W.eq (g2 := F0 m 91 ls []) rfl ?_
      refine lv_aload_n hx hb dX7_makeFrame_91 rfl (lv_at hl 1 rfl) ?_
      refine o_get (v := .ref hf) C ho 1 0 rfl rfl rfl 3 fX7_33 rfl dX7_makeFrame_92 ?_
      refine o_get (v := .ref hm) C ho 3 0 rfl rfl rfl 0 fX7_51 rfl dX7_makeFrame_95 ?_
      refine lv_aload_n hx hb dX7_makeFrame_98 rfl (lv_at hl 1 rfl) ?_
      refine o_get (v := .ref hs) C ho 1 0 rfl rfl rfl 2 fX7_27 rfl dX7_makeFrame_99 ?_
      refine lv_aload_n hx hb dX7_makeFrame_102 rfl (lv_at hl 1 rfl) ?_
      refine o_get (v := .int (nI fr)) C ho 1 0 rfl rfl rfl 4 fX7_45 rfl dX7_makeFrame_103 ?_
      refine lv_aload_n hx hb dX7_makeFrame_106 rfl (lv_at hl 1 rfl) ?_
      refine o_get (v := .int (nI fr)) C ho 1 0 rfl rfl rfl 4 fX7_45 rfl dX7_makeFrame_107 ?_
      refine lv_iload_n hx hb dX7_makeFrame_110 rfl (lv_at hl 0 rfl) ?_
      refine o_add hx hb dX7_makeFrame_111 ?_
      refine o_callV (wr := [bO K h hw hq hs hf fr fw false (!tu), bF K hf hm 4 ak (!tu) (decide (fr = 0)) cr]) (rest := []) (As := [.ref hs, .int (nI fr), .int (nI (fr + (nxt false (ls_.length - fr))))]) C (c_Msg_addAll la D K hm am 63 [] u_4 hs as_ 41 ls_ gs_ fr (fr + (nxt false (ls_.length - fr))) (by first | omega | assumption | (simp only [List.length_append, List.length_cons, List.length_nil, List.length_modify, List.length_set, nb_len, rb_len, rbp_len, sl_len, slN_len, wh_len, wt_len, hd10_len, hdB_len, thr_len, ldp_len, ldB_len, tens_len, whz_len, majL_len, mf_len, tkL_len, ldY_len, fif_len, ldY_len]; omega) | decide) (by first | omega | assumption | (simp only [List.length_append, List.length_cons, List.length_nil, List.length_modify, List.length_set, nb_len, rb_len, rbp_len, sl_len, slN_len, wh_len, wt_len, hd10_len, hdB_len, thr_len, ldp_len, ldB_len, tens_len, whz_len, majL_len, mf_len, tkL_len, ldY_len, fif_len, ldY_len]; omega) | decide) (by first | omega | assumption | (simp only [List.length_append, List.length_cons, List.length_nil, List.length_modify, List.length_set, nb_len, rb_len, rbp_len, sl_len, slN_len, wh_len, wt_len, hd10_len, hdB_len, thr_len, ldp_len, ldB_len, tens_len, whz_len, majL_len, mf_len, tkL_len, ldY_len, fif_len, ldY_len]; omega) | decide) (by first | omega | assumption | (simp only [List.length_append, List.length_cons, List.length_nil, List.length_modify, List.length_set, nb_len, rb_len, rbp_len, sl_len, slN_len, wh_len, wt_len, hd10_len, hdB_len, thr_len, ldp_len, ldB_len, tens_len, whz_len, majL_len, mf_len, tkL_len, ldY_len, fif_len, ldY_len]; omega) | decide) (by first | omega | assumption | (simp only [List.length_append, List.length_cons, List.length_nil, List.length_modify, List.length_set, nb_len, rb_len, rbp_len, sl_len, slN_len, wh_len, wt_len, hd10_len, hdB_len, thr_len, ldp_len, ldB_len, tens_len, whz_len, majL_len, mf_len, tkL_len, ldY_len, fif_len, ldY_len]; omega) | decide) (by first | omega | assumption | (simp only [List.length_append, List.length_cons, List.length_nil, List.length_modify, List.length_set, nb_len, rb_len, rbp_len, sl_len, slN_len, wh_len, wt_len, hd10_len, hdB_len, thr_len, ldp_len, ldB_len, tens_len, whz_len, majL_len, mf_len, tkL_len, ldY_len, fif_len, ldY_len]; omega) | decide)) kX7_74 vX5_addAll (by decide) rfl ho [0, 2, 1, 3] 4 (by decide +kernel) rfl rfl rfl rfl rfl hl.1 rfl (Nat.le_of_ble_eq_true rfl) dX7_makeFrame_112 0 0 rfl rfl (by decide) (fun v u_5 H locs hq ho => ?_)
      obtain rfl := hq
      have ho : ow D vwCl A s.heap H locs [bM K hm am 63 ([] ++ slN ls_ fr ((fr + (nxt false (ls_.length - fr))) - fr)) u_4, bM K hs as_ 41 ls_ gs_, bO K h hw hq hs hf fr fw false (!tu), bF K hf hm 4 ak (!tu) (decide (fr = 0)) cr] := ho
      refine W.eq (g2 := F0 m 115 ls []) rfl ?_
      have e_6 : bM K hm am 63 ([] ++ slN ls_ fr ((fr + (nxt false (ls_.length - fr))) - fr)) u_4 = bM K hm am 63 (slN ls_ fr (nxt false (ls_.length - fr))) u_4 := by rw [Nat.add_sub_cancel_left, List.nil_append]
      have ho : ow D vwCl A s.heap H locs [bM K hm am 63 (slN ls_ fr (nxt false (ls_.length - fr))) u_4, bM K hs as_ 41 ls_ gs_, bO K h hw hq hs hf fr fw false (!tu), bF K hf hm 4 ak (!tu) (decide (fr = 0)) cr] := by rw [← e_6]; exact ho
      refine lv_aload_n hx hb dX7_makeFrame_115 rfl (lv_at hl 1 rfl) ?_
      refine lv_dup hx hb dX7_makeFrame_116 rfl ?_
      refine o_get (v := .int (nI fr)) C ho 2 0 rfl rfl rfl 4 fX7_45 rfl dX7_makeFrame_117 ?_
      refine lv_iload_n hx hb dX7_makeFrame_120 rfl (lv_at hl 0 rfl) ?_
      refine o_add hx hb dX7_makeFrame_121 ?_
      refine o_put (v := .int (nI (fr + (nxt false (ls_.length - fr))))) (bs' := [bM K hm am 63 (slN ls_ fr (nxt false (ls_.length - fr))) u_4, bM K hs as_ 41 ls_ gs_, bO K h hw hq hs hf (fr + (nxt false (ls_.length - fr))) fw false (!tu), bF K hf hm 4 ak (!tu) (decide (fr = 0)) cr]) C ho 2 0 rfl rfl rfl 4 fX7_45 pX7_4 rfl rfl (Nat.le_of_ble_eq_true rfl) dX7_makeFrame_122 rfl (fun H locs ho => ?_)
      refine lv_aload_n hx hb dX7_makeFrame_125 rfl (lv_at hl 1 rfl) ?_
      refine lv_iconst (v := nI 1) hx hb dX7_makeFrame_126 (by decide) ?_
      refine o_put (v := .int (nI 1)) (bs' := [bM K hm am 63 (slN ls_ fr (nxt false (ls_.length - fr))) u_4, bM K hs as_ 41 ls_ gs_, bO K h hw hq hs hf (fr + (nxt false (ls_.length - fr))) true false (!tu), bF K hf hm 4 ak (!tu) (decide (fr = 0)) cr]) C ho 2 0 rfl rfl rfl 5 fX7_48 pX7_5 rfl rfl (Nat.le_of_ble_eq_true rfl) dX7_makeFrame_127 rfl (fun H locs ho => ?_)
      have ho : ow D vwCl A s.heap H locs [bO K h hw hq hs hf (fr + (nxt false (ls_.length - fr))) true false (!tu), bM K hs as_ 41 ls_ gs_, bF K hf hm 4 ak (!tu) (decide (fr = 0)) cr, bM K hm am 63 (slN ls_ fr (nxt false (ls_.length - fr))) u_4] := ho.re [2, 1, 3, 0] 4 (by decide +kernel) rfl rfl
      exact o_vret hQ C ho u_4 rfl rfl (Nat.le_of_ble_eq_true rfl) (Nat.le_of_ble_eq_true rfl) dX7_makeFrame_130
    · skip
      refine lv_iconst (v := nI 1) hx hb dX7_makeFrame_73 (by decide) ?_
      refine lv_goto (tgt := 78) hx hb dX7_makeFrame_74 (by decide) ?_
      refine o_put (v := .int (nI 1)) (bs' := [bO K h hw hq hs hf fr fw false (!tu), bM K hs as_ 41 ls_ gs_, bF K hf hm 4 ak (!tu) true cr, bM K hm am 63 lm gm]) C ho 2 0 rfl rfl rfl 4 fX7_94 pX3_4 rfl rfl (Nat.le_of_ble_eq_true rfl) dX7_makeFrame_78 rfl (fun H locs ho => ?_)
      have e_7 : bF K hf hm 4 ak (!tu) true cr = bF K hf hm 4 ak (!tu) (decide (fr = 0)) cr := by rw [decide_eq_true c_2]
      have ho : ow D vwCl A s.heap H locs [bO K h hw hq hs hf fr fw false (!tu), bM K hs as_ 41 ls_ gs_, bF K hf hm 4 ak (!tu) (decide (fr = 0)) cr, bM K hm am 63 lm gm] := by rw [← e_7]; exact ho
      refine lv_aload_n hx hb dX7_makeFrame_81 rfl (lv_at hl 1 rfl) ?_
      refine o_get (v := .ref hf) C ho 0 0 rfl rfl rfl 3 fX7_33 rfl dX7_makeFrame_82 ?_
      refine o_get (v := .ref hm) C ho 2 0 rfl rfl rfl 0 fX7_51 rfl dX7_makeFrame_85 ?_
      refine o_callV (wr := [bO K h hw hq hs hf fr fw false (!tu), bM K hs as_ 41 ls_ gs_, bF K hf hm 4 ak (!tu) (decide (fr = 0)) cr]) (rest := []) (As := []) C (c_Msg_clear la D K hm am 63 lm gm ) kX7_68 vX5_clear (by decide) rfl ho [3, 0, 1, 2] 4 (by decide +kernel) rfl rfl rfl rfl rfl hl.1 rfl (Nat.le_of_ble_eq_true rfl) dX7_makeFrame_88 0 0 rfl rfl (by decide) (fun v u_8 H locs hq ho => ?_)
      obtain rfl := hq
      have ho : ow D vwCl A s.heap H locs [bM K hm am 63 [] u_8, bO K h hw hq hs hf fr fw false (!tu), bM K hs as_ 41 ls_ gs_, bF K hf hm 4 ak (!tu) (decide (fr = 0)) cr] := ho
      refine W.eq (g2 := F0 m 91 ls []) rfl ?_
      refine lv_aload_n hx hb dX7_makeFrame_91 rfl (lv_at hl 1 rfl) ?_
      refine o_get (v := .ref hf) C ho 1 0 rfl rfl rfl 3 fX7_33 rfl dX7_makeFrame_92 ?_
      refine o_get (v := .ref hm) C ho 3 0 rfl rfl rfl 0 fX7_51 rfl dX7_makeFrame_95 ?_
      refine lv_aload_n hx hb dX7_makeFrame_98 rfl (lv_at hl 1 rfl) ?_
      refine o_get (v := .ref hs) C ho 1 0 rfl rfl rfl 2 fX7_27 rfl dX7_makeFrame_99 ?_
      refine lv_aload_n hx hb dX7_makeFrame_102 rfl (lv_at hl 1 rfl) ?_
      refine o_get (v := .int (nI fr)) C ho 1 0 rfl rfl rfl 4 fX7_45 rfl dX7_makeFrame_103 ?_
      refine lv_aload_n hx hb dX7_makeFrame_106 rfl (lv_at hl 1 rfl) ?_
      refine o_get (v := .int (nI fr)) C ho 1 0 rfl rfl rfl 4 fX7_45 rfl dX7_makeFrame_107 ?_
      refine lv_iload_n hx hb dX7_makeFrame_110 rfl (lv_at hl 0 rfl) ?_
      refine o_add hx hb dX7_makeFrame_111 ?_
      refine o_callV (wr := [bO K h hw hq hs hf fr fw false (!tu), bF K hf hm 4 ak (!tu) (decide (fr = 0)) cr]) (rest := []) (As := [.ref hs, .int (nI fr), .int (nI (fr + (nxt false (ls_.length - fr))))]) C (c_Msg_addAll la D K hm am 63 [] u_8 hs as_ 41 ls_ gs_ fr (fr + (nxt false (ls_.length - fr))) (by first | omega | assumption | (simp only [List.length_append, List.length_cons, List.length_nil, List.length_modify, List.length_set, nb_len, rb_len, rbp_len, sl_len, slN_len, wh_len, wt_len, hd10_len, hdB_len, thr_len, ldp_len, ldB_len, tens_len, whz_len, majL_len, mf_len, tkL_len, ldY_len, fif_len, ldY_len]; omega) | decide) (by first | omega | assumption | (simp only [List.length_append, List.length_cons, List.length_nil, List.length_modify, List.length_set, nb_len, rb_len, rbp_len, sl_len, slN_len, wh_len, wt_len, hd10_len, hdB_len, thr_len, ldp_len, ldB_len, tens_len, whz_len, majL_len, mf_len, tkL_len, ldY_len, fif_len, ldY_len]; omega) | decide) (by first | omega | assumption | (simp only [List.length_append, List.length_cons, List.length_nil, List.length_modify, List.length_set, nb_len, rb_len, rbp_len, sl_len, slN_len, wh_len, wt_len, hd10_len, hdB_len, thr_len, ldp_len, ldB_len, tens_len, whz_len, majL_len, mf_len, tkL_len, ldY_len, fif_len, ldY_len]; omega) | decide) (by first | omega | assumption | (simp only [List.length_append, List.length_cons, List.length_nil, List.length_modify, List.length_set, nb_len, rb_len, rbp_len, sl_len, slN_len, wh_len, wt_len, hd10_len, hdB_len, thr_len, ldp_len, ldB_len, tens_len, whz_len, majL_len, mf_len, tkL_len, ldY_len, fif_len, ldY_len]; omega) | decide) (by first | omega | assumption | (simp only [List.length_append, List.length_cons, List.length_nil, List.length_modify, List.length_set, nb_len, rb_len, rbp_len, sl_len, slN_len, wh_len, wt_len, hd10_len, hdB_len, thr_len, ldp_len, ldB_len, tens_len, whz_len, majL_len, mf_len, tkL_len, ldY_len, fif_len, ldY_len]; omega) | decide) (by first | omega | assumption | (simp only [List.length_append, List.length_cons, List.length_nil, List.length_modify, List.length_set, nb_len, rb_len, rbp_len, sl_len, slN_len, wh_len, wt_len, hd10_len, hdB_len, thr_len, ldp_len, ldB_len, tens_len, whz_len, majL_len, mf_len, tkL_len, ldY_len, fif_len, ldY_len]; omega) | decide)) kX7_74 vX5_addAll (by decide) rfl ho [0, 2, 1, 3] 4 (by decide +kernel) rfl rfl rfl rfl rfl hl.1 rfl (Nat.le_of_ble_eq_true rfl) dX7_makeFrame_112 0 0 rfl rfl (by decide) (fun v u_9 H locs hq ho => ?_)
      obtain rfl := hq
      have ho : ow D vwCl A s.heap H locs [bM K hm am 63 ([] ++ slN ls_ fr ((fr + (nxt false (ls_.length - fr))) - fr)) u_8, bM K hs as_ 41 ls_ gs_, bO K h hw hq hs hf fr fw false (!tu), bF K hf hm 4 ak (!tu) (decide (fr = 0)) cr] := ho
      refine W.eq (g2 := F0 m 115 ls []) rfl ?_
      have e_10 : bM K hm am 63 ([] ++ slN ls_ fr ((fr + (nxt false (ls_.length - fr))) - fr)) u_8 = bM K hm am 63 (slN ls_ fr (nxt false (ls_.length - fr))) u_8 := by rw [Nat.add_sub_cancel_left, List.nil_append]
      have ho : ow D vwCl A s.heap H locs [bM K hm am 63 (slN ls_ fr (nxt false (ls_.length - fr))) u_8, bM K hs as_ 41 ls_ gs_, bO K h hw hq hs hf fr fw false (!tu), bF K hf hm 4 ak (!tu) (decide (fr = 0)) cr] := by rw [← e_10]; exact ho
      refine lv_aload_n hx hb dX7_makeFrame_115 rfl (lv_at hl 1 rfl) ?_
      refine lv_dup hx hb dX7_makeFrame_116 rfl ?_
      refine o_get (v := .int (nI fr)) C ho 2 0 rfl rfl rfl 4 fX7_45 rfl dX7_makeFrame_117 ?_
      refine lv_iload_n hx hb dX7_makeFrame_120 rfl (lv_at hl 0 rfl) ?_
      refine o_add hx hb dX7_makeFrame_121 ?_
      refine o_put (v := .int (nI (fr + (nxt false (ls_.length - fr))))) (bs' := [bM K hm am 63 (slN ls_ fr (nxt false (ls_.length - fr))) u_8, bM K hs as_ 41 ls_ gs_, bO K h hw hq hs hf (fr + (nxt false (ls_.length - fr))) fw false (!tu), bF K hf hm 4 ak (!tu) (decide (fr = 0)) cr]) C ho 2 0 rfl rfl rfl 4 fX7_45 pX7_4 rfl rfl (Nat.le_of_ble_eq_true rfl) dX7_makeFrame_122 rfl (fun H locs ho => ?_)
      refine lv_aload_n hx hb dX7_makeFrame_125 rfl (lv_at hl 1 rfl) ?_
      refine lv_iconst (v := nI 1) hx hb dX7_makeFrame_126 (by decide) ?_
      refine o_put (v := .int (nI 1)) (bs' := [bM K hm am 63 (slN ls_ fr (nxt false (ls_.length - fr))) u_8, bM K hs as_ 41 ls_ gs_, bO K h hw hq hs hf (fr + (nxt false (ls_.length - fr))) true false (!tu), bF K hf hm 4 ak (!tu) (decide (fr = 0)) cr]) C ho 2 0 rfl rfl rfl 5 fX7_48 pX7_5 rfl rfl (Nat.le_of_ble_eq_true rfl) dX7_makeFrame_127 rfl (fun H locs ho => ?_)
      have ho : ow D vwCl A s.heap H locs [bO K h hw hq hs hf (fr + (nxt false (ls_.length - fr))) true false (!tu), bM K hs as_ 41 ls_ gs_, bF K hf hm 4 ak (!tu) (decide (fr = 0)) cr, bM K hm am 63 (slN ls_ fr (nxt false (ls_.length - fr))) u_8] := ho.re [2, 1, 3, 0] 4 (by decide +kernel) rfl rfl
      exact o_vret hQ C ho u_8 rfl rfl (Nat.le_of_ble_eq_true rfl) (Nat.le_of_ble_eq_true rfl) dX7_makeFrame_130
  · skip
    refine lv_aload_n hx hb dX7_makeFrame_0 rfl (lv_at hl 0 rfl) ?_
    refine o_callV (wr := [bF K hf hm kd ak ft be cr, bM K hm am 63 lm gm]) (rest := []) (As := []) C (c_Out_bytesLeft la D K h hw hq hs hf fr fw true tu as_ ls_ gs_ (by first | omega | assumption | (simp only [List.length_append, List.length_cons, List.length_nil, List.length_modify, List.length_set, nb_len, rb_len, rbp_len, sl_len, slN_len, wh_len, wt_len, hd10_len, hdB_len, thr_len, ldp_len, ldB_len, tens_len, whz_len, majL_len, mf_len, tkL_len, ldY_len, fif_len, ldY_len]; omega) | decide)) kX7_54 vX7_bytesLeft (by decide) rfl ho [0, 1, 2, 3] 4 (by decide +kernel) rfl rfl rfl rfl rfl hl.1 rfl (Nat.le_of_ble_eq_true rfl) dX7_makeFrame_1 0 0 rfl rfl (by decide) (fun v u_11 H locs hq ho => ?_)
    obtain rfl := hq
    have ho : ow D vwCl A s.heap H locs [bO K h hw hq hs hf fr fw true tu, bM K hs as_ 41 ls_ gs_, bF K hf hm kd ak ft be cr, bM K hm am 63 lm gm] := ho
    refine W.eq (g2 := F0 m 4 ls [.int (nI (ls_.length - fr))]) rfl ?_
    refine lv_aload_n hx hb dX7_makeFrame_4 rfl (lv_at hl 0 rfl) ?_
    refine o_get (v := .int (bI true)) C ho 0 0 rfl rfl rfl 6 fX7_37 rfl dX7_makeFrame_5 ?_
    refine o_ifb_eq (tgt := 16) hx hb dX7_makeFrame_8 (by decide) (fun c9 => absurd c9 (by decide)) (fun _ => ?_)
    refine lv_bipush (v := nI 9) hx hb dX7_makeFrame_11 (by decide) ?_
    refine lv_goto (tgt := 18) hx hb dX7_makeFrame_13 (by decide) ?_
    refine va_mmin hx hb (C.1.2.2.1.trans hl.1.symm) C.1.2.2.2.1 (C.1.2.2.2.2 _ mX7_81) (C.1.2.2.2.2 _ m_min_s) (C.1.2.2.2.2 _ m_Math_i) (C.1.2.2.2.2 _ m_min_c) (Nat.le_of_ble_eq_true rfl) (Nat.le_of_ble_eq_true rfl) (Nat.le_of_ble_eq_true rfl) (Nat.le_of_ble_eq_true rfl) dX7_makeFrame_18 ?_
    refine o_top (imin_N (by omega) (by omega)) ?_
    refine o_top (y := nI (nxt true (ls_.length - fr))) (rfl) ?_
    have hn9 : nxt true (ls_.length - fr) ≤ 13 := by unfold nxt; dsimp only [cond]; omega
    have hn8 : nxt true (ls_.length - fr) ≤ ls_.length - fr := by unfold nxt; omega
    refine lv_istore_n (lv' := [(1, .int (nI (nxt true (ls_.length - fr)))), (0, .ref h)]) hx hb dX7_makeFrame_21 rfl hl (by decide) rfl (fun ls hl => ?_)
    refine lv_aload_n hx hb dX7_makeFrame_22 rfl (lv_at hl 1 rfl) ?_
    refine lv_dup hx hb dX7_makeFrame_23 rfl ?_
    refine o_get (v := .int (bI tu)) C ho 0 0 rfl rfl rfl 7 fX7_87 rfl dX7_makeFrame_24 ?_
    refine lv_iconst (v := nI 1) hx hb dX7_makeFrame_27 (by decide) ?_
    refine lv_ixor hx hb dX7_makeFrame_28 ?_
    refine o_top (y := bI (!tu)) (bI_not _) ?_
    refine o_put (v := .int (bI (!tu))) (bs' := [bO K h hw hq hs hf fr fw true (!tu), bM K hs as_ 41 ls_ gs_, bF K hf hm kd ak ft be cr, bM K hm am 63 lm gm]) C ho 0 0 rfl rfl rfl 7 fX7_87 pX7_7 rfl rfl (Nat.le_of_ble_eq_true rfl) dX7_makeFrame_29 rfl (fun H locs ho => ?_)
    refine lv_aload_n hx hb dX7_makeFrame_32 rfl (lv_at hl 1 rfl) ?_
    refine o_get (v := .ref hf) C ho 0 0 rfl rfl rfl 3 fX7_33 rfl dX7_makeFrame_33 ?_
    refine lv_aload_n hx hb dX7_makeFrame_36 rfl (lv_at hl 1 rfl) ?_
    refine o_get (v := .int (bI true)) C ho 0 0 rfl rfl rfl 6 fX7_37 rfl dX7_makeFrame_37 ?_
    refine o_ifb_eq (tgt := 47) hx hb dX7_makeFrame_40 (by decide) (fun c9 => absurd c9 (by decide)) (fun _ => ?_)
    refine lv_iconst (v := nI 3) hx hb dX7_makeFrame_43 (by decide) ?_
    refine lv_goto (tgt := 48) hx hb dX7_makeFrame_44 (by decide) ?_
    refine o_put (v := .int (nI 3)) (bs' := [bO K h hw hq hs hf fr fw true (!tu), bM K hs as_ 41 ls_ gs_, bF K hf hm 3 ak ft be cr, bM K hm am 63 lm gm]) C ho 2 0 rfl rfl rfl 1 fX7_90 pX3_1 rfl rfl (Nat.le_of_ble_eq_true rfl) dX7_makeFrame_48 rfl (fun H locs ho => ?_)
    refine lv_aload_n hx hb dX7_makeFrame_51 rfl (lv_at hl 1 rfl) ?_
    refine o_get (v := .ref hf) C ho 0 0 rfl rfl rfl 3 fX7_33 rfl dX7_makeFrame_52 ?_
    refine lv_aload_n hx hb dX7_makeFrame_55 rfl (lv_at hl 1 rfl) ?_
    refine o_get (v := .int (bI (!tu))) C ho 0 0 rfl rfl rfl 7 fX7_87 rfl dX7_makeFrame_56 ?_
    refine o_put (v := .int (bI (!tu))) (bs' := [bO K h hw hq hs hf fr fw true (!tu), bM K hs as_ 41 ls_ gs_, bF K hf hm 3 ak (!tu) be cr, bM K hm am 63 lm gm]) C ho 2 0 rfl rfl rfl 3 fX7_93 pX3_3 rfl rfl (Nat.le_of_ble_eq_true rfl) dX7_makeFrame_59 rfl (fun H locs ho => ?_)
    refine lv_aload_n hx hb dX7_makeFrame_62 rfl (lv_at hl 1 rfl) ?_
    refine o_get (v := .ref hf) C ho 0 0 rfl rfl rfl 3 fX7_33 rfl dX7_makeFrame_63 ?_
    refine lv_aload_n hx hb dX7_makeFrame_66 rfl (lv_at hl 1 rfl) ?_
    refine o_get (v := .int (nI fr)) C ho 0 0 rfl rfl rfl 4 fX7_45 rfl dX7_makeFrame_67 ?_
    refine o_if_ne (tgt := 77) hx hb dX7_makeFrame_70 (by decide) (by omega) (fun c_12 => ?_) (fun c_12 => ?_)
    · skip
      refine lv_iconst (v := nI 0) hx hb dX7_makeFrame_77 (by decide) ?_
      refine o_put (v := .int (nI 0)) (bs' := [bO K h hw hq hs hf fr fw true (!tu), bM K hs as_ 41 ls_ gs_, bF K hf hm 3 ak (!tu) false cr, bM K hm am 63 lm gm]) C ho 2 0 rfl rfl rfl 4 fX7_94 pX3_4 rfl rfl (Nat.le_of_ble_eq_true rfl) dX7_makeFrame_78 rfl (fun H locs ho => ?_)
      have e_13 : bF K hf hm 3 ak (!tu) false cr = bF K hf hm 3 ak (!tu) (decide (fr = 0)) cr := by rw [decide_eq_false c_12]
      have ho : ow D vwCl A s.heap H locs [bO K h hw hq hs hf fr fw true (!tu), bM K hs as_ 41 ls_ gs_, bF K hf hm 3 ak (!tu) (decide (fr = 0)) cr, bM K hm am 63 lm gm] := by rw [← e_13]; exact ho
      refine lv_aload_n hx hb dX7_makeFrame_81 rfl (lv_at hl 1 rfl) ?_
      refine o_get (v := .ref hf) C ho 0 0 rfl rfl rfl 3 fX7_33 rfl dX7_makeFrame_82 ?_
      refine o_get (v := .ref hm) C ho 2 0 rfl rfl rfl 0 fX7_51 rfl dX7_makeFrame_85 ?_
      refine o_callV (wr := [bO K h hw hq hs hf fr fw true (!tu), bM K hs as_ 41 ls_ gs_, bF K hf hm 3 ak (!tu) (decide (fr = 0)) cr]) (rest := []) (As := []) C (c_Msg_clear la D K hm am 63 lm gm ) kX7_68 vX5_clear (by decide) rfl ho [3, 0, 1, 2] 4 (by decide +kernel) rfl rfl rfl rfl rfl hl.1 rfl (Nat.le_of_ble_eq_true rfl) dX7_makeFrame_88 0 0 rfl rfl (by decide) (fun v u_14 H locs hq ho => ?_)
      obtain rfl := hq
      have ho : ow D vwCl A s.heap H locs [bM K hm am 63 [] u_14, bO K h hw hq hs hf fr fw true (!tu), bM K hs as_ 41 ls_ gs_, bF K hf hm 3 ak (!tu) (decide (fr = 0)) cr] := ho
      refine W.eq (g2 := F0 m 91 ls []) rfl ?_
      refine lv_aload_n hx hb dX7_makeFrame_91 rfl (lv_at hl 1 rfl) ?_
      refine o_get (v := .ref hf) C ho 1 0 rfl rfl rfl 3 fX7_33 rfl dX7_makeFrame_92 ?_
      refine o_get (v := .ref hm) C ho 3 0 rfl rfl rfl 0 fX7_51 rfl dX7_makeFrame_95 ?_
      refine lv_aload_n hx hb dX7_makeFrame_98 rfl (lv_at hl 1 rfl) ?_
      refine o_get (v := .ref hs) C ho 1 0 rfl rfl rfl 2 fX7_27 rfl dX7_makeFrame_99 ?_
      refine lv_aload_n hx hb dX7_makeFrame_102 rfl (lv_at hl 1 rfl) ?_
      refine o_get (v := .int (nI fr)) C ho 1 0 rfl rfl rfl 4 fX7_45 rfl dX7_makeFrame_103 ?_
      refine lv_aload_n hx hb dX7_makeFrame_106 rfl (lv_at hl 1 rfl) ?_
      refine o_get (v := .int (nI fr)) C ho 1 0 rfl rfl rfl 4 fX7_45 rfl dX7_makeFrame_107 ?_
      refine lv_iload_n hx hb dX7_makeFrame_110 rfl (lv_at hl 0 rfl) ?_
      refine o_add hx hb dX7_makeFrame_111 ?_
      refine o_callV (wr := [bO K h hw hq hs hf fr fw true (!tu), bF K hf hm 3 ak (!tu) (decide (fr = 0)) cr]) (rest := []) (As := [.ref hs, .int (nI fr), .int (nI (fr + (nxt true (ls_.length - fr))))]) C (c_Msg_addAll la D K hm am 63 [] u_14 hs as_ 41 ls_ gs_ fr (fr + (nxt true (ls_.length - fr))) (by first | omega | assumption | (simp only [List.length_append, List.length_cons, List.length_nil, List.length_modify, List.length_set, nb_len, rb_len, rbp_len, sl_len, slN_len, wh_len, wt_len, hd10_len, hdB_len, thr_len, ldp_len, ldB_len, tens_len, whz_len, majL_len, mf_len, tkL_len, ldY_len, fif_len, ldY_len]; omega) | decide) (by first | omega | assumption | (simp only [List.length_append, List.length_cons, List.length_nil, List.length_modify, List.length_set, nb_len, rb_len, rbp_len, sl_len, slN_len, wh_len, wt_len, hd10_len, hdB_len, thr_len, ldp_len, ldB_len, tens_len, whz_len, majL_len, mf_len, tkL_len, ldY_len, fif_len, ldY_len]; omega) | decide) (by first | omega | assumption | (simp only [List.length_append, List.length_cons, List.length_nil, List.length_modify, List.length_set, nb_len, rb_len, rbp_len, sl_len, slN_len, wh_len, wt_len, hd10_len, hdB_len, thr_len, ldp_len, ldB_len, tens_len, whz_len, majL_len, mf_len, tkL_len, ldY_len, fif_len, ldY_len]; omega) | decide) (by first | omega | assumption | (simp only [List.length_append, List.length_cons, List.length_nil, List.length_modify, List.length_set, nb_len, rb_len, rbp_len, sl_len, slN_len, wh_len, wt_len, hd10_len, hdB_len, thr_len, ldp_len, ldB_len, tens_len, whz_len, majL_len, mf_len, tkL_len, ldY_len, fif_len, ldY_len]; omega) | decide) (by first | omega | assumption | (simp only [List.length_append, List.length_cons, List.length_nil, List.length_modify, List.length_set, nb_len, rb_len, rbp_len, sl_len, slN_len, wh_len, wt_len, hd10_len, hdB_len, thr_len, ldp_len, ldB_len, tens_len, whz_len, majL_len, mf_len, tkL_len, ldY_len, fif_len, ldY_len]; omega) | decide) (by first | omega | assumption | (simp only [List.length_append, List.length_cons, List.length_nil, List.length_modify, List.length_set, nb_len, rb_len, rbp_len, sl_len, slN_len, wh_len, wt_len, hd10_len, hdB_len, thr_len, ldp_len, ldB_len, tens_len, whz_len, majL_len, mf_len, tkL_len, ldY_len, fif_len, ldY_len]; omega) | decide)) kX7_74 vX5_addAll (by decide) rfl ho [0, 2, 1, 3] 4 (by decide +kernel) rfl rfl rfl rfl rfl hl.1 rfl (Nat.le_of_ble_eq_true rfl) dX7_makeFrame_112 0 0 rfl rfl (by decide) (fun v u_15 H locs hq ho => ?_)
      obtain rfl := hq
      have ho : ow D vwCl A s.heap H locs [bM K hm am 63 ([] ++ slN ls_ fr ((fr + (nxt true (ls_.length - fr))) - fr)) u_14, bM K hs as_ 41 ls_ gs_, bO K h hw hq hs hf fr fw true (!tu), bF K hf hm 3 ak (!tu) (decide (fr = 0)) cr] := ho
      refine W.eq (g2 := F0 m 115 ls []) rfl ?_
      have e_16 : bM K hm am 63 ([] ++ slN ls_ fr ((fr + (nxt true (ls_.length - fr))) - fr)) u_14 = bM K hm am 63 (slN ls_ fr (nxt true (ls_.length - fr))) u_14 := by rw [Nat.add_sub_cancel_left, List.nil_append]
      have ho : ow D vwCl A s.heap H locs [bM K hm am 63 (slN ls_ fr (nxt true (ls_.length - fr))) u_14, bM K hs as_ 41 ls_ gs_, bO K h hw hq hs hf fr fw true (!tu), bF K hf hm 3 ak (!tu) (decide (fr = 0)) cr] := by rw [← e_16]; exact ho
      refine lv_aload_n hx hb dX7_makeFrame_115 rfl (lv_at hl 1 rfl) ?_
      refine lv_dup hx hb dX7_makeFrame_116 rfl ?_
      refine o_get (v := .int (nI fr)) C ho 2 0 rfl rfl rfl 4 fX7_45 rfl dX7_makeFrame_117 ?_
      refine lv_iload_n hx hb dX7_makeFrame_120 rfl (lv_at hl 0 rfl) ?_
      refine o_add hx hb dX7_makeFrame_121 ?_
      refine o_put (v := .int (nI (fr + (nxt true (ls_.length - fr))))) (bs' := [bM K hm am 63 (slN ls_ fr (nxt true (ls_.length - fr))) u_14, bM K hs as_ 41 ls_ gs_, bO K h hw hq hs hf (fr + (nxt true (ls_.length - fr))) fw true (!tu), bF K hf hm 3 ak (!tu) (decide (fr = 0)) cr]) C ho 2 0 rfl rfl rfl 4 fX7_45 pX7_4 rfl rfl (Nat.le_of_ble_eq_true rfl) dX7_makeFrame_122 rfl (fun H locs ho => ?_)
      refine lv_aload_n hx hb dX7_makeFrame_125 rfl (lv_at hl 1 rfl) ?_
      refine lv_iconst (v := nI 1) hx hb dX7_makeFrame_126 (by decide) ?_
      refine o_put (v := .int (nI 1)) (bs' := [bM K hm am 63 (slN ls_ fr (nxt true (ls_.length - fr))) u_14, bM K hs as_ 41 ls_ gs_, bO K h hw hq hs hf (fr + (nxt true (ls_.length - fr))) true true (!tu), bF K hf hm 3 ak (!tu) (decide (fr = 0)) cr]) C ho 2 0 rfl rfl rfl 5 fX7_48 pX7_5 rfl rfl (Nat.le_of_ble_eq_true rfl) dX7_makeFrame_127 rfl (fun H locs ho => ?_)
      have ho : ow D vwCl A s.heap H locs [bO K h hw hq hs hf (fr + (nxt true (ls_.length - fr))) true true (!tu), bM K hs as_ 41 ls_ gs_, bF K hf hm 3 ak (!tu) (decide (fr = 0)) cr, bM K hm am 63 (slN ls_ fr (nxt true (ls_.length - fr))) u_14] := ho.re [2, 1, 3, 0] 4 (by decide +kernel) rfl rfl
      exact o_vret hQ C ho u_14 rfl rfl (Nat.le_of_ble_eq_true rfl) (Nat.le_of_ble_eq_true rfl) dX7_makeFrame_130
    · skip
      refine lv_iconst (v := nI 1) hx hb dX7_makeFrame_73 (by decide) ?_
      refine lv_goto (tgt := 78) hx hb dX7_makeFrame_74 (by decide) ?_
      refine o_put (v := .int (nI 1)) (bs' := [bO K h hw hq hs hf fr fw true (!tu), bM K hs as_ 41 ls_ gs_, bF K hf hm 3 ak (!tu) true cr, bM K hm am 63 lm gm]) C ho 2 0 rfl rfl rfl 4 fX7_94 pX3_4 rfl rfl (Nat.le_of_ble_eq_true rfl) dX7_makeFrame_78 rfl (fun H locs ho => ?_)
      have e_17 : bF K hf hm 3 ak (!tu) true cr = bF K hf hm 3 ak (!tu) (decide (fr = 0)) cr := by rw [decide_eq_true c_12]
      have ho : ow D vwCl A s.heap H locs [bO K h hw hq hs hf fr fw true (!tu), bM K hs as_ 41 ls_ gs_, bF K hf hm 3 ak (!tu) (decide (fr = 0)) cr, bM K hm am 63 lm gm] := by rw [← e_17]; exact ho
      refine lv_aload_n hx hb dX7_makeFrame_81 rfl (lv_at hl 1 rfl) ?_
      refine o_get (v := .ref hf) C ho 0 0 rfl rfl rfl 3 fX7_33 rfl dX7_makeFrame_82 ?_
      refine o_get (v := .ref hm) C ho 2 0 rfl rfl rfl 0 fX7_51 rfl dX7_makeFrame_85 ?_
      refine o_callV (wr := [bO K h hw hq hs hf fr fw true (!tu), bM K hs as_ 41 ls_ gs_, bF K hf hm 3 ak (!tu) (decide (fr = 0)) cr]) (rest := []) (As := []) C (c_Msg_clear la D K hm am 63 lm gm ) kX7_68 vX5_clear (by decide) rfl ho [3, 0, 1, 2] 4 (by decide +kernel) rfl rfl rfl rfl rfl hl.1 rfl (Nat.le_of_ble_eq_true rfl) dX7_makeFrame_88 0 0 rfl rfl (by decide) (fun v u_18 H locs hq ho => ?_)
      obtain rfl := hq
      have ho : ow D vwCl A s.heap H locs [bM K hm am 63 [] u_18, bO K h hw hq hs hf fr fw true (!tu), bM K hs as_ 41 ls_ gs_, bF K hf hm 3 ak (!tu) (decide (fr = 0)) cr] := ho
      refine W.eq (g2 := F0 m 91 ls []) rfl ?_
      refine lv_aload_n hx hb dX7_makeFrame_91 rfl (lv_at hl 1 rfl) ?_
      refine o_get (v := .ref hf) C ho 1 0 rfl rfl rfl 3 fX7_33 rfl dX7_makeFrame_92 ?_
      refine o_get (v := .ref hm) C ho 3 0 rfl rfl rfl 0 fX7_51 rfl dX7_makeFrame_95 ?_
      refine lv_aload_n hx hb dX7_makeFrame_98 rfl (lv_at hl 1 rfl) ?_
      refine o_get (v := .ref hs) C ho 1 0 rfl rfl rfl 2 fX7_27 rfl dX7_makeFrame_99 ?_
      refine lv_aload_n hx hb dX7_makeFrame_102 rfl (lv_at hl 1 rfl) ?_
      refine o_get (v := .int (nI fr)) C ho 1 0 rfl rfl rfl 4 fX7_45 rfl dX7_makeFrame_103 ?_
      refine lv_aload_n hx hb dX7_makeFrame_106 rfl (lv_at hl 1 rfl) ?_
      refine o_get (v := .int (nI fr)) C ho 1 0 rfl rfl rfl 4 fX7_45 rfl dX7_makeFrame_107 ?_
      refine lv_iload_n hx hb dX7_makeFrame_110 rfl (lv_at hl 0 rfl) ?_
      refine o_add hx hb dX7_makeFrame_111 ?_
      refine o_callV (wr := [bO K h hw hq hs hf fr fw true (!tu), bF K hf hm 3 ak (!tu) (decide (fr = 0)) cr]) (rest := []) (As := [.ref hs, .int (nI fr), .int (nI (fr + (nxt true (ls_.length - fr))))]) C (c_Msg_addAll la D K hm am 63 [] u_18 hs as_ 41 ls_ gs_ fr (fr + (nxt true (ls_.length - fr))) (by first | omega | assumption | (simp only [List.length_append, List.length_cons, List.length_nil, List.length_modify, List.length_set, nb_len, rb_len, rbp_len, sl_len, slN_len, wh_len, wt_len, hd10_len, hdB_len, thr_len, ldp_len, ldB_len, tens_len, whz_len, majL_len, mf_len, tkL_len, ldY_len, fif_len, ldY_len]; omega) | decide) (by first | omega | assumption | (simp only [List.length_append, List.length_cons, List.length_nil, List.length_modify, List.length_set, nb_len, rb_len, rbp_len, sl_len, slN_len, wh_len, wt_len, hd10_len, hdB_len, thr_len, ldp_len, ldB_len, tens_len, whz_len, majL_len, mf_len, tkL_len, ldY_len, fif_len, ldY_len]; omega) | decide) (by first | omega | assumption | (simp only [List.length_append, List.length_cons, List.length_nil, List.length_modify, List.length_set, nb_len, rb_len, rbp_len, sl_len, slN_len, wh_len, wt_len, hd10_len, hdB_len, thr_len, ldp_len, ldB_len, tens_len, whz_len, majL_len, mf_len, tkL_len, ldY_len, fif_len, ldY_len]; omega) | decide) (by first | omega | assumption | (simp only [List.length_append, List.length_cons, List.length_nil, List.length_modify, List.length_set, nb_len, rb_len, rbp_len, sl_len, slN_len, wh_len, wt_len, hd10_len, hdB_len, thr_len, ldp_len, ldB_len, tens_len, whz_len, majL_len, mf_len, tkL_len, ldY_len, fif_len, ldY_len]; omega) | decide) (by first | omega | assumption | (simp only [List.length_append, List.length_cons, List.length_nil, List.length_modify, List.length_set, nb_len, rb_len, rbp_len, sl_len, slN_len, wh_len, wt_len, hd10_len, hdB_len, thr_len, ldp_len, ldB_len, tens_len, whz_len, majL_len, mf_len, tkL_len, ldY_len, fif_len, ldY_len]; omega) | decide) (by first | omega | assumption | (simp only [List.length_append, List.length_cons, List.length_nil, List.length_modify, List.length_set, nb_len, rb_len, rbp_len, sl_len, slN_len, wh_len, wt_len, hd10_len, hdB_len, thr_len, ldp_len, ldB_len, tens_len, whz_len, majL_len, mf_len, tkL_len, ldY_len, fif_len, ldY_len]; omega) | decide)) kX7_74 vX5_addAll (by decide) rfl ho [0, 2, 1, 3] 4 (by decide +kernel) rfl rfl rfl rfl rfl hl.1 rfl (Nat.le_of_ble_eq_true rfl) dX7_makeFrame_112 0 0 rfl rfl (by decide) (fun v u_19 H locs hq ho => ?_)
      obtain rfl := hq
      have ho : ow D vwCl A s.heap H locs [bM K hm am 63 ([] ++ slN ls_ fr ((fr + (nxt true (ls_.length - fr))) - fr)) u_18, bM K hs as_ 41 ls_ gs_, bO K h hw hq hs hf fr fw true (!tu), bF K hf hm 3 ak (!tu) (decide (fr = 0)) cr] := ho
      refine W.eq (g2 := F0 m 115 ls []) rfl ?_
      have e_20 : bM K hm am 63 ([] ++ slN ls_ fr ((fr + (nxt true (ls_.length - fr))) - fr)) u_18 = bM K hm am 63 (slN ls_ fr (nxt true (ls_.length - fr))) u_18 := by rw [Nat.add_sub_cancel_left, List.nil_append]
      have ho : ow D vwCl A s.heap H locs [bM K hm am 63 (slN ls_ fr (nxt true (ls_.length - fr))) u_18, bM K hs as_ 41 ls_ gs_, bO K h hw hq hs hf fr fw true (!tu), bF K hf hm 3 ak (!tu) (decide (fr = 0)) cr] := by rw [← e_20]; exact ho
      refine lv_aload_n hx hb dX7_makeFrame_115 rfl (lv_at hl 1 rfl) ?_
      refine lv_dup hx hb dX7_makeFrame_116 rfl ?_
      refine o_get (v := .int (nI fr)) C ho 2 0 rfl rfl rfl 4 fX7_45 rfl dX7_makeFrame_117 ?_
      refine lv_iload_n hx hb dX7_makeFrame_120 rfl (lv_at hl 0 rfl) ?_
      refine o_add hx hb dX7_makeFrame_121 ?_
      refine o_put (v := .int (nI (fr + (nxt true (ls_.length - fr))))) (bs' := [bM K hm am 63 (slN ls_ fr (nxt true (ls_.length - fr))) u_18, bM K hs as_ 41 ls_ gs_, bO K h hw hq hs hf (fr + (nxt true (ls_.length - fr))) fw true (!tu), bF K hf hm 3 ak (!tu) (decide (fr = 0)) cr]) C ho 2 0 rfl rfl rfl 4 fX7_45 pX7_4 rfl rfl (Nat.le_of_ble_eq_true rfl) dX7_makeFrame_122 rfl (fun H locs ho => ?_)
      refine lv_aload_n hx hb dX7_makeFrame_125 rfl (lv_at hl 1 rfl) ?_
      refine lv_iconst (v := nI 1) hx hb dX7_makeFrame_126 (by decide) ?_
      refine o_put (v := .int (nI 1)) (bs' := [bM K hm am 63 (slN ls_ fr (nxt true (ls_.length - fr))) u_18, bM K hs as_ 41 ls_ gs_, bO K h hw hq hs hf (fr + (nxt true (ls_.length - fr))) true true (!tu), bF K hf hm 3 ak (!tu) (decide (fr = 0)) cr]) C ho 2 0 rfl rfl rfl 5 fX7_48 pX7_5 rfl rfl (Nat.le_of_ble_eq_true rfl) dX7_makeFrame_127 rfl (fun H locs ho => ?_)
      have ho : ow D vwCl A s.heap H locs [bO K h hw hq hs hf (fr + (nxt true (ls_.length - fr))) true true (!tu), bM K hs as_ 41 ls_ gs_, bF K hf hm 3 ak (!tu) (decide (fr = 0)) cr, bM K hm am 63 (slN ls_ fr (nxt true (ls_.length - fr))) u_18] := ho.re [2, 1, 3, 0] 4 (by decide +kernel) rfl rfl
      exact o_vret hQ C ho u_18 rfl rfl (Nat.le_of_ble_eq_true rfl) (Nat.le_of_ble_eq_true rfl) dX7_makeFrame_130

set_option maxHeartbeats 4000000 in
set_option maxRecDepth 100000 in
theorem c_In_soFar (la : Launch) (D : va_G) (K : Nat → ClassId) (h : Nat) (ht : Nat) (hp : Nat) (pt : Bool) (du : Nat) (lt : Bool) (dr : Nat) (co : Nat) (ap : Nat) (pl : List Nat) (gp : Nat → Int32)  : MT la D K yX4_bytesSoFar cX4_bytesSoFar 1 (some .int) (rmL 1 0 0) [.ref h] [bIn K h ht hp pt du lt dr co, bM K hp ap 318 pl gp] Unit (fun v _ => v = some (.int (nI (cond pt pl.length 0)))) (fun _ => [bIn K h ht hp pt du lt dr co, bM K hp ap 318 pl gp]) := by
  refine Mt.ofW [(0, .ref h)] (by decide) rfl (Nat.le_of_ble_eq_true rfl) ?_
  intro p e s m args below meth c A ls H locs Qz hQ C hin hl ho
  have hx := C.1.1
  have hb := C.1.2.1
  refine lv_aload_n hx hb dX4_bytesSoFar_0 rfl (lv_at hl 0 rfl) ?_
  refine o_get (v := .int (bI pt)) C ho 0 0 rfl rfl rfl 2 fX4_27 rfl dX4_bytesSoFar_1 ?_
  refine o_ifb_eq (tgt := 17) hx hb dX4_bytesSoFar_4 (by decide) (fun c_1 => ?_) (fun c_1 => ?_)
  · skip
    refine lv_iconst (v := nI 0) hx hb dX4_bytesSoFar_17 (by decide) ?_
    exact o_iret hQ C rfl ho () (by rw [c_1]; rfl) rfl (Nat.le_of_ble_eq_true rfl) (Nat.le_of_ble_eq_true rfl) dX4_bytesSoFar_18
  · skip
    refine lv_aload_n hx hb dX4_bytesSoFar_7 rfl (lv_at hl 0 rfl) ?_
    refine o_get (v := .ref hp) C ho 0 0 rfl rfl rfl 1 fX4_23 rfl dX4_bytesSoFar_8 ?_
    refine o_get (v := .int (nI pl.length)) C ho 1 0 rfl rfl rfl 1 fX4_31 rfl dX4_bytesSoFar_11 ?_
    refine lv_goto (tgt := 18) hx hb dX4_bytesSoFar_14 (by decide) ?_
    exact o_iret hQ C rfl ho () (by rw [c_1]; rfl) rfl (Nat.le_of_ble_eq_true rfl) (Nat.le_of_ble_eq_true rfl) dX4_bytesSoFar_18

set_option maxHeartbeats 4000000 in
set_option maxRecDepth 100000 in
theorem c_In_isNew (la : Launch) (D : va_G) (K : Nat → ClassId) (h : Nat) (ht : Nat) (hp : Nat) (pt : Bool) (du : Nat) (lt : Bool) (dr : Nat) (co : Nat) (hr : Nat) (hm : Nat) (kd : Nat) (ak : Bool) (ft : Bool) (be : Bool) (cr : Nat)  : MT la D K yX4_isNew cX4_isNew 2 (some .boolean) (rmL 1 0 0) [.ref h, .ref hr] [bIn K h ht hp pt du lt dr co, bF K hr hm kd ak ft be cr] Unit (fun v _ => v = some (.int (bI (!decide (ft = lt))))) (fun _ => [bIn K h ht hp pt du lt dr co, bF K hr hm kd ak ft be cr]) := by
  refine Mt.ofW [(0, .ref h), (1, .ref hr)] (by decide) rfl (Nat.le_of_ble_eq_true rfl) ?_
  intro p e s m args below meth c A ls H locs Qz hQ C hin hl ho
  have hx := C.1.1
  have hb := C.1.2.1
  refine lv_aload_n hx hb dX4_isNew_0 rfl (lv_at hl 1 rfl) ?_
  refine o_get (v := .int (bI ft)) C ho 1 0 rfl rfl rfl 3 fX4_35 rfl dX4_isNew_1 ?_
  refine lv_aload_n hx hb dX4_isNew_4 rfl (lv_at hl 0 rfl) ?_
  refine o_get (v := .int (bI lt)) C ho 0 0 rfl rfl rfl 4 fX4_40 rfl dX4_isNew_5 ?_
  refine o_icmpb_eq (tgt := 15) hx hb dX4_isNew_8 (by decide) (fun c_1 => ?_) (fun c_1 => ?_)
  · skip
    refine lv_iconst (v := nI 0) hx hb dX4_isNew_15 (by decide) ?_
    exact o_iret hQ C rfl ho () (by rw [decide_eq_true c_1]; rfl) rfl (Nat.le_of_ble_eq_true rfl) (Nat.le_of_ble_eq_true rfl) dX4_isNew_16
  · skip
    refine lv_iconst (v := nI 1) hx hb dX4_isNew_11 (by decide) ?_
    refine lv_goto (tgt := 16) hx hb dX4_isNew_12 (by decide) ?_
    exact o_iret hQ C rfl ho () (by rw [decide_eq_false c_1]; rfl) rfl (Nat.le_of_ble_eq_true rfl) (Nat.le_of_ble_eq_true rfl) dX4_isNew_16

set_option maxHeartbeats 4000000 in
set_option maxRecDepth 100000 in
theorem c_In_begin (la : Launch) (D : va_G) (K : Nat → ClassId) (h : Nat) (ht : Nat) (hp : Nat) (pt : Bool) (du : Nat) (lt : Bool) (dr : Nat) (co : Nat) (ap : Nat) (pl : List Nat) (gp : Nat → Int32) (w : Nat)  : MT la D K yX4_beginMessage cX4_beginMessage 2 none (rmL 2 0 0) [.ref h, .int (nI w)] [bIn K h ht hp pt du lt dr co, bM K hp ap 318 pl gp] (Nat → Int32) (fun v _ => v = none) (fun u => [bIn K h ht hp true w lt (cond pt (dr + 1) dr) co, bM K hp ap 318 [] u]) := by
  refine Mt.ofW [(0, .ref h), (1, .int (nI w))] (by decide) rfl (Nat.le_of_ble_eq_true rfl) ?_
  intro p e s m args below meth c A ls H locs Qz hQ C hin hl ho
  have hx := C.1.1
  have hb := C.1.2.1
  refine lv_aload_n hx hb dX4_beginMessage_0 rfl (lv_at hl 0 rfl) ?_
  refine o_get (v := .int (bI pt)) C ho 0 0 rfl rfl rfl 2 fX4_27 rfl dX4_beginMessage_1 ?_
  refine o_ifb_eq (tgt := 17) hx hb dX4_beginMessage_4 (by decide) (fun c_1 => ?_) (fun c_1 => ?_)
  · skip
    have e_2 : bIn K h ht hp pt du lt dr co = bIn K h ht hp pt du lt (cond pt (dr + 1) dr) co := by rw [c_1]; rfl
    have ho : ow D vwCl A s.heap H locs [bIn K h ht hp pt du lt (cond pt (dr + 1) dr) co, bM K hp ap 318 pl gp] := by rw [← e_2]; exact ho
    refine lv_aload_n hx hb dX4_beginMessage_17 rfl (lv_at hl 0 rfl) ?_
    refine lv_iconst (v := nI 1) hx hb dX4_beginMessage_18 (by decide) ?_
    refine o_put (v := .int (nI 1)) (bs' := [bIn K h ht hp true du lt (cond pt (dr + 1) dr) co, bM K hp ap 318 pl gp]) C ho 0 0 rfl rfl rfl 2 fX4_27 pX4_2 rfl rfl (Nat.le_of_ble_eq_true rfl) dX4_beginMessage_19 rfl (fun H locs ho => ?_)
    refine lv_aload_n hx hb dX4_beginMessage_22 rfl (lv_at hl 0 rfl) ?_
    refine o_get (v := .ref hp) C ho 0 0 rfl rfl rfl 1 fX4_23 rfl dX4_beginMessage_23 ?_
    refine o_callV (wr := [bIn K h ht hp true du lt (cond pt (dr + 1) dr) co]) (rest := []) (As := []) C (c_Msg_clear la D K hp ap 318 pl gp ) kX4_69 vX5_clear (by decide) rfl ho [1, 0] 2 (by decide +kernel) rfl rfl rfl rfl rfl hl.1 rfl (Nat.le_of_ble_eq_true rfl) dX4_beginMessage_26 0 0 rfl rfl (by decide) (fun v u_3 H locs hq ho => ?_)
    obtain rfl := hq
    have ho : ow D vwCl A s.heap H locs [bM K hp ap 318 [] u_3, bIn K h ht hp true du lt (cond pt (dr + 1) dr) co] := ho
    refine W.eq (g2 := F0 m 29 ls []) rfl ?_
    refine lv_aload_n hx hb dX4_beginMessage_29 rfl (lv_at hl 0 rfl) ?_
    refine lv_iload_n hx hb dX4_beginMessage_30 rfl (lv_at hl 1 rfl) ?_
    refine o_put (v := .int (nI w)) (bs' := [bM K hp ap 318 [] u_3, bIn K h ht hp true w lt (cond pt (dr + 1) dr) co]) C ho 1 0 rfl rfl rfl 3 fX4_60 pX4_3 rfl rfl (Nat.le_of_ble_eq_true rfl) dX4_beginMessage_31 rfl (fun H locs ho => ?_)
    have ho : ow D vwCl A s.heap H locs [bIn K h ht hp true w lt (cond pt (dr + 1) dr) co, bM K hp ap 318 [] u_3] := ho.re [1, 0] 2 (by decide +kernel) rfl rfl
    exact o_vret hQ C ho u_3 rfl rfl (Nat.le_of_ble_eq_true rfl) (Nat.le_of_ble_eq_true rfl) dX4_beginMessage_34
  · skip
    refine lv_aload_n hx hb dX4_beginMessage_7 rfl (lv_at hl 0 rfl) ?_
    refine lv_dup hx hb dX4_beginMessage_8 rfl ?_
    refine o_get (v := .int (nI dr)) C ho 0 0 rfl rfl rfl 5 fX4_66 rfl dX4_beginMessage_9 ?_
    refine lv_iconst (v := nI 1) hx hb dX4_beginMessage_12 (by decide) ?_
    refine o_add hx hb dX4_beginMessage_13 ?_
    refine o_put (v := .int (nI (dr + 1))) (bs' := [bIn K h ht hp pt du lt (dr + 1) co, bM K hp ap 318 pl gp]) C ho 0 0 rfl rfl rfl 5 fX4_66 pX4_5 rfl rfl (Nat.le_of_ble_eq_true rfl) dX4_beginMessage_14 rfl (fun H locs ho => ?_)
    have e_4 : bIn K h ht hp pt du lt (dr + 1) co = bIn K h ht hp pt du lt (cond pt (dr + 1) dr) co := by rw [c_1]; rfl
    have ho : ow D vwCl A s.heap H locs [bIn K h ht hp pt du lt (cond pt (dr + 1) dr) co, bM K hp ap 318 pl gp] := by rw [← e_4]; exact ho
    refine lv_aload_n hx hb dX4_beginMessage_17 rfl (lv_at hl 0 rfl) ?_
    refine lv_iconst (v := nI 1) hx hb dX4_beginMessage_18 (by decide) ?_
    refine o_put (v := .int (nI 1)) (bs' := [bIn K h ht hp true du lt (cond pt (dr + 1) dr) co, bM K hp ap 318 pl gp]) C ho 0 0 rfl rfl rfl 2 fX4_27 pX4_2 rfl rfl (Nat.le_of_ble_eq_true rfl) dX4_beginMessage_19 rfl (fun H locs ho => ?_)
    refine lv_aload_n hx hb dX4_beginMessage_22 rfl (lv_at hl 0 rfl) ?_
    refine o_get (v := .ref hp) C ho 0 0 rfl rfl rfl 1 fX4_23 rfl dX4_beginMessage_23 ?_
    refine o_callV (wr := [bIn K h ht hp true du lt (cond pt (dr + 1) dr) co]) (rest := []) (As := []) C (c_Msg_clear la D K hp ap 318 pl gp ) kX4_69 vX5_clear (by decide) rfl ho [1, 0] 2 (by decide +kernel) rfl rfl rfl rfl rfl hl.1 rfl (Nat.le_of_ble_eq_true rfl) dX4_beginMessage_26 0 0 rfl rfl (by decide) (fun v u_5 H locs hq ho => ?_)
    obtain rfl := hq
    have ho : ow D vwCl A s.heap H locs [bM K hp ap 318 [] u_5, bIn K h ht hp true du lt (cond pt (dr + 1) dr) co] := ho
    refine W.eq (g2 := F0 m 29 ls []) rfl ?_
    refine lv_aload_n hx hb dX4_beginMessage_29 rfl (lv_at hl 0 rfl) ?_
    refine lv_iload_n hx hb dX4_beginMessage_30 rfl (lv_at hl 1 rfl) ?_
    refine o_put (v := .int (nI w)) (bs' := [bM K hp ap 318 [] u_5, bIn K h ht hp true w lt (cond pt (dr + 1) dr) co]) C ho 1 0 rfl rfl rfl 3 fX4_60 pX4_3 rfl rfl (Nat.le_of_ble_eq_true rfl) dX4_beginMessage_31 rfl (fun H locs ho => ?_)
    have ho : ow D vwCl A s.heap H locs [bIn K h ht hp true w lt (cond pt (dr + 1) dr) co, bM K hp ap 318 [] u_5] := ho.re [1, 0] 2 (by decide +kernel) rfl rfl
    exact o_vret hQ C ho u_5 rfl rfl (Nat.le_of_ble_eq_true rfl) (Nat.le_of_ble_eq_true rfl) dX4_beginMessage_34

set_option maxHeartbeats 4000000 in
set_option maxRecDepth 100000 in
theorem c_In_end (la : Launch) (D : va_G) (K : Nat → ClassId) (h : Nat) (ht : Nat) (hp : Nat) (pt : Bool) (du : Nat) (lt : Bool) (dr : Nat) (co : Nat) (q : Nat) (mh : Nat → Nat) (fi : Nat) (sz : Nat) (ma : Nat → Nat) (ml : Nat → List Nat) (mg : Nat → Nat → Int32) (ap : Nat) (pl : List Nat) (gp : Nat → Int32) (qf : fi < 6) (q6 : sz ≤ 6) (qd : du ≤ 255) (qd2 : du ≤ pl.length) (qp : pl.length ≤ 318) : MT la D K yX4_endMessage cX4_endMessage 1 none (rmL 3 0 0) [.ref h] [bIn K h ht hp pt du lt dr co, bH K ht q mh fi sz, bPool K mh ma 255 ml mg, bM K hp ap 318 pl gp] ((Nat → List Nat) × (Nat → Nat → Int32)) (fun v u => v = none ∧ u.1 = cond (eApp du pl sz) (va_up ml ((fi + sz) % 6) pl) ml) (fun u => [bIn K h ht hp false du lt (dr + (!eApp du pl sz).toNat) co, bH K ht q mh fi (sz + (eApp du pl sz).toNat), bPool K mh ma 255 u.1 u.2, bM K hp ap 318 pl gp]) := by
  refine Mt.ofW [(0, .ref h)] (by decide) rfl (Nat.le_of_ble_eq_true rfl) ?_
  intro p e s m args below meth c A ls H locs Qz hQ C hin hl ho
  have hx := C.1.1
  have hb := C.1.2.1
  refine lv_aload_n hx hb dX4_endMessage_0 rfl (lv_at hl 0 rfl) ?_
  refine lv_iconst (v := nI 0) hx hb dX4_endMessage_1 (by decide) ?_
  refine o_put (v := .int (nI 0)) (bs' := [bIn K h ht hp false du lt dr co, bH K ht q mh fi sz, bPool K mh ma 255 ml mg, bM K hp ap 318 pl gp]) C ho 0 0 rfl rfl rfl 2 fX4_27 pX4_2 rfl rfl (Nat.le_of_ble_eq_true rfl) dX4_endMessage_2 rfl (fun H locs ho => ?_)
  refine lv_aload_n hx hb dX4_endMessage_5 rfl (lv_at hl 0 rfl) ?_
  refine o_get (v := .ref hp) C ho 0 0 rfl rfl rfl 1 fX4_23 rfl dX4_endMessage_6 ?_
  refine o_get (v := .int (nI pl.length)) C ho 3 0 rfl rfl rfl 1 fX4_31 rfl dX4_endMessage_9 ?_
  refine lv_aload_n hx hb dX4_endMessage_12 rfl (lv_at hl 0 rfl) ?_
  refine o_get (v := .int (nI du)) C ho 0 0 rfl rfl rfl 3 fX4_60 rfl dX4_endMessage_13 ?_
  refine o_icmp_gt (tgt := 29) hx hb dX4_endMessage_16 (by decide) (by first | omega | exact and1_lt _) (by first | omega | exact and1_lt _) (fun c_1 => ?_) (fun c_1 => ?_)
  · skip
    refine lv_aload_n hx hb dX4_endMessage_29 rfl (lv_at hl 0 rfl) ?_
    refine lv_dup hx hb dX4_endMessage_30 rfl ?_
    refine o_get (v := .int (nI dr)) C ho 0 0 rfl rfl rfl 5 fX4_66 rfl dX4_endMessage_31 ?_
    refine lv_iconst (v := nI 1) hx hb dX4_endMessage_34 (by decide) ?_
    refine o_add hx hb dX4_endMessage_35 ?_
    refine o_put (v := .int (nI (dr + 1))) (bs' := [bIn K h ht hp false du lt (dr + 1) co, bH K ht q mh fi sz, bPool K mh ma 255 ml mg, bM K hp ap 318 pl gp]) C ho 0 0 rfl rfl rfl 5 fX4_66 pX4_5 rfl rfl (Nat.le_of_ble_eq_true rfl) dX4_endMessage_36 rfl (fun H locs ho => ?_)
    refine lv_goto (tgt := 53) hx hb dX4_endMessage_39 (by decide) ?_
    have hap : eApp du pl sz = false := by unfold eApp; rw [decide_eq_false (by omega : ¬ pl.length ≤ du)]; rfl
    have e_2 : bIn K h ht hp false du lt (dr + 1) co = bIn K h ht hp false du lt (dr + (!eApp du pl sz).toNat) co := by rw [hap]; rfl
    have ho : ow D vwCl A s.heap H locs [bIn K h ht hp false du lt (dr + (!eApp du pl sz).toNat) co, bH K ht q mh fi sz, bPool K mh ma 255 ml mg, bM K hp ap 318 pl gp] := by rw [← e_2]; exact ho
    have e_3 : bH K ht q mh fi sz = bH K ht q mh fi (sz + (eApp du pl sz).toNat) := by rw [hap]; rfl
    have ho : ow D vwCl A s.heap H locs [bIn K h ht hp false du lt (dr + (!eApp du pl sz).toNat) co, bH K ht q mh fi (sz + (eApp du pl sz).toNat), bPool K mh ma 255 ml mg, bM K hp ap 318 pl gp] := by rw [← e_3]; exact ho
    exact o_vret hQ C ho (ml, mg) (⟨rfl, by dsimp only; rw [hap]; rfl⟩) (by dsimp only [gs, List.getD_cons_zero, List.getD_cons_succ] <;> rfl) (Nat.le_of_ble_eq_true rfl) (Nat.le_of_ble_eq_true rfl) dX4_endMessage_53
  · skip
    refine lv_aload_n hx hb dX4_endMessage_19 rfl (lv_at hl 0 rfl) ?_
    refine o_get (v := .ref ht) C ho 0 0 rfl rfl rfl 0 fX4_14 rfl dX4_endMessage_20 ?_
    refine o_callV (wr := [bIn K h ht hp false du lt dr co, bPool K mh ma 255 ml mg, bM K hp ap 318 pl gp]) (rest := []) (As := []) C (c_Row_isFull la D K ht q mh fi sz (by first | omega | assumption | (simp only [List.length_append, List.length_cons, List.length_nil, List.length_modify, List.length_set, nb_len, rb_len, rbp_len, sl_len, slN_len, wh_len, wt_len, hd10_len, hdB_len, thr_len, ldp_len, ldB_len, tens_len, whz_len, majL_len, mf_len, tkL_len, ldY_len, fif_len, ldY_len]; omega) | decide) (by first | omega | assumption | (simp only [List.length_append, List.length_cons, List.length_nil, List.length_modify, List.length_set, nb_len, rb_len, rbp_len, sl_len, slN_len, wh_len, wt_len, hd10_len, hdB_len, thr_len, ldp_len, ldB_len, tens_len, whz_len, majL_len, mf_len, tkL_len, ldY_len, fif_len, ldY_len]; omega) | decide)) kX4_72 vX6_isFull (by decide) rfl ho [1, 0, 2, 3] 4 (by decide +kernel) rfl rfl rfl rfl rfl hl.1 rfl (Nat.le_of_ble_eq_true rfl) dX4_endMessage_23 0 0 rfl rfl (by decide) (fun v u_4 H locs hq ho => ?_)
    obtain rfl := hq
    have ho : ow D vwCl A s.heap H locs [bH K ht q mh fi sz, bIn K h ht hp false du lt dr co, bPool K mh ma 255 ml mg, bM K hp ap 318 pl gp] := ho
    refine W.eq (g2 := F0 m 26 ls [.int (bI (decide (6 ≤ sz)))]) rfl ?_
    refine o_ifb_eq (tgt := 42) hx hb dX4_endMessage_26 (by decide) (fun c_5 => ?_) (fun c_5 => ?_)
    · skip
      have hz6 : sz < 6 := by have := of_decide_eq_false c_5; omega
      refine lv_aload_n hx hb dX4_endMessage_42 rfl (lv_at hl 0 rfl) ?_
      refine o_get (v := .ref ht) C ho 1 0 rfl rfl rfl 0 fX4_14 rfl dX4_endMessage_43 ?_
      refine lv_aload_n hx hb dX4_endMessage_46 rfl (lv_at hl 0 rfl) ?_
      refine o_get (v := .ref hp) C ho 1 0 rfl rfl rfl 1 fX4_23 rfl dX4_endMessage_47 ?_
      refine o_callV (wr := [bIn K h ht hp false du lt dr co]) (rest := []) (As := [.ref hp]) C (c_Row_append la D K ht q mh fi sz ma 255 ml mg hp ap 318 pl gp (by first | omega | assumption | (simp only [List.length_append, List.length_cons, List.length_nil, List.length_modify, List.length_set, nb_len, rb_len, rbp_len, sl_len, slN_len, wh_len, wt_len, hd10_len, hdB_len, thr_len, ldp_len, ldB_len, tens_len, whz_len, majL_len, mf_len, tkL_len, ldY_len, fif_len, ldY_len]; omega) | decide) (by first | omega | assumption | (simp only [List.length_append, List.length_cons, List.length_nil, List.length_modify, List.length_set, nb_len, rb_len, rbp_len, sl_len, slN_len, wh_len, wt_len, hd10_len, hdB_len, thr_len, ldp_len, ldB_len, tens_len, whz_len, majL_len, mf_len, tkL_len, ldY_len, fif_len, ldY_len]; omega) | decide) (by first | omega | assumption | (simp only [List.length_append, List.length_cons, List.length_nil, List.length_modify, List.length_set, nb_len, rb_len, rbp_len, sl_len, slN_len, wh_len, wt_len, hd10_len, hdB_len, thr_len, ldp_len, ldB_len, tens_len, whz_len, majL_len, mf_len, tkL_len, ldY_len, fif_len, ldY_len]; omega) | decide) (by first | omega | assumption | (simp only [List.length_append, List.length_cons, List.length_nil, List.length_modify, List.length_set, nb_len, rb_len, rbp_len, sl_len, slN_len, wh_len, wt_len, hd10_len, hdB_len, thr_len, ldp_len, ldB_len, tens_len, whz_len, majL_len, mf_len, tkL_len, ldY_len, fif_len, ldY_len]; omega) | decide) (by first | omega | assumption | (simp only [List.length_append, List.length_cons, List.length_nil, List.length_modify, List.length_set, nb_len, rb_len, rbp_len, sl_len, slN_len, wh_len, wt_len, hd10_len, hdB_len, thr_len, ldp_len, ldB_len, tens_len, whz_len, majL_len, mf_len, tkL_len, ldY_len, fif_len, ldY_len]; omega) | decide) (by first | omega | assumption | (simp only [List.length_append, List.length_cons, List.length_nil, List.length_modify, List.length_set, nb_len, rb_len, rbp_len, sl_len, slN_len, wh_len, wt_len, hd10_len, hdB_len, thr_len, ldp_len, ldB_len, tens_len, whz_len, majL_len, mf_len, tkL_len, ldY_len, fif_len, ldY_len]; omega) | decide)) kX4_76 vX6_append (by decide) rfl ho [0, 2, 3, 1] 4 (by decide +kernel) rfl rfl rfl rfl rfl hl.1 rfl (Nat.le_of_ble_eq_true rfl) dX4_endMessage_50 0 0 rfl rfl (by decide) (fun v u_6 H locs hq ho => ?_)
      obtain rfl := hq
      have ho : ow D vwCl A s.heap H locs [bH K ht q mh fi (sz + 1), bPool K mh ma 255 (va_up ml ((fi + sz) % 6) pl) (va_up mg ((fi + sz) % 6) u_6), bM K hp ap 318 pl gp, bIn K h ht hp false du lt dr co] := ho
      refine W.eq (g2 := F0 m 53 ls []) rfl ?_
      have hap : eApp du pl sz = true := by unfold eApp; rw [decide_eq_true (by omega : pl.length ≤ du), decide_eq_true (by have := of_decide_eq_false c_5; omega : sz < 6)]; rfl
      have e_7 : bIn K h ht hp false du lt dr co = bIn K h ht hp false du lt (dr + (!eApp du pl sz).toNat) co := by rw [hap]; rfl
      have ho : ow D vwCl A s.heap H locs [bH K ht q mh fi (sz + 1), bPool K mh ma 255 (va_up ml ((fi + sz) % 6) pl) (va_up mg ((fi + sz) % 6) u_6), bM K hp ap 318 pl gp, bIn K h ht hp false du lt (dr + (!eApp du pl sz).toNat) co] := by rw [← e_7]; exact ho
      have e_8 : bH K ht q mh fi (sz + 1) = bH K ht q mh fi (sz + (eApp du pl sz).toNat) := by rw [hap]; rfl
      have ho : ow D vwCl A s.heap H locs [bH K ht q mh fi (sz + (eApp du pl sz).toNat), bPool K mh ma 255 (va_up ml ((fi + sz) % 6) pl) (va_up mg ((fi + sz) % 6) u_6), bM K hp ap 318 pl gp, bIn K h ht hp false du lt (dr + (!eApp du pl sz).toNat) co] := by rw [← e_8]; exact ho
      have ho : ow D vwCl A s.heap H locs [bIn K h ht hp false du lt (dr + (!eApp du pl sz).toNat) co, bH K ht q mh fi (sz + (eApp du pl sz).toNat), bPool K mh ma 255 (va_up ml ((fi + sz) % 6) pl) (va_up mg ((fi + sz) % 6) u_6), bM K hp ap 318 pl gp] := ho.re [3, 0, 1, 2] 4 (by decide +kernel) rfl rfl
      exact o_vret hQ C ho (va_up ml ((fi + sz) % 6) pl, va_up mg ((fi + sz) % 6) u_6) (⟨rfl, by dsimp only; rw [hap]; rfl⟩) (by dsimp only [gs, List.getD_cons_zero, List.getD_cons_succ] <;> rfl) (Nat.le_of_ble_eq_true rfl) (Nat.le_of_ble_eq_true rfl) dX4_endMessage_53
    · skip
      refine lv_aload_n hx hb dX4_endMessage_29 rfl (lv_at hl 0 rfl) ?_
      refine lv_dup hx hb dX4_endMessage_30 rfl ?_
      refine o_get (v := .int (nI dr)) C ho 1 0 rfl rfl rfl 5 fX4_66 rfl dX4_endMessage_31 ?_
      refine lv_iconst (v := nI 1) hx hb dX4_endMessage_34 (by decide) ?_
      refine o_add hx hb dX4_endMessage_35 ?_
      refine o_put (v := .int (nI (dr + 1))) (bs' := [bH K ht q mh fi sz, bIn K h ht hp false du lt (dr + 1) co, bPool K mh ma 255 ml mg, bM K hp ap 318 pl gp]) C ho 1 0 rfl rfl rfl 5 fX4_66 pX4_5 rfl rfl (Nat.le_of_ble_eq_true rfl) dX4_endMessage_36 rfl (fun H locs ho => ?_)
      refine lv_goto (tgt := 53) hx hb dX4_endMessage_39 (by decide) ?_
      have hap : eApp du pl sz = false := by unfold eApp; rw [decide_eq_false (by have := of_decide_eq_true c_5; omega : ¬ sz < 6), Bool.and_false]
      have e_9 : bIn K h ht hp false du lt (dr + 1) co = bIn K h ht hp false du lt (dr + (!eApp du pl sz).toNat) co := by rw [hap]; rfl
      have ho : ow D vwCl A s.heap H locs [bH K ht q mh fi sz, bIn K h ht hp false du lt (dr + (!eApp du pl sz).toNat) co, bPool K mh ma 255 ml mg, bM K hp ap 318 pl gp] := by rw [← e_9]; exact ho
      have e_10 : bH K ht q mh fi sz = bH K ht q mh fi (sz + (eApp du pl sz).toNat) := by rw [hap]; rfl
      have ho : ow D vwCl A s.heap H locs [bH K ht q mh fi (sz + (eApp du pl sz).toNat), bIn K h ht hp false du lt (dr + (!eApp du pl sz).toNat) co, bPool K mh ma 255 ml mg, bM K hp ap 318 pl gp] := by rw [← e_10]; exact ho
      have ho : ow D vwCl A s.heap H locs [bIn K h ht hp false du lt (dr + (!eApp du pl sz).toNat) co, bH K ht q mh fi (sz + (eApp du pl sz).toNat), bPool K mh ma 255 ml mg, bM K hp ap 318 pl gp] := ho.re [1, 0, 2, 3] 4 (by decide +kernel) rfl rfl
      exact o_vret hQ C ho (ml, mg) (⟨rfl, by dsimp only; rw [hap]; rfl⟩) (by dsimp only [gs, List.getD_cons_zero, List.getD_cons_succ] <;> rfl) (Nat.le_of_ble_eq_true rfl) (Nat.le_of_ble_eq_true rfl) dX4_endMessage_53

set_option maxHeartbeats 4000000 in
set_option maxRecDepth 100000 in
theorem c_In_use (la : Launch) (D : va_G) (K : Nat → ClassId) (h : Nat) (ht : Nat) (hp : Nat) (pt : Bool) (du : Nat) (lt : Bool) (dr : Nat) (co : Nat) (q : Nat) (mh : Nat → Nat) (fi : Nat) (sz : Nat) (ma : Nat → Nat) (ml : Nat → List Nat) (mg : Nat → Nat → Int32) (ap : Nat) (pl : List Nat) (gp : Nat → Int32) (hr : Nat) (hm : Nat) (kd : Nat) (ak : Bool) (ft : Bool) (be : Bool) (cr : Nat) (am : Nat) (y : List Nat) (gm : Nat → Int32) (qf : fi < 6) (q6 : sz ≤ 6) (qd : du ≤ 255) (qp : pt = true → pl.length < du) (qp2 : pl.length ≤ 318) (qy : y.length ≤ 63) (qy1 : 1 ≤ y.length) (qy2 : y.getD 0 0 ≤ 255) : MT la D K yX4_use cX4_use 2 none (rmL 4 0 0) [.ref h, .ref hr] [bIn K h ht hp pt du lt dr co, bH K ht q mh fi sz, bPool K mh ma 255 ml mg, bM K hp ap 318 pl gp, bF K hr hm kd ak ft be cr, bM K hm am 63 y gm] ((Nat → Int32) × (Nat → List Nat) × (Nat → Nat → Int32)) (fun v u => v = none ∧ u.2.1 = cond (iApp be pt du pl y sz) (va_up ml ((fi + sz) % 6) (iPl1 be pt pl y)) ml) (fun u => [bIn K h ht hp ((be || pt) && !iFin be pt du pl y) (iDu1 be du y) ft (iDr1 be pt dr + (iFin be pt du pl y && !iApp be pt du pl y sz).toNat) co, bH K ht q mh fi (sz + (iApp be pt du pl y sz).toNat), bPool K mh ma 255 u.2.1 u.2.2, bM K hp ap 318 (iPl1 be pt pl y) u.1, bF K hr hm kd ak ft be cr, bM K hm am 63 y gm]) := by
  refine Mt.ofW [(0, .ref h), (1, .ref hr)] (by decide) rfl (Nat.le_of_ble_eq_true rfl) ?_
  intro p e s m args below meth c A ls H locs Qz hQ C hin hl ho
  have hx := C.1.1
  have hb := C.1.2.1
  cases be
  · skip
    cases pt
    · skip
      refine lv_aload_n hx hb dX4_use_0 rfl (lv_at hl 0 rfl) ?_
      refine lv_aload_n hx hb dX4_use_1 rfl (lv_at hl 1 rfl) ?_
      refine o_get (v := .int (bI ft)) C ho 4 0 rfl rfl rfl 3 fX4_35 rfl dX4_use_2 ?_
      refine o_put (v := .int (bI ft)) (bs' := [bIn K h ht hp false du ft dr co, bH K ht q mh fi sz, bPool K mh ma 255 ml mg, bM K hp ap 318 pl gp, bF K hr hm kd ak ft false cr, bM K hm am 63 y gm]) C ho 0 0 rfl rfl rfl 4 fX4_40 pX4_4 rfl rfl (Nat.le_of_ble_eq_true rfl) dX4_use_5 rfl (fun H locs ho => ?_)
      refine lv_aload_n hx hb dX4_use_8 rfl (lv_at hl 1 rfl) ?_
      refine o_get (v := .int (bI false)) C ho 4 0 rfl rfl rfl 4 fX4_43 rfl dX4_use_9 ?_
      refine o_ifb_eq (tgt := 49) hx hb dX4_use_12 (by decide) (fun _ => ?_) (fun c9 => absurd c9 (by decide))
      refine lv_aload_n hx hb dX4_use_49 rfl (lv_at hl 0 rfl) ?_
      refine o_get (v := .int (bI false)) C ho 0 0 rfl rfl rfl 2 fX4_27 rfl dX4_use_50 ?_
      refine o_ifb_eq (tgt := 75) hx hb dX4_use_53 (by decide) (fun _ => ?_) (fun c9 => absurd c9 (by decide))
      have hpl : (iPl1 false false pl y).length ≤ 318 := by unfold iPl1; dsimp only [cond]; omega
      have e_1 : bM K hp ap 318 pl gp = bM K hp ap 318 (iPl1 false false pl y) gp := rfl
      have ho : ow D vwCl A s.heap H locs [bIn K h ht hp false du ft dr co, bH K ht q mh fi sz, bPool K mh ma 255 ml mg, bM K hp ap 318 (iPl1 false false pl y) gp, bF K hr hm kd ak ft false cr, bM K hm am 63 y gm] := by rw [← e_1]; exact ho
      have e_2 : bIn K h ht hp false du ft dr co = bIn K h ht hp false (iDu1 false du y) ft (iDr1 false false dr) co := rfl
      have ho : ow D vwCl A s.heap H locs [bIn K h ht hp false (iDu1 false du y) ft (iDr1 false false dr) co, bH K ht q mh fi sz, bPool K mh ma 255 ml mg, bM K hp ap 318 (iPl1 false false pl y) gp, bF K hr hm kd ak ft false cr, bM K hm am 63 y gm] := by rw [← e_2]; exact ho
      refine lv_aload_n hx hb dX4_use_75 rfl (lv_at hl 0 rfl) ?_
      refine o_get (v := .int (bI false)) C ho 0 0 rfl rfl rfl 2 fX4_27 rfl dX4_use_76 ?_
      refine o_ifb_eq (tgt := 100) hx hb dX4_use_79 (by decide) (fun _ => ?_) (fun c9 => absurd c9 (by decide))
      have hfn : iFin false false du pl y = false := rfl
      have hap : iApp false false du pl y sz = false := by unfold iApp; rw [hfn]; rfl
      have e_3 : bIn K h ht hp false (iDu1 false du y) ft (iDr1 false false dr) co = bIn K h ht hp ((false || false) && !iFin false false du pl y) (iDu1 false du y) ft (iDr1 false false dr + (iFin false false du pl y && !iApp false false du pl y sz).toNat) co := by rw [hap, hfn]; simp
      have ho : ow D vwCl A s.heap H locs [bIn K h ht hp ((false || false) && !iFin false false du pl y) (iDu1 false du y) ft (iDr1 false false dr + (iFin false false du pl y && !iApp false false du pl y sz).toNat) co, bH K ht q mh fi sz, bPool K mh ma 255 ml mg, bM K hp ap 318 (iPl1 false false pl y) gp, bF K hr hm kd ak ft false cr, bM K hm am 63 y gm] := by rw [← e_3]; exact ho
      have e_4 : bH K ht q mh fi sz = bH K ht q mh fi (sz + (iApp false false du pl y sz).toNat) := by rw [hap]; rfl
      have ho : ow D vwCl A s.heap H locs [bIn K h ht hp ((false || false) && !iFin false false du pl y) (iDu1 false du y) ft (iDr1 false false dr + (iFin false false du pl y && !iApp false false du pl y sz).toNat) co, bH K ht q mh fi (sz + (iApp false false du pl y sz).toNat), bPool K mh ma 255 ml mg, bM K hp ap 318 (iPl1 false false pl y) gp, bF K hr hm kd ak ft false cr, bM K hm am 63 y gm] := by rw [← e_4]; exact ho
      exact o_vret hQ C ho (gp, ml, mg) (by dsimp only; exact ⟨rfl, by rw [hap]; rfl⟩) (by dsimp only [gs, List.getD_cons_zero, List.getD_cons_succ] <;> rfl) (Nat.le_of_ble_eq_true rfl) (Nat.le_of_ble_eq_true rfl) dX4_use_100
    · skip
      refine lv_aload_n hx hb dX4_use_0 rfl (lv_at hl 0 rfl) ?_
      refine lv_aload_n hx hb dX4_use_1 rfl (lv_at hl 1 rfl) ?_
      refine o_get (v := .int (bI ft)) C ho 4 0 rfl rfl rfl 3 fX4_35 rfl dX4_use_2 ?_
      refine o_put (v := .int (bI ft)) (bs' := [bIn K h ht hp true du ft dr co, bH K ht q mh fi sz, bPool K mh ma 255 ml mg, bM K hp ap 318 pl gp, bF K hr hm kd ak ft false cr, bM K hm am 63 y gm]) C ho 0 0 rfl rfl rfl 4 fX4_40 pX4_4 rfl rfl (Nat.le_of_ble_eq_true rfl) dX4_use_5 rfl (fun H locs ho => ?_)
      refine lv_aload_n hx hb dX4_use_8 rfl (lv_at hl 1 rfl) ?_
      refine o_get (v := .int (bI false)) C ho 4 0 rfl rfl rfl 4 fX4_43 rfl dX4_use_9 ?_
      refine o_ifb_eq (tgt := 49) hx hb dX4_use_12 (by decide) (fun _ => ?_) (fun c9 => absurd c9 (by decide))
      refine lv_aload_n hx hb dX4_use_49 rfl (lv_at hl 0 rfl) ?_
      refine o_get (v := .int (bI true)) C ho 0 0 rfl rfl rfl 2 fX4_27 rfl dX4_use_50 ?_
      refine o_ifb_eq (tgt := 75) hx hb dX4_use_53 (by decide) (fun c9 => absurd c9 (by decide)) (fun _ => ?_)
      have hpd := qp rfl
      refine lv_aload_n hx hb dX4_use_56 rfl (lv_at hl 0 rfl) ?_
      refine o_get (v := .ref hp) C ho 0 0 rfl rfl rfl 1 fX4_23 rfl dX4_use_57 ?_
      refine lv_aload_n hx hb dX4_use_60 rfl (lv_at hl 1 rfl) ?_
      refine o_get (v := .ref hm) C ho 4 0 rfl rfl rfl 0 fX4_46 rfl dX4_use_61 ?_
      refine lv_iconst (v := nI 0) hx hb dX4_use_64 (by decide) ?_
      refine lv_aload_n hx hb dX4_use_65 rfl (lv_at hl 1 rfl) ?_
      refine o_get (v := .ref hm) C ho 4 0 rfl rfl rfl 0 fX4_46 rfl dX4_use_66 ?_
      refine o_get (v := .int (nI y.length)) C ho 5 0 rfl rfl rfl 1 fX4_31 rfl dX4_use_69 ?_
      refine o_callV (wr := [bIn K h ht hp true du ft dr co, bH K ht q mh fi sz, bPool K mh ma 255 ml mg, bF K hr hm kd ak ft false cr]) (rest := []) (As := [.ref hm, .int (nI 0), .int (nI y.length)]) C (c_Msg_addAll la D K hp ap 318 pl gp hm am 63 y gm 0 y.length (by first | omega | assumption | (simp only [List.length_append, List.length_cons, List.length_nil, List.length_modify, List.length_set, nb_len, rb_len, rbp_len, sl_len, slN_len, wh_len, wt_len, hd10_len, hdB_len, thr_len, ldp_len, ldB_len, tens_len, whz_len, majL_len, mf_len, tkL_len, ldY_len, fif_len, ldY_len]; omega) | decide) (by first | omega | assumption | (simp only [List.length_append, List.length_cons, List.length_nil, List.length_modify, List.length_set, nb_len, rb_len, rbp_len, sl_len, slN_len, wh_len, wt_len, hd10_len, hdB_len, thr_len, ldp_len, ldB_len, tens_len, whz_len, majL_len, mf_len, tkL_len, ldY_len, fif_len, ldY_len]; omega) | decide) (by first | omega | assumption | (simp only [List.length_append, List.length_cons, List.length_nil, List.length_modify, List.length_set, nb_len, rb_len, rbp_len, sl_len, slN_len, wh_len, wt_len, hd10_len, hdB_len, thr_len, ldp_len, ldB_len, tens_len, whz_len, majL_len, mf_len, tkL_len, ldY_len, fif_len, ldY_len]; omega) | decide) (by first | omega | assumption | (simp only [List.length_append, List.length_cons, List.length_nil, List.length_modify, List.length_set, nb_len, rb_len, rbp_len, sl_len, slN_len, wh_len, wt_len, hd10_len, hdB_len, thr_len, ldp_len, ldB_len, tens_len, whz_len, majL_len, mf_len, tkL_len, ldY_len, fif_len, ldY_len]; omega) | decide) (by first | omega | assumption | (simp only [List.length_append, List.length_cons, List.length_nil, List.length_modify, List.length_set, nb_len, rb_len, rbp_len, sl_len, slN_len, wh_len, wt_len, hd10_len, hdB_len, thr_len, ldp_len, ldB_len, tens_len, whz_len, majL_len, mf_len, tkL_len, ldY_len, fif_len, ldY_len]; omega) | decide) (by first | omega | assumption | (simp only [List.length_append, List.length_cons, List.length_nil, List.length_modify, List.length_set, nb_len, rb_len, rbp_len, sl_len, slN_len, wh_len, wt_len, hd10_len, hdB_len, thr_len, ldp_len, ldB_len, tens_len, whz_len, majL_len, mf_len, tkL_len, ldY_len, fif_len, ldY_len]; omega) | decide)) kX4_56 vX5_addAll (by decide) rfl ho [3, 5, 0, 1, 2, 4] 6 (by decide +kernel) rfl rfl rfl rfl rfl hl.1 rfl (Nat.le_of_ble_eq_true rfl) dX4_use_72 0 0 rfl rfl (by decide) (fun v u_5 H locs hq ho => ?_)
      obtain rfl := hq
      have ho : ow D vwCl A s.heap H locs [bM K hp ap 318 (pl ++ slN y 0 (y.length - 0)) gp, bM K hm am 63 y gm, bIn K h ht hp true du ft dr co, bH K ht q mh fi sz, bPool K mh ma 255 ml mg, bF K hr hm kd ak ft false cr] := ho
      refine W.eq (g2 := F0 m 75 ls []) rfl ?_
      have hpl : (iPl1 false true pl y).length ≤ 318 := by unfold iPl1; dsimp only [cond]; rw [List.length_append]; omega
      have e_6 : bM K hp ap 318 (pl ++ slN y 0 (y.length - 0)) gp = bM K hp ap 318 (iPl1 false true pl y) gp := by rw [Nat.sub_zero, slN_all]; rfl
      have ho : ow D vwCl A s.heap H locs [bM K hp ap 318 (iPl1 false true pl y) gp, bM K hm am 63 y gm, bIn K h ht hp true du ft dr co, bH K ht q mh fi sz, bPool K mh ma 255 ml mg, bF K hr hm kd ak ft false cr] := by rw [← e_6]; exact ho
      have e_7 : bIn K h ht hp true du ft dr co = bIn K h ht hp true (iDu1 false du y) ft (iDr1 false true dr) co := rfl
      have ho : ow D vwCl A s.heap H locs [bM K hp ap 318 (iPl1 false true pl y) gp, bM K hm am 63 y gm, bIn K h ht hp true (iDu1 false du y) ft (iDr1 false true dr) co, bH K ht q mh fi sz, bPool K mh ma 255 ml mg, bF K hr hm kd ak ft false cr] := by rw [← e_7]; exact ho
      refine lv_aload_n hx hb dX4_use_75 rfl (lv_at hl 0 rfl) ?_
      refine o_get (v := .int (bI true)) C ho 2 0 rfl rfl rfl 2 fX4_27 rfl dX4_use_76 ?_
      refine o_ifb_eq (tgt := 100) hx hb dX4_use_79 (by decide) (fun c9 => absurd c9 (by decide)) (fun _ => ?_)
      have hd5 : iDu1 false du y ≤ 255 := by unfold iDu1; dsimp only [cond]; omega
      refine lv_aload_n hx hb dX4_use_82 rfl (lv_at hl 0 rfl) ?_
      refine o_get (v := .ref hp) C ho 2 0 rfl rfl rfl 1 fX4_23 rfl dX4_use_83 ?_
      refine o_get (v := .int (nI ((iPl1 false true pl y).length))) C ho 0 0 rfl rfl rfl 1 fX4_31 rfl dX4_use_86 ?_
      refine lv_aload_n hx hb dX4_use_89 rfl (lv_at hl 0 rfl) ?_
      refine o_get (v := .int (nI (iDu1 false du y))) C ho 2 0 rfl rfl rfl 3 fX4_60 rfl dX4_use_90 ?_
      refine o_icmp_lt (tgt := 100) hx hb dX4_use_93 (by decide) (by first | omega | exact and1_lt _) (by first | omega | exact and1_lt _) (fun c_8 => ?_) (fun c_8 => ?_)
      · skip
        have hfn : iFin false true du pl y = false := by unfold iFin; rw [decide_eq_false (by omega)]; rfl
        have hap : iApp false true du pl y sz = false := by unfold iApp; rw [hfn]; rfl
        have e_9 : bIn K h ht hp true (iDu1 false du y) ft (iDr1 false true dr) co = bIn K h ht hp ((false || true) && !iFin false true du pl y) (iDu1 false du y) ft (iDr1 false true dr + (iFin false true du pl y && !iApp false true du pl y sz).toNat) co := by rw [hap, hfn]; simp
        have ho : ow D vwCl A s.heap H locs [bM K hp ap 318 (iPl1 false true pl y) gp, bM K hm am 63 y gm, bIn K h ht hp ((false || true) && !iFin false true du pl y) (iDu1 false du y) ft (iDr1 false true dr + (iFin false true du pl y && !iApp false true du pl y sz).toNat) co, bH K ht q mh fi sz, bPool K mh ma 255 ml mg, bF K hr hm kd ak ft false cr] := by rw [← e_9]; exact ho
        have e_10 : bH K ht q mh fi sz = bH K ht q mh fi (sz + (iApp false true du pl y sz).toNat) := by rw [hap]; rfl
        have ho : ow D vwCl A s.heap H locs [bM K hp ap 318 (iPl1 false true pl y) gp, bM K hm am 63 y gm, bIn K h ht hp ((false || true) && !iFin false true du pl y) (iDu1 false du y) ft (iDr1 false true dr + (iFin false true du pl y && !iApp false true du pl y sz).toNat) co, bH K ht q mh fi (sz + (iApp false true du pl y sz).toNat), bPool K mh ma 255 ml mg, bF K hr hm kd ak ft false cr] := by rw [← e_10]; exact ho
        have ho : ow D vwCl A s.heap H locs [bIn K h ht hp ((false || true) && !iFin false true du pl y) (iDu1 false du y) ft (iDr1 false true dr + (iFin false true du pl y && !iApp false true du pl y sz).toNat) co, bH K ht q mh fi (sz + (iApp false true du pl y sz).toNat), bPool K mh ma 255 ml mg, bM K hp ap 318 (iPl1 false true pl y) gp, bF K hr hm kd ak ft false cr, bM K hm am 63 y gm] := ho.re [2, 3, 4, 0, 5, 1] 6 (by decide +kernel) rfl rfl
        exact o_vret hQ C ho (gp, ml, mg) (by dsimp only; exact ⟨rfl, by rw [hap]; rfl⟩) (by dsimp only [gs, List.getD_cons_zero, List.getD_cons_succ] <;> rfl) (Nat.le_of_ble_eq_true rfl) (Nat.le_of_ble_eq_true rfl) dX4_use_100
      · skip
        refine lv_aload_n hx hb dX4_use_96 rfl (lv_at hl 0 rfl) ?_
        refine o_callV (wr := [bM K hm am 63 y gm, bF K hr hm kd ak ft false cr]) (rest := []) (As := []) C (c_In_end la D K h ht hp true (iDu1 false du y) ft (iDr1 false true dr) co q mh fi sz ma ml mg ap (iPl1 false true pl y) gp (by first | omega | assumption | (simp only [List.length_append, List.length_cons, List.length_nil, List.length_modify, List.length_set, nb_len, rb_len, rbp_len, sl_len, slN_len, wh_len, wt_len, hd10_len, hdB_len, thr_len, ldp_len, ldB_len, tens_len, whz_len, majL_len, mf_len, tkL_len, ldY_len, fif_len, ldY_len]; omega) | decide) (by first | omega | assumption | (simp only [List.length_append, List.length_cons, List.length_nil, List.length_modify, List.length_set, nb_len, rb_len, rbp_len, sl_len, slN_len, wh_len, wt_len, hd10_len, hdB_len, thr_len, ldp_len, ldB_len, tens_len, whz_len, majL_len, mf_len, tkL_len, ldY_len, fif_len, ldY_len]; omega) | decide) (by first | omega | assumption | (simp only [List.length_append, List.length_cons, List.length_nil, List.length_modify, List.length_set, nb_len, rb_len, rbp_len, sl_len, slN_len, wh_len, wt_len, hd10_len, hdB_len, thr_len, ldp_len, ldB_len, tens_len, whz_len, majL_len, mf_len, tkL_len, ldY_len, fif_len, ldY_len]; omega) | decide) (by first | omega | assumption | (simp only [List.length_append, List.length_cons, List.length_nil, List.length_modify, List.length_set, nb_len, rb_len, rbp_len, sl_len, slN_len, wh_len, wt_len, hd10_len, hdB_len, thr_len, ldp_len, ldB_len, tens_len, whz_len, majL_len, mf_len, tkL_len, ldY_len, fif_len, ldY_len]; omega) | decide) (by first | omega | assumption | (simp only [List.length_append, List.length_cons, List.length_nil, List.length_modify, List.length_set, nb_len, rb_len, rbp_len, sl_len, slN_len, wh_len, wt_len, hd10_len, hdB_len, thr_len, ldp_len, ldB_len, tens_len, whz_len, majL_len, mf_len, tkL_len, ldY_len, fif_len, ldY_len]; omega) | decide)) kX4_63 vX4_endMessage (by decide) rfl ho [2, 3, 4, 0, 1, 5] 6 (by decide +kernel) rfl rfl rfl rfl rfl hl.1 rfl (Nat.le_of_ble_eq_true rfl) dX4_use_97 0 0 rfl rfl (by decide) (fun v u_11 H locs hq ho => ?_)
        obtain ⟨rfl, hqe⟩ := hq
        have ho : ow D vwCl A s.heap H locs [bIn K h ht hp false (iDu1 false du y) ft ((iDr1 false true dr) + (!eApp (iDu1 false du y) (iPl1 false true pl y) sz).toNat) co, bH K ht q mh fi (sz + (eApp (iDu1 false du y) (iPl1 false true pl y) sz).toNat), bPool K mh ma 255 u_11.1 u_11.2, bM K hp ap 318 (iPl1 false true pl y) gp, bM K hm am 63 y gm, bF K hr hm kd ak ft false cr] := ho
        refine W.eq (g2 := F0 m 100 ls []) rfl ?_
        have hfn : iFin false true du pl y = true := by unfold iFin; rw [decide_eq_true c_8]; rfl
        have hap : iApp false true du pl y sz = eApp (iDu1 false du y) (iPl1 false true pl y) sz := by unfold iApp; rw [hfn]; rw [Bool.true_and]
        have e_13 : bIn K h ht hp false (iDu1 false du y) ft ((iDr1 false true dr) + (!eApp (iDu1 false du y) (iPl1 false true pl y) sz).toNat) co = bIn K h ht hp ((false || true) && !iFin false true du pl y) (iDu1 false du y) ft (iDr1 false true dr + (iFin false true du pl y && !iApp false true du pl y sz).toNat) co := by rw [hap, hfn, Bool.true_and]; rfl
        have ho : ow D vwCl A s.heap H locs [bIn K h ht hp ((false || true) && !iFin false true du pl y) (iDu1 false du y) ft (iDr1 false true dr + (iFin false true du pl y && !iApp false true du pl y sz).toNat) co, bH K ht q mh fi (sz + (eApp (iDu1 false du y) (iPl1 false true pl y) sz).toNat), bPool K mh ma 255 u_11.1 u_11.2, bM K hp ap 318 (iPl1 false true pl y) gp, bM K hm am 63 y gm, bF K hr hm kd ak ft false cr] := by rw [← e_13]; exact ho
        have e_14 : bH K ht q mh fi (sz + (eApp (iDu1 false du y) (iPl1 false true pl y) sz).toNat) = bH K ht q mh fi (sz + (iApp false true du pl y sz).toNat) := by rw [hap]
        have ho : ow D vwCl A s.heap H locs [bIn K h ht hp ((false || true) && !iFin false true du pl y) (iDu1 false du y) ft (iDr1 false true dr + (iFin false true du pl y && !iApp false true du pl y sz).toNat) co, bH K ht q mh fi (sz + (iApp false true du pl y sz).toNat), bPool K mh ma 255 u_11.1 u_11.2, bM K hp ap 318 (iPl1 false true pl y) gp, bM K hm am 63 y gm, bF K hr hm kd ak ft false cr] := by rw [← e_14]; exact ho
        have ho : ow D vwCl A s.heap H locs [bIn K h ht hp ((false || true) && !iFin false true du pl y) (iDu1 false du y) ft (iDr1 false true dr + (iFin false true du pl y && !iApp false true du pl y sz).toNat) co, bH K ht q mh fi (sz + (iApp false true du pl y sz).toNat), bPool K mh ma 255 u_11.1 u_11.2, bM K hp ap 318 (iPl1 false true pl y) gp, bF K hr hm kd ak ft false cr, bM K hm am 63 y gm] := ho.re [0, 1, 2, 3, 5, 4] 6 (by decide +kernel) rfl rfl
        exact o_vret hQ C ho (gp, u_11.1, u_11.2) (by dsimp only; exact ⟨rfl, by rw [hap]; exact hqe⟩) (by dsimp only [gs, List.getD_cons_zero, List.getD_cons_succ] <;> rfl) (Nat.le_of_ble_eq_true rfl) (Nat.le_of_ble_eq_true rfl) dX4_use_100
  · skip
    cases pt
    · skip
      refine lv_aload_n hx hb dX4_use_0 rfl (lv_at hl 0 rfl) ?_
      refine lv_aload_n hx hb dX4_use_1 rfl (lv_at hl 1 rfl) ?_
      refine o_get (v := .int (bI ft)) C ho 4 0 rfl rfl rfl 3 fX4_35 rfl dX4_use_2 ?_
      refine o_put (v := .int (bI ft)) (bs' := [bIn K h ht hp false du ft dr co, bH K ht q mh fi sz, bPool K mh ma 255 ml mg, bM K hp ap 318 pl gp, bF K hr hm kd ak ft true cr, bM K hm am 63 y gm]) C ho 0 0 rfl rfl rfl 4 fX4_40 pX4_4 rfl rfl (Nat.le_of_ble_eq_true rfl) dX4_use_5 rfl (fun H locs ho => ?_)
      refine lv_aload_n hx hb dX4_use_8 rfl (lv_at hl 1 rfl) ?_
      refine o_get (v := .int (bI true)) C ho 4 0 rfl rfl rfl 4 fX4_43 rfl dX4_use_9 ?_
      refine o_ifb_eq (tgt := 49) hx hb dX4_use_12 (by decide) (fun c9 => absurd c9 (by decide)) (fun _ => ?_)
      refine lv_aload_n hx hb dX4_use_15 rfl (lv_at hl 0 rfl) ?_
      refine lv_aload_n hx hb dX4_use_16 rfl (lv_at hl 1 rfl) ?_
      refine o_get (v := .ref hm) C ho 4 0 rfl rfl rfl 0 fX4_46 rfl dX4_use_17 ?_
      refine lv_iconst (v := nI 0) hx hb dX4_use_20 (by decide) ?_
      refine o_callV (wr := [bIn K h ht hp false du ft dr co, bH K ht q mh fi sz, bPool K mh ma 255 ml mg, bM K hp ap 318 pl gp, bF K hr hm kd ak ft true cr]) (rest := [.ref h]) (As := [.int (nI 0)]) C (c_Msg_at la D K hm am 63 y gm 0 (by first | omega | assumption | (simp only [List.length_append, List.length_cons, List.length_nil, List.length_modify, List.length_set, nb_len, rb_len, rbp_len, sl_len, slN_len, wh_len, wt_len, hd10_len, hdB_len, thr_len, ldp_len, ldB_len, tens_len, whz_len, majL_len, mf_len, tkL_len, ldY_len, fif_len, ldY_len]; omega) | decide) (by first | omega | assumption | (simp only [List.length_append, List.length_cons, List.length_nil, List.length_modify, List.length_set, nb_len, rb_len, rbp_len, sl_len, slN_len, wh_len, wt_len, hd10_len, hdB_len, thr_len, ldp_len, ldB_len, tens_len, whz_len, majL_len, mf_len, tkL_len, ldY_len, fif_len, ldY_len]; omega) | decide) (by first | omega | assumption | (simp only [List.length_append, List.length_cons, List.length_nil, List.length_modify, List.length_set, nb_len, rb_len, rbp_len, sl_len, slN_len, wh_len, wt_len, hd10_len, hdB_len, thr_len, ldp_len, ldB_len, tens_len, whz_len, majL_len, mf_len, tkL_len, ldY_len, fif_len, ldY_len]; omega) | decide)) kX4_49 vX5_at (by decide) rfl ho [5, 0, 1, 2, 3, 4] 6 (by decide +kernel) rfl rfl rfl rfl rfl hl.1 rfl (Nat.le_of_ble_eq_true rfl) dX4_use_21 0 0 rfl rfl (by decide) (fun v u_15 H locs hq ho => ?_)
      obtain rfl := hq
      have ho : ow D vwCl A s.heap H locs [bM K hm am 63 y gm, bIn K h ht hp false du ft dr co, bH K ht q mh fi sz, bPool K mh ma 255 ml mg, bM K hp ap 318 pl gp, bF K hr hm kd ak ft true cr] := ho
      refine W.eq (g2 := F0 m 24 ls [.int (nI (y.getD 0 0)), .ref h]) rfl ?_
      refine o_callV (wr := [bM K hm am 63 y gm, bH K ht q mh fi sz, bPool K mh ma 255 ml mg, bF K hr hm kd ak ft true cr]) (rest := []) (As := [.int (nI (y.getD 0 0))]) C (c_In_begin la D K h ht hp false du ft dr co ap pl gp (y.getD 0 0) ) kX4_53 vX4_beginMessage (by decide) rfl ho [1, 4, 0, 2, 3, 5] 6 (by decide +kernel) rfl rfl rfl rfl rfl hl.1 rfl (Nat.le_of_ble_eq_true rfl) dX4_use_24 0 0 rfl rfl (by decide) (fun v u_16 H locs hq ho => ?_)
      obtain rfl := hq
      have ho : ow D vwCl A s.heap H locs [bIn K h ht hp true (y.getD 0 0) ft (cond false (dr + 1) dr) co, bM K hp ap 318 [] u_16, bM K hm am 63 y gm, bH K ht q mh fi sz, bPool K mh ma 255 ml mg, bF K hr hm kd ak ft true cr] := ho
      refine W.eq (g2 := F0 m 27 ls []) rfl ?_
      refine lv_aload_n hx hb dX4_use_27 rfl (lv_at hl 0 rfl) ?_
      refine o_get (v := .ref hp) C ho 0 0 rfl rfl rfl 1 fX4_23 rfl dX4_use_28 ?_
      refine lv_aload_n hx hb dX4_use_31 rfl (lv_at hl 1 rfl) ?_
      refine o_get (v := .ref hm) C ho 5 0 rfl rfl rfl 0 fX4_46 rfl dX4_use_32 ?_
      refine lv_iconst (v := nI 1) hx hb dX4_use_35 (by decide) ?_
      refine lv_aload_n hx hb dX4_use_36 rfl (lv_at hl 1 rfl) ?_
      refine o_get (v := .ref hm) C ho 5 0 rfl rfl rfl 0 fX4_46 rfl dX4_use_37 ?_
      refine o_get (v := .int (nI y.length)) C ho 2 0 rfl rfl rfl 1 fX4_31 rfl dX4_use_40 ?_
      refine o_callV (wr := [bIn K h ht hp true (y.getD 0 0) ft (cond false (dr + 1) dr) co, bH K ht q mh fi sz, bPool K mh ma 255 ml mg, bF K hr hm kd ak ft true cr]) (rest := []) (As := [.ref hm, .int (nI 1), .int (nI y.length)]) C (c_Msg_addAll la D K hp ap 318 [] u_16 hm am 63 y gm 1 y.length (by first | omega | assumption | (simp only [List.length_append, List.length_cons, List.length_nil, List.length_modify, List.length_set, nb_len, rb_len, rbp_len, sl_len, slN_len, wh_len, wt_len, hd10_len, hdB_len, thr_len, ldp_len, ldB_len, tens_len, whz_len, majL_len, mf_len, tkL_len, ldY_len, fif_len, ldY_len]; omega) | decide) (by first | omega | assumption | (simp only [List.length_append, List.length_cons, List.length_nil, List.length_modify, List.length_set, nb_len, rb_len, rbp_len, sl_len, slN_len, wh_len, wt_len, hd10_len, hdB_len, thr_len, ldp_len, ldB_len, tens_len, whz_len, majL_len, mf_len, tkL_len, ldY_len, fif_len, ldY_len]; omega) | decide) (by first | omega | assumption | (simp only [List.length_append, List.length_cons, List.length_nil, List.length_modify, List.length_set, nb_len, rb_len, rbp_len, sl_len, slN_len, wh_len, wt_len, hd10_len, hdB_len, thr_len, ldp_len, ldB_len, tens_len, whz_len, majL_len, mf_len, tkL_len, ldY_len, fif_len, ldY_len]; omega) | decide) (by first | omega | assumption | (simp only [List.length_append, List.length_cons, List.length_nil, List.length_modify, List.length_set, nb_len, rb_len, rbp_len, sl_len, slN_len, wh_len, wt_len, hd10_len, hdB_len, thr_len, ldp_len, ldB_len, tens_len, whz_len, majL_len, mf_len, tkL_len, ldY_len, fif_len, ldY_len]; omega) | decide) (by first | omega | assumption | (simp only [List.length_append, List.length_cons, List.length_nil, List.length_modify, List.length_set, nb_len, rb_len, rbp_len, sl_len, slN_len, wh_len, wt_len, hd10_len, hdB_len, thr_len, ldp_len, ldB_len, tens_len, whz_len, majL_len, mf_len, tkL_len, ldY_len, fif_len, ldY_len]; omega) | decide) (by first | omega | assumption | (simp only [List.length_append, List.length_cons, List.length_nil, List.length_modify, List.length_set, nb_len, rb_len, rbp_len, sl_len, slN_len, wh_len, wt_len, hd10_len, hdB_len, thr_len, ldp_len, ldB_len, tens_len, whz_len, majL_len, mf_len, tkL_len, ldY_len, fif_len, ldY_len]; omega) | decide)) kX4_56 vX5_addAll (by decide) rfl ho [1, 2, 0, 3, 4, 5] 6 (by decide +kernel) rfl rfl rfl rfl rfl hl.1 rfl (Nat.le_of_ble_eq_true rfl) dX4_use_43 0 0 rfl rfl (by decide) (fun v u_17 H locs hq ho => ?_)
      obtain rfl := hq
      have ho : ow D vwCl A s.heap H locs [bM K hp ap 318 ([] ++ slN y 1 (y.length - 1)) u_16, bM K hm am 63 y gm, bIn K h ht hp true (y.getD 0 0) ft (cond false (dr + 1) dr) co, bH K ht q mh fi sz, bPool K mh ma 255 ml mg, bF K hr hm kd ak ft true cr] := ho
      refine W.eq (g2 := F0 m 46 ls []) rfl ?_
      refine lv_goto (tgt := 75) hx hb dX4_use_46 (by decide) ?_
      have hpl : (iPl1 true false pl y).length ≤ 318 := by unfold iPl1; dsimp only [cond]; rw [slN_len]; omega
      have e_18 : bM K hp ap 318 ([] ++ slN y 1 (y.length - 1)) u_16 = bM K hp ap 318 (iPl1 true false pl y) u_16 := by rw [List.nil_append]; rfl
      have ho : ow D vwCl A s.heap H locs [bM K hp ap 318 (iPl1 true false pl y) u_16, bM K hm am 63 y gm, bIn K h ht hp true (y.getD 0 0) ft (cond false (dr + 1) dr) co, bH K ht q mh fi sz, bPool K mh ma 255 ml mg, bF K hr hm kd ak ft true cr] := by rw [← e_18]; exact ho
      have e_19 : bIn K h ht hp true (y.getD 0 0) ft (cond false (dr + 1) dr) co = bIn K h ht hp true (iDu1 true du y) ft (iDr1 true false dr) co := rfl
      have ho : ow D vwCl A s.heap H locs [bM K hp ap 318 (iPl1 true false pl y) u_16, bM K hm am 63 y gm, bIn K h ht hp true (iDu1 true du y) ft (iDr1 true false dr) co, bH K ht q mh fi sz, bPool K mh ma 255 ml mg, bF K hr hm kd ak ft true cr] := by rw [← e_19]; exact ho
      refine lv_aload_n hx hb dX4_use_75 rfl (lv_at hl 0 rfl) ?_
      refine o_get (v := .int (bI true)) C ho 2 0 rfl rfl rfl 2 fX4_27 rfl dX4_use_76 ?_
      refine o_ifb_eq (tgt := 100) hx hb dX4_use_79 (by decide) (fun c9 => absurd c9 (by decide)) (fun _ => ?_)
      have hd5 : iDu1 true du y ≤ 255 := by unfold iDu1; dsimp only [cond]; omega
      refine lv_aload_n hx hb dX4_use_82 rfl (lv_at hl 0 rfl) ?_
      refine o_get (v := .ref hp) C ho 2 0 rfl rfl rfl 1 fX4_23 rfl dX4_use_83 ?_
      refine o_get (v := .int (nI ((iPl1 true false pl y).length))) C ho 0 0 rfl rfl rfl 1 fX4_31 rfl dX4_use_86 ?_
      refine lv_aload_n hx hb dX4_use_89 rfl (lv_at hl 0 rfl) ?_
      refine o_get (v := .int (nI (iDu1 true du y))) C ho 2 0 rfl rfl rfl 3 fX4_60 rfl dX4_use_90 ?_
      refine o_icmp_lt (tgt := 100) hx hb dX4_use_93 (by decide) (by first | omega | exact and1_lt _) (by first | omega | exact and1_lt _) (fun c_20 => ?_) (fun c_20 => ?_)
      · skip
        have hfn : iFin true false du pl y = false := by unfold iFin; rw [decide_eq_false (by omega)]; rfl
        have hap : iApp true false du pl y sz = false := by unfold iApp; rw [hfn]; rfl
        have e_21 : bIn K h ht hp true (iDu1 true du y) ft (iDr1 true false dr) co = bIn K h ht hp ((true || false) && !iFin true false du pl y) (iDu1 true du y) ft (iDr1 true false dr + (iFin true false du pl y && !iApp true false du pl y sz).toNat) co := by rw [hap, hfn]; simp
        have ho : ow D vwCl A s.heap H locs [bM K hp ap 318 (iPl1 true false pl y) u_16, bM K hm am 63 y gm, bIn K h ht hp ((true || false) && !iFin true false du pl y) (iDu1 true du y) ft (iDr1 true false dr + (iFin true false du pl y && !iApp true false du pl y sz).toNat) co, bH K ht q mh fi sz, bPool K mh ma 255 ml mg, bF K hr hm kd ak ft true cr] := by rw [← e_21]; exact ho
        have e_22 : bH K ht q mh fi sz = bH K ht q mh fi (sz + (iApp true false du pl y sz).toNat) := by rw [hap]; rfl
        have ho : ow D vwCl A s.heap H locs [bM K hp ap 318 (iPl1 true false pl y) u_16, bM K hm am 63 y gm, bIn K h ht hp ((true || false) && !iFin true false du pl y) (iDu1 true du y) ft (iDr1 true false dr + (iFin true false du pl y && !iApp true false du pl y sz).toNat) co, bH K ht q mh fi (sz + (iApp true false du pl y sz).toNat), bPool K mh ma 255 ml mg, bF K hr hm kd ak ft true cr] := by rw [← e_22]; exact ho
        have ho : ow D vwCl A s.heap H locs [bIn K h ht hp ((true || false) && !iFin true false du pl y) (iDu1 true du y) ft (iDr1 true false dr + (iFin true false du pl y && !iApp true false du pl y sz).toNat) co, bH K ht q mh fi (sz + (iApp true false du pl y sz).toNat), bPool K mh ma 255 ml mg, bM K hp ap 318 (iPl1 true false pl y) u_16, bF K hr hm kd ak ft true cr, bM K hm am 63 y gm] := ho.re [2, 3, 4, 0, 5, 1] 6 (by decide +kernel) rfl rfl
        exact o_vret hQ C ho (u_16, ml, mg) (by dsimp only; exact ⟨rfl, by rw [hap]; rfl⟩) (by dsimp only [gs, List.getD_cons_zero, List.getD_cons_succ] <;> rfl) (Nat.le_of_ble_eq_true rfl) (Nat.le_of_ble_eq_true rfl) dX4_use_100
      · skip
        refine lv_aload_n hx hb dX4_use_96 rfl (lv_at hl 0 rfl) ?_
        refine o_callV (wr := [bM K hm am 63 y gm, bF K hr hm kd ak ft true cr]) (rest := []) (As := []) C (c_In_end la D K h ht hp true (iDu1 true du y) ft (iDr1 true false dr) co q mh fi sz ma ml mg ap (iPl1 true false pl y) u_16 (by first | omega | assumption | (simp only [List.length_append, List.length_cons, List.length_nil, List.length_modify, List.length_set, nb_len, rb_len, rbp_len, sl_len, slN_len, wh_len, wt_len, hd10_len, hdB_len, thr_len, ldp_len, ldB_len, tens_len, whz_len, majL_len, mf_len, tkL_len, ldY_len, fif_len, ldY_len]; omega) | decide) (by first | omega | assumption | (simp only [List.length_append, List.length_cons, List.length_nil, List.length_modify, List.length_set, nb_len, rb_len, rbp_len, sl_len, slN_len, wh_len, wt_len, hd10_len, hdB_len, thr_len, ldp_len, ldB_len, tens_len, whz_len, majL_len, mf_len, tkL_len, ldY_len, fif_len, ldY_len]; omega) | decide) (by first | omega | assumption | (simp only [List.length_append, List.length_cons, List.length_nil, List.length_modify, List.length_set, nb_len, rb_len, rbp_len, sl_len, slN_len, wh_len, wt_len, hd10_len, hdB_len, thr_len, ldp_len, ldB_len, tens_len, whz_len, majL_len, mf_len, tkL_len, ldY_len, fif_len, ldY_len]; omega) | decide) (by first | omega | assumption | (simp only [List.length_append, List.length_cons, List.length_nil, List.length_modify, List.length_set, nb_len, rb_len, rbp_len, sl_len, slN_len, wh_len, wt_len, hd10_len, hdB_len, thr_len, ldp_len, ldB_len, tens_len, whz_len, majL_len, mf_len, tkL_len, ldY_len, fif_len, ldY_len]; omega) | decide) (by first | omega | assumption | (simp only [List.length_append, List.length_cons, List.length_nil, List.length_modify, List.length_set, nb_len, rb_len, rbp_len, sl_len, slN_len, wh_len, wt_len, hd10_len, hdB_len, thr_len, ldp_len, ldB_len, tens_len, whz_len, majL_len, mf_len, tkL_len, ldY_len, fif_len, ldY_len]; omega) | decide)) kX4_63 vX4_endMessage (by decide) rfl ho [2, 3, 4, 0, 1, 5] 6 (by decide +kernel) rfl rfl rfl rfl rfl hl.1 rfl (Nat.le_of_ble_eq_true rfl) dX4_use_97 0 0 rfl rfl (by decide) (fun v u_23 H locs hq ho => ?_)
        obtain ⟨rfl, hqe⟩ := hq
        have ho : ow D vwCl A s.heap H locs [bIn K h ht hp false (iDu1 true du y) ft ((iDr1 true false dr) + (!eApp (iDu1 true du y) (iPl1 true false pl y) sz).toNat) co, bH K ht q mh fi (sz + (eApp (iDu1 true du y) (iPl1 true false pl y) sz).toNat), bPool K mh ma 255 u_23.1 u_23.2, bM K hp ap 318 (iPl1 true false pl y) u_16, bM K hm am 63 y gm, bF K hr hm kd ak ft true cr] := ho
        refine W.eq (g2 := F0 m 100 ls []) rfl ?_
        have hfn : iFin true false du pl y = true := by unfold iFin; rw [decide_eq_true c_20]; rfl
        have hap : iApp true false du pl y sz = eApp (iDu1 true du y) (iPl1 true false pl y) sz := by unfold iApp; rw [hfn]; rw [Bool.true_and]
        have e_25 : bIn K h ht hp false (iDu1 true du y) ft ((iDr1 true false dr) + (!eApp (iDu1 true du y) (iPl1 true false pl y) sz).toNat) co = bIn K h ht hp ((true || false) && !iFin true false du pl y) (iDu1 true du y) ft (iDr1 true false dr + (iFin true false du pl y && !iApp true false du pl y sz).toNat) co := by rw [hap, hfn, Bool.true_and]; rfl
        have ho : ow D vwCl A s.heap H locs [bIn K h ht hp ((true || false) && !iFin true false du pl y) (iDu1 true du y) ft (iDr1 true false dr + (iFin true false du pl y && !iApp true false du pl y sz).toNat) co, bH K ht q mh fi (sz + (eApp (iDu1 true du y) (iPl1 true false pl y) sz).toNat), bPool K mh ma 255 u_23.1 u_23.2, bM K hp ap 318 (iPl1 true false pl y) u_16, bM K hm am 63 y gm, bF K hr hm kd ak ft true cr] := by rw [← e_25]; exact ho
        have e_26 : bH K ht q mh fi (sz + (eApp (iDu1 true du y) (iPl1 true false pl y) sz).toNat) = bH K ht q mh fi (sz + (iApp true false du pl y sz).toNat) := by rw [hap]
        have ho : ow D vwCl A s.heap H locs [bIn K h ht hp ((true || false) && !iFin true false du pl y) (iDu1 true du y) ft (iDr1 true false dr + (iFin true false du pl y && !iApp true false du pl y sz).toNat) co, bH K ht q mh fi (sz + (iApp true false du pl y sz).toNat), bPool K mh ma 255 u_23.1 u_23.2, bM K hp ap 318 (iPl1 true false pl y) u_16, bM K hm am 63 y gm, bF K hr hm kd ak ft true cr] := by rw [← e_26]; exact ho
        have ho : ow D vwCl A s.heap H locs [bIn K h ht hp ((true || false) && !iFin true false du pl y) (iDu1 true du y) ft (iDr1 true false dr + (iFin true false du pl y && !iApp true false du pl y sz).toNat) co, bH K ht q mh fi (sz + (iApp true false du pl y sz).toNat), bPool K mh ma 255 u_23.1 u_23.2, bM K hp ap 318 (iPl1 true false pl y) u_16, bF K hr hm kd ak ft true cr, bM K hm am 63 y gm] := ho.re [0, 1, 2, 3, 5, 4] 6 (by decide +kernel) rfl rfl
        exact o_vret hQ C ho (u_16, u_23.1, u_23.2) (by dsimp only; exact ⟨rfl, by rw [hap]; exact hqe⟩) (by dsimp only [gs, List.getD_cons_zero, List.getD_cons_succ] <;> rfl) (Nat.le_of_ble_eq_true rfl) (Nat.le_of_ble_eq_true rfl) dX4_use_100
    · skip
      refine lv_aload_n hx hb dX4_use_0 rfl (lv_at hl 0 rfl) ?_
      refine lv_aload_n hx hb dX4_use_1 rfl (lv_at hl 1 rfl) ?_
      refine o_get (v := .int (bI ft)) C ho 4 0 rfl rfl rfl 3 fX4_35 rfl dX4_use_2 ?_
      refine o_put (v := .int (bI ft)) (bs' := [bIn K h ht hp true du ft dr co, bH K ht q mh fi sz, bPool K mh ma 255 ml mg, bM K hp ap 318 pl gp, bF K hr hm kd ak ft true cr, bM K hm am 63 y gm]) C ho 0 0 rfl rfl rfl 4 fX4_40 pX4_4 rfl rfl (Nat.le_of_ble_eq_true rfl) dX4_use_5 rfl (fun H locs ho => ?_)
      refine lv_aload_n hx hb dX4_use_8 rfl (lv_at hl 1 rfl) ?_
      refine o_get (v := .int (bI true)) C ho 4 0 rfl rfl rfl 4 fX4_43 rfl dX4_use_9 ?_
      refine o_ifb_eq (tgt := 49) hx hb dX4_use_12 (by decide) (fun c9 => absurd c9 (by decide)) (fun _ => ?_)
      refine lv_aload_n hx hb dX4_use_15 rfl (lv_at hl 0 rfl) ?_
      refine lv_aload_n hx hb dX4_use_16 rfl (lv_at hl 1 rfl) ?_
      refine o_get (v := .ref hm) C ho 4 0 rfl rfl rfl 0 fX4_46 rfl dX4_use_17 ?_
      refine lv_iconst (v := nI 0) hx hb dX4_use_20 (by decide) ?_
      refine o_callV (wr := [bIn K h ht hp true du ft dr co, bH K ht q mh fi sz, bPool K mh ma 255 ml mg, bM K hp ap 318 pl gp, bF K hr hm kd ak ft true cr]) (rest := [.ref h]) (As := [.int (nI 0)]) C (c_Msg_at la D K hm am 63 y gm 0 (by first | omega | assumption | (simp only [List.length_append, List.length_cons, List.length_nil, List.length_modify, List.length_set, nb_len, rb_len, rbp_len, sl_len, slN_len, wh_len, wt_len, hd10_len, hdB_len, thr_len, ldp_len, ldB_len, tens_len, whz_len, majL_len, mf_len, tkL_len, ldY_len, fif_len, ldY_len]; omega) | decide) (by first | omega | assumption | (simp only [List.length_append, List.length_cons, List.length_nil, List.length_modify, List.length_set, nb_len, rb_len, rbp_len, sl_len, slN_len, wh_len, wt_len, hd10_len, hdB_len, thr_len, ldp_len, ldB_len, tens_len, whz_len, majL_len, mf_len, tkL_len, ldY_len, fif_len, ldY_len]; omega) | decide) (by first | omega | assumption | (simp only [List.length_append, List.length_cons, List.length_nil, List.length_modify, List.length_set, nb_len, rb_len, rbp_len, sl_len, slN_len, wh_len, wt_len, hd10_len, hdB_len, thr_len, ldp_len, ldB_len, tens_len, whz_len, majL_len, mf_len, tkL_len, ldY_len, fif_len, ldY_len]; omega) | decide)) kX4_49 vX5_at (by decide) rfl ho [5, 0, 1, 2, 3, 4] 6 (by decide +kernel) rfl rfl rfl rfl rfl hl.1 rfl (Nat.le_of_ble_eq_true rfl) dX4_use_21 0 0 rfl rfl (by decide) (fun v u_27 H locs hq ho => ?_)
      obtain rfl := hq
      have ho : ow D vwCl A s.heap H locs [bM K hm am 63 y gm, bIn K h ht hp true du ft dr co, bH K ht q mh fi sz, bPool K mh ma 255 ml mg, bM K hp ap 318 pl gp, bF K hr hm kd ak ft true cr] := ho
      refine W.eq (g2 := F0 m 24 ls [.int (nI (y.getD 0 0)), .ref h]) rfl ?_
      refine o_callV (wr := [bM K hm am 63 y gm, bH K ht q mh fi sz, bPool K mh ma 255 ml mg, bF K hr hm kd ak ft true cr]) (rest := []) (As := [.int (nI (y.getD 0 0))]) C (c_In_begin la D K h ht hp true du ft dr co ap pl gp (y.getD 0 0) ) kX4_53 vX4_beginMessage (by decide) rfl ho [1, 4, 0, 2, 3, 5] 6 (by decide +kernel) rfl rfl rfl rfl rfl hl.1 rfl (Nat.le_of_ble_eq_true rfl) dX4_use_24 0 0 rfl rfl (by decide) (fun v u_28 H locs hq ho => ?_)
      obtain rfl := hq
      have ho : ow D vwCl A s.heap H locs [bIn K h ht hp true (y.getD 0 0) ft (cond true (dr + 1) dr) co, bM K hp ap 318 [] u_28, bM K hm am 63 y gm, bH K ht q mh fi sz, bPool K mh ma 255 ml mg, bF K hr hm kd ak ft true cr] := ho
      refine W.eq (g2 := F0 m 27 ls []) rfl ?_
      refine lv_aload_n hx hb dX4_use_27 rfl (lv_at hl 0 rfl) ?_
      refine o_get (v := .ref hp) C ho 0 0 rfl rfl rfl 1 fX4_23 rfl dX4_use_28 ?_
      refine lv_aload_n hx hb dX4_use_31 rfl (lv_at hl 1 rfl) ?_
      refine o_get (v := .ref hm) C ho 5 0 rfl rfl rfl 0 fX4_46 rfl dX4_use_32 ?_
      refine lv_iconst (v := nI 1) hx hb dX4_use_35 (by decide) ?_
      refine lv_aload_n hx hb dX4_use_36 rfl (lv_at hl 1 rfl) ?_
      refine o_get (v := .ref hm) C ho 5 0 rfl rfl rfl 0 fX4_46 rfl dX4_use_37 ?_
      refine o_get (v := .int (nI y.length)) C ho 2 0 rfl rfl rfl 1 fX4_31 rfl dX4_use_40 ?_
      refine o_callV (wr := [bIn K h ht hp true (y.getD 0 0) ft (cond true (dr + 1) dr) co, bH K ht q mh fi sz, bPool K mh ma 255 ml mg, bF K hr hm kd ak ft true cr]) (rest := []) (As := [.ref hm, .int (nI 1), .int (nI y.length)]) C (c_Msg_addAll la D K hp ap 318 [] u_28 hm am 63 y gm 1 y.length (by first | omega | assumption | (simp only [List.length_append, List.length_cons, List.length_nil, List.length_modify, List.length_set, nb_len, rb_len, rbp_len, sl_len, slN_len, wh_len, wt_len, hd10_len, hdB_len, thr_len, ldp_len, ldB_len, tens_len, whz_len, majL_len, mf_len, tkL_len, ldY_len, fif_len, ldY_len]; omega) | decide) (by first | omega | assumption | (simp only [List.length_append, List.length_cons, List.length_nil, List.length_modify, List.length_set, nb_len, rb_len, rbp_len, sl_len, slN_len, wh_len, wt_len, hd10_len, hdB_len, thr_len, ldp_len, ldB_len, tens_len, whz_len, majL_len, mf_len, tkL_len, ldY_len, fif_len, ldY_len]; omega) | decide) (by first | omega | assumption | (simp only [List.length_append, List.length_cons, List.length_nil, List.length_modify, List.length_set, nb_len, rb_len, rbp_len, sl_len, slN_len, wh_len, wt_len, hd10_len, hdB_len, thr_len, ldp_len, ldB_len, tens_len, whz_len, majL_len, mf_len, tkL_len, ldY_len, fif_len, ldY_len]; omega) | decide) (by first | omega | assumption | (simp only [List.length_append, List.length_cons, List.length_nil, List.length_modify, List.length_set, nb_len, rb_len, rbp_len, sl_len, slN_len, wh_len, wt_len, hd10_len, hdB_len, thr_len, ldp_len, ldB_len, tens_len, whz_len, majL_len, mf_len, tkL_len, ldY_len, fif_len, ldY_len]; omega) | decide) (by first | omega | assumption | (simp only [List.length_append, List.length_cons, List.length_nil, List.length_modify, List.length_set, nb_len, rb_len, rbp_len, sl_len, slN_len, wh_len, wt_len, hd10_len, hdB_len, thr_len, ldp_len, ldB_len, tens_len, whz_len, majL_len, mf_len, tkL_len, ldY_len, fif_len, ldY_len]; omega) | decide) (by first | omega | assumption | (simp only [List.length_append, List.length_cons, List.length_nil, List.length_modify, List.length_set, nb_len, rb_len, rbp_len, sl_len, slN_len, wh_len, wt_len, hd10_len, hdB_len, thr_len, ldp_len, ldB_len, tens_len, whz_len, majL_len, mf_len, tkL_len, ldY_len, fif_len, ldY_len]; omega) | decide)) kX4_56 vX5_addAll (by decide) rfl ho [1, 2, 0, 3, 4, 5] 6 (by decide +kernel) rfl rfl rfl rfl rfl hl.1 rfl (Nat.le_of_ble_eq_true rfl) dX4_use_43 0 0 rfl rfl (by decide) (fun v u_29 H locs hq ho => ?_)
      obtain rfl := hq
      have ho : ow D vwCl A s.heap H locs [bM K hp ap 318 ([] ++ slN y 1 (y.length - 1)) u_28, bM K hm am 63 y gm, bIn K h ht hp true (y.getD 0 0) ft (cond true (dr + 1) dr) co, bH K ht q mh fi sz, bPool K mh ma 255 ml mg, bF K hr hm kd ak ft true cr] := ho
      refine W.eq (g2 := F0 m 46 ls []) rfl ?_
      refine lv_goto (tgt := 75) hx hb dX4_use_46 (by decide) ?_
      have hpl : (iPl1 true true pl y).length ≤ 318 := by unfold iPl1; dsimp only [cond]; rw [slN_len]; omega
      have e_30 : bM K hp ap 318 ([] ++ slN y 1 (y.length - 1)) u_28 = bM K hp ap 318 (iPl1 true true pl y) u_28 := by rw [List.nil_append]; rfl
      have ho : ow D vwCl A s.heap H locs [bM K hp ap 318 (iPl1 true true pl y) u_28, bM K hm am 63 y gm, bIn K h ht hp true (y.getD 0 0) ft (cond true (dr + 1) dr) co, bH K ht q mh fi sz, bPool K mh ma 255 ml mg, bF K hr hm kd ak ft true cr] := by rw [← e_30]; exact ho
      have e_31 : bIn K h ht hp true (y.getD 0 0) ft (cond true (dr + 1) dr) co = bIn K h ht hp true (iDu1 true du y) ft (iDr1 true true dr) co := rfl
      have ho : ow D vwCl A s.heap H locs [bM K hp ap 318 (iPl1 true true pl y) u_28, bM K hm am 63 y gm, bIn K h ht hp true (iDu1 true du y) ft (iDr1 true true dr) co, bH K ht q mh fi sz, bPool K mh ma 255 ml mg, bF K hr hm kd ak ft true cr] := by rw [← e_31]; exact ho
      refine lv_aload_n hx hb dX4_use_75 rfl (lv_at hl 0 rfl) ?_
      refine o_get (v := .int (bI true)) C ho 2 0 rfl rfl rfl 2 fX4_27 rfl dX4_use_76 ?_
      refine o_ifb_eq (tgt := 100) hx hb dX4_use_79 (by decide) (fun c9 => absurd c9 (by decide)) (fun _ => ?_)
      have hd5 : iDu1 true du y ≤ 255 := by unfold iDu1; dsimp only [cond]; omega
      refine lv_aload_n hx hb dX4_use_82 rfl (lv_at hl 0 rfl) ?_
      refine o_get (v := .ref hp) C ho 2 0 rfl rfl rfl 1 fX4_23 rfl dX4_use_83 ?_
      refine o_get (v := .int (nI ((iPl1 true true pl y).length))) C ho 0 0 rfl rfl rfl 1 fX4_31 rfl dX4_use_86 ?_
      refine lv_aload_n hx hb dX4_use_89 rfl (lv_at hl 0 rfl) ?_
      refine o_get (v := .int (nI (iDu1 true du y))) C ho 2 0 rfl rfl rfl 3 fX4_60 rfl dX4_use_90 ?_
      refine o_icmp_lt (tgt := 100) hx hb dX4_use_93 (by decide) (by first | omega | exact and1_lt _) (by first | omega | exact and1_lt _) (fun c_32 => ?_) (fun c_32 => ?_)
      · skip
        have hfn : iFin true true du pl y = false := by unfold iFin; rw [decide_eq_false (by omega)]; rfl
        have hap : iApp true true du pl y sz = false := by unfold iApp; rw [hfn]; rfl
        have e_33 : bIn K h ht hp true (iDu1 true du y) ft (iDr1 true true dr) co = bIn K h ht hp ((true || true) && !iFin true true du pl y) (iDu1 true du y) ft (iDr1 true true dr + (iFin true true du pl y && !iApp true true du pl y sz).toNat) co := by rw [hap, hfn]; simp
        have ho : ow D vwCl A s.heap H locs [bM K hp ap 318 (iPl1 true true pl y) u_28, bM K hm am 63 y gm, bIn K h ht hp ((true || true) && !iFin true true du pl y) (iDu1 true du y) ft (iDr1 true true dr + (iFin true true du pl y && !iApp true true du pl y sz).toNat) co, bH K ht q mh fi sz, bPool K mh ma 255 ml mg, bF K hr hm kd ak ft true cr] := by rw [← e_33]; exact ho
        have e_34 : bH K ht q mh fi sz = bH K ht q mh fi (sz + (iApp true true du pl y sz).toNat) := by rw [hap]; rfl
        have ho : ow D vwCl A s.heap H locs [bM K hp ap 318 (iPl1 true true pl y) u_28, bM K hm am 63 y gm, bIn K h ht hp ((true || true) && !iFin true true du pl y) (iDu1 true du y) ft (iDr1 true true dr + (iFin true true du pl y && !iApp true true du pl y sz).toNat) co, bH K ht q mh fi (sz + (iApp true true du pl y sz).toNat), bPool K mh ma 255 ml mg, bF K hr hm kd ak ft true cr] := by rw [← e_34]; exact ho
        have ho : ow D vwCl A s.heap H locs [bIn K h ht hp ((true || true) && !iFin true true du pl y) (iDu1 true du y) ft (iDr1 true true dr + (iFin true true du pl y && !iApp true true du pl y sz).toNat) co, bH K ht q mh fi (sz + (iApp true true du pl y sz).toNat), bPool K mh ma 255 ml mg, bM K hp ap 318 (iPl1 true true pl y) u_28, bF K hr hm kd ak ft true cr, bM K hm am 63 y gm] := ho.re [2, 3, 4, 0, 5, 1] 6 (by decide +kernel) rfl rfl
        exact o_vret hQ C ho (u_28, ml, mg) (by dsimp only; exact ⟨rfl, by rw [hap]; rfl⟩) (by dsimp only [gs, List.getD_cons_zero, List.getD_cons_succ] <;> rfl) (Nat.le_of_ble_eq_true rfl) (Nat.le_of_ble_eq_true rfl) dX4_use_100
      · skip
        refine lv_aload_n hx hb dX4_use_96 rfl (lv_at hl 0 rfl) ?_
        refine o_callV (wr := [bM K hm am 63 y gm, bF K hr hm kd ak ft true cr]) (rest := []) (As := []) C (c_In_end la D K h ht hp true (iDu1 true du y) ft (iDr1 true true dr) co q mh fi sz ma ml mg ap (iPl1 true true pl y) u_28 (by first | omega | assumption | (simp only [List.length_append, List.length_cons, List.length_nil, List.length_modify, List.length_set, nb_len, rb_len, rbp_len, sl_len, slN_len, wh_len, wt_len, hd10_len, hdB_len, thr_len, ldp_len, ldB_len, tens_len, whz_len, majL_len, mf_len, tkL_len, ldY_len, fif_len, ldY_len]; omega) | decide) (by first | omega | assumption | (simp only [List.length_append, List.length_cons, List.length_nil, List.length_modify, List.length_set, nb_len, rb_len, rbp_len, sl_len, slN_len, wh_len, wt_len, hd10_len, hdB_len, thr_len, ldp_len, ldB_len, tens_len, whz_len, majL_len, mf_len, tkL_len, ldY_len, fif_len, ldY_len]; omega) | decide) (by first | omega | assumption | (simp only [List.length_append, List.length_cons, List.length_nil, List.length_modify, List.length_set, nb_len, rb_len, rbp_len, sl_len, slN_len, wh_len, wt_len, hd10_len, hdB_len, thr_len, ldp_len, ldB_len, tens_len, whz_len, majL_len, mf_len, tkL_len, ldY_len, fif_len, ldY_len]; omega) | decide) (by first | omega | assumption | (simp only [List.length_append, List.length_cons, List.length_nil, List.length_modify, List.length_set, nb_len, rb_len, rbp_len, sl_len, slN_len, wh_len, wt_len, hd10_len, hdB_len, thr_len, ldp_len, ldB_len, tens_len, whz_len, majL_len, mf_len, tkL_len, ldY_len, fif_len, ldY_len]; omega) | decide) (by first | omega | assumption | (simp only [List.length_append, List.length_cons, List.length_nil, List.length_modify, List.length_set, nb_len, rb_len, rbp_len, sl_len, slN_len, wh_len, wt_len, hd10_len, hdB_len, thr_len, ldp_len, ldB_len, tens_len, whz_len, majL_len, mf_len, tkL_len, ldY_len, fif_len, ldY_len]; omega) | decide)) kX4_63 vX4_endMessage (by decide) rfl ho [2, 3, 4, 0, 1, 5] 6 (by decide +kernel) rfl rfl rfl rfl rfl hl.1 rfl (Nat.le_of_ble_eq_true rfl) dX4_use_97 0 0 rfl rfl (by decide) (fun v u_35 H locs hq ho => ?_)
        obtain ⟨rfl, hqe⟩ := hq
        have ho : ow D vwCl A s.heap H locs [bIn K h ht hp false (iDu1 true du y) ft ((iDr1 true true dr) + (!eApp (iDu1 true du y) (iPl1 true true pl y) sz).toNat) co, bH K ht q mh fi (sz + (eApp (iDu1 true du y) (iPl1 true true pl y) sz).toNat), bPool K mh ma 255 u_35.1 u_35.2, bM K hp ap 318 (iPl1 true true pl y) u_28, bM K hm am 63 y gm, bF K hr hm kd ak ft true cr] := ho
        refine W.eq (g2 := F0 m 100 ls []) rfl ?_
        have hfn : iFin true true du pl y = true := by unfold iFin; rw [decide_eq_true c_32]; rfl
        have hap : iApp true true du pl y sz = eApp (iDu1 true du y) (iPl1 true true pl y) sz := by unfold iApp; rw [hfn]; rw [Bool.true_and]
        have e_37 : bIn K h ht hp false (iDu1 true du y) ft ((iDr1 true true dr) + (!eApp (iDu1 true du y) (iPl1 true true pl y) sz).toNat) co = bIn K h ht hp ((true || true) && !iFin true true du pl y) (iDu1 true du y) ft (iDr1 true true dr + (iFin true true du pl y && !iApp true true du pl y sz).toNat) co := by rw [hap, hfn, Bool.true_and]; rfl
        have ho : ow D vwCl A s.heap H locs [bIn K h ht hp ((true || true) && !iFin true true du pl y) (iDu1 true du y) ft (iDr1 true true dr + (iFin true true du pl y && !iApp true true du pl y sz).toNat) co, bH K ht q mh fi (sz + (eApp (iDu1 true du y) (iPl1 true true pl y) sz).toNat), bPool K mh ma 255 u_35.1 u_35.2, bM K hp ap 318 (iPl1 true true pl y) u_28, bM K hm am 63 y gm, bF K hr hm kd ak ft true cr] := by rw [← e_37]; exact ho
        have e_38 : bH K ht q mh fi (sz + (eApp (iDu1 true du y) (iPl1 true true pl y) sz).toNat) = bH K ht q mh fi (sz + (iApp true true du pl y sz).toNat) := by rw [hap]
        have ho : ow D vwCl A s.heap H locs [bIn K h ht hp ((true || true) && !iFin true true du pl y) (iDu1 true du y) ft (iDr1 true true dr + (iFin true true du pl y && !iApp true true du pl y sz).toNat) co, bH K ht q mh fi (sz + (iApp true true du pl y sz).toNat), bPool K mh ma 255 u_35.1 u_35.2, bM K hp ap 318 (iPl1 true true pl y) u_28, bM K hm am 63 y gm, bF K hr hm kd ak ft true cr] := by rw [← e_38]; exact ho
        have ho : ow D vwCl A s.heap H locs [bIn K h ht hp ((true || true) && !iFin true true du pl y) (iDu1 true du y) ft (iDr1 true true dr + (iFin true true du pl y && !iApp true true du pl y sz).toNat) co, bH K ht q mh fi (sz + (iApp true true du pl y sz).toNat), bPool K mh ma 255 u_35.1 u_35.2, bM K hp ap 318 (iPl1 true true pl y) u_28, bF K hr hm kd ak ft true cr, bM K hm am 63 y gm] := ho.re [0, 1, 2, 3, 5, 4] 6 (by decide +kernel) rfl rfl
        exact o_vret hQ C ho (u_28, u_35.1, u_35.2) (by dsimp only; exact ⟨rfl, by rw [hap]; exact hqe⟩) (by dsimp only [gs, List.getD_cons_zero, List.getD_cons_succ] <;> rfl) (Nat.le_of_ble_eq_true rfl) (Nat.le_of_ble_eq_true rfl) dX4_use_100
