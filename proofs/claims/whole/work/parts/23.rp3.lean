set_option maxHeartbeats 4000000 in
set_option maxRecDepth 100000 in
theorem c_RP_readX (la : Launch) (D : va_G) (K : Nat → ClassId) (hX : Nat) (hda : Nat) (hc : Nat) (hon : Nat) (hr : Nat) (ck : Nat) (x : Int32) (i : Int32) (qx : hasI 2 x = false) : MT la D K yX8_read cX8_read 4 (some .int) (rmL 2 0 0) [.ref hX, .int x, .int i] [bRP K hX hda hc hon hr ck] Unit (fun v _ => v = some (.int (-1))) (fun _ => [bRP K hX hda hc hon hr ck]) := by
  refine Mt.ofW [(0, .ref hX), (1, .int x), (2, .int i)] (by decide) rfl (Nat.le_of_ble_eq_true rfl) ?_
  intro p e s m args below meth c A ls H locs Qz hQ C hin hl ho
  have hx := C.1.1
  have hb := C.1.2.1
  refine lv_iload_n hx hb dX8_read_0 rfl (lv_at hl 1 rfl) ?_
  refine o_callS (wr := [bRP K hX hda hc hon hr ck]) (rest := []) (As := [.int x]) C (c_RP_isDevNo la D K x (by first | omega | assumption | (simp only [List.length_append, List.length_cons, List.length_nil, List.length_modify, List.length_set, nb_len, rb_len, rbp_len, sl_len, slN_len, wh_len, wt_len, hd10_len, hdB_len, thr_len, ldp_len, ldB_len, tens_len, whz_len, majL_len, mf_len, tkL_len, ldY_len, fif_len, ldY_len]; omega) | decide)) kX8_48 vX8_isDevice (by decide) rfl ho [0] 1 (by decide +kernel) rfl rfl hl.1 rfl (Nat.le_of_ble_eq_true rfl) dX8_read_1 0 0 rfl rfl (by decide) (fun v u_1 H locs hq ho => ?_)
  obtain rfl := hq
  have ho : ow D vwCl A s.heap H locs [bRP K hX hda hc hon hr ck] := ho
  refine W.eq (g2 := F0 m 4 ls [.int (bI false)]) rfl ?_
  refine o_ifb_ne (tgt := 9) hx hb dX8_read_4 (by decide) (fun c9 => absurd c9 (by decide)) (fun _ => ?_)
  refine lv_iconst (v := (-1)) hx hb dX8_read_7 (by decide) ?_
  exact o_iret hQ C rfl ho () rfl rfl (Nat.le_of_ble_eq_true rfl) (Nat.le_of_ble_eq_true rfl) dX8_read_8

set_option maxHeartbeats 4000000 in
set_option maxRecDepth 100000 in
theorem c_RP_read0 (la : Launch) (D : va_G) (K : Nat → ClassId) (hX : Nat) (hda : Nat) (hc : Nat) (hon : Nat) (hr : Nat) (ck : Nat) (da : Nat → Nat) (d : Nat) (hi : Nat) (hb_ : Nat) (gd : Bool) (hd : Bool) (h : Nat) (ht : Nat) (hp : Nat) (pt : Bool) (du : Nat) (lt : Bool) (dr : Nat) (co : Nat) (q : Nat) (mh : Nat → Nat) (fi : Nat) (sz : Nat) (ma : Nat → Nat) (ml : Nat → List Nat) (mg : Nat → Nat → Int32) (i : Int32) (q2d : d < 2) (q0 : sz = 0) : MT la D K yX8_read cX8_read 4 (some .int) (rmL 2 0 0) [.ref hX, .int (nI d), .int i] [bRP K hX hda hc hon hr ck, bDA K hda da, bD K (da d) h hi hb_ gd hd, bIn K hi ht hp pt du lt dr co, bH K ht q mh fi sz] Unit (fun v _ => v = some (.int (-1))) (fun _ => [bRP K hX hda hc hon hr ck, bDA K hda da, bD K (da d) h hi hb_ gd hd, bIn K hi ht hp pt du lt dr co, bH K ht q mh fi sz]) := by
  refine Mt.ofW [(0, .ref hX), (1, .int (nI d)), (2, .int i)] (by decide) rfl (Nat.le_of_ble_eq_true rfl) ?_
  intro p e s m args below meth c A ls H locs Qz hQ C hin hl ho
  have hx := C.1.1
  have hb := C.1.2.1
  refine lv_iload_n hx hb dX8_read_0 rfl (lv_at hl 1 rfl) ?_
  refine o_callS (wr := [bRP K hX hda hc hon hr ck, bDA K hda da, bD K (da d) h hi hb_ gd hd, bIn K hi ht hp pt du lt dr co, bH K ht q mh fi sz]) (rest := []) (As := [.int (nI d)]) C (c_RP_isDev la D K d (by first | omega | assumption | (simp only [List.length_append, List.length_cons, List.length_nil, List.length_modify, List.length_set, nb_len, rb_len, rbp_len, sl_len, slN_len, wh_len, wt_len, hd10_len, hdB_len, thr_len, ldp_len, ldB_len, tens_len, whz_len, majL_len, mf_len, tkL_len, ldY_len, fif_len, ldY_len]; omega) | decide)) kX8_48 vX8_isDevice (by decide) rfl ho [0, 1, 2, 3, 4] 5 (by decide +kernel) rfl rfl hl.1 rfl (Nat.le_of_ble_eq_true rfl) dX8_read_1 0 0 rfl rfl (by decide) (fun v u_1 H locs hq ho => ?_)
  obtain rfl := hq
  have ho : ow D vwCl A s.heap H locs [bRP K hX hda hc hon hr ck, bDA K hda da, bD K (da d) h hi hb_ gd hd, bIn K hi ht hp pt du lt dr co, bH K ht q mh fi sz] := ho
  refine W.eq (g2 := F0 m 4 ls [.int (bI true)]) rfl ?_
  refine o_ifb_ne (tgt := 9) hx hb dX8_read_4 (by decide) (fun _ => ?_) (fun c9 => absurd c9 (by decide))
  refine lv_aload_n hx hb dX8_read_9 rfl (lv_at hl 0 rfl) ?_
  refine o_get (v := .ref hda) C ho 0 0 rfl rfl rfl 0 fX8_11 rfl dX8_read_10 ?_
  refine lv_iload_n hx hb dX8_read_13 rfl (lv_at hl 1 rfl) ?_
  refine o_aald (v := (da d)) C ho 1 0 rfl rfl 2 rfl d rfl (by omega) (by omega) rfl dX8_read_14 ?_
  refine o_get (v := .ref hi) C ho 2 0 rfl rfl rfl 1 fX8_134 rfl dX8_read_15 ?_
  refine o_get (v := .ref ht) C ho 3 0 rfl rfl rfl 0 fX8_138 rfl dX8_read_18 ?_
  refine o_callV (wr := [bRP K hX hda hc hon hr ck, bDA K hda da, bD K (da d) h hi hb_ gd hd, bIn K hi ht hp pt du lt dr co]) (rest := []) (As := []) C (c_Row_oldest0 la D K ht q mh fi sz (by first | omega | assumption | (simp only [List.length_append, List.length_cons, List.length_nil, List.length_modify, List.length_set, nb_len, rb_len, rbp_len, sl_len, slN_len, wh_len, wt_len, hd10_len, hdB_len, thr_len, ldp_len, ldB_len, tens_len, whz_len, majL_len, mf_len, tkL_len, ldY_len, fif_len, ldY_len]; omega) | decide)) kX8_143 vX6_oldest (by decide) rfl ho [4, 0, 1, 2, 3] 5 (by decide +kernel) rfl rfl rfl rfl rfl hl.1 rfl (Nat.le_of_ble_eq_true rfl) dX8_read_21 0 0 rfl rfl (by decide) (fun v u_2 H locs hq ho => ?_)
  obtain rfl := hq
  have ho : ow D vwCl A s.heap H locs [bH K ht q mh fi sz, bRP K hX hda hc hon hr ck, bDA K hda da, bD K (da d) h hi hb_ gd hd, bIn K hi ht hp pt du lt dr co] := ho
  refine W.eq (g2 := F0 m 24 ls [.null]) rfl ?_
  refine lv_astore_nN (lv' := [(3, .null), (0, .ref hX), (1, .int (nI d)), (2, .int i)]) hx hb dX8_read_24 rfl hl (by decide) rfl (fun ls hl => ?_)
  refine lv_aload_nN hx hb dX8_read_25 rfl (lv_at hl 0 rfl) ?_
  refine lv_ifnullN (tgt := 45) hx hb dX8_read_26 (by decide) ?_
  refine lv_iconst (v := (-1)) hx hb dX8_read_45 (by decide) ?_
  have ho : ow D vwCl A s.heap H locs [bRP K hX hda hc hon hr ck, bDA K hda da, bD K (da d) h hi hb_ gd hd, bIn K hi ht hp pt du lt dr co, bH K ht q mh fi sz] := ho.re [1, 2, 3, 4, 0] 5 (by decide +kernel) rfl rfl
  exact o_iret hQ C rfl ho () rfl rfl (Nat.le_of_ble_eq_true rfl) (Nat.le_of_ble_eq_true rfl) dX8_read_46

set_option maxHeartbeats 4000000 in
set_option maxRecDepth 100000 in
theorem c_RP_readO (la : Launch) (D : va_G) (K : Nat → ClassId) (hX : Nat) (hda : Nat) (hc : Nat) (hon : Nat) (hr : Nat) (ck : Nat) (da : Nat → Nat) (d : Nat) (hi : Nat) (hb_ : Nat) (gd : Bool) (hd : Bool) (h : Nat) (ht : Nat) (hp : Nat) (pt : Bool) (du : Nat) (lt : Bool) (dr : Nat) (co : Nat) (q : Nat) (mh : Nat → Nat) (fi : Nat) (sz : Nat) (ma : Nat → Nat) (ml : Nat → List Nat) (mg : Nat → Nat → Int32) (i : Int32) (q2d : d < 2) (q0 : 0 < sz) (q6 : sz ≤ 6) (qf : fi < 6) (qm : (ml fi).length ≤ 255) (qi : hasI (ml fi).length i = false) : MT la D K yX8_read cX8_read 4 (some .int) (rmL 2 0 0) [.ref hX, .int (nI d), .int i] [bRP K hX hda hc hon hr ck, bDA K hda da, bD K (da d) h hi hb_ gd hd, bIn K hi ht hp pt du lt dr co, bH K ht q mh fi sz, bPool K mh ma 255 ml mg] Unit (fun v _ => v = some (.int (-1))) (fun _ => [bRP K hX hda hc hon hr ck, bDA K hda da, bD K (da d) h hi hb_ gd hd, bIn K hi ht hp pt du lt dr co, bH K ht q mh fi sz, bPool K mh ma 255 ml mg]) := by
  refine Mt.ofW [(0, .ref hX), (1, .int (nI d)), (2, .int i)] (by decide) rfl (Nat.le_of_ble_eq_true rfl) ?_
  intro p e s m args below meth c A ls H locs Qz hQ C hin hl ho
  have hx := C.1.1
  have hb := C.1.2.1
  refine lv_iload_n hx hb dX8_read_0 rfl (lv_at hl 1 rfl) ?_
  refine o_callS (wr := [bRP K hX hda hc hon hr ck, bDA K hda da, bD K (da d) h hi hb_ gd hd, bIn K hi ht hp pt du lt dr co, bH K ht q mh fi sz, bPool K mh ma 255 ml mg]) (rest := []) (As := [.int (nI d)]) C (c_RP_isDev la D K d (by first | omega | assumption | (simp only [List.length_append, List.length_cons, List.length_nil, List.length_modify, List.length_set, nb_len, rb_len, rbp_len, sl_len, slN_len, wh_len, wt_len, hd10_len, hdB_len, thr_len, ldp_len, ldB_len, tens_len, whz_len, majL_len, mf_len, tkL_len, ldY_len, fif_len, ldY_len]; omega) | decide)) kX8_48 vX8_isDevice (by decide) rfl ho [0, 1, 2, 3, 4, 5] 6 (by decide +kernel) rfl rfl hl.1 rfl (Nat.le_of_ble_eq_true rfl) dX8_read_1 0 0 rfl rfl (by decide) (fun v u_1 H locs hq ho => ?_)
  obtain rfl := hq
  have ho : ow D vwCl A s.heap H locs [bRP K hX hda hc hon hr ck, bDA K hda da, bD K (da d) h hi hb_ gd hd, bIn K hi ht hp pt du lt dr co, bH K ht q mh fi sz, bPool K mh ma 255 ml mg] := ho
  refine W.eq (g2 := F0 m 4 ls [.int (bI true)]) rfl ?_
  refine o_ifb_ne (tgt := 9) hx hb dX8_read_4 (by decide) (fun _ => ?_) (fun c9 => absurd c9 (by decide))
  refine lv_aload_n hx hb dX8_read_9 rfl (lv_at hl 0 rfl) ?_
  refine o_get (v := .ref hda) C ho 0 0 rfl rfl rfl 0 fX8_11 rfl dX8_read_10 ?_
  refine lv_iload_n hx hb dX8_read_13 rfl (lv_at hl 1 rfl) ?_
  refine o_aald (v := (da d)) C ho 1 0 rfl rfl 2 rfl d rfl (by omega) (by omega) rfl dX8_read_14 ?_
  refine o_get (v := .ref hi) C ho 2 0 rfl rfl rfl 1 fX8_134 rfl dX8_read_15 ?_
  refine o_get (v := .ref ht) C ho 3 0 rfl rfl rfl 0 fX8_138 rfl dX8_read_18 ?_
  refine o_callV (wr := [bRP K hX hda hc hon hr ck, bDA K hda da, bD K (da d) h hi hb_ gd hd, bIn K hi ht hp pt du lt dr co, bPool K mh ma 255 ml mg]) (rest := []) (As := []) C (c_Row_oldest la D K ht q mh fi sz (by first | omega | assumption | (simp only [List.length_append, List.length_cons, List.length_nil, List.length_modify, List.length_set, nb_len, rb_len, rbp_len, sl_len, slN_len, wh_len, wt_len, hd10_len, hdB_len, thr_len, ldp_len, ldB_len, tens_len, whz_len, majL_len, mf_len, tkL_len, ldY_len, fif_len, ldY_len]; omega) | decide) (by first | omega | assumption | (simp only [List.length_append, List.length_cons, List.length_nil, List.length_modify, List.length_set, nb_len, rb_len, rbp_len, sl_len, slN_len, wh_len, wt_len, hd10_len, hdB_len, thr_len, ldp_len, ldB_len, tens_len, whz_len, majL_len, mf_len, tkL_len, ldY_len, fif_len, ldY_len]; omega) | decide) (by first | omega | assumption | (simp only [List.length_append, List.length_cons, List.length_nil, List.length_modify, List.length_set, nb_len, rb_len, rbp_len, sl_len, slN_len, wh_len, wt_len, hd10_len, hdB_len, thr_len, ldp_len, ldB_len, tens_len, whz_len, majL_len, mf_len, tkL_len, ldY_len, fif_len, ldY_len]; omega) | decide)) kX8_143 vX6_oldest (by decide) rfl ho [4, 0, 1, 2, 3, 5] 6 (by decide +kernel) rfl rfl rfl rfl rfl hl.1 rfl (Nat.le_of_ble_eq_true rfl) dX8_read_21 0 0 rfl rfl (by decide) (fun v u_2 H locs hq ho => ?_)
  obtain rfl := hq
  have ho : ow D vwCl A s.heap H locs [bH K ht q mh fi sz, bRP K hX hda hc hon hr ck, bDA K hda da, bD K (da d) h hi hb_ gd hd, bIn K hi ht hp pt du lt dr co, bPool K mh ma 255 ml mg] := ho
  refine W.eq (g2 := F0 m 24 ls [.ref (mh fi)]) rfl ?_
  refine lv_astore_n (lv' := [(3, .ref (mh fi)), (0, .ref hX), (1, .int (nI d)), (2, .int i)]) hx hb dX8_read_24 rfl hl (by decide) rfl (fun ls hl => ?_)
  refine lv_aload_n hx hb dX8_read_25 rfl (lv_at hl 0 rfl) ?_
  refine lv_ifnull hx hb dX8_read_26 ?_
  have ho : ow D vwCl A s.heap H locs [bH K ht q mh fi sz, bRP K hX hda hc hon hr ck, bDA K hda da, bD K (da d) h hi hb_ gd hd, bIn K hi ht hp pt du lt dr co, bM K (mh fi) (ma fi) 255 (ml fi) (mg fi), bPx K mh ma 255 ml mg fi] := ho.split 5 rfl (pool_split qf) rfl
  refine lv_aload_n hx hb dX8_read_29 rfl (lv_at hl 0 rfl) ?_
  refine lv_iload_n hx hb dX8_read_30 rfl (lv_at hl 3 rfl) ?_
  refine o_callV (wr := [bH K ht q mh fi sz, bRP K hX hda hc hon hr ck, bDA K hda da, bD K (da d) h hi hb_ gd hd, bIn K hi ht hp pt du lt dr co, bPx K mh ma 255 ml mg fi]) (rest := []) (As := [.int i]) C (c_Msg_has la D K (mh fi) (ma fi) 255 (ml fi) (mg fi) i (by first | omega | assumption | (simp only [List.length_append, List.length_cons, List.length_nil, List.length_modify, List.length_set, nb_len, rb_len, rbp_len, sl_len, slN_len, wh_len, wt_len, hd10_len, hdB_len, thr_len, ldp_len, ldB_len, tens_len, whz_len, majL_len, mf_len, tkL_len, ldY_len, fif_len, ldY_len]; omega) | decide) (by first | omega | assumption | (simp only [List.length_append, List.length_cons, List.length_nil, List.length_modify, List.length_set, nb_len, rb_len, rbp_len, sl_len, slN_len, wh_len, wt_len, hd10_len, hdB_len, thr_len, ldp_len, ldB_len, tens_len, whz_len, majL_len, mf_len, tkL_len, ldY_len, fif_len, ldY_len]; omega) | decide)) kX8_147 vX5_has (by decide) rfl ho [5, 0, 1, 2, 3, 4, 6] 7 (by decide +kernel) rfl rfl rfl rfl rfl hl.1 rfl (Nat.le_of_ble_eq_true rfl) dX8_read_31 0 0 rfl rfl (by decide) (fun v u_3 H locs hq ho => ?_)
  obtain rfl := hq
  have ho : ow D vwCl A s.heap H locs [bM K (mh fi) (ma fi) 255 (ml fi) (mg fi), bH K ht q mh fi sz, bRP K hX hda hc hon hr ck, bDA K hda da, bD K (da d) h hi hb_ gd hd, bIn K hi ht hp pt du lt dr co, bPx K mh ma 255 ml mg fi] := ho
  refine W.eq (g2 := F0 m 34 ls [.int (bI (hasI (ml fi).length i))]) rfl ?_
  refine o_ifb_eq (tgt := 45) hx hb dX8_read_34 (by decide) (fun c_4 => ?_) (fun c_4 => ?_)
  · skip
    refine lv_iconst (v := (-1)) hx hb dX8_read_45 (by decide) ?_
    have ho : ow D vwCl A s.heap H locs [bPool K mh ma 255 ml mg, bH K ht q mh fi sz, bRP K hX hda hc hon hr ck, bDA K hda da, bD K (da d) h hi hb_ gd hd, bIn K hi ht hp pt du lt dr co] := ho.join (b := bPool K mh ma 255 ml mg) 0 6 rfl rfl rfl (by decide) (pool_same qf) rfl
    have ho : ow D vwCl A s.heap H locs [bRP K hX hda hc hon hr ck, bDA K hda da, bD K (da d) h hi hb_ gd hd, bIn K hi ht hp pt du lt dr co, bH K ht q mh fi sz, bPool K mh ma 255 ml mg] := ho.re [2, 3, 4, 5, 1, 0] 6 (by decide +kernel) rfl rfl
    exact o_iret hQ C rfl ho () rfl rfl (Nat.le_of_ble_eq_true rfl) (Nat.le_of_ble_eq_true rfl) dX8_read_46
  · skip
    exact absurd (qi.symm.trans c_4) (by decide)

set_option maxHeartbeats 4000000 in
set_option maxRecDepth 100000 in
theorem c_RP_read (la : Launch) (D : va_G) (K : Nat → ClassId) (hX : Nat) (hda : Nat) (hc : Nat) (hon : Nat) (hr : Nat) (ck : Nat) (da : Nat → Nat) (d : Nat) (hi : Nat) (hb_ : Nat) (gd : Bool) (hd : Bool) (h : Nat) (ht : Nat) (hp : Nat) (pt : Bool) (du : Nat) (lt : Bool) (dr : Nat) (co : Nat) (q : Nat) (mh : Nat → Nat) (fi : Nat) (sz : Nat) (ma : Nat → Nat) (ml : Nat → List Nat) (mg : Nat → Nat → Int32) (j : Nat) (q2d : d < 2) (q0 : 0 < sz) (q6 : sz ≤ 6) (qf : fi < 6) (qm : (ml fi).length ≤ 255) (qj : j < (ml fi).length) : MT la D K yX8_read cX8_read 4 (some .int) (rmL 2 0 0) [.ref hX, .int (nI d), .int (nI j)] [bRP K hX hda hc hon hr ck, bDA K hda da, bD K (da d) h hi hb_ gd hd, bIn K hi ht hp pt du lt dr co, bH K ht q mh fi sz, bPool K mh ma 255 ml mg] Unit (fun v _ => v = some (.int (nI ((ml fi).getD j 0)))) (fun _ => [bRP K hX hda hc hon hr ck, bDA K hda da, bD K (da d) h hi hb_ gd hd, bIn K hi ht hp pt du lt dr co, bH K ht q mh fi sz, bPool K mh ma 255 ml mg]) := by
  refine Mt.ofW [(0, .ref hX), (1, .int (nI d)), (2, .int (nI j))] (by decide) rfl (Nat.le_of_ble_eq_true rfl) ?_
  intro p e s m args below meth c A ls H locs Qz hQ C hin hl ho
  have hx := C.1.1
  have hb := C.1.2.1
  refine lv_iload_n hx hb dX8_read_0 rfl (lv_at hl 1 rfl) ?_
  refine o_callS (wr := [bRP K hX hda hc hon hr ck, bDA K hda da, bD K (da d) h hi hb_ gd hd, bIn K hi ht hp pt du lt dr co, bH K ht q mh fi sz, bPool K mh ma 255 ml mg]) (rest := []) (As := [.int (nI d)]) C (c_RP_isDev la D K d (by first | omega | assumption | (simp only [List.length_append, List.length_cons, List.length_nil, List.length_modify, List.length_set, nb_len, rb_len, rbp_len, sl_len, slN_len, wh_len, wt_len, hd10_len, hdB_len, thr_len, ldp_len, ldB_len, tens_len, whz_len, majL_len, mf_len, tkL_len, ldY_len, fif_len, ldY_len]; omega) | decide)) kX8_48 vX8_isDevice (by decide) rfl ho [0, 1, 2, 3, 4, 5] 6 (by decide +kernel) rfl rfl hl.1 rfl (Nat.le_of_ble_eq_true rfl) dX8_read_1 0 0 rfl rfl (by decide) (fun v u_1 H locs hq ho => ?_)
  obtain rfl := hq
  have ho : ow D vwCl A s.heap H locs [bRP K hX hda hc hon hr ck, bDA K hda da, bD K (da d) h hi hb_ gd hd, bIn K hi ht hp pt du lt dr co, bH K ht q mh fi sz, bPool K mh ma 255 ml mg] := ho
  refine W.eq (g2 := F0 m 4 ls [.int (bI true)]) rfl ?_
  refine o_ifb_ne (tgt := 9) hx hb dX8_read_4 (by decide) (fun _ => ?_) (fun c9 => absurd c9 (by decide))
  refine lv_aload_n hx hb dX8_read_9 rfl (lv_at hl 0 rfl) ?_
  refine o_get (v := .ref hda) C ho 0 0 rfl rfl rfl 0 fX8_11 rfl dX8_read_10 ?_
  refine lv_iload_n hx hb dX8_read_13 rfl (lv_at hl 1 rfl) ?_
  refine o_aald (v := (da d)) C ho 1 0 rfl rfl 2 rfl d rfl (by omega) (by omega) rfl dX8_read_14 ?_
  refine o_get (v := .ref hi) C ho 2 0 rfl rfl rfl 1 fX8_134 rfl dX8_read_15 ?_
  refine o_get (v := .ref ht) C ho 3 0 rfl rfl rfl 0 fX8_138 rfl dX8_read_18 ?_
  refine o_callV (wr := [bRP K hX hda hc hon hr ck, bDA K hda da, bD K (da d) h hi hb_ gd hd, bIn K hi ht hp pt du lt dr co, bPool K mh ma 255 ml mg]) (rest := []) (As := []) C (c_Row_oldest la D K ht q mh fi sz (by first | omega | assumption | (simp only [List.length_append, List.length_cons, List.length_nil, List.length_modify, List.length_set, nb_len, rb_len, rbp_len, sl_len, slN_len, wh_len, wt_len, hd10_len, hdB_len, thr_len, ldp_len, ldB_len, tens_len, whz_len, majL_len, mf_len, tkL_len, ldY_len, fif_len, ldY_len]; omega) | decide) (by first | omega | assumption | (simp only [List.length_append, List.length_cons, List.length_nil, List.length_modify, List.length_set, nb_len, rb_len, rbp_len, sl_len, slN_len, wh_len, wt_len, hd10_len, hdB_len, thr_len, ldp_len, ldB_len, tens_len, whz_len, majL_len, mf_len, tkL_len, ldY_len, fif_len, ldY_len]; omega) | decide) (by first | omega | assumption | (simp only [List.length_append, List.length_cons, List.length_nil, List.length_modify, List.length_set, nb_len, rb_len, rbp_len, sl_len, slN_len, wh_len, wt_len, hd10_len, hdB_len, thr_len, ldp_len, ldB_len, tens_len, whz_len, majL_len, mf_len, tkL_len, ldY_len, fif_len, ldY_len]; omega) | decide)) kX8_143 vX6_oldest (by decide) rfl ho [4, 0, 1, 2, 3, 5] 6 (by decide +kernel) rfl rfl rfl rfl rfl hl.1 rfl (Nat.le_of_ble_eq_true rfl) dX8_read_21 0 0 rfl rfl (by decide) (fun v u_2 H locs hq ho => ?_)
  obtain rfl := hq
  have ho : ow D vwCl A s.heap H locs [bH K ht q mh fi sz, bRP K hX hda hc hon hr ck, bDA K hda da, bD K (da d) h hi hb_ gd hd, bIn K hi ht hp pt du lt dr co, bPool K mh ma 255 ml mg] := ho
  refine W.eq (g2 := F0 m 24 ls [.ref (mh fi)]) rfl ?_
  refine lv_astore_n (lv' := [(3, .ref (mh fi)), (0, .ref hX), (1, .int (nI d)), (2, .int (nI j))]) hx hb dX8_read_24 rfl hl (by decide) rfl (fun ls hl => ?_)
  refine lv_aload_n hx hb dX8_read_25 rfl (lv_at hl 0 rfl) ?_
  refine lv_ifnull hx hb dX8_read_26 ?_
  have ho : ow D vwCl A s.heap H locs [bH K ht q mh fi sz, bRP K hX hda hc hon hr ck, bDA K hda da, bD K (da d) h hi hb_ gd hd, bIn K hi ht hp pt du lt dr co, bM K (mh fi) (ma fi) 255 (ml fi) (mg fi), bPx K mh ma 255 ml mg fi] := ho.split 5 rfl (pool_split qf) rfl
  refine lv_aload_n hx hb dX8_read_29 rfl (lv_at hl 0 rfl) ?_
  refine lv_iload_n hx hb dX8_read_30 rfl (lv_at hl 3 rfl) ?_
  refine o_callV (wr := [bH K ht q mh fi sz, bRP K hX hda hc hon hr ck, bDA K hda da, bD K (da d) h hi hb_ gd hd, bIn K hi ht hp pt du lt dr co, bPx K mh ma 255 ml mg fi]) (rest := []) (As := [.int (nI j)]) C (c_Msg_has la D K (mh fi) (ma fi) 255 (ml fi) (mg fi) (nI j) (by first | omega | assumption | (simp only [List.length_append, List.length_cons, List.length_nil, List.length_modify, List.length_set, nb_len, rb_len, rbp_len, sl_len, slN_len, wh_len, wt_len, hd10_len, hdB_len, thr_len, ldp_len, ldB_len, tens_len, whz_len, majL_len, mf_len, tkL_len, ldY_len, fif_len, ldY_len]; omega) | decide) (by first | omega | assumption | (simp only [List.length_append, List.length_cons, List.length_nil, List.length_modify, List.length_set, nb_len, rb_len, rbp_len, sl_len, slN_len, wh_len, wt_len, hd10_len, hdB_len, thr_len, ldp_len, ldB_len, tens_len, whz_len, majL_len, mf_len, tkL_len, ldY_len, fif_len, ldY_len]; omega) | decide)) kX8_147 vX5_has (by decide) rfl ho [5, 0, 1, 2, 3, 4, 6] 7 (by decide +kernel) rfl rfl rfl rfl rfl hl.1 rfl (Nat.le_of_ble_eq_true rfl) dX8_read_31 0 0 rfl rfl (by decide) (fun v u_3 H locs hq ho => ?_)
  obtain rfl := hq
  have ho : ow D vwCl A s.heap H locs [bM K (mh fi) (ma fi) 255 (ml fi) (mg fi), bH K ht q mh fi sz, bRP K hX hda hc hon hr ck, bDA K hda da, bD K (da d) h hi hb_ gd hd, bIn K hi ht hp pt du lt dr co, bPx K mh ma 255 ml mg fi] := ho
  refine W.eq (g2 := F0 m 34 ls [.int (bI (hasI (ml fi).length (nI j)))]) rfl ?_
  refine o_ifb_eq (tgt := 45) hx hb dX8_read_34 (by decide) (fun c_4 => ?_) (fun c_4 => ?_)
  · skip
    rw [hasI_N (by omega) (by omega)] at c_4; exact absurd qj (of_decide_eq_false c_4)
  · skip
    refine lv_aload_n hx hb dX8_read_37 rfl (lv_at hl 0 rfl) ?_
    refine lv_iload_n hx hb dX8_read_38 rfl (lv_at hl 3 rfl) ?_
    refine o_callV (wr := [bH K ht q mh fi sz, bRP K hX hda hc hon hr ck, bDA K hda da, bD K (da d) h hi hb_ gd hd, bIn K hi ht hp pt du lt dr co, bPx K mh ma 255 ml mg fi]) (rest := []) (As := [.int (nI j)]) C (c_Msg_at la D K (mh fi) (ma fi) 255 (ml fi) (mg fi) j (by first | omega | assumption | (simp only [List.length_append, List.length_cons, List.length_nil, List.length_modify, List.length_set, nb_len, rb_len, rbp_len, sl_len, slN_len, wh_len, wt_len, hd10_len, hdB_len, thr_len, ldp_len, ldB_len, tens_len, whz_len, majL_len, mf_len, tkL_len, ldY_len, fif_len, ldY_len]; omega) | decide) (by first | omega | assumption | (simp only [List.length_append, List.length_cons, List.length_nil, List.length_modify, List.length_set, nb_len, rb_len, rbp_len, sl_len, slN_len, wh_len, wt_len, hd10_len, hdB_len, thr_len, ldp_len, ldB_len, tens_len, whz_len, majL_len, mf_len, tkL_len, ldY_len, fif_len, ldY_len]; omega) | decide) (by first | omega | assumption | (simp only [List.length_append, List.length_cons, List.length_nil, List.length_modify, List.length_set, nb_len, rb_len, rbp_len, sl_len, slN_len, wh_len, wt_len, hd10_len, hdB_len, thr_len, ldp_len, ldB_len, tens_len, whz_len, majL_len, mf_len, tkL_len, ldY_len, fif_len, ldY_len]; omega) | decide)) kX8_148 vX5_at (by decide) rfl ho [0, 1, 2, 3, 4, 5, 6] 7 (by decide +kernel) rfl rfl rfl rfl rfl hl.1 rfl (Nat.le_of_ble_eq_true rfl) dX8_read_39 0 0 rfl rfl (by decide) (fun v u_5 H locs hq ho => ?_)
    obtain rfl := hq
    have ho : ow D vwCl A s.heap H locs [bM K (mh fi) (ma fi) 255 (ml fi) (mg fi), bH K ht q mh fi sz, bRP K hX hda hc hon hr ck, bDA K hda da, bD K (da d) h hi hb_ gd hd, bIn K hi ht hp pt du lt dr co, bPx K mh ma 255 ml mg fi] := ho
    refine W.eq (g2 := F0 m 42 ls [.int (nI ((ml fi).getD j 0))]) rfl ?_
    refine lv_goto (tgt := 46) hx hb dX8_read_42 (by decide) ?_
    have ho : ow D vwCl A s.heap H locs [bPool K mh ma 255 ml mg, bH K ht q mh fi sz, bRP K hX hda hc hon hr ck, bDA K hda da, bD K (da d) h hi hb_ gd hd, bIn K hi ht hp pt du lt dr co] := ho.join (b := bPool K mh ma 255 ml mg) 0 6 rfl rfl rfl (by decide) (pool_same qf) rfl
    have ho : ow D vwCl A s.heap H locs [bRP K hX hda hc hon hr ck, bDA K hda da, bD K (da d) h hi hb_ gd hd, bIn K hi ht hp pt du lt dr co, bH K ht q mh fi sz, bPool K mh ma 255 ml mg] := ho.re [2, 3, 4, 5, 1, 0] 6 (by decide +kernel) rfl rfl
    exact o_iret hQ C rfl ho () rfl rfl (Nat.le_of_ble_eq_true rfl) (Nat.le_of_ble_eq_true rfl) dX8_read_46

set_option maxHeartbeats 4000000 in
set_option maxRecDepth 100000 in
theorem c_RP_nextX (la : Launch) (D : va_G) (K : Nat → ClassId) (hX : Nat) (hda : Nat) (hc : Nat) (hon : Nat) (hr : Nat) (ck : Nat) (x : Int32) (qx : hasI 2 x = false) : MT la D K yX8_next cX8_next 4 (some .int) (rmL 2 0 0) [.ref hX, .int x] [bRP K hX hda hc hon hr ck] Unit (fun v _ => v = some (.int (-1))) (fun _ => [bRP K hX hda hc hon hr ck]) := by
  refine Mt.ofW [(0, .ref hX), (1, .int x)] (by decide) rfl (Nat.le_of_ble_eq_true rfl) ?_
  intro p e s m args below meth c A ls H locs Qz hQ C hin hl ho
  have hx := C.1.1
  have hb := C.1.2.1
  refine lv_iload_n hx hb dX8_next_0 rfl (lv_at hl 1 rfl) ?_
  refine o_callS (wr := [bRP K hX hda hc hon hr ck]) (rest := []) (As := [.int x]) C (c_RP_isDevNo la D K x (by first | omega | assumption | (simp only [List.length_append, List.length_cons, List.length_nil, List.length_modify, List.length_set, nb_len, rb_len, rbp_len, sl_len, slN_len, wh_len, wt_len, hd10_len, hdB_len, thr_len, ldp_len, ldB_len, tens_len, whz_len, majL_len, mf_len, tkL_len, ldY_len, fif_len, ldY_len]; omega) | decide)) kX8_48 vX8_isDevice (by decide) rfl ho [0] 1 (by decide +kernel) rfl rfl hl.1 rfl (Nat.le_of_ble_eq_true rfl) dX8_next_1 0 0 rfl rfl (by decide) (fun v u_1 H locs hq ho => ?_)
  obtain rfl := hq
  have ho : ow D vwCl A s.heap H locs [bRP K hX hda hc hon hr ck] := ho
  refine W.eq (g2 := F0 m 4 ls [.int (bI false)]) rfl ?_
  refine o_ifb_ne (tgt := 9) hx hb dX8_next_4 (by decide) (fun c9 => absurd c9 (by decide)) (fun _ => ?_)
  refine lv_iconst (v := (-1)) hx hb dX8_next_7 (by decide) ?_
  exact o_iret hQ C rfl ho () rfl rfl (Nat.le_of_ble_eq_true rfl) (Nat.le_of_ble_eq_true rfl) dX8_next_8

set_option maxHeartbeats 4000000 in
set_option maxRecDepth 100000 in
theorem c_RP_next0 (la : Launch) (D : va_G) (K : Nat → ClassId) (hX : Nat) (hda : Nat) (hc : Nat) (hon : Nat) (hr : Nat) (ck : Nat) (da : Nat → Nat) (d : Nat) (hi : Nat) (hb_ : Nat) (gd : Bool) (hd : Bool) (h : Nat) (ht : Nat) (hp : Nat) (pt : Bool) (du : Nat) (lt : Bool) (dr : Nat) (co : Nat) (q : Nat) (mh : Nat → Nat) (fi : Nat) (sz : Nat) (ma : Nat → Nat) (ml : Nat → List Nat) (mg : Nat → Nat → Int32) (q2d : d < 2) (q0 : sz = 0) : MT la D K yX8_next cX8_next 4 (some .int) (rmL 2 0 0) [.ref hX, .int (nI d)] [bRP K hX hda hc hon hr ck, bDA K hda da, bD K (da d) h hi hb_ gd hd, bIn K hi ht hp pt du lt dr co, bH K ht q mh fi sz] Unit (fun v _ => v = some (.int (-1))) (fun _ => [bRP K hX hda hc hon hr ck, bDA K hda da, bD K (da d) h hi hb_ gd hd, bIn K hi ht hp pt du lt dr co, bH K ht q mh fi sz]) := by
  refine Mt.ofW [(0, .ref hX), (1, .int (nI d))] (by decide) rfl (Nat.le_of_ble_eq_true rfl) ?_
  intro p e s m args below meth c A ls H locs Qz hQ C hin hl ho
  have hx := C.1.1
  have hb := C.1.2.1
  refine lv_iload_n hx hb dX8_next_0 rfl (lv_at hl 1 rfl) ?_
  refine o_callS (wr := [bRP K hX hda hc hon hr ck, bDA K hda da, bD K (da d) h hi hb_ gd hd, bIn K hi ht hp pt du lt dr co, bH K ht q mh fi sz]) (rest := []) (As := [.int (nI d)]) C (c_RP_isDev la D K d (by first | omega | assumption | (simp only [List.length_append, List.length_cons, List.length_nil, List.length_modify, List.length_set, nb_len, rb_len, rbp_len, sl_len, slN_len, wh_len, wt_len, hd10_len, hdB_len, thr_len, ldp_len, ldB_len, tens_len, whz_len, majL_len, mf_len, tkL_len, ldY_len, fif_len, ldY_len]; omega) | decide)) kX8_48 vX8_isDevice (by decide) rfl ho [0, 1, 2, 3, 4] 5 (by decide +kernel) rfl rfl hl.1 rfl (Nat.le_of_ble_eq_true rfl) dX8_next_1 0 0 rfl rfl (by decide) (fun v u_1 H locs hq ho => ?_)
  obtain rfl := hq
  have ho : ow D vwCl A s.heap H locs [bRP K hX hda hc hon hr ck, bDA K hda da, bD K (da d) h hi hb_ gd hd, bIn K hi ht hp pt du lt dr co, bH K ht q mh fi sz] := ho
  refine W.eq (g2 := F0 m 4 ls [.int (bI true)]) rfl ?_
  refine o_ifb_ne (tgt := 9) hx hb dX8_next_4 (by decide) (fun _ => ?_) (fun c9 => absurd c9 (by decide))
  refine lv_aload_n hx hb dX8_next_9 rfl (lv_at hl 0 rfl) ?_
  refine o_get (v := .ref hda) C ho 0 0 rfl rfl rfl 0 fX8_11 rfl dX8_next_10 ?_
  refine lv_iload_n hx hb dX8_next_13 rfl (lv_at hl 1 rfl) ?_
  refine o_aald (v := (da d)) C ho 1 0 rfl rfl 2 rfl d rfl (by omega) (by omega) rfl dX8_next_14 ?_
  refine o_get (v := .ref hi) C ho 2 0 rfl rfl rfl 1 fX8_134 rfl dX8_next_15 ?_
  refine o_get (v := .ref ht) C ho 3 0 rfl rfl rfl 0 fX8_138 rfl dX8_next_18 ?_
  refine lv_astore_n (lv' := [(2, .ref ht), (0, .ref hX), (1, .int (nI d))]) hx hb dX8_next_21 rfl hl (by decide) rfl (fun ls hl => ?_)
  refine lv_aload_n hx hb dX8_next_22 rfl (lv_at hl 0 rfl) ?_
  refine o_callV (wr := [bRP K hX hda hc hon hr ck, bDA K hda da, bD K (da d) h hi hb_ gd hd, bIn K hi ht hp pt du lt dr co]) (rest := []) (As := []) C (c_Row_oldest0 la D K ht q mh fi sz (by first | omega | assumption | (simp only [List.length_append, List.length_cons, List.length_nil, List.length_modify, List.length_set, nb_len, rb_len, rbp_len, sl_len, slN_len, wh_len, wt_len, hd10_len, hdB_len, thr_len, ldp_len, ldB_len, tens_len, whz_len, majL_len, mf_len, tkL_len, ldY_len, fif_len, ldY_len]; omega) | decide)) kX8_143 vX6_oldest (by decide) rfl ho [4, 0, 1, 2, 3] 5 (by decide +kernel) rfl rfl rfl rfl rfl hl.1 rfl (Nat.le_of_ble_eq_true rfl) dX8_next_23 0 0 rfl rfl (by decide) (fun v u_2 H locs hq ho => ?_)
  obtain rfl := hq
  have ho : ow D vwCl A s.heap H locs [bH K ht q mh fi sz, bRP K hX hda hc hon hr ck, bDA K hda da, bD K (da d) h hi hb_ gd hd, bIn K hi ht hp pt du lt dr co] := ho
  refine W.eq (g2 := F0 m 26 ls [.null]) rfl ?_
  refine lv_astore_nN (lv' := [(3, .null), (2, .ref ht), (0, .ref hX), (1, .int (nI d))]) hx hb dX8_next_26 rfl hl (by decide) rfl (fun ls hl => ?_)
  refine lv_aload_nN hx hb dX8_next_27 rfl (lv_at hl 0 rfl) ?_
  refine lv_ifnonnullN hx hb dX8_next_28 ?_
  refine lv_iconst (v := (-1)) hx hb dX8_next_31 (by decide) ?_
  have ho : ow D vwCl A s.heap H locs [bRP K hX hda hc hon hr ck, bDA K hda da, bD K (da d) h hi hb_ gd hd, bIn K hi ht hp pt du lt dr co, bH K ht q mh fi sz] := ho.re [1, 2, 3, 4, 0] 5 (by decide +kernel) rfl rfl
  exact o_iret hQ C rfl ho () rfl rfl (Nat.le_of_ble_eq_true rfl) (Nat.le_of_ble_eq_true rfl) dX8_next_32

set_option maxHeartbeats 4000000 in
set_option maxRecDepth 100000 in
theorem c_RP_next (la : Launch) (D : va_G) (K : Nat → ClassId) (hX : Nat) (hda : Nat) (hc : Nat) (hon : Nat) (hr : Nat) (ck : Nat) (da : Nat → Nat) (d : Nat) (hi : Nat) (hb_ : Nat) (gd : Bool) (hd : Bool) (h : Nat) (ht : Nat) (hp : Nat) (pt : Bool) (du : Nat) (lt : Bool) (dr : Nat) (co : Nat) (q : Nat) (mh : Nat → Nat) (fi : Nat) (sz : Nat) (ma : Nat → Nat) (ml : Nat → List Nat) (mg : Nat → Nat → Int32) (q2d : d < 2) (q0 : 0 < sz) (q6 : sz ≤ 6) (qf : fi < 6) (qm : (ml fi).length ≤ 255) : MT la D K yX8_next cX8_next 4 (some .int) (rmL 2 0 0) [.ref hX, .int (nI d)] [bRP K hX hda hc hon hr ck, bDA K hda da, bD K (da d) h hi hb_ gd hd, bIn K hi ht hp pt du lt dr co, bH K ht q mh fi sz, bPool K mh ma 255 ml mg] Unit (fun v _ => v = some (.int (nI ((ml fi).length)))) (fun _ => [bRP K hX hda hc hon hr ck, bDA K hda da, bD K (da d) h hi hb_ gd hd, bIn K hi ht hp pt du lt dr co, bH K ht q mh ((fi + 1) % 6) (sz - 1), bPool K mh ma 255 ml mg]) := by
  refine Mt.ofW [(0, .ref hX), (1, .int (nI d))] (by decide) rfl (Nat.le_of_ble_eq_true rfl) ?_
  intro p e s m args below meth c A ls H locs Qz hQ C hin hl ho
  have hx := C.1.1
  have hb := C.1.2.1
  refine lv_iload_n hx hb dX8_next_0 rfl (lv_at hl 1 rfl) ?_
  refine o_callS (wr := [bRP K hX hda hc hon hr ck, bDA K hda da, bD K (da d) h hi hb_ gd hd, bIn K hi ht hp pt du lt dr co, bH K ht q mh fi sz, bPool K mh ma 255 ml mg]) (rest := []) (As := [.int (nI d)]) C (c_RP_isDev la D K d (by first | omega | assumption | (simp only [List.length_append, List.length_cons, List.length_nil, List.length_modify, List.length_set, nb_len, rb_len, rbp_len, sl_len, slN_len, wh_len, wt_len, hd10_len, hdB_len, thr_len, ldp_len, ldB_len, tens_len, whz_len, majL_len, mf_len, tkL_len, ldY_len, fif_len, ldY_len]; omega) | decide)) kX8_48 vX8_isDevice (by decide) rfl ho [0, 1, 2, 3, 4, 5] 6 (by decide +kernel) rfl rfl hl.1 rfl (Nat.le_of_ble_eq_true rfl) dX8_next_1 0 0 rfl rfl (by decide) (fun v u_1 H locs hq ho => ?_)
  obtain rfl := hq
  have ho : ow D vwCl A s.heap H locs [bRP K hX hda hc hon hr ck, bDA K hda da, bD K (da d) h hi hb_ gd hd, bIn K hi ht hp pt du lt dr co, bH K ht q mh fi sz, bPool K mh ma 255 ml mg] := ho
  refine W.eq (g2 := F0 m 4 ls [.int (bI true)]) rfl ?_
  refine o_ifb_ne (tgt := 9) hx hb dX8_next_4 (by decide) (fun _ => ?_) (fun c9 => absurd c9 (by decide))
  refine lv_aload_n hx hb dX8_next_9 rfl (lv_at hl 0 rfl) ?_
  refine o_get (v := .ref hda) C ho 0 0 rfl rfl rfl 0 fX8_11 rfl dX8_next_10 ?_
  refine lv_iload_n hx hb dX8_next_13 rfl (lv_at hl 1 rfl) ?_
  refine o_aald (v := (da d)) C ho 1 0 rfl rfl 2 rfl d rfl (by omega) (by omega) rfl dX8_next_14 ?_
  refine o_get (v := .ref hi) C ho 2 0 rfl rfl rfl 1 fX8_134 rfl dX8_next_15 ?_
  refine o_get (v := .ref ht) C ho 3 0 rfl rfl rfl 0 fX8_138 rfl dX8_next_18 ?_
  refine lv_astore_n (lv' := [(2, .ref ht), (0, .ref hX), (1, .int (nI d))]) hx hb dX8_next_21 rfl hl (by decide) rfl (fun ls hl => ?_)
  refine lv_aload_n hx hb dX8_next_22 rfl (lv_at hl 0 rfl) ?_
  refine o_callV (wr := [bRP K hX hda hc hon hr ck, bDA K hda da, bD K (da d) h hi hb_ gd hd, bIn K hi ht hp pt du lt dr co, bPool K mh ma 255 ml mg]) (rest := []) (As := []) C (c_Row_oldest la D K ht q mh fi sz (by first | omega | assumption | (simp only [List.length_append, List.length_cons, List.length_nil, List.length_modify, List.length_set, nb_len, rb_len, rbp_len, sl_len, slN_len, wh_len, wt_len, hd10_len, hdB_len, thr_len, ldp_len, ldB_len, tens_len, whz_len, majL_len, mf_len, tkL_len, ldY_len, fif_len, ldY_len]; omega) | decide) (by first | omega | assumption | (simp only [List.length_append, List.length_cons, List.length_nil, List.length_modify, List.length_set, nb_len, rb_len, rbp_len, sl_len, slN_len, wh_len, wt_len, hd10_len, hdB_len, thr_len, ldp_len, ldB_len, tens_len, whz_len, majL_len, mf_len, tkL_len, ldY_len, fif_len, ldY_len]; omega) | decide) (by first | omega | assumption | (simp only [List.length_append, List.length_cons, List.length_nil, List.length_modify, List.length_set, nb_len, rb_len, rbp_len, sl_len, slN_len, wh_len, wt_len, hd10_len, hdB_len, thr_len, ldp_len, ldB_len, tens_len, whz_len, majL_len, mf_len, tkL_len, ldY_len, fif_len, ldY_len]; omega) | decide)) kX8_143 vX6_oldest (by decide) rfl ho [4, 0, 1, 2, 3, 5] 6 (by decide +kernel) rfl rfl rfl rfl rfl hl.1 rfl (Nat.le_of_ble_eq_true rfl) dX8_next_23 0 0 rfl rfl (by decide) (fun v u_2 H locs hq ho => ?_)
  obtain rfl := hq
  have ho : ow D vwCl A s.heap H locs [bH K ht q mh fi sz, bRP K hX hda hc hon hr ck, bDA K hda da, bD K (da d) h hi hb_ gd hd, bIn K hi ht hp pt du lt dr co, bPool K mh ma 255 ml mg] := ho
  refine W.eq (g2 := F0 m 26 ls [.ref (mh fi)]) rfl ?_
  refine lv_astore_n (lv' := [(3, .ref (mh fi)), (2, .ref ht), (0, .ref hX), (1, .int (nI d))]) hx hb dX8_next_26 rfl hl (by decide) rfl (fun ls hl => ?_)
  refine lv_aload_n hx hb dX8_next_27 rfl (lv_at hl 0 rfl) ?_
  refine lv_ifnonnull (tgt := 33) hx hb dX8_next_28 (by decide) ?_
  have ho : ow D vwCl A s.heap H locs [bH K ht q mh fi sz, bRP K hX hda hc hon hr ck, bDA K hda da, bD K (da d) h hi hb_ gd hd, bIn K hi ht hp pt du lt dr co, bM K (mh fi) (ma fi) 255 (ml fi) (mg fi), bPx K mh ma 255 ml mg fi] := ho.split 5 rfl (pool_split qf) rfl
  refine lv_aload_n hx hb dX8_next_33 rfl (lv_at hl 1 rfl) ?_
  refine o_callV (wr := [bRP K hX hda hc hon hr ck, bDA K hda da, bD K (da d) h hi hb_ gd hd, bIn K hi ht hp pt du lt dr co, bM K (mh fi) (ma fi) 255 (ml fi) (mg fi), bPx K mh ma 255 ml mg fi]) (rest := []) (As := []) C (c_Row_dropOldest la D K ht q mh fi sz (by first | omega | assumption | (simp only [List.length_append, List.length_cons, List.length_nil, List.length_modify, List.length_set, nb_len, rb_len, rbp_len, sl_len, slN_len, wh_len, wt_len, hd10_len, hdB_len, thr_len, ldp_len, ldB_len, tens_len, whz_len, majL_len, mf_len, tkL_len, ldY_len, fif_len, ldY_len]; omega) | decide) (by first | omega | assumption | (simp only [List.length_append, List.length_cons, List.length_nil, List.length_modify, List.length_set, nb_len, rb_len, rbp_len, sl_len, slN_len, wh_len, wt_len, hd10_len, hdB_len, thr_len, ldp_len, ldB_len, tens_len, whz_len, majL_len, mf_len, tkL_len, ldY_len, fif_len, ldY_len]; omega) | decide) (by first | omega | assumption | (simp only [List.length_append, List.length_cons, List.length_nil, List.length_modify, List.length_set, nb_len, rb_len, rbp_len, sl_len, slN_len, wh_len, wt_len, hd10_len, hdB_len, thr_len, ldp_len, ldB_len, tens_len, whz_len, majL_len, mf_len, tkL_len, ldY_len, fif_len, ldY_len]; omega) | decide)) kX8_149 vX6_dropOldest (by decide) rfl ho [0, 1, 2, 3, 4, 5, 6] 7 (by decide +kernel) rfl rfl rfl rfl rfl hl.1 rfl (Nat.le_of_ble_eq_true rfl) dX8_next_34 0 0 rfl rfl (by decide) (fun v u_3 H locs hq ho => ?_)
  obtain rfl := hq
  have ho : ow D vwCl A s.heap H locs [bH K ht q mh ((fi + 1) % 6) (sz - 1), bRP K hX hda hc hon hr ck, bDA K hda da, bD K (da d) h hi hb_ gd hd, bIn K hi ht hp pt du lt dr co, bM K (mh fi) (ma fi) 255 (ml fi) (mg fi), bPx K mh ma 255 ml mg fi] := ho
  refine W.eq (g2 := F0 m 37 ls []) rfl ?_
  refine lv_aload_n hx hb dX8_next_37 rfl (lv_at hl 0 rfl) ?_
  refine o_get (v := .int (nI ((ml fi).length))) C ho 5 0 rfl rfl rfl 1 fX8_75 rfl dX8_next_38 ?_
  have ho : ow D vwCl A s.heap H locs [bH K ht q mh ((fi + 1) % 6) (sz - 1), bRP K hX hda hc hon hr ck, bDA K hda da, bD K (da d) h hi hb_ gd hd, bIn K hi ht hp pt du lt dr co, bPool K mh ma 255 ml mg] := ho.join (b := bPool K mh ma 255 ml mg) 5 6 rfl rfl rfl (by decide) (pool_same qf) rfl
  have ho : ow D vwCl A s.heap H locs [bRP K hX hda hc hon hr ck, bDA K hda da, bD K (da d) h hi hb_ gd hd, bIn K hi ht hp pt du lt dr co, bH K ht q mh ((fi + 1) % 6) (sz - 1), bPool K mh ma 255 ml mg] := ho.re [1, 2, 3, 4, 0, 5] 6 (by decide +kernel) rfl rfl
  exact o_iret hQ C rfl ho () rfl rfl (Nat.le_of_ble_eq_true rfl) (Nat.le_of_ble_eq_true rfl) dX8_next_41

set_option maxHeartbeats 4000000 in
set_option maxRecDepth 100000 in
theorem c_RP_stateX (la : Launch) (D : va_G) (K : Nat → ClassId) (hX : Nat) (hda : Nat) (hc : Nat) (hon : Nat) (hr : Nat) (ck : Nat) (x : Int32) (v : Int32) (qx : hasI 2 x = false) : MT la D K yX8_state cX8_state 3 (some .int) (rmL 2 0 0) [.ref hX, .int x, .int v] [bRP K hX hda hc hon hr ck] Unit (fun v _ => v = some (.int (-1))) (fun _ => [bRP K hX hda hc hon hr ck]) := by
  refine Mt.ofW [(0, .ref hX), (1, .int x), (2, .int v)] (by decide) rfl (Nat.le_of_ble_eq_true rfl) ?_
  intro p e s m args below meth c A ls H locs Qz hQ C hin hl ho
  have hx := C.1.1
  have hb := C.1.2.1
  refine lv_iload_n hx hb dX8_state_0 rfl (lv_at hl 1 rfl) ?_
  refine o_callS (wr := [bRP K hX hda hc hon hr ck]) (rest := []) (As := [.int x]) C (c_RP_isDevNo la D K x (by first | omega | assumption | (simp only [List.length_append, List.length_cons, List.length_nil, List.length_modify, List.length_set, nb_len, rb_len, rbp_len, sl_len, slN_len, wh_len, wt_len, hd10_len, hdB_len, thr_len, ldp_len, ldB_len, tens_len, whz_len, majL_len, mf_len, tkL_len, ldY_len, fif_len, ldY_len]; omega) | decide)) kX8_48 vX8_isDevice (by decide) rfl ho [0] 1 (by decide +kernel) rfl rfl hl.1 rfl (Nat.le_of_ble_eq_true rfl) dX8_state_1 0 0 rfl rfl (by decide) (fun v u_1 H locs hq ho => ?_)
  obtain rfl := hq
  have ho : ow D vwCl A s.heap H locs [bRP K hX hda hc hon hr ck] := ho
  refine W.eq (g2 := F0 m 4 ls [.int (bI false)]) rfl ?_
  refine o_ifb_eq (tgt := 20) hx hb dX8_state_4 (by decide) (fun _ => ?_) (fun c9 => absurd c9 (by decide))
  refine lv_iconst (v := (-1)) hx hb dX8_state_20 (by decide) ?_
  exact o_iret hQ C rfl ho () rfl rfl (Nat.le_of_ble_eq_true rfl) (Nat.le_of_ble_eq_true rfl) dX8_state_21

set_option maxHeartbeats 4000000 in
set_option maxRecDepth 100000 in
theorem c_RP_stateV (la : Launch) (D : va_G) (K : Nat → ClassId) (hX : Nat) (hda : Nat) (hc : Nat) (hon : Nat) (hr : Nat) (ck : Nat) (da : Nat → Nat) (d : Nat) (hi : Nat) (hb_ : Nat) (gd : Bool) (hd : Bool) (h : Nat) (x : Int32) (q2d : d < 2) (qx : x.toInt < 0 ∨ 9 < x.toInt) : MT la D K yX8_state cX8_state 3 (some .int) (rmL 2 0 0) [.ref hX, .int (nI d), .int x] [bRP K hX hda hc hon hr ck, bDA K hda da, bD K (da d) h hi hb_ gd hd] Unit (fun v _ => v = some (.int (-1))) (fun _ => [bRP K hX hda hc hon hr ck, bDA K hda da, bD K (da d) h hi hb_ gd hd]) := by
  refine Mt.ofW [(0, .ref hX), (1, .int (nI d)), (2, .int x)] (by decide) rfl (Nat.le_of_ble_eq_true rfl) ?_
  intro p e s m args below meth c A ls H locs Qz hQ C hin hl ho
  have hx := C.1.1
  have hb := C.1.2.1
  refine lv_iload_n hx hb dX8_state_0 rfl (lv_at hl 1 rfl) ?_
  refine o_callS (wr := [bRP K hX hda hc hon hr ck, bDA K hda da, bD K (da d) h hi hb_ gd hd]) (rest := []) (As := [.int (nI d)]) C (c_RP_isDev la D K d (by first | omega | assumption | (simp only [List.length_append, List.length_cons, List.length_nil, List.length_modify, List.length_set, nb_len, rb_len, rbp_len, sl_len, slN_len, wh_len, wt_len, hd10_len, hdB_len, thr_len, ldp_len, ldB_len, tens_len, whz_len, majL_len, mf_len, tkL_len, ldY_len, fif_len, ldY_len]; omega) | decide)) kX8_48 vX8_isDevice (by decide) rfl ho [0, 1, 2] 3 (by decide +kernel) rfl rfl hl.1 rfl (Nat.le_of_ble_eq_true rfl) dX8_state_1 0 0 rfl rfl (by decide) (fun v u_1 H locs hq ho => ?_)
  obtain rfl := hq
  have ho : ow D vwCl A s.heap H locs [bRP K hX hda hc hon hr ck, bDA K hda da, bD K (da d) h hi hb_ gd hd] := ho
  refine W.eq (g2 := F0 m 4 ls [.int (bI true)]) rfl ?_
  refine o_ifb_eq (tgt := 20) hx hb dX8_state_4 (by decide) (fun c9 => absurd c9 (by decide)) (fun _ => ?_)
  refine lv_aload_n hx hb dX8_state_7 rfl (lv_at hl 0 rfl) ?_
  refine o_get (v := .ref hda) C ho 0 0 rfl rfl rfl 0 fX8_11 rfl dX8_state_8 ?_
  refine lv_iload_n hx hb dX8_state_11 rfl (lv_at hl 1 rfl) ?_
  refine o_aald (v := (da d)) C ho 1 0 rfl rfl 2 rfl d rfl (by omega) (by omega) rfl dX8_state_12 ?_
  refine lv_iload_n hx hb dX8_state_13 rfl (lv_at hl 2 rfl) ?_
  refine o_callV (wr := [bRP K hX hda hc hon hr ck, bDA K hda da]) (rest := []) (As := [.int x]) C (c_Dev_tellX la D K (da d) hi hb_ gd hd h x (by first | omega | assumption | (simp only [List.length_append, List.length_cons, List.length_nil, List.length_modify, List.length_set, nb_len, rb_len, rbp_len, sl_len, slN_len, wh_len, wt_len, hd10_len, hdB_len, thr_len, ldp_len, ldB_len, tens_len, whz_len, majL_len, mf_len, tkL_len, ldY_len, fif_len, ldY_len]; omega) | decide)) kX8_152 vX2_tell (by decide) rfl ho [2, 0, 1] 3 (by decide +kernel) rfl rfl rfl rfl rfl hl.1 rfl (Nat.le_of_ble_eq_true rfl) dX8_state_14 0 0 rfl rfl (by decide) (fun v u_2 H locs hq ho => ?_)
  obtain rfl := hq
  have ho : ow D vwCl A s.heap H locs [bD K (da d) h hi hb_ gd hd, bRP K hX hda hc hon hr ck, bDA K hda da] := ho
  refine W.eq (g2 := F0 m 17 ls [.int (-1)]) rfl ?_
  refine lv_goto (tgt := 21) hx hb dX8_state_17 (by decide) ?_
  have ho : ow D vwCl A s.heap H locs [bRP K hX hda hc hon hr ck, bDA K hda da, bD K (da d) h hi hb_ gd hd] := ho.re [1, 2, 0] 3 (by decide +kernel) rfl rfl
  exact o_iret hQ C rfl ho () rfl rfl (Nat.le_of_ble_eq_true rfl) (Nat.le_of_ble_eq_true rfl) dX8_state_21

set_option maxHeartbeats 4000000 in
set_option maxRecDepth 100000 in
theorem c_RP_state0 (la : Launch) (D : va_G) (K : Nat → ClassId) (hX : Nat) (hda : Nat) (hc : Nat) (hon : Nat) (hr : Nat) (ck : Nat) (da : Nat → Nat) (d : Nat) (hi : Nat) (hb_ : Nat) (gd : Bool) (hd : Bool) (h : Nat) (hw : Nat) (hq : Nat) (hs : Nat) (hf : Nat) (fr : Nat) (fw : Bool) (gu : Bool) (tu : Bool) (q : Nat) (mh : Nat → Nat) (fi : Nat) (sz : Nat) (q2d : d < 2) : MT la D K yX8_state cX8_state 3 (some .int) (rmL 2 0 0) [.ref hX, .int (nI d), .int (nI 0)] [bRP K hX hda hc hon hr ck, bDA K hda da, bD K (da d) h hi hb_ gd hd, bO K h hw hq hs hf fr fw gu tu, bH K hq q mh fi sz] Unit (fun v _ => v = some (.int (nI sz))) (fun _ => [bRP K hX hda hc hon hr ck, bDA K hda da, bD K (da d) h hi hb_ gd hd, bO K h hw hq hs hf fr fw gu tu, bH K hq q mh fi sz]) := by
  refine Mt.ofW [(0, .ref hX), (1, .int (nI d)), (2, .int (nI 0))] (by decide) rfl (Nat.le_of_ble_eq_true rfl) ?_
  intro p e s m args below meth c A ls H locs Qz hQ C hin hl ho
  have hx := C.1.1
  have hb := C.1.2.1
  refine lv_iload_n hx hb dX8_state_0 rfl (lv_at hl 1 rfl) ?_
  refine o_callS (wr := [bRP K hX hda hc hon hr ck, bDA K hda da, bD K (da d) h hi hb_ gd hd, bO K h hw hq hs hf fr fw gu tu, bH K hq q mh fi sz]) (rest := []) (As := [.int (nI d)]) C (c_RP_isDev la D K d (by first | omega | assumption | (simp only [List.length_append, List.length_cons, List.length_nil, List.length_modify, List.length_set, nb_len, rb_len, rbp_len, sl_len, slN_len, wh_len, wt_len, hd10_len, hdB_len, thr_len, ldp_len, ldB_len, tens_len, whz_len, majL_len, mf_len, tkL_len, ldY_len, fif_len, ldY_len]; omega) | decide)) kX8_48 vX8_isDevice (by decide) rfl ho [0, 1, 2, 3, 4] 5 (by decide +kernel) rfl rfl hl.1 rfl (Nat.le_of_ble_eq_true rfl) dX8_state_1 0 0 rfl rfl (by decide) (fun v u_1 H locs hq ho => ?_)
  obtain rfl := hq
  have ho : ow D vwCl A s.heap H locs [bRP K hX hda hc hon hr ck, bDA K hda da, bD K (da d) h hi hb_ gd hd, bO K h hw hq hs hf fr fw gu tu, bH K hq q mh fi sz] := ho
  refine W.eq (g2 := F0 m 4 ls [.int (bI true)]) rfl ?_
  refine o_ifb_eq (tgt := 20) hx hb dX8_state_4 (by decide) (fun c9 => absurd c9 (by decide)) (fun _ => ?_)
  refine lv_aload_n hx hb dX8_state_7 rfl (lv_at hl 0 rfl) ?_
  refine o_get (v := .ref hda) C ho 0 0 rfl rfl rfl 0 fX8_11 rfl dX8_state_8 ?_
  refine lv_iload_n hx hb dX8_state_11 rfl (lv_at hl 1 rfl) ?_
  refine o_aald (v := (da d)) C ho 1 0 rfl rfl 2 rfl d rfl (by omega) (by omega) rfl dX8_state_12 ?_
  refine lv_iload_n hx hb dX8_state_13 rfl (lv_at hl 2 rfl) ?_
  refine o_callV (wr := [bRP K hX hda hc hon hr ck, bDA K hda da]) (rest := []) (As := [.int (nI 0)]) C (c_Dev_tell0 la D K (da d) hi hb_ gd hd h hw hq hs hf fr fw gu tu q mh fi sz ) kX8_152 vX2_tell (by decide) rfl ho [2, 3, 4, 0, 1] 5 (by decide +kernel) rfl rfl rfl rfl rfl hl.1 rfl (Nat.le_of_ble_eq_true rfl) dX8_state_14 0 0 rfl rfl (by decide) (fun v u_2 H locs hq ho => ?_)
  obtain rfl := hq
  have ho : ow D vwCl A s.heap H locs [bD K (da d) h hi hb_ gd hd, bO K h hw hq hs hf fr fw gu tu, bH K hq q mh fi sz, bRP K hX hda hc hon hr ck, bDA K hda da] := ho
  refine W.eq (g2 := F0 m 17 ls [.int (nI sz)]) rfl ?_
  refine lv_goto (tgt := 21) hx hb dX8_state_17 (by decide) ?_
  have ho : ow D vwCl A s.heap H locs [bRP K hX hda hc hon hr ck, bDA K hda da, bD K (da d) h hi hb_ gd hd, bO K h hw hq hs hf fr fw gu tu, bH K hq q mh fi sz] := ho.re [3, 4, 0, 1, 2] 5 (by decide +kernel) rfl rfl
  exact o_iret hQ C rfl ho () rfl rfl (Nat.le_of_ble_eq_true rfl) (Nat.le_of_ble_eq_true rfl) dX8_state_21

set_option maxHeartbeats 4000000 in
set_option maxRecDepth 100000 in
theorem c_RP_state1 (la : Launch) (D : va_G) (K : Nat → ClassId) (hX : Nat) (hda : Nat) (hc : Nat) (hon : Nat) (hr : Nat) (ck : Nat) (da : Nat → Nat) (d : Nat) (hi : Nat) (hb_ : Nat) (gd : Bool) (hd : Bool) (h : Nat) (ht : Nat) (hp : Nat) (pt : Bool) (du : Nat) (lt : Bool) (dr : Nat) (co : Nat) (q : Nat) (mh : Nat → Nat) (fi : Nat) (sz : Nat) (q2d : d < 2) : MT la D K yX8_state cX8_state 3 (some .int) (rmL 2 0 0) [.ref hX, .int (nI d), .int (nI 1)] [bRP K hX hda hc hon hr ck, bDA K hda da, bD K (da d) h hi hb_ gd hd, bIn K hi ht hp pt du lt dr co, bH K ht q mh fi sz] Unit (fun v _ => v = some (.int (nI sz))) (fun _ => [bRP K hX hda hc hon hr ck, bDA K hda da, bD K (da d) h hi hb_ gd hd, bIn K hi ht hp pt du lt dr co, bH K ht q mh fi sz]) := by
  refine Mt.ofW [(0, .ref hX), (1, .int (nI d)), (2, .int (nI 1))] (by decide) rfl (Nat.le_of_ble_eq_true rfl) ?_
  intro p e s m args below meth c A ls H locs Qz hQ C hin hl ho
  have hx := C.1.1
  have hb := C.1.2.1
  refine lv_iload_n hx hb dX8_state_0 rfl (lv_at hl 1 rfl) ?_
  refine o_callS (wr := [bRP K hX hda hc hon hr ck, bDA K hda da, bD K (da d) h hi hb_ gd hd, bIn K hi ht hp pt du lt dr co, bH K ht q mh fi sz]) (rest := []) (As := [.int (nI d)]) C (c_RP_isDev la D K d (by first | omega | assumption | (simp only [List.length_append, List.length_cons, List.length_nil, List.length_modify, List.length_set, nb_len, rb_len, rbp_len, sl_len, slN_len, wh_len, wt_len, hd10_len, hdB_len, thr_len, ldp_len, ldB_len, tens_len, whz_len, majL_len, mf_len, tkL_len, ldY_len, fif_len, ldY_len]; omega) | decide)) kX8_48 vX8_isDevice (by decide) rfl ho [0, 1, 2, 3, 4] 5 (by decide +kernel) rfl rfl hl.1 rfl (Nat.le_of_ble_eq_true rfl) dX8_state_1 0 0 rfl rfl (by decide) (fun v u_1 H locs hq ho => ?_)
  obtain rfl := hq
  have ho : ow D vwCl A s.heap H locs [bRP K hX hda hc hon hr ck, bDA K hda da, bD K (da d) h hi hb_ gd hd, bIn K hi ht hp pt du lt dr co, bH K ht q mh fi sz] := ho
  refine W.eq (g2 := F0 m 4 ls [.int (bI true)]) rfl ?_
  refine o_ifb_eq (tgt := 20) hx hb dX8_state_4 (by decide) (fun c9 => absurd c9 (by decide)) (fun _ => ?_)
  refine lv_aload_n hx hb dX8_state_7 rfl (lv_at hl 0 rfl) ?_
  refine o_get (v := .ref hda) C ho 0 0 rfl rfl rfl 0 fX8_11 rfl dX8_state_8 ?_
  refine lv_iload_n hx hb dX8_state_11 rfl (lv_at hl 1 rfl) ?_
  refine o_aald (v := (da d)) C ho 1 0 rfl rfl 2 rfl d rfl (by omega) (by omega) rfl dX8_state_12 ?_
  refine lv_iload_n hx hb dX8_state_13 rfl (lv_at hl 2 rfl) ?_
  refine o_callV (wr := [bRP K hX hda hc hon hr ck, bDA K hda da]) (rest := []) (As := [.int (nI 1)]) C (c_Dev_tell1 la D K (da d) hi hb_ gd hd h ht hp pt du lt dr co q mh fi sz ) kX8_152 vX2_tell (by decide) rfl ho [2, 3, 4, 0, 1] 5 (by decide +kernel) rfl rfl rfl rfl rfl hl.1 rfl (Nat.le_of_ble_eq_true rfl) dX8_state_14 0 0 rfl rfl (by decide) (fun v u_2 H locs hq ho => ?_)
  obtain rfl := hq
  have ho : ow D vwCl A s.heap H locs [bD K (da d) h hi hb_ gd hd, bIn K hi ht hp pt du lt dr co, bH K ht q mh fi sz, bRP K hX hda hc hon hr ck, bDA K hda da] := ho
  refine W.eq (g2 := F0 m 17 ls [.int (nI sz)]) rfl ?_
  refine lv_goto (tgt := 21) hx hb dX8_state_17 (by decide) ?_
  have ho : ow D vwCl A s.heap H locs [bRP K hX hda hc hon hr ck, bDA K hda da, bD K (da d) h hi hb_ gd hd, bIn K hi ht hp pt du lt dr co, bH K ht q mh fi sz] := ho.re [3, 4, 0, 1, 2] 5 (by decide +kernel) rfl rfl
  exact o_iret hQ C rfl ho () rfl rfl (Nat.le_of_ble_eq_true rfl) (Nat.le_of_ble_eq_true rfl) dX8_state_21

set_option maxHeartbeats 4000000 in
set_option maxRecDepth 100000 in
theorem c_RP_state2 (la : Launch) (D : va_G) (K : Nat → ClassId) (hX : Nat) (hda : Nat) (hc : Nat) (hon : Nat) (hr : Nat) (ck : Nat) (da : Nat → Nat) (d : Nat) (hi : Nat) (hb_ : Nat) (gd : Bool) (hd : Bool) (h : Nat) (hw : Nat) (hq : Nat) (hs : Nat) (hf : Nat) (fr : Nat) (fw : Bool) (gu : Bool) (tu : Bool) (as_ : Nat) (ls_ : List Nat) (gs_ : Nat → Int32) (q2d : d < 2) (q1 : fr ≤ ls_.length) : MT la D K yX8_state cX8_state 3 (some .int) (rmL 3 0 0) [.ref hX, .int (nI d), .int (nI 2)] [bRP K hX hda hc hon hr ck, bDA K hda da, bD K (da d) h hi hb_ gd hd, bO K h hw hq hs hf fr fw gu tu, bM K hs as_ 41 ls_ gs_] Unit (fun v _ => v = some (.int (nI (ls_.length - fr)))) (fun _ => [bRP K hX hda hc hon hr ck, bDA K hda da, bD K (da d) h hi hb_ gd hd, bO K h hw hq hs hf fr fw gu tu, bM K hs as_ 41 ls_ gs_]) := by
  refine Mt.ofW [(0, .ref hX), (1, .int (nI d)), (2, .int (nI 2))] (by decide) rfl (Nat.le_of_ble_eq_true rfl) ?_
  intro p e s m args below meth c A ls H locs Qz hQ C hin hl ho
  have hx := C.1.1
  have hb := C.1.2.1
  refine lv_iload_n hx hb dX8_state_0 rfl (lv_at hl 1 rfl) ?_
  refine o_callS (wr := [bRP K hX hda hc hon hr ck, bDA K hda da, bD K (da d) h hi hb_ gd hd, bO K h hw hq hs hf fr fw gu tu, bM K hs as_ 41 ls_ gs_]) (rest := []) (As := [.int (nI d)]) C (c_RP_isDev la D K d (by first | omega | assumption | (simp only [List.length_append, List.length_cons, List.length_nil, List.length_modify, List.length_set, nb_len, rb_len, rbp_len, sl_len, slN_len, wh_len, wt_len, hd10_len, hdB_len, thr_len, ldp_len, ldB_len, tens_len, whz_len, majL_len, mf_len, tkL_len, ldY_len, fif_len, ldY_len]; omega) | decide)) kX8_48 vX8_isDevice (by decide) rfl ho [0, 1, 2, 3, 4] 5 (by decide +kernel) rfl rfl hl.1 rfl (Nat.le_of_ble_eq_true rfl) dX8_state_1 0 0 rfl rfl (by decide) (fun v u_1 H locs hq ho => ?_)
  obtain rfl := hq
  have ho : ow D vwCl A s.heap H locs [bRP K hX hda hc hon hr ck, bDA K hda da, bD K (da d) h hi hb_ gd hd, bO K h hw hq hs hf fr fw gu tu, bM K hs as_ 41 ls_ gs_] := ho
  refine W.eq (g2 := F0 m 4 ls [.int (bI true)]) rfl ?_
  refine o_ifb_eq (tgt := 20) hx hb dX8_state_4 (by decide) (fun c9 => absurd c9 (by decide)) (fun _ => ?_)
  refine lv_aload_n hx hb dX8_state_7 rfl (lv_at hl 0 rfl) ?_
  refine o_get (v := .ref hda) C ho 0 0 rfl rfl rfl 0 fX8_11 rfl dX8_state_8 ?_
  refine lv_iload_n hx hb dX8_state_11 rfl (lv_at hl 1 rfl) ?_
  refine o_aald (v := (da d)) C ho 1 0 rfl rfl 2 rfl d rfl (by omega) (by omega) rfl dX8_state_12 ?_
  refine lv_iload_n hx hb dX8_state_13 rfl (lv_at hl 2 rfl) ?_
  refine o_callV (wr := [bRP K hX hda hc hon hr ck, bDA K hda da]) (rest := []) (As := [.int (nI 2)]) C (c_Dev_tell2 la D K (da d) hi hb_ gd hd h hw hq hs hf fr fw gu tu as_ ls_ gs_ (by first | omega | assumption | (simp only [List.length_append, List.length_cons, List.length_nil, List.length_modify, List.length_set, nb_len, rb_len, rbp_len, sl_len, slN_len, wh_len, wt_len, hd10_len, hdB_len, thr_len, ldp_len, ldB_len, tens_len, whz_len, majL_len, mf_len, tkL_len, ldY_len, fif_len, ldY_len]; omega) | decide)) kX8_152 vX2_tell (by decide) rfl ho [2, 3, 4, 0, 1] 5 (by decide +kernel) rfl rfl rfl rfl rfl hl.1 rfl (Nat.le_of_ble_eq_true rfl) dX8_state_14 0 0 rfl rfl (by decide) (fun v u_2 H locs hq ho => ?_)
  obtain rfl := hq
  have ho : ow D vwCl A s.heap H locs [bD K (da d) h hi hb_ gd hd, bO K h hw hq hs hf fr fw gu tu, bM K hs as_ 41 ls_ gs_, bRP K hX hda hc hon hr ck, bDA K hda da] := ho
  refine W.eq (g2 := F0 m 17 ls [.int (nI (ls_.length - fr))]) rfl ?_
  refine lv_goto (tgt := 21) hx hb dX8_state_17 (by decide) ?_
  have ho : ow D vwCl A s.heap H locs [bRP K hX hda hc hon hr ck, bDA K hda da, bD K (da d) h hi hb_ gd hd, bO K h hw hq hs hf fr fw gu tu, bM K hs as_ 41 ls_ gs_] := ho.re [3, 4, 0, 1, 2] 5 (by decide +kernel) rfl rfl
  exact o_iret hQ C rfl ho () rfl rfl (Nat.le_of_ble_eq_true rfl) (Nat.le_of_ble_eq_true rfl) dX8_state_21

set_option maxHeartbeats 4000000 in
set_option maxRecDepth 100000 in
theorem c_RP_state3 (la : Launch) (D : va_G) (K : Nat → ClassId) (hX : Nat) (hda : Nat) (hc : Nat) (hon : Nat) (hr : Nat) (ck : Nat) (da : Nat → Nat) (d : Nat) (hi : Nat) (hb_ : Nat) (gd : Bool) (hd : Bool) (h : Nat) (hw : Nat) (hq : Nat) (hs : Nat) (hf : Nat) (fr : Nat) (fw : Bool) (gu : Bool) (tu : Bool) (hm : Nat) (kd : Nat) (ak : Bool) (ft : Bool) (be : Bool) (cr : Nat) (am : Nat) (lm : List Nat) (gm : Nat → Int32) (q2d : d < 2) : MT la D K yX8_state cX8_state 3 (some .int) (rmL 3 0 0) [.ref hX, .int (nI d), .int (nI 3)] [bRP K hX hda hc hon hr ck, bDA K hda da, bD K (da d) h hi hb_ gd hd, bO K h hw hq hs hf fr fw gu tu, bF K hf hm kd ak ft be cr, bM K hm am 63 lm gm] Unit (fun v _ => v = some (.int (nI (cond fw lm.length 0)))) (fun _ => [bRP K hX hda hc hon hr ck, bDA K hda da, bD K (da d) h hi hb_ gd hd, bO K h hw hq hs hf fr fw gu tu, bF K hf hm kd ak ft be cr, bM K hm am 63 lm gm]) := by
  refine Mt.ofW [(0, .ref hX), (1, .int (nI d)), (2, .int (nI 3))] (by decide) rfl (Nat.le_of_ble_eq_true rfl) ?_
  intro p e s m args below meth c A ls H locs Qz hQ C hin hl ho
  have hx := C.1.1
  have hb := C.1.2.1
  refine lv_iload_n hx hb dX8_state_0 rfl (lv_at hl 1 rfl) ?_
  refine o_callS (wr := [bRP K hX hda hc hon hr ck, bDA K hda da, bD K (da d) h hi hb_ gd hd, bO K h hw hq hs hf fr fw gu tu, bF K hf hm kd ak ft be cr, bM K hm am 63 lm gm]) (rest := []) (As := [.int (nI d)]) C (c_RP_isDev la D K d (by first | omega | assumption | (simp only [List.length_append, List.length_cons, List.length_nil, List.length_modify, List.length_set, nb_len, rb_len, rbp_len, sl_len, slN_len, wh_len, wt_len, hd10_len, hdB_len, thr_len, ldp_len, ldB_len, tens_len, whz_len, majL_len, mf_len, tkL_len, ldY_len, fif_len, ldY_len]; omega) | decide)) kX8_48 vX8_isDevice (by decide) rfl ho [0, 1, 2, 3, 4, 5] 6 (by decide +kernel) rfl rfl hl.1 rfl (Nat.le_of_ble_eq_true rfl) dX8_state_1 0 0 rfl rfl (by decide) (fun v u_1 H locs hq ho => ?_)
  obtain rfl := hq
  have ho : ow D vwCl A s.heap H locs [bRP K hX hda hc hon hr ck, bDA K hda da, bD K (da d) h hi hb_ gd hd, bO K h hw hq hs hf fr fw gu tu, bF K hf hm kd ak ft be cr, bM K hm am 63 lm gm] := ho
  refine W.eq (g2 := F0 m 4 ls [.int (bI true)]) rfl ?_
  refine o_ifb_eq (tgt := 20) hx hb dX8_state_4 (by decide) (fun c9 => absurd c9 (by decide)) (fun _ => ?_)
  refine lv_aload_n hx hb dX8_state_7 rfl (lv_at hl 0 rfl) ?_
  refine o_get (v := .ref hda) C ho 0 0 rfl rfl rfl 0 fX8_11 rfl dX8_state_8 ?_
  refine lv_iload_n hx hb dX8_state_11 rfl (lv_at hl 1 rfl) ?_
  refine o_aald (v := (da d)) C ho 1 0 rfl rfl 2 rfl d rfl (by omega) (by omega) rfl dX8_state_12 ?_
  refine lv_iload_n hx hb dX8_state_13 rfl (lv_at hl 2 rfl) ?_
  refine o_callV (wr := [bRP K hX hda hc hon hr ck, bDA K hda da]) (rest := []) (As := [.int (nI 3)]) C (c_Dev_tell3 la D K (da d) hi hb_ gd hd h hw hq hs hf fr fw gu tu hm kd ak ft be cr am lm gm ) kX8_152 vX2_tell (by decide) rfl ho [2, 3, 4, 5, 0, 1] 6 (by decide +kernel) rfl rfl rfl rfl rfl hl.1 rfl (Nat.le_of_ble_eq_true rfl) dX8_state_14 0 0 rfl rfl (by decide) (fun v u_2 H locs hq ho => ?_)
  obtain rfl := hq
  have ho : ow D vwCl A s.heap H locs [bD K (da d) h hi hb_ gd hd, bO K h hw hq hs hf fr fw gu tu, bF K hf hm kd ak ft be cr, bM K hm am 63 lm gm, bRP K hX hda hc hon hr ck, bDA K hda da] := ho
  refine W.eq (g2 := F0 m 17 ls [.int (nI (cond fw lm.length 0))]) rfl ?_
  refine lv_goto (tgt := 21) hx hb dX8_state_17 (by decide) ?_
  have ho : ow D vwCl A s.heap H locs [bRP K hX hda hc hon hr ck, bDA K hda da, bD K (da d) h hi hb_ gd hd, bO K h hw hq hs hf fr fw gu tu, bF K hf hm kd ak ft be cr, bM K hm am 63 lm gm] := ho.re [4, 5, 0, 1, 2, 3] 6 (by decide +kernel) rfl rfl
  exact o_iret hQ C rfl ho () rfl rfl (Nat.le_of_ble_eq_true rfl) (Nat.le_of_ble_eq_true rfl) dX8_state_21

set_option maxHeartbeats 4000000 in
set_option maxRecDepth 100000 in
theorem c_RP_state4 (la : Launch) (D : va_G) (K : Nat → ClassId) (hX : Nat) (hda : Nat) (hc : Nat) (hon : Nat) (hr : Nat) (ck : Nat) (da : Nat → Nat) (d : Nat) (hi : Nat) (hb_ : Nat) (gd : Bool) (hd : Bool) (h : Nat) (ht : Nat) (hp : Nat) (pt : Bool) (du : Nat) (lt : Bool) (dr : Nat) (co : Nat) (ap : Nat) (pl : List Nat) (gp : Nat → Int32) (q2d : d < 2) : MT la D K yX8_state cX8_state 3 (some .int) (rmL 3 0 0) [.ref hX, .int (nI d), .int (nI 4)] [bRP K hX hda hc hon hr ck, bDA K hda da, bD K (da d) h hi hb_ gd hd, bIn K hi ht hp pt du lt dr co, bM K hp ap 318 pl gp] Unit (fun v _ => v = some (.int (nI (cond pt pl.length 0)))) (fun _ => [bRP K hX hda hc hon hr ck, bDA K hda da, bD K (da d) h hi hb_ gd hd, bIn K hi ht hp pt du lt dr co, bM K hp ap 318 pl gp]) := by
  refine Mt.ofW [(0, .ref hX), (1, .int (nI d)), (2, .int (nI 4))] (by decide) rfl (Nat.le_of_ble_eq_true rfl) ?_
  intro p e s m args below meth c A ls H locs Qz hQ C hin hl ho
  have hx := C.1.1
  have hb := C.1.2.1
  refine lv_iload_n hx hb dX8_state_0 rfl (lv_at hl 1 rfl) ?_
  refine o_callS (wr := [bRP K hX hda hc hon hr ck, bDA K hda da, bD K (da d) h hi hb_ gd hd, bIn K hi ht hp pt du lt dr co, bM K hp ap 318 pl gp]) (rest := []) (As := [.int (nI d)]) C (c_RP_isDev la D K d (by first | omega | assumption | (simp only [List.length_append, List.length_cons, List.length_nil, List.length_modify, List.length_set, nb_len, rb_len, rbp_len, sl_len, slN_len, wh_len, wt_len, hd10_len, hdB_len, thr_len, ldp_len, ldB_len, tens_len, whz_len, majL_len, mf_len, tkL_len, ldY_len, fif_len, ldY_len]; omega) | decide)) kX8_48 vX8_isDevice (by decide) rfl ho [0, 1, 2, 3, 4] 5 (by decide +kernel) rfl rfl hl.1 rfl (Nat.le_of_ble_eq_true rfl) dX8_state_1 0 0 rfl rfl (by decide) (fun v u_1 H locs hq ho => ?_)
  obtain rfl := hq
  have ho : ow D vwCl A s.heap H locs [bRP K hX hda hc hon hr ck, bDA K hda da, bD K (da d) h hi hb_ gd hd, bIn K hi ht hp pt du lt dr co, bM K hp ap 318 pl gp] := ho
  refine W.eq (g2 := F0 m 4 ls [.int (bI true)]) rfl ?_
  refine o_ifb_eq (tgt := 20) hx hb dX8_state_4 (by decide) (fun c9 => absurd c9 (by decide)) (fun _ => ?_)
  refine lv_aload_n hx hb dX8_state_7 rfl (lv_at hl 0 rfl) ?_
  refine o_get (v := .ref hda) C ho 0 0 rfl rfl rfl 0 fX8_11 rfl dX8_state_8 ?_
  refine lv_iload_n hx hb dX8_state_11 rfl (lv_at hl 1 rfl) ?_
  refine o_aald (v := (da d)) C ho 1 0 rfl rfl 2 rfl d rfl (by omega) (by omega) rfl dX8_state_12 ?_
  refine lv_iload_n hx hb dX8_state_13 rfl (lv_at hl 2 rfl) ?_
  refine o_callV (wr := [bRP K hX hda hc hon hr ck, bDA K hda da]) (rest := []) (As := [.int (nI 4)]) C (c_Dev_tell4 la D K (da d) hi hb_ gd hd h ht hp pt du lt dr co ap pl gp ) kX8_152 vX2_tell (by decide) rfl ho [2, 3, 4, 0, 1] 5 (by decide +kernel) rfl rfl rfl rfl rfl hl.1 rfl (Nat.le_of_ble_eq_true rfl) dX8_state_14 0 0 rfl rfl (by decide) (fun v u_2 H locs hq ho => ?_)
  obtain rfl := hq
  have ho : ow D vwCl A s.heap H locs [bD K (da d) h hi hb_ gd hd, bIn K hi ht hp pt du lt dr co, bM K hp ap 318 pl gp, bRP K hX hda hc hon hr ck, bDA K hda da] := ho
  refine W.eq (g2 := F0 m 17 ls [.int (nI (cond pt pl.length 0))]) rfl ?_
  refine lv_goto (tgt := 21) hx hb dX8_state_17 (by decide) ?_
  have ho : ow D vwCl A s.heap H locs [bRP K hX hda hc hon hr ck, bDA K hda da, bD K (da d) h hi hb_ gd hd, bIn K hi ht hp pt du lt dr co, bM K hp ap 318 pl gp] := ho.re [3, 4, 0, 1, 2] 5 (by decide +kernel) rfl rfl
  exact o_iret hQ C rfl ho () rfl rfl (Nat.le_of_ble_eq_true rfl) (Nat.le_of_ble_eq_true rfl) dX8_state_21

set_option maxHeartbeats 4000000 in
set_option maxRecDepth 100000 in
theorem c_RP_state5 (la : Launch) (D : va_G) (K : Nat → ClassId) (hX : Nat) (hda : Nat) (hc : Nat) (hon : Nat) (hr : Nat) (ck : Nat) (da : Nat → Nat) (d : Nat) (hi : Nat) (hb_ : Nat) (gd : Bool) (hd : Bool) (h : Nat) (ht : Nat) (hp : Nat) (pt : Bool) (du : Nat) (lt : Bool) (dr : Nat) (co : Nat) (q2d : d < 2) : MT la D K yX8_state cX8_state 3 (some .int) (rmL 2 0 0) [.ref hX, .int (nI d), .int (nI 5)] [bRP K hX hda hc hon hr ck, bDA K hda da, bD K (da d) h hi hb_ gd hd, bIn K hi ht hp pt du lt dr co] Unit (fun v _ => v = some (.int (nI dr))) (fun _ => [bRP K hX hda hc hon hr ck, bDA K hda da, bD K (da d) h hi hb_ gd hd, bIn K hi ht hp pt du lt dr co]) := by
  refine Mt.ofW [(0, .ref hX), (1, .int (nI d)), (2, .int (nI 5))] (by decide) rfl (Nat.le_of_ble_eq_true rfl) ?_
  intro p e s m args below meth c A ls H locs Qz hQ C hin hl ho
  have hx := C.1.1
  have hb := C.1.2.1
  refine lv_iload_n hx hb dX8_state_0 rfl (lv_at hl 1 rfl) ?_
  refine o_callS (wr := [bRP K hX hda hc hon hr ck, bDA K hda da, bD K (da d) h hi hb_ gd hd, bIn K hi ht hp pt du lt dr co]) (rest := []) (As := [.int (nI d)]) C (c_RP_isDev la D K d (by first | omega | assumption | (simp only [List.length_append, List.length_cons, List.length_nil, List.length_modify, List.length_set, nb_len, rb_len, rbp_len, sl_len, slN_len, wh_len, wt_len, hd10_len, hdB_len, thr_len, ldp_len, ldB_len, tens_len, whz_len, majL_len, mf_len, tkL_len, ldY_len, fif_len, ldY_len]; omega) | decide)) kX8_48 vX8_isDevice (by decide) rfl ho [0, 1, 2, 3] 4 (by decide +kernel) rfl rfl hl.1 rfl (Nat.le_of_ble_eq_true rfl) dX8_state_1 0 0 rfl rfl (by decide) (fun v u_1 H locs hq ho => ?_)
  obtain rfl := hq
  have ho : ow D vwCl A s.heap H locs [bRP K hX hda hc hon hr ck, bDA K hda da, bD K (da d) h hi hb_ gd hd, bIn K hi ht hp pt du lt dr co] := ho
  refine W.eq (g2 := F0 m 4 ls [.int (bI true)]) rfl ?_
  refine o_ifb_eq (tgt := 20) hx hb dX8_state_4 (by decide) (fun c9 => absurd c9 (by decide)) (fun _ => ?_)
  refine lv_aload_n hx hb dX8_state_7 rfl (lv_at hl 0 rfl) ?_
  refine o_get (v := .ref hda) C ho 0 0 rfl rfl rfl 0 fX8_11 rfl dX8_state_8 ?_
  refine lv_iload_n hx hb dX8_state_11 rfl (lv_at hl 1 rfl) ?_
  refine o_aald (v := (da d)) C ho 1 0 rfl rfl 2 rfl d rfl (by omega) (by omega) rfl dX8_state_12 ?_
  refine lv_iload_n hx hb dX8_state_13 rfl (lv_at hl 2 rfl) ?_
  refine o_callV (wr := [bRP K hX hda hc hon hr ck, bDA K hda da]) (rest := []) (As := [.int (nI 5)]) C (c_Dev_tell5 la D K (da d) hi hb_ gd hd h ht hp pt du lt dr co ) kX8_152 vX2_tell (by decide) rfl ho [2, 3, 0, 1] 4 (by decide +kernel) rfl rfl rfl rfl rfl hl.1 rfl (Nat.le_of_ble_eq_true rfl) dX8_state_14 0 0 rfl rfl (by decide) (fun v u_2 H locs hq ho => ?_)
  obtain rfl := hq
  have ho : ow D vwCl A s.heap H locs [bD K (da d) h hi hb_ gd hd, bIn K hi ht hp pt du lt dr co, bRP K hX hda hc hon hr ck, bDA K hda da] := ho
  refine W.eq (g2 := F0 m 17 ls [.int (nI dr)]) rfl ?_
  refine lv_goto (tgt := 21) hx hb dX8_state_17 (by decide) ?_
  have ho : ow D vwCl A s.heap H locs [bRP K hX hda hc hon hr ck, bDA K hda da, bD K (da d) h hi hb_ gd hd, bIn K hi ht hp pt du lt dr co] := ho.re [2, 3, 0, 1] 4 (by decide +kernel) rfl rfl
  exact o_iret hQ C rfl ho () rfl rfl (Nat.le_of_ble_eq_true rfl) (Nat.le_of_ble_eq_true rfl) dX8_state_21

set_option maxHeartbeats 4000000 in
set_option maxRecDepth 100000 in
theorem c_RP_state6 (la : Launch) (D : va_G) (K : Nat → ClassId) (hX : Nat) (hda : Nat) (hc : Nat) (hon : Nat) (hr : Nat) (ck : Nat) (da : Nat → Nat) (d : Nat) (hi : Nat) (hb_ : Nat) (gd : Bool) (hd : Bool) (h : Nat) (ht : Nat) (hp : Nat) (pt : Bool) (du : Nat) (lt : Bool) (dr : Nat) (co : Nat) (q2d : d < 2) : MT la D K yX8_state cX8_state 3 (some .int) (rmL 2 0 0) [.ref hX, .int (nI d), .int (nI 6)] [bRP K hX hda hc hon hr ck, bDA K hda da, bD K (da d) h hi hb_ gd hd, bIn K hi ht hp pt du lt dr co] Unit (fun v _ => v = some (.int (nI co))) (fun _ => [bRP K hX hda hc hon hr ck, bDA K hda da, bD K (da d) h hi hb_ gd hd, bIn K hi ht hp pt du lt dr co]) := by
  refine Mt.ofW [(0, .ref hX), (1, .int (nI d)), (2, .int (nI 6))] (by decide) rfl (Nat.le_of_ble_eq_true rfl) ?_
  intro p e s m args below meth c A ls H locs Qz hQ C hin hl ho
  have hx := C.1.1
  have hb := C.1.2.1
  refine lv_iload_n hx hb dX8_state_0 rfl (lv_at hl 1 rfl) ?_
  refine o_callS (wr := [bRP K hX hda hc hon hr ck, bDA K hda da, bD K (da d) h hi hb_ gd hd, bIn K hi ht hp pt du lt dr co]) (rest := []) (As := [.int (nI d)]) C (c_RP_isDev la D K d (by first | omega | assumption | (simp only [List.length_append, List.length_cons, List.length_nil, List.length_modify, List.length_set, nb_len, rb_len, rbp_len, sl_len, slN_len, wh_len, wt_len, hd10_len, hdB_len, thr_len, ldp_len, ldB_len, tens_len, whz_len, majL_len, mf_len, tkL_len, ldY_len, fif_len, ldY_len]; omega) | decide)) kX8_48 vX8_isDevice (by decide) rfl ho [0, 1, 2, 3] 4 (by decide +kernel) rfl rfl hl.1 rfl (Nat.le_of_ble_eq_true rfl) dX8_state_1 0 0 rfl rfl (by decide) (fun v u_1 H locs hq ho => ?_)
  obtain rfl := hq
  have ho : ow D vwCl A s.heap H locs [bRP K hX hda hc hon hr ck, bDA K hda da, bD K (da d) h hi hb_ gd hd, bIn K hi ht hp pt du lt dr co] := ho
  refine W.eq (g2 := F0 m 4 ls [.int (bI true)]) rfl ?_
  refine o_ifb_eq (tgt := 20) hx hb dX8_state_4 (by decide) (fun c9 => absurd c9 (by decide)) (fun _ => ?_)
  refine lv_aload_n hx hb dX8_state_7 rfl (lv_at hl 0 rfl) ?_
  refine o_get (v := .ref hda) C ho 0 0 rfl rfl rfl 0 fX8_11 rfl dX8_state_8 ?_
  refine lv_iload_n hx hb dX8_state_11 rfl (lv_at hl 1 rfl) ?_
  refine o_aald (v := (da d)) C ho 1 0 rfl rfl 2 rfl d rfl (by omega) (by omega) rfl dX8_state_12 ?_
  refine lv_iload_n hx hb dX8_state_13 rfl (lv_at hl 2 rfl) ?_
  refine o_callV (wr := [bRP K hX hda hc hon hr ck, bDA K hda da]) (rest := []) (As := [.int (nI 6)]) C (c_Dev_tell6 la D K (da d) hi hb_ gd hd h ht hp pt du lt dr co ) kX8_152 vX2_tell (by decide) rfl ho [2, 3, 0, 1] 4 (by decide +kernel) rfl rfl rfl rfl rfl hl.1 rfl (Nat.le_of_ble_eq_true rfl) dX8_state_14 0 0 rfl rfl (by decide) (fun v u_2 H locs hq ho => ?_)
  obtain rfl := hq
  have ho : ow D vwCl A s.heap H locs [bD K (da d) h hi hb_ gd hd, bIn K hi ht hp pt du lt dr co, bRP K hX hda hc hon hr ck, bDA K hda da] := ho
  refine W.eq (g2 := F0 m 17 ls [.int (nI co)]) rfl ?_
  refine lv_goto (tgt := 21) hx hb dX8_state_17 (by decide) ?_
  have ho : ow D vwCl A s.heap H locs [bRP K hX hda hc hon hr ck, bDA K hda da, bD K (da d) h hi hb_ gd hd, bIn K hi ht hp pt du lt dr co] := ho.re [2, 3, 0, 1] 4 (by decide +kernel) rfl rfl
  exact o_iret hQ C rfl ho () rfl rfl (Nat.le_of_ble_eq_true rfl) (Nat.le_of_ble_eq_true rfl) dX8_state_21

set_option maxHeartbeats 4000000 in
set_option maxRecDepth 100000 in
theorem c_RP_state7 (la : Launch) (D : va_G) (K : Nat → ClassId) (hX : Nat) (hda : Nat) (hc : Nat) (hon : Nat) (hr : Nat) (ck : Nat) (da : Nat → Nat) (d : Nat) (hi : Nat) (hb_ : Nat) (gd : Bool) (hd : Bool) (h : Nat) (hw : Nat) (hq : Nat) (hs : Nat) (hf : Nat) (fr : Nat) (fw : Bool) (gu : Bool) (tu : Bool) (q2d : d < 2) : MT la D K yX8_state cX8_state 3 (some .int) (rmL 2 0 0) [.ref hX, .int (nI d), .int (nI 7)] [bRP K hX hda hc hon hr ck, bDA K hda da, bD K (da d) h hi hb_ gd hd, bO K h hw hq hs hf fr fw gu tu] Unit (fun v _ => v = some (.int (bI tu))) (fun _ => [bRP K hX hda hc hon hr ck, bDA K hda da, bD K (da d) h hi hb_ gd hd, bO K h hw hq hs hf fr fw gu tu]) := by
  refine Mt.ofW [(0, .ref hX), (1, .int (nI d)), (2, .int (nI 7))] (by decide) rfl (Nat.le_of_ble_eq_true rfl) ?_
  intro p e s m args below meth c A ls H locs Qz hQ C hin hl ho
  have hx := C.1.1
  have hb := C.1.2.1
  refine lv_iload_n hx hb dX8_state_0 rfl (lv_at hl 1 rfl) ?_
  refine o_callS (wr := [bRP K hX hda hc hon hr ck, bDA K hda da, bD K (da d) h hi hb_ gd hd, bO K h hw hq hs hf fr fw gu tu]) (rest := []) (As := [.int (nI d)]) C (c_RP_isDev la D K d (by first | omega | assumption | (simp only [List.length_append, List.length_cons, List.length_nil, List.length_modify, List.length_set, nb_len, rb_len, rbp_len, sl_len, slN_len, wh_len, wt_len, hd10_len, hdB_len, thr_len, ldp_len, ldB_len, tens_len, whz_len, majL_len, mf_len, tkL_len, ldY_len, fif_len, ldY_len]; omega) | decide)) kX8_48 vX8_isDevice (by decide) rfl ho [0, 1, 2, 3] 4 (by decide +kernel) rfl rfl hl.1 rfl (Nat.le_of_ble_eq_true rfl) dX8_state_1 0 0 rfl rfl (by decide) (fun v u_1 H locs hq ho => ?_)
  obtain rfl := hq
  have ho : ow D vwCl A s.heap H locs [bRP K hX hda hc hon hr ck, bDA K hda da, bD K (da d) h hi hb_ gd hd, bO K h hw hq hs hf fr fw gu tu] := ho
  refine W.eq (g2 := F0 m 4 ls [.int (bI true)]) rfl ?_
  refine o_ifb_eq (tgt := 20) hx hb dX8_state_4 (by decide) (fun c9 => absurd c9 (by decide)) (fun _ => ?_)
  refine lv_aload_n hx hb dX8_state_7 rfl (lv_at hl 0 rfl) ?_
  refine o_get (v := .ref hda) C ho 0 0 rfl rfl rfl 0 fX8_11 rfl dX8_state_8 ?_
  refine lv_iload_n hx hb dX8_state_11 rfl (lv_at hl 1 rfl) ?_
  refine o_aald (v := (da d)) C ho 1 0 rfl rfl 2 rfl d rfl (by omega) (by omega) rfl dX8_state_12 ?_
  refine lv_iload_n hx hb dX8_state_13 rfl (lv_at hl 2 rfl) ?_
  refine o_callV (wr := [bRP K hX hda hc hon hr ck, bDA K hda da]) (rest := []) (As := [.int (nI 7)]) C (c_Dev_tell7 la D K (da d) hi hb_ gd hd h hw hq hs hf fr fw gu tu ) kX8_152 vX2_tell (by decide) rfl ho [2, 3, 0, 1] 4 (by decide +kernel) rfl rfl rfl rfl rfl hl.1 rfl (Nat.le_of_ble_eq_true rfl) dX8_state_14 0 0 rfl rfl (by decide) (fun v u_2 H locs hq ho => ?_)
  obtain rfl := hq
  have ho : ow D vwCl A s.heap H locs [bD K (da d) h hi hb_ gd hd, bO K h hw hq hs hf fr fw gu tu, bRP K hX hda hc hon hr ck, bDA K hda da] := ho
  refine W.eq (g2 := F0 m 17 ls [.int (bI tu)]) rfl ?_
  refine lv_goto (tgt := 21) hx hb dX8_state_17 (by decide) ?_
  have ho : ow D vwCl A s.heap H locs [bRP K hX hda hc hon hr ck, bDA K hda da, bD K (da d) h hi hb_ gd hd, bO K h hw hq hs hf fr fw gu tu] := ho.re [2, 3, 0, 1] 4 (by decide +kernel) rfl rfl
  exact o_iret hQ C rfl ho () rfl rfl (Nat.le_of_ble_eq_true rfl) (Nat.le_of_ble_eq_true rfl) dX8_state_21

set_option maxHeartbeats 4000000 in
set_option maxRecDepth 100000 in
theorem c_RP_state8 (la : Launch) (D : va_G) (K : Nat → ClassId) (hX : Nat) (hda : Nat) (hc : Nat) (hon : Nat) (hr : Nat) (ck : Nat) (da : Nat → Nat) (d : Nat) (hi : Nat) (hb_ : Nat) (gd : Bool) (hd : Bool) (h : Nat) (q2d : d < 2) : MT la D K yX8_state cX8_state 3 (some .int) (rmL 2 0 0) [.ref hX, .int (nI d), .int (nI 8)] [bRP K hX hda hc hon hr ck, bDA K hda da, bD K (da d) h hi hb_ gd hd] Unit (fun v _ => v = some (.int (bI gd))) (fun _ => [bRP K hX hda hc hon hr ck, bDA K hda da, bD K (da d) h hi hb_ gd hd]) := by
  refine Mt.ofW [(0, .ref hX), (1, .int (nI d)), (2, .int (nI 8))] (by decide) rfl (Nat.le_of_ble_eq_true rfl) ?_
  intro p e s m args below meth c A ls H locs Qz hQ C hin hl ho
  have hx := C.1.1
  have hb := C.1.2.1
  refine lv_iload_n hx hb dX8_state_0 rfl (lv_at hl 1 rfl) ?_
  refine o_callS (wr := [bRP K hX hda hc hon hr ck, bDA K hda da, bD K (da d) h hi hb_ gd hd]) (rest := []) (As := [.int (nI d)]) C (c_RP_isDev la D K d (by first | omega | assumption | (simp only [List.length_append, List.length_cons, List.length_nil, List.length_modify, List.length_set, nb_len, rb_len, rbp_len, sl_len, slN_len, wh_len, wt_len, hd10_len, hdB_len, thr_len, ldp_len, ldB_len, tens_len, whz_len, majL_len, mf_len, tkL_len, ldY_len, fif_len, ldY_len]; omega) | decide)) kX8_48 vX8_isDevice (by decide) rfl ho [0, 1, 2] 3 (by decide +kernel) rfl rfl hl.1 rfl (Nat.le_of_ble_eq_true rfl) dX8_state_1 0 0 rfl rfl (by decide) (fun v u_1 H locs hq ho => ?_)
  obtain rfl := hq
  have ho : ow D vwCl A s.heap H locs [bRP K hX hda hc hon hr ck, bDA K hda da, bD K (da d) h hi hb_ gd hd] := ho
  refine W.eq (g2 := F0 m 4 ls [.int (bI true)]) rfl ?_
  refine o_ifb_eq (tgt := 20) hx hb dX8_state_4 (by decide) (fun c9 => absurd c9 (by decide)) (fun _ => ?_)
  refine lv_aload_n hx hb dX8_state_7 rfl (lv_at hl 0 rfl) ?_
  refine o_get (v := .ref hda) C ho 0 0 rfl rfl rfl 0 fX8_11 rfl dX8_state_8 ?_
  refine lv_iload_n hx hb dX8_state_11 rfl (lv_at hl 1 rfl) ?_
  refine o_aald (v := (da d)) C ho 1 0 rfl rfl 2 rfl d rfl (by omega) (by omega) rfl dX8_state_12 ?_
  refine lv_iload_n hx hb dX8_state_13 rfl (lv_at hl 2 rfl) ?_
  refine o_callV (wr := [bRP K hX hda hc hon hr ck, bDA K hda da]) (rest := []) (As := [.int (nI 8)]) C (c_Dev_tell8 la D K (da d) hi hb_ gd hd h ) kX8_152 vX2_tell (by decide) rfl ho [2, 0, 1] 3 (by decide +kernel) rfl rfl rfl rfl rfl hl.1 rfl (Nat.le_of_ble_eq_true rfl) dX8_state_14 0 0 rfl rfl (by decide) (fun v u_2 H locs hq ho => ?_)
  obtain rfl := hq
  have ho : ow D vwCl A s.heap H locs [bD K (da d) h hi hb_ gd hd, bRP K hX hda hc hon hr ck, bDA K hda da] := ho
  refine W.eq (g2 := F0 m 17 ls [.int (bI gd)]) rfl ?_
  refine lv_goto (tgt := 21) hx hb dX8_state_17 (by decide) ?_
  have ho : ow D vwCl A s.heap H locs [bRP K hX hda hc hon hr ck, bDA K hda da, bD K (da d) h hi hb_ gd hd] := ho.re [1, 2, 0] 3 (by decide +kernel) rfl rfl
  exact o_iret hQ C rfl ho () rfl rfl (Nat.le_of_ble_eq_true rfl) (Nat.le_of_ble_eq_true rfl) dX8_state_21

set_option maxHeartbeats 4000000 in
set_option maxRecDepth 100000 in
theorem c_RP_state9 (la : Launch) (D : va_G) (K : Nat → ClassId) (hX : Nat) (hda : Nat) (hc : Nat) (hon : Nat) (hr : Nat) (ck : Nat) (da : Nat → Nat) (d : Nat) (hi : Nat) (hb_ : Nat) (gd : Bool) (hd : Bool) (h : Nat) (q2d : d < 2) : MT la D K yX8_state cX8_state 3 (some .int) (rmL 2 0 0) [.ref hX, .int (nI d), .int (nI 9)] [bRP K hX hda hc hon hr ck, bDA K hda da, bD K (da d) h hi hb_ gd hd] Unit (fun v _ => v = some (.int (bI hd))) (fun _ => [bRP K hX hda hc hon hr ck, bDA K hda da, bD K (da d) h hi hb_ gd hd]) := by
  refine Mt.ofW [(0, .ref hX), (1, .int (nI d)), (2, .int (nI 9))] (by decide) rfl (Nat.le_of_ble_eq_true rfl) ?_
  intro p e s m args below meth c A ls H locs Qz hQ C hin hl ho
  have hx := C.1.1
  have hb := C.1.2.1
  refine lv_iload_n hx hb dX8_state_0 rfl (lv_at hl 1 rfl) ?_
  refine o_callS (wr := [bRP K hX hda hc hon hr ck, bDA K hda da, bD K (da d) h hi hb_ gd hd]) (rest := []) (As := [.int (nI d)]) C (c_RP_isDev la D K d (by first | omega | assumption | (simp only [List.length_append, List.length_cons, List.length_nil, List.length_modify, List.length_set, nb_len, rb_len, rbp_len, sl_len, slN_len, wh_len, wt_len, hd10_len, hdB_len, thr_len, ldp_len, ldB_len, tens_len, whz_len, majL_len, mf_len, tkL_len, ldY_len, fif_len, ldY_len]; omega) | decide)) kX8_48 vX8_isDevice (by decide) rfl ho [0, 1, 2] 3 (by decide +kernel) rfl rfl hl.1 rfl (Nat.le_of_ble_eq_true rfl) dX8_state_1 0 0 rfl rfl (by decide) (fun v u_1 H locs hq ho => ?_)
  obtain rfl := hq
  have ho : ow D vwCl A s.heap H locs [bRP K hX hda hc hon hr ck, bDA K hda da, bD K (da d) h hi hb_ gd hd] := ho
  refine W.eq (g2 := F0 m 4 ls [.int (bI true)]) rfl ?_
  refine o_ifb_eq (tgt := 20) hx hb dX8_state_4 (by decide) (fun c9 => absurd c9 (by decide)) (fun _ => ?_)
  refine lv_aload_n hx hb dX8_state_7 rfl (lv_at hl 0 rfl) ?_
  refine o_get (v := .ref hda) C ho 0 0 rfl rfl rfl 0 fX8_11 rfl dX8_state_8 ?_
  refine lv_iload_n hx hb dX8_state_11 rfl (lv_at hl 1 rfl) ?_
  refine o_aald (v := (da d)) C ho 1 0 rfl rfl 2 rfl d rfl (by omega) (by omega) rfl dX8_state_12 ?_
  refine lv_iload_n hx hb dX8_state_13 rfl (lv_at hl 2 rfl) ?_
  refine o_callV (wr := [bRP K hX hda hc hon hr ck, bDA K hda da]) (rest := []) (As := [.int (nI 9)]) C (c_Dev_tell9 la D K (da d) hi hb_ gd hd h ) kX8_152 vX2_tell (by decide) rfl ho [2, 0, 1] 3 (by decide +kernel) rfl rfl rfl rfl rfl hl.1 rfl (Nat.le_of_ble_eq_true rfl) dX8_state_14 0 0 rfl rfl (by decide) (fun v u_2 H locs hq ho => ?_)
  obtain rfl := hq
  have ho : ow D vwCl A s.heap H locs [bD K (da d) h hi hb_ gd hd, bRP K hX hda hc hon hr ck, bDA K hda da] := ho
  refine W.eq (g2 := F0 m 17 ls [.int (bI hd)]) rfl ?_
  refine lv_goto (tgt := 21) hx hb dX8_state_17 (by decide) ?_
  have ho : ow D vwCl A s.heap H locs [bRP K hX hda hc hon hr ck, bDA K hda da, bD K (da d) h hi hb_ gd hd] := ho.re [1, 2, 0] 3 (by decide +kernel) rfl rfl
  exact o_iret hQ C rfl ho () rfl rfl (Nat.le_of_ble_eq_true rfl) (Nat.le_of_ble_eq_true rfl) dX8_state_21

set_option maxHeartbeats 4000000 in
set_option maxRecDepth 100000 in
theorem c_RP_count0 (la : Launch) (D : va_G) (K : Nat → ClassId) (hX : Nat) (hda : Nat) (hc : Nat) (hon : Nat) (hr : Nat) (ck : Nat)  : MT la D K yX8_count cX8_count 2 (some .int) (rmL 1 0 0) [.ref hX, .int (nI 0)] [bRP K hX hda hc hon hr ck] Unit (fun v _ => v = some (.int (nI ck))) (fun _ => [bRP K hX hda hc hon hr ck]) := by
  refine Mt.ofW [(0, .ref hX), (1, .int (nI 0))] (by decide) rfl (Nat.le_of_ble_eq_true rfl) ?_
  intro p e s m args below meth c A ls H locs Qz hQ C hin hl ho
  have hx := C.1.1
  have hb := C.1.2.1
  refine lv_iload_n hx hb dX8_count_0 rfl (lv_at hl 1 rfl) ?_
  refine lv_tableIn (off := 31) (tgt := 32) hx hb dX8_count_1 (by decide) (by decide) rfl (by decide) ?_
  refine lv_aload_n hx hb dX8_count_32 rfl (lv_at hl 0 rfl) ?_
  refine o_get (v := .int (nI ck)) C ho 0 0 rfl rfl rfl 4 fX8_103 rfl dX8_count_33 ?_
  exact o_iret hQ C rfl ho () rfl rfl (Nat.le_of_ble_eq_true rfl) (Nat.le_of_ble_eq_true rfl) dX8_count_36

set_option maxHeartbeats 4000000 in
set_option maxRecDepth 100000 in
theorem c_RP_count1 (la : Launch) (D : va_G) (K : Nat → ClassId) (hX : Nat) (hda : Nat) (hc : Nat) (hon : Nat) (hr : Nat) (ck : Nat) (eo : Nat) (air : List Bool) (xo : Nat → Int32)  : MT la D K yX8_count cX8_count 2 (some .int) (rmL 1 0 0) [.ref hX, .int (nI 1)] [bRP K hX hda hc hon hr ck, bB K hon eo 204 air xo] Unit (fun v _ => v = some (.int (nI air.length))) (fun _ => [bRP K hX hda hc hon hr ck, bB K hon eo 204 air xo]) := by
  refine Mt.ofW [(0, .ref hX), (1, .int (nI 1))] (by decide) rfl (Nat.le_of_ble_eq_true rfl) ?_
  intro p e s m args below meth c A ls H locs Qz hQ C hin hl ho
  have hx := C.1.1
  have hb := C.1.2.1
  refine lv_iload_n hx hb dX8_count_0 rfl (lv_at hl 1 rfl) ?_
  refine lv_tableIn (off := 36) (tgt := 37) hx hb dX8_count_1 (by decide) (by decide) rfl (by decide) ?_
  refine lv_aload_n hx hb dX8_count_37 rfl (lv_at hl 0 rfl) ?_
  refine o_get (v := .ref hon) C ho 0 0 rfl rfl rfl 2 fX8_37 rfl dX8_count_38 ?_
  refine o_get (v := .int (nI air.length)) C ho 1 0 rfl rfl rfl 1 fX8_123 rfl dX8_count_41 ?_
  exact o_iret hQ C rfl ho () rfl rfl (Nat.le_of_ble_eq_true rfl) (Nat.le_of_ble_eq_true rfl) dX8_count_44

set_option maxHeartbeats 4000000 in
set_option maxRecDepth 100000 in
theorem c_RP_count2 (la : Launch) (D : va_G) (K : Nat → ClassId) (hX : Nat) (hda : Nat) (hc : Nat) (hon : Nat) (hr : Nat) (ck : Nat) (da : Nat → Nat) (hi : Nat) (hb_ : Nat) (gd : Bool) (hd : Bool) (h : Nat) (hw : Nat) (hq : Nat) (hs : Nat) (hf : Nat) (fr : Nat) (fw : Bool) (gu : Bool) (tu : Bool) (aw : Nat) (wr : List Nat) (gw : Nat → Int32)  : MT la D K yX8_count cX8_count 2 (some .int) (rmL 1 0 0) [.ref hX, .int (nI 2)] [bRP K hX hda hc hon hr ck, bDA K hda da, bD K (da 0) h hi hb_ gd hd, bO K h hw hq hs hf fr fw gu tu, bM K hw aw 40 wr gw] Unit (fun v _ => v = some (.int (nI wr.length))) (fun _ => [bRP K hX hda hc hon hr ck, bDA K hda da, bD K (da 0) h hi hb_ gd hd, bO K h hw hq hs hf fr fw gu tu, bM K hw aw 40 wr gw]) := by
  refine Mt.ofW [(0, .ref hX), (1, .int (nI 2))] (by decide) rfl (Nat.le_of_ble_eq_true rfl) ?_
  intro p e s m args below meth c A ls H locs Qz hQ C hin hl ho
  have hx := C.1.1
  have hb := C.1.2.1
  refine lv_iload_n hx hb dX8_count_0 rfl (lv_at hl 1 rfl) ?_
  refine lv_tableIn (off := 44) (tgt := 45) hx hb dX8_count_1 (by decide) (by decide) rfl (by decide) ?_
  refine lv_aload_n hx hb dX8_count_45 rfl (lv_at hl 0 rfl) ?_
  refine o_get (v := .ref hda) C ho 0 0 rfl rfl rfl 0 fX8_11 rfl dX8_count_46 ?_
  refine lv_iconst (v := nI 0) hx hb dX8_count_49 (by decide) ?_
  refine o_aald (v := (da 0)) C ho 1 0 rfl rfl 2 rfl 0 rfl (by omega) (by omega) rfl dX8_count_50 ?_
  refine o_get (v := .ref h) C ho 2 0 rfl rfl rfl 0 fX8_52 rfl dX8_count_51 ?_
  refine o_get (v := .ref hw) C ho 3 0 rfl rfl rfl 0 fX8_62 rfl dX8_count_54 ?_
  refine o_get (v := .int (nI wr.length)) C ho 4 0 rfl rfl rfl 1 fX8_75 rfl dX8_count_57 ?_
  exact o_iret hQ C rfl ho () rfl rfl (Nat.le_of_ble_eq_true rfl) (Nat.le_of_ble_eq_true rfl) dX8_count_60

set_option maxHeartbeats 4000000 in
set_option maxRecDepth 100000 in
theorem c_RP_count3 (la : Launch) (D : va_G) (K : Nat → ClassId) (hX : Nat) (hda : Nat) (hc : Nat) (hon : Nat) (hr : Nat) (ck : Nat) (da : Nat → Nat) (hi : Nat) (hb_ : Nat) (gd : Bool) (hd : Bool) (h : Nat) (hw : Nat) (hq : Nat) (hs : Nat) (hf : Nat) (fr : Nat) (fw : Bool) (gu : Bool) (tu : Bool) (aw : Nat) (wr : List Nat) (gw : Nat → Int32)  : MT la D K yX8_count cX8_count 2 (some .int) (rmL 1 0 0) [.ref hX, .int (nI 3)] [bRP K hX hda hc hon hr ck, bDA K hda da, bD K (da 1) h hi hb_ gd hd, bO K h hw hq hs hf fr fw gu tu, bM K hw aw 40 wr gw] Unit (fun v _ => v = some (.int (nI wr.length))) (fun _ => [bRP K hX hda hc hon hr ck, bDA K hda da, bD K (da 1) h hi hb_ gd hd, bO K h hw hq hs hf fr fw gu tu, bM K hw aw 40 wr gw]) := by
  refine Mt.ofW [(0, .ref hX), (1, .int (nI 3))] (by decide) rfl (Nat.le_of_ble_eq_true rfl) ?_
  intro p e s m args below meth c A ls H locs Qz hQ C hin hl ho
  have hx := C.1.1
  have hb := C.1.2.1
  refine lv_iload_n hx hb dX8_count_0 rfl (lv_at hl 1 rfl) ?_
  refine lv_tableIn (off := 60) (tgt := 61) hx hb dX8_count_1 (by decide) (by decide) rfl (by decide) ?_
  refine lv_aload_n hx hb dX8_count_61 rfl (lv_at hl 0 rfl) ?_
  refine o_get (v := .ref hda) C ho 0 0 rfl rfl rfl 0 fX8_11 rfl dX8_count_62 ?_
  refine lv_iconst (v := nI 1) hx hb dX8_count_65 (by decide) ?_
  refine o_aald (v := (da 1)) C ho 1 0 rfl rfl 2 rfl 1 rfl (by omega) (by omega) rfl dX8_count_66 ?_
  refine o_get (v := .ref h) C ho 2 0 rfl rfl rfl 0 fX8_52 rfl dX8_count_67 ?_
  refine o_get (v := .ref hw) C ho 3 0 rfl rfl rfl 0 fX8_62 rfl dX8_count_70 ?_
  refine o_get (v := .int (nI wr.length)) C ho 4 0 rfl rfl rfl 1 fX8_75 rfl dX8_count_73 ?_
  exact o_iret hQ C rfl ho () rfl rfl (Nat.le_of_ble_eq_true rfl) (Nat.le_of_ble_eq_true rfl) dX8_count_76

set_option maxHeartbeats 4000000 in
set_option maxRecDepth 100000 in
theorem c_RP_countX (la : Launch) (D : va_G) (K : Nat → ClassId) (hX : Nat) (hda : Nat) (hc : Nat) (hon : Nat) (hr : Nat) (ck : Nat) (x : Int32) (qx : x.toInt < 0 ∨ 3 < x.toInt) : MT la D K yX8_count cX8_count 2 (some .int) (rmL 1 0 0) [.ref hX, .int x] [bRP K hX hda hc hon hr ck] Unit (fun v _ => v = some (.int (-1))) (fun _ => [bRP K hX hda hc hon hr ck]) := by
  refine Mt.ofW [(0, .ref hX), (1, .int x)] (by decide) rfl (Nat.le_of_ble_eq_true rfl) ?_
  intro p e s m args below meth c A ls H locs Qz hQ C hin hl ho
  have hx := C.1.1
  have hb := C.1.2.1
  refine lv_iload_n hx hb dX8_count_0 rfl (lv_at hl 1 rfl) ?_
  refine lv_tableOut (tgt := 77) hx hb dX8_count_1 qx (by decide) ?_
  refine lv_iconst (v := (-1)) hx hb dX8_count_77 (by decide) ?_
  exact o_iret hQ C rfl ho () rfl rfl (Nat.le_of_ble_eq_true rfl) (Nat.le_of_ble_eq_true rfl) dX8_count_78
