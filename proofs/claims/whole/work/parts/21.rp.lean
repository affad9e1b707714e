set_option maxHeartbeats 4000000 in
set_option maxRecDepth 100000 in
theorem c_RP_isDev (la : Launch) (D : va_G) (K : Nat → ClassId) (d : Nat) (q2d : d < 2) : MT la D K yX8_isDevice cX8_isDevice 1 (some .boolean) (rmL 1 0 0) [.int (nI d)] [] Unit (fun v _ => v = some (.int (bI true))) (fun _ => []) := by
  refine Mt.ofW [(0, .int (nI d))] (by decide) rfl (Nat.le_of_ble_eq_true rfl) ?_
  intro p e s m args below meth c A ls H locs Qz hQ C hin hl ho
  have hx := C.1.1
  have hb := C.1.2.1
  refine lv_iload_n hx hb dX8_isDevice_0 rfl (lv_at hl 0 rfl) ?_
  refine o_if_lt (tgt := 13) hx hb dX8_isDevice_1 (by decide) (by omega) ?_
  refine lv_iload_n hx hb dX8_isDevice_4 rfl (lv_at hl 0 rfl) ?_
  refine lv_iconst (v := nI 2) hx hb dX8_isDevice_5 (by decide) ?_
  refine o_icmp_ge (tgt := 13) hx hb dX8_isDevice_6 (by decide) (by first | omega | exact and1_lt _) (by first | omega | exact and1_lt _) (fun c_1 => ?_) (fun c_1 => ?_)
  · skip
    exact absurd c_1 (by omega)
  · skip
    refine lv_iconst (v := nI 1) hx hb dX8_isDevice_9 (by decide) ?_
    refine lv_goto (tgt := 14) hx hb dX8_isDevice_10 (by decide) ?_
    exact o_iret hQ C rfl ho () rfl rfl (Nat.le_of_ble_eq_true rfl) (Nat.le_of_ble_eq_true rfl) dX8_isDevice_14

set_option maxHeartbeats 4000000 in
set_option maxRecDepth 100000 in
theorem c_RP_isDevNo (la : Launch) (D : va_G) (K : Nat → ClassId) (x : Int32) (qx : hasI 2 x = false) : MT la D K yX8_isDevice cX8_isDevice 1 (some .boolean) (rmL 1 0 0) [.int x] [] Unit (fun v _ => v = some (.int (bI false))) (fun _ => []) := by
  refine Mt.ofW [(0, .int x)] (by decide) rfl (Nat.le_of_ble_eq_true rfl) ?_
  intro p e s m args below meth c A ls H locs Qz hQ C hin hl ho
  have hx := C.1.1
  have hb := C.1.2.1
  refine lv_iload_n hx hb dX8_isDevice_0 rfl (lv_at hl 0 rfl) ?_
  refine lv_if_lt (tgt := 13) hx hb dX8_isDevice_1 (by decide) (fun c_1 => ?_) (fun c_1 => ?_)
  · skip
    refine lv_iconst (v := nI 0) hx hb dX8_isDevice_13 (by decide) ?_
    exact o_iret hQ C rfl ho () rfl rfl (Nat.le_of_ble_eq_true rfl) (Nat.le_of_ble_eq_true rfl) dX8_isDevice_14
  · skip
    refine lv_iload_n hx hb dX8_isDevice_4 rfl (lv_at hl 0 rfl) ?_
    refine lv_iconst (v := nI 2) hx hb dX8_isDevice_5 (by decide) ?_
    refine lv_icmp_ge (tgt := 13) hx hb dX8_isDevice_6 (by decide) (fun c_2 => ?_) (fun c_2 => ?_)
    · skip
      refine lv_iconst (v := nI 0) hx hb dX8_isDevice_13 (by decide) ?_
      exact o_iret hQ C rfl ho () rfl rfl (Nat.le_of_ble_eq_true rfl) (Nat.le_of_ble_eq_true rfl) dX8_isDevice_14
    · skip
      exact absurd (qx.symm.trans (hasI_in c_1 c_2)) (by decide)

set_option maxHeartbeats 4000000 in
set_option maxRecDepth 100000 in
theorem c_RP_turn (la : Launch) (D : va_G) (K : Nat → ClassId) (hX : Nat) (hda : Nat) (hc : Nat) (hon : Nat) (hr : Nat) (ck : Nat)  : MT la D K yX8_deviceOfTurn cX8_deviceOfTurn 1 (some .int) (rmL 1 0 0) [.ref hX] [bRP K hX hda hc hon hr ck] Unit (fun v _ => v = some (.int (nI (ck % 2)))) (fun _ => [bRP K hX hda hc hon hr ck]) := by
  refine Mt.ofW [(0, .ref hX)] (by decide) rfl (Nat.le_of_ble_eq_true rfl) ?_
  intro p e s m args below meth c A ls H locs Qz hQ C hin hl ho
  have hx := C.1.1
  have hb := C.1.2.1
  refine lv_aload_n hx hb dX8_deviceOfTurn_0 rfl (lv_at hl 0 rfl) ?_
  refine o_get (v := .int (nI ck)) C ho 0 0 rfl rfl rfl 4 fX8_103 rfl dX8_deviceOfTurn_1 ?_
  refine lv_iconst (v := nI 1) hx hb dX8_deviceOfTurn_4 (by decide) ?_
  refine o_and hx hb dX8_deviceOfTurn_5 ?_
  exact o_iret hQ C rfl ho () (by rw [Nat.and_one_is_mod]) rfl (Nat.le_of_ble_eq_true rfl) (Nat.le_of_ble_eq_true rfl) dX8_deviceOfTurn_6

set_option maxHeartbeats 4000000 in
set_option maxRecDepth 100000 in
theorem c_RP_guardX (la : Launch) (D : va_G) (K : Nat → ClassId) (hX : Nat) (hda : Nat) (hc : Nat) (hon : Nat) (hr : Nat) (ck : Nat) (x : Int32) (on : Bool) (qx : hasI 2 x = false) : MT la D K yX8_guard cX8_guard 3 (some .int) (rmL 2 0 0) [.ref hX, .int x, .int (bI on)] [bRP K hX hda hc hon hr ck] Unit (fun v _ => v = some (.int (-1))) (fun _ => [bRP K hX hda hc hon hr ck]) := by
  refine Mt.ofW [(0, .ref hX), (1, .int x), (2, .int (bI on))] (by decide) rfl (Nat.le_of_ble_eq_true rfl) ?_
  intro p e s m args below meth c A ls H locs Qz hQ C hin hl ho
  have hx := C.1.1
  have hb := C.1.2.1
  refine lv_iload_n hx hb dX8_guard_0 rfl (lv_at hl 1 rfl) ?_
  refine o_callS (wr := [bRP K hX hda hc hon hr ck]) (rest := []) (As := [.int x]) C (c_RP_isDevNo la D K x (by first | omega | assumption | (simp only [List.length_append, List.length_cons, List.length_nil, List.length_modify, List.length_set, nb_len, rb_len, rbp_len, sl_len, slN_len, wh_len, wt_len, hd10_len, hdB_len, thr_len, ldp_len, ldB_len, tens_len, whz_len, majL_len, mf_len, tkL_len, ldY_len, fif_len, ldY_len]; omega) | decide)) kX8_48 vX8_isDevice (by decide) rfl ho [0] 1 (by decide +kernel) rfl rfl hl.1 rfl (Nat.le_of_ble_eq_true rfl) dX8_guard_1 0 0 rfl rfl (by decide) (fun v u_1 H locs hq ho => ?_)
  obtain rfl := hq
  have ho : ow D vwCl A s.heap H locs [bRP K hX hda hc hon hr ck] := ho
  refine W.eq (g2 := F0 m 4 ls [.int (bI false)]) rfl ?_
  refine o_ifb_ne (tgt := 9) hx hb dX8_guard_4 (by decide) (fun c9 => absurd c9 (by decide)) (fun _ => ?_)
  refine lv_iconst (v := (-1)) hx hb dX8_guard_7 (by decide) ?_
  exact o_iret hQ C rfl ho () rfl rfl (Nat.le_of_ble_eq_true rfl) (Nat.le_of_ble_eq_true rfl) dX8_guard_8

set_option maxHeartbeats 4000000 in
set_option maxRecDepth 100000 in
theorem c_RP_guard (la : Launch) (D : va_G) (K : Nat → ClassId) (hX : Nat) (hda : Nat) (hc : Nat) (hon : Nat) (hr : Nat) (ck : Nat) (da : Nat → Nat) (d : Nat) (hi : Nat) (hb_ : Nat) (gd : Bool) (hd : Bool) (h : Nat) (hw : Nat) (hq : Nat) (hs : Nat) (hf : Nat) (fr : Nat) (fw : Bool) (gu : Bool) (tu : Bool) (on : Bool) (q2d : d < 2) : MT la D K yX8_guard cX8_guard 3 (some .int) (rmL 2 0 0) [.ref hX, .int (nI d), .int (bI on)] [bRP K hX hda hc hon hr ck, bDA K hda da, bD K (da d) h hi hb_ gd hd, bO K h hw hq hs hf fr fw gu tu] Unit (fun v _ => v = some (.int (nI 0))) (fun _ => [bRP K hX hda hc hon hr ck, bDA K hda da, bD K (da d) h hi hb_ gd hd, bO K h hw hq hs hf fr fw on tu]) := by
  refine Mt.ofW [(0, .ref hX), (1, .int (nI d)), (2, .int (bI on))] (by decide) rfl (Nat.le_of_ble_eq_true rfl) ?_
  intro p e s m args below meth c A ls H locs Qz hQ C hin hl ho
  have hx := C.1.1
  have hb := C.1.2.1
  refine lv_iload_n hx hb dX8_guard_0 rfl (lv_at hl 1 rfl) ?_
  refine o_callS (wr := [bRP K hX hda hc hon hr ck, bDA K hda da, bD K (da d) h hi hb_ gd hd, bO K h hw hq hs hf fr fw gu tu]) (rest := []) (As := [.int (nI d)]) C (c_RP_isDev la D K d (by first | omega | assumption | (simp only [List.length_append, List.length_cons, List.length_nil, List.length_modify, List.length_set, nb_len, rb_len, rbp_len, sl_len, slN_len, wh_len, wt_len, hd10_len, hdB_len, thr_len, ldp_len, ldB_len, tens_len, whz_len, majL_len, mf_len, tkL_len, ldY_len, fif_len, ldY_len]; omega) | decide)) kX8_48 vX8_isDevice (by decide) rfl ho [0, 1, 2, 3] 4 (by decide +kernel) rfl rfl hl.1 rfl (Nat.le_of_ble_eq_true rfl) dX8_guard_1 0 0 rfl rfl (by decide) (fun v u_1 H locs hq ho => ?_)
  obtain rfl := hq
  have ho : ow D vwCl A s.heap H locs [bRP K hX hda hc hon hr ck, bDA K hda da, bD K (da d) h hi hb_ gd hd, bO K h hw hq hs hf fr fw gu tu] := ho
  refine W.eq (g2 := F0 m 4 ls [.int (bI true)]) rfl ?_
  refine o_ifb_ne (tgt := 9) hx hb dX8_guard_4 (by decide) (fun _ => ?_) (fun c9 => absurd c9 (by decide))
  refine lv_aload_n hx hb dX8_guard_9 rfl (lv_at hl 0 rfl) ?_
  refine o_get (v := .ref hda) C ho 0 0 rfl rfl rfl 0 fX8_11 rfl dX8_guard_10 ?_
  refine lv_iload_n hx hb dX8_guard_13 rfl (lv_at hl 1 rfl) ?_
  refine o_aald (v := (da d)) C ho 1 0 rfl rfl 2 rfl d rfl (by omega) (by omega) rfl dX8_guard_14 ?_
  refine o_get (v := .ref h) C ho 2 0 rfl rfl rfl 0 fX8_52 rfl dX8_guard_15 ?_
  refine lv_iload_n hx hb dX8_guard_18 rfl (lv_at hl 2 rfl) ?_
  refine o_put (v := .int (bI on)) (bs' := [bRP K hX hda hc hon hr ck, bDA K hda da, bD K (da d) h hi hb_ gd hd, bO K h hw hq hs hf fr fw on tu]) C ho 3 0 rfl rfl rfl 6 fX8_56 pX7_6 (nar_b _) (fit_b _) (Nat.le_of_ble_eq_true rfl) dX8_guard_19 rfl (fun H locs ho => ?_)
  refine lv_iconst (v := nI 0) hx hb dX8_guard_22 (by decide) ?_
  exact o_iret hQ C rfl ho () rfl rfl (Nat.le_of_ble_eq_true rfl) (Nat.le_of_ble_eq_true rfl) dX8_guard_23

set_option maxHeartbeats 4000000 in
set_option maxRecDepth 100000 in
theorem c_RP_writeX (la : Launch) (D : va_G) (K : Nat → ClassId) (hX : Nat) (hda : Nat) (hc : Nat) (hon : Nat) (hr : Nat) (ck : Nat) (x : Int32) (b : Int32) (qx : hasI 2 x = false) : MT la D K yX8_write cX8_write 4 (some .int) (rmL 2 0 0) [.ref hX, .int x, .int b] [bRP K hX hda hc hon hr ck] Unit (fun v _ => v = some (.int (-1))) (fun _ => [bRP K hX hda hc hon hr ck]) := by
  refine Mt.ofW [(0, .ref hX), (1, .int x), (2, .int b)] (by decide) rfl (Nat.le_of_ble_eq_true rfl) ?_
  intro p e s m args below meth c A ls H locs Qz hQ C hin hl ho
  have hx := C.1.1
  have hb := C.1.2.1
  refine lv_iload_n hx hb dX8_write_0 rfl (lv_at hl 1 rfl) ?_
  refine o_callS (wr := [bRP K hX hda hc hon hr ck]) (rest := []) (As := [.int x]) C (c_RP_isDevNo la D K x (by first | omega | assumption | (simp only [List.length_append, List.length_cons, List.length_nil, List.length_modify, List.length_set, nb_len, rb_len, rbp_len, sl_len, slN_len, wh_len, wt_len, hd10_len, hdB_len, thr_len, ldp_len, ldB_len, tens_len, whz_len, majL_len, mf_len, tkL_len, ldY_len, fif_len, ldY_len]; omega) | decide)) kX8_48 vX8_isDevice (by decide) rfl ho [0] 1 (by decide +kernel) rfl rfl hl.1 rfl (Nat.le_of_ble_eq_true rfl) dX8_write_1 0 0 rfl rfl (by decide) (fun v u_1 H locs hq ho => ?_)
  obtain rfl := hq
  have ho : ow D vwCl A s.heap H locs [bRP K hX hda hc hon hr ck] := ho
  refine W.eq (g2 := F0 m 4 ls [.int (bI false)]) rfl ?_
  refine o_ifb_eq (tgt := 18) hx hb dX8_write_4 (by decide) (fun _ => ?_) (fun c9 => absurd c9 (by decide))
  refine lv_iconst (v := (-1)) hx hb dX8_write_18 (by decide) ?_
  exact o_iret hQ C rfl ho () rfl rfl (Nat.le_of_ble_eq_true rfl) (Nat.le_of_ble_eq_true rfl) dX8_write_19

set_option maxHeartbeats 4000000 in
set_option maxRecDepth 100000 in
theorem c_RP_writeB (la : Launch) (D : va_G) (K : Nat → ClassId) (hX : Nat) (hda : Nat) (hc : Nat) (hon : Nat) (hr : Nat) (ck : Nat) (d : Nat) (b : Int32) (q2d : d < 2) (qb : b < 0 ∨ nI 255 < b) : MT la D K yX8_write cX8_write 4 (some .int) (rmL 2 0 0) [.ref hX, .int (nI d), .int b] [bRP K hX hda hc hon hr ck] Unit (fun v _ => v = some (.int (-1))) (fun _ => [bRP K hX hda hc hon hr ck]) := by
  refine Mt.ofW [(0, .ref hX), (1, .int (nI d)), (2, .int b)] (by decide) rfl (Nat.le_of_ble_eq_true rfl) ?_
  intro p e s m args below meth c A ls H locs Qz hQ C hin hl ho
  have hx := C.1.1
  have hb := C.1.2.1
  refine lv_iload_n hx hb dX8_write_0 rfl (lv_at hl 1 rfl) ?_
  refine o_callS (wr := [bRP K hX hda hc hon hr ck]) (rest := []) (As := [.int (nI d)]) C (c_RP_isDev la D K d (by first | omega | assumption | (simp only [List.length_append, List.length_cons, List.length_nil, List.length_modify, List.length_set, nb_len, rb_len, rbp_len, sl_len, slN_len, wh_len, wt_len, hd10_len, hdB_len, thr_len, ldp_len, ldB_len, tens_len, whz_len, majL_len, mf_len, tkL_len, ldY_len, fif_len, ldY_len]; omega) | decide)) kX8_48 vX8_isDevice (by decide) rfl ho [0] 1 (by decide +kernel) rfl rfl hl.1 rfl (Nat.le_of_ble_eq_true rfl) dX8_write_1 0 0 rfl rfl (by decide) (fun v u_1 H locs hq ho => ?_)
  obtain rfl := hq
  have ho : ow D vwCl A s.heap H locs [bRP K hX hda hc hon hr ck] := ho
  refine W.eq (g2 := F0 m 4 ls [.int (bI true)]) rfl ?_
  refine o_ifb_eq (tgt := 18) hx hb dX8_write_4 (by decide) (fun c9 => absurd c9 (by decide)) (fun _ => ?_)
  refine lv_iload_n hx hb dX8_write_7 rfl (lv_at hl 2 rfl) ?_
  refine lv_if_lt (tgt := 18) hx hb dX8_write_8 (by decide) (fun c_2 => ?_) (fun c_2 => ?_)
  · skip
    refine lv_iconst (v := (-1)) hx hb dX8_write_18 (by decide) ?_
    exact o_iret hQ C rfl ho () rfl rfl (Nat.le_of_ble_eq_true rfl) (Nat.le_of_ble_eq_true rfl) dX8_write_19
  · skip
    refine lv_iload_n hx hb dX8_write_11 rfl (lv_at hl 2 rfl) ?_
    refine lv_sipush (v := nI 255) hx hb dX8_write_12 (by decide) ?_
    refine lv_icmp_le (tgt := 20) hx hb dX8_write_15 (by decide) (fun c_3 => ?_) (fun c_3 => ?_)
    · skip
      exact absurd (qb.resolve_left c_2) (by rw [Int32.not_lt]; exact c_3)
    · skip
      refine lv_iconst (v := (-1)) hx hb dX8_write_18 (by decide) ?_
      exact o_iret hQ C rfl ho () rfl rfl (Nat.le_of_ble_eq_true rfl) (Nat.le_of_ble_eq_true rfl) dX8_write_19

set_option maxHeartbeats 4000000 in
set_option maxRecDepth 100000 in
theorem c_RP_write (la : Launch) (D : va_G) (K : Nat → ClassId) (hX : Nat) (hda : Nat) (hc : Nat) (hon : Nat) (hr : Nat) (ck : Nat) (da : Nat → Nat) (d : Nat) (hi : Nat) (hb_ : Nat) (gd : Bool) (hd : Bool) (h : Nat) (hw : Nat) (hq : Nat) (hs : Nat) (hf : Nat) (fr : Nat) (fw : Bool) (gu : Bool) (tu : Bool) (aw : Nat) (wr : List Nat) (gw : Nat → Int32) (x : Nat) (q2d : d < 2) (qx : x ≤ 255) (qw : wr.length < 40) : MT la D K yX8_write cX8_write 4 (some .int) (rmL 2 0 0) [.ref hX, .int (nI d), .int (nI x)] [bRP K hX hda hc hon hr ck, bDA K hda da, bD K (da d) h hi hb_ gd hd, bO K h hw hq hs hf fr fw gu tu, bM K hw aw 40 wr gw] Unit (fun v _ => v = some (.int (nI (wr.length + 1)))) (fun _ => [bRP K hX hda hc hon hr ck, bDA K hda da, bD K (da d) h hi hb_ gd hd, bO K h hw hq hs hf fr fw gu tu, bM K hw aw 40 (wr ++ [x]) gw]) := by
  refine Mt.ofW [(0, .ref hX), (1, .int (nI d)), (2, .int (nI x))] (by decide) rfl (Nat.le_of_ble_eq_true rfl) ?_
  intro p e s m args below meth c A ls H locs Qz hQ C hin hl ho
  have hx := C.1.1
  have hb := C.1.2.1
  refine lv_iload_n hx hb dX8_write_0 rfl (lv_at hl 1 rfl) ?_
  refine o_callS (wr := [bRP K hX hda hc hon hr ck, bDA K hda da, bD K (da d) h hi hb_ gd hd, bO K h hw hq hs hf fr fw gu tu, bM K hw aw 40 wr gw]) (rest := []) (As := [.int (nI d)]) C (c_RP_isDev la D K d (by first | omega | assumption | (simp only [List.length_append, List.length_cons, List.length_nil, List.length_modify, List.length_set, nb_len, rb_len, rbp_len, sl_len, slN_len, wh_len, wt_len, hd10_len, hdB_len, thr_len, ldp_len, ldB_len, tens_len, whz_len, majL_len, mf_len, tkL_len, ldY_len, fif_len, ldY_len]; omega) | decide)) kX8_48 vX8_isDevice (by decide) rfl ho [0, 1, 2, 3, 4] 5 (by decide +kernel) rfl rfl hl.1 rfl (Nat.le_of_ble_eq_true rfl) dX8_write_1 0 0 rfl rfl (by decide) (fun v u_1 H locs hq ho => ?_)
  obtain rfl := hq
  have ho : ow D vwCl A s.heap H locs [bRP K hX hda hc hon hr ck, bDA K hda da, bD K (da d) h hi hb_ gd hd, bO K h hw hq hs hf fr fw gu tu, bM K hw aw 40 wr gw] := ho
  refine W.eq (g2 := F0 m 4 ls [.int (bI true)]) rfl ?_
  refine o_ifb_eq (tgt := 18) hx hb dX8_write_4 (by decide) (fun c9 => absurd c9 (by decide)) (fun _ => ?_)
  refine lv_iload_n hx hb dX8_write_7 rfl (lv_at hl 2 rfl) ?_
  refine o_if_lt (tgt := 18) hx hb dX8_write_8 (by decide) (by omega) ?_
  refine lv_iload_n hx hb dX8_write_11 rfl (lv_at hl 2 rfl) ?_
  refine lv_sipush (v := nI 255) hx hb dX8_write_12 (by decide) ?_
  refine o_icmp_le (tgt := 20) hx hb dX8_write_15 (by decide) (by first | omega | exact and1_lt _) (by first | omega | exact and1_lt _) (fun c_2 => ?_) (fun c_2 => ?_)
  · skip
    refine lv_aload_n hx hb dX8_write_20 rfl (lv_at hl 0 rfl) ?_
    refine o_get (v := .ref hda) C ho 0 0 rfl rfl rfl 0 fX8_11 rfl dX8_write_21 ?_
    refine lv_iload_n hx hb dX8_write_24 rfl (lv_at hl 1 rfl) ?_
    refine o_aald (v := (da d)) C ho 1 0 rfl rfl 2 rfl d rfl (by omega) (by omega) rfl dX8_write_25 ?_
    refine o_get (v := .ref h) C ho 2 0 rfl rfl rfl 0 fX8_52 rfl dX8_write_26 ?_
    refine o_get (v := .ref hw) C ho 3 0 rfl rfl rfl 0 fX8_62 rfl dX8_write_29 ?_
    refine lv_astore_n (lv' := [(3, .ref hw), (0, .ref hX), (1, .int (nI d)), (2, .int (nI x))]) hx hb dX8_write_32 rfl hl (by decide) rfl (fun ls hl => ?_)
    refine lv_aload_n hx hb dX8_write_33 rfl (lv_at hl 0 rfl) ?_
    refine o_callV (wr := [bRP K hX hda hc hon hr ck, bDA K hda da, bD K (da d) h hi hb_ gd hd, bO K h hw hq hs hf fr fw gu tu]) (rest := []) (As := []) C (c_Msg_isFull la D K hw aw 40 wr gw (by first | omega | assumption | (simp only [List.length_append, List.length_cons, List.length_nil, List.length_modify, List.length_set, nb_len, rb_len, rbp_len, sl_len, slN_len, wh_len, wt_len, hd10_len, hdB_len, thr_len, ldp_len, ldB_len, tens_len, whz_len, majL_len, mf_len, tkL_len, ldY_len, fif_len, ldY_len]; omega) | decide) (by first | omega | assumption | (simp only [List.length_append, List.length_cons, List.length_nil, List.length_modify, List.length_set, nb_len, rb_len, rbp_len, sl_len, slN_len, wh_len, wt_len, hd10_len, hdB_len, thr_len, ldp_len, ldB_len, tens_len, whz_len, majL_len, mf_len, tkL_len, ldY_len, fif_len, ldY_len]; omega) | decide)) kX8_66 vX5_isFull (by decide) rfl ho [4, 0, 1, 2, 3] 5 (by decide +kernel) rfl rfl rfl rfl rfl hl.1 rfl (Nat.le_of_ble_eq_true rfl) dX8_write_34 0 0 rfl rfl (by decide) (fun v u_3 H locs hq ho => ?_)
    obtain rfl := hq
    have ho : ow D vwCl A s.heap H locs [bM K hw aw 40 wr gw, bRP K hX hda hc hon hr ck, bDA K hda da, bD K (da d) h hi hb_ gd hd, bO K h hw hq hs hf fr fw gu tu] := ho
    refine W.eq (g2 := F0 m 37 ls [.int (bI (decide (40 ≤ wr.length)))]) rfl ?_
    refine o_ifb_eq (tgt := 43) hx hb dX8_write_37 (by decide) (fun c_4 => ?_) (fun c_4 => ?_)
    · skip
      refine lv_aload_n hx hb dX8_write_43 rfl (lv_at hl 0 rfl) ?_
      refine lv_iload_n hx hb dX8_write_44 rfl (lv_at hl 3 rfl) ?_
      refine o_callV (wr := [bRP K hX hda hc hon hr ck, bDA K hda da, bD K (da d) h hi hb_ gd hd, bO K h hw hq hs hf fr fw gu tu]) (rest := []) (As := [.int (nI x)]) C (c_Msg_add la D K hw aw 40 wr gw x (by first | omega | assumption | (simp only [List.length_append, List.length_cons, List.length_nil, List.length_modify, List.length_set, nb_len, rb_len, rbp_len, sl_len, slN_len, wh_len, wt_len, hd10_len, hdB_len, thr_len, ldp_len, ldB_len, tens_len, whz_len, majL_len, mf_len, tkL_len, ldY_len, fif_len, ldY_len]; omega) | decide) (by first | omega | assumption | (simp only [List.length_append, List.length_cons, List.length_nil, List.length_modify, List.length_set, nb_len, rb_len, rbp_len, sl_len, slN_len, wh_len, wt_len, hd10_len, hdB_len, thr_len, ldp_len, ldB_len, tens_len, whz_len, majL_len, mf_len, tkL_len, ldY_len, fif_len, ldY_len]; omega) | decide)) kX8_72 vX5_add (by decide) rfl ho [0, 1, 2, 3, 4] 5 (by decide +kernel) rfl rfl rfl rfl rfl hl.1 rfl (Nat.le_of_ble_eq_true rfl) dX8_write_45 0 0 rfl rfl (by decide) (fun v u_5 H locs hq ho => ?_)
      obtain rfl := hq
      have ho : ow D vwCl A s.heap H locs [bM K hw aw 40 (wr ++ [x]) gw, bRP K hX hda hc hon hr ck, bDA K hda da, bD K (da d) h hi hb_ gd hd, bO K h hw hq hs hf fr fw gu tu] := ho
      refine W.eq (g2 := F0 m 48 ls []) rfl ?_
      refine lv_aload_n hx hb dX8_write_48 rfl (lv_at hl 0 rfl) ?_
      refine o_get (v := .int (nI ((wr ++ [x]).length))) C ho 0 0 rfl rfl rfl 1 fX8_75 rfl dX8_write_49 ?_
      have ho : ow D vwCl A s.heap H locs [bRP K hX hda hc hon hr ck, bDA K hda da, bD K (da d) h hi hb_ gd hd, bO K h hw hq hs hf fr fw gu tu, bM K hw aw 40 (wr ++ [x]) gw] := ho.re [1, 2, 3, 4, 0] 5 (by decide +kernel) rfl rfl
      exact o_iret hQ C rfl ho () (by rw [List.length_append]; rfl) rfl (Nat.le_of_ble_eq_true rfl) (Nat.le_of_ble_eq_true rfl) dX8_write_52
    · skip
      exact absurd (of_decide_eq_true c_4) (by omega)
  · skip
    exact absurd c_2 (by omega)

set_option maxHeartbeats 4000000 in
set_option maxRecDepth 100000 in
theorem c_RP_writeF (la : Launch) (D : va_G) (K : Nat → ClassId) (hX : Nat) (hda : Nat) (hc : Nat) (hon : Nat) (hr : Nat) (ck : Nat) (da : Nat → Nat) (d : Nat) (hi : Nat) (hb_ : Nat) (gd : Bool) (hd : Bool) (h : Nat) (hw : Nat) (hq : Nat) (hs : Nat) (hf : Nat) (fr : Nat) (fw : Bool) (gu : Bool) (tu : Bool) (aw : Nat) (wr : List Nat) (gw : Nat → Int32) (x : Nat) (q2d : d < 2) (qx : x ≤ 255) (qw : wr.length = 40) : MT la D K yX8_write cX8_write 4 (some .int) (rmL 2 0 0) [.ref hX, .int (nI d), .int (nI x)] [bRP K hX hda hc hon hr ck, bDA K hda da, bD K (da d) h hi hb_ gd hd, bO K h hw hq hs hf fr fw gu tu, bM K hw aw 40 wr gw] Unit (fun v _ => v = some (.int (-2))) (fun _ => [bRP K hX hda hc hon hr ck, bDA K hda da, bD K (da d) h hi hb_ gd hd, bO K h hw hq hs hf fr fw gu tu, bM K hw aw 40 wr gw]) := by
  refine Mt.ofW [(0, .ref hX), (1, .int (nI d)), (2, .int (nI x))] (by decide) rfl (Nat.le_of_ble_eq_true rfl) ?_
  intro p e s m args below meth c A ls H locs Qz hQ C hin hl ho
  have hx := C.1.1
  have hb := C.1.2.1
  refine lv_iload_n hx hb dX8_write_0 rfl (lv_at hl 1 rfl) ?_
  refine o_callS (wr := [bRP K hX hda hc hon hr ck, bDA K hda da, bD K (da d) h hi hb_ gd hd, bO K h hw hq hs hf fr fw gu tu, bM K hw aw 40 wr gw]) (rest := []) (As := [.int (nI d)]) C (c_RP_isDev la D K d (by first | omega | assumption | (simp only [List.length_append, List.length_cons, List.length_nil, List.length_modify, List.length_set, nb_len, rb_len, rbp_len, sl_len, slN_len, wh_len, wt_len, hd10_len, hdB_len, thr_len, ldp_len, ldB_len, tens_len, whz_len, majL_len, mf_len, tkL_len, ldY_len, fif_len, ldY_len]; omega) | decide)) kX8_48 vX8_isDevice (by decide) rfl ho [0, 1, 2, 3, 4] 5 (by decide +kernel) rfl rfl hl.1 rfl (Nat.le_of_ble_eq_true rfl) dX8_write_1 0 0 rfl rfl (by decide) (fun v u_1 H locs hq ho => ?_)
  obtain rfl := hq
  have ho : ow D vwCl A s.heap H locs [bRP K hX hda hc hon hr ck, bDA K hda da, bD K (da d) h hi hb_ gd hd, bO K h hw hq hs hf fr fw gu tu, bM K hw aw 40 wr gw] := ho
  refine W.eq (g2 := F0 m 4 ls [.int (bI true)]) rfl ?_
  refine o_ifb_eq (tgt := 18) hx hb dX8_write_4 (by decide) (fun c9 => absurd c9 (by decide)) (fun _ => ?_)
  refine lv_iload_n hx hb dX8_write_7 rfl (lv_at hl 2 rfl) ?_
  refine o_if_lt (tgt := 18) hx hb dX8_write_8 (by decide) (by omega) ?_
  refine lv_iload_n hx hb dX8_write_11 rfl (lv_at hl 2 rfl) ?_
  refine lv_sipush (v := nI 255) hx hb dX8_write_12 (by decide) ?_
  refine o_icmp_le (tgt := 20) hx hb dX8_write_15 (by decide) (by first | omega | exact and1_lt _) (by first | omega | exact and1_lt _) (fun c_2 => ?_) (fun c_2 => ?_)
  · skip
    refine lv_aload_n hx hb dX8_write_20 rfl (lv_at hl 0 rfl) ?_
    refine o_get (v := .ref hda) C ho 0 0 rfl rfl rfl 0 fX8_11 rfl dX8_write_21 ?_
    refine lv_iload_n hx hb dX8_write_24 rfl (lv_at hl 1 rfl) ?_
    refine o_aald (v := (da d)) C ho 1 0 rfl rfl 2 rfl d rfl (by omega) (by omega) rfl dX8_write_25 ?_
    refine o_get (v := .ref h) C ho 2 0 rfl rfl rfl 0 fX8_52 rfl dX8_write_26 ?_
    refine o_get (v := .ref hw) C ho 3 0 rfl rfl rfl 0 fX8_62 rfl dX8_write_29 ?_
    refine lv_astore_n (lv' := [(3, .ref hw), (0, .ref hX), (1, .int (nI d)), (2, .int (nI x))]) hx hb dX8_write_32 rfl hl (by decide) rfl (fun ls hl => ?_)
    refine lv_aload_n hx hb dX8_write_33 rfl (lv_at hl 0 rfl) ?_
    refine o_callV (wr := [bRP K hX hda hc hon hr ck, bDA K hda da, bD K (da d) h hi hb_ gd hd, bO K h hw hq hs hf fr fw gu tu]) (rest := []) (As := []) C (c_Msg_isFull la D K hw aw 40 wr gw (by first | omega | assumption | (simp only [List.length_append, List.length_cons, List.length_nil, List.length_modify, List.length_set, nb_len, rb_len, rbp_len, sl_len, slN_len, wh_len, wt_len, hd10_len, hdB_len, thr_len, ldp_len, ldB_len, tens_len, whz_len, majL_len, mf_len, tkL_len, ldY_len, fif_len, ldY_len]; omega) | decide) (by first | omega | assumption | (simp only [List.length_append, List.length_cons, List.length_nil, List.length_modify, List.length_set, nb_len, rb_len, rbp_len, sl_len, slN_len, wh_len, wt_len, hd10_len, hdB_len, thr_len, ldp_len, ldB_len, tens_len, whz_len, majL_len, mf_len, tkL_len, ldY_len, fif_len, ldY_len]; omega) | decide)) kX8_66 vX5_isFull (by decide) rfl ho [4, 0, 1, 2, 3] 5 (by decide +kernel) rfl rfl rfl rfl rfl hl.1 rfl (Nat.le_of_ble_eq_true rfl) dX8_write_34 0 0 rfl rfl (by decide) (fun v u_3 H locs hq ho => ?_)
    obtain rfl := hq
    have ho : ow D vwCl A s.heap H locs [bM K hw aw 40 wr gw, bRP K hX hda hc hon hr ck, bDA K hda da, bD K (da d) h hi hb_ gd hd, bO K h hw hq hs hf fr fw gu tu] := ho
    refine W.eq (g2 := F0 m 37 ls [.int (bI (decide (40 ≤ wr.length)))]) rfl ?_
    refine o_ifb_eq (tgt := 43) hx hb dX8_write_37 (by decide) (fun c_4 => ?_) (fun c_4 => ?_)
    · skip
      exact absurd (by omega) (of_decide_eq_false c_4)
    · skip
      refine lv_bipush (v := (-2)) hx hb dX8_write_40 (by decide) ?_
      have ho : ow D vwCl A s.heap H locs [bRP K hX hda hc hon hr ck, bDA K hda da, bD K (da d) h hi hb_ gd hd, bO K h hw hq hs hf fr fw gu tu, bM K hw aw 40 wr gw] := ho.re [1, 2, 3, 4, 0] 5 (by decide +kernel) rfl rfl
      exact o_iret hQ C rfl ho () rfl rfl (Nat.le_of_ble_eq_true rfl) (Nat.le_of_ble_eq_true rfl) dX8_write_42
  · skip
    exact absurd c_2 (by omega)

set_option maxHeartbeats 4000000 in
set_option maxRecDepth 100000 in
theorem c_RP_sendX (la : Launch) (D : va_G) (K : Nat → ClassId) (hX : Nat) (hda : Nat) (hc : Nat) (hon : Nat) (hr : Nat) (ck : Nat) (x : Int32) (qx : hasI 2 x = false) : MT la D K yX8_send cX8_send 3 (some .int) (rmL 2 0 0) [.ref hX, .int x] [bRP K hX hda hc hon hr ck] Unit (fun v _ => v = some (.int (-1))) (fun _ => [bRP K hX hda hc hon hr ck]) := by
  refine Mt.ofW [(0, .ref hX), (1, .int x)] (by decide) rfl (Nat.le_of_ble_eq_true rfl) ?_
  intro p e s m args below meth c A ls H locs Qz hQ C hin hl ho
  have hx := C.1.1
  have hb := C.1.2.1
  refine lv_iload_n hx hb dX8_send_0 rfl (lv_at hl 1 rfl) ?_
  refine o_callS (wr := [bRP K hX hda hc hon hr ck]) (rest := []) (As := [.int x]) C (c_RP_isDevNo la D K x (by first | omega | assumption | (simp only [List.length_append, List.length_cons, List.length_nil, List.length_modify, List.length_set, nb_len, rb_len, rbp_len, sl_len, slN_len, wh_len, wt_len, hd10_len, hdB_len, thr_len, ldp_len, ldB_len, tens_len, whz_len, majL_len, mf_len, tkL_len, ldY_len, fif_len, ldY_len]; omega) | decide)) kX8_48 vX8_isDevice (by decide) rfl ho [0] 1 (by decide +kernel) rfl rfl hl.1 rfl (Nat.le_of_ble_eq_true rfl) dX8_send_1 0 0 rfl rfl (by decide) (fun v u_1 H locs hq ho => ?_)
  obtain rfl := hq
  have ho : ow D vwCl A s.heap H locs [bRP K hX hda hc hon hr ck] := ho
  refine W.eq (g2 := F0 m 4 ls [.int (bI false)]) rfl ?_
  refine o_ifb_ne (tgt := 9) hx hb dX8_send_4 (by decide) (fun c9 => absurd c9 (by decide)) (fun _ => ?_)
  refine lv_iconst (v := (-1)) hx hb dX8_send_7 (by decide) ?_
  exact o_iret hQ C rfl ho () rfl rfl (Nat.le_of_ble_eq_true rfl) (Nat.le_of_ble_eq_true rfl) dX8_send_8

set_option maxHeartbeats 4000000 in
set_option maxRecDepth 100000 in
theorem c_RP_send0 (la : Launch) (D : va_G) (K : Nat → ClassId) (hX : Nat) (hda : Nat) (hc : Nat) (hon : Nat) (hr : Nat) (ck : Nat) (da : Nat → Nat) (d : Nat) (hi : Nat) (hb_ : Nat) (gd : Bool) (hd : Bool) (h : Nat) (hw : Nat) (hq : Nat) (hs : Nat) (hf : Nat) (fr : Nat) (fw : Bool) (gu : Bool) (tu : Bool) (aw : Nat) (wr : List Nat) (gw : Nat → Int32) (q2d : d < 2) (q0 : wr.length = 0) : MT la D K yX8_send cX8_send 3 (some .int) (rmL 2 0 0) [.ref hX, .int (nI d)] [bRP K hX hda hc hon hr ck, bDA K hda da, bD K (da d) h hi hb_ gd hd, bO K h hw hq hs hf fr fw gu tu, bM K hw aw 40 wr gw] Unit (fun v _ => v = some (.int (-1))) (fun _ => [bRP K hX hda hc hon hr ck, bDA K hda da, bD K (da d) h hi hb_ gd hd, bO K h hw hq hs hf fr fw gu tu, bM K hw aw 40 wr gw]) := by
  refine Mt.ofW [(0, .ref hX), (1, .int (nI d))] (by decide) rfl (Nat.le_of_ble_eq_true rfl) ?_
  intro p e s m args below meth c A ls H locs Qz hQ C hin hl ho
  have hx := C.1.1
  have hb := C.1.2.1
  refine lv_iload_n hx hb dX8_send_0 rfl (lv_at hl 1 rfl) ?_
  refine o_callS (wr := [bRP K hX hda hc hon hr ck, bDA K hda da, bD K (da d) h hi hb_ gd hd, bO K h hw hq hs hf fr fw gu tu, bM K hw aw 40 wr gw]) (rest := []) (As := [.int (nI d)]) C (c_RP_isDev la D K d (by first | omega | assumption | (simp only [List.length_append, List.length_cons, List.length_nil, List.length_modify, List.length_set, nb_len, rb_len, rbp_len, sl_len, slN_len, wh_len, wt_len, hd10_len, hdB_len, thr_len, ldp_len, ldB_len, tens_len, whz_len, majL_len, mf_len, tkL_len, ldY_len, fif_len, ldY_len]; omega) | decide)) kX8_48 vX8_isDevice (by decide) rfl ho [0, 1, 2, 3, 4] 5 (by decide +kernel) rfl rfl hl.1 rfl (Nat.le_of_ble_eq_true rfl) dX8_send_1 0 0 rfl rfl (by decide) (fun v u_1 H locs hq ho => ?_)
  obtain rfl := hq
  have ho : ow D vwCl A s.heap H locs [bRP K hX hda hc hon hr ck, bDA K hda da, bD K (da d) h hi hb_ gd hd, bO K h hw hq hs hf fr fw gu tu, bM K hw aw 40 wr gw] := ho
  refine W.eq (g2 := F0 m 4 ls [.int (bI true)]) rfl ?_
  refine o_ifb_ne (tgt := 9) hx hb dX8_send_4 (by decide) (fun _ => ?_) (fun c9 => absurd c9 (by decide))
  refine lv_aload_n hx hb dX8_send_9 rfl (lv_at hl 0 rfl) ?_
  refine o_get (v := .ref hda) C ho 0 0 rfl rfl rfl 0 fX8_11 rfl dX8_send_10 ?_
  refine lv_iload_n hx hb dX8_send_13 rfl (lv_at hl 1 rfl) ?_
  refine o_aald (v := (da d)) C ho 1 0 rfl rfl 2 rfl d rfl (by omega) (by omega) rfl dX8_send_14 ?_
  refine o_get (v := .ref h) C ho 2 0 rfl rfl rfl 0 fX8_52 rfl dX8_send_15 ?_
  refine lv_astore_n (lv' := [(2, .ref h), (0, .ref hX), (1, .int (nI d))]) hx hb dX8_send_18 rfl hl (by decide) rfl (fun ls hl => ?_)
  refine lv_aload_n hx hb dX8_send_19 rfl (lv_at hl 0 rfl) ?_
  refine o_get (v := .ref hw) C ho 3 0 rfl rfl rfl 0 fX8_62 rfl dX8_send_20 ?_
  refine o_get (v := .int (nI wr.length)) C ho 4 0 rfl rfl rfl 1 fX8_75 rfl dX8_send_23 ?_
  refine o_if_ne (tgt := 31) hx hb dX8_send_26 (by decide) (by omega) (fun c_2 => ?_) (fun c_2 => ?_)
  · skip
    exact absurd q0 c_2
  · skip
    refine lv_iconst (v := (-1)) hx hb dX8_send_29 (by decide) ?_
    exact o_iret hQ C rfl ho () rfl rfl (Nat.le_of_ble_eq_true rfl) (Nat.le_of_ble_eq_true rfl) dX8_send_30

set_option maxHeartbeats 4000000 in
set_option maxRecDepth 100000 in
theorem c_RP_sendF (la : Launch) (D : va_G) (K : Nat → ClassId) (hX : Nat) (hda : Nat) (hc : Nat) (hon : Nat) (hr : Nat) (ck : Nat) (da : Nat → Nat) (d : Nat) (hi : Nat) (hb_ : Nat) (gd : Bool) (hd : Bool) (h : Nat) (hw : Nat) (hq : Nat) (hs : Nat) (hf : Nat) (fr : Nat) (fw : Bool) (gu : Bool) (tu : Bool) (aw : Nat) (wr : List Nat) (gw : Nat → Int32) (q : Nat) (mh : Nat → Nat) (fi : Nat) (sz : Nat) (q2d : d < 2) (qw : 0 < wr.length) (qw2 : wr.length ≤ 40) (q6 : sz = 6) (qf : fi < 6) : MT la D K yX8_send cX8_send 3 (some .int) (rmL 2 0 0) [.ref hX, .int (nI d)] [bRP K hX hda hc hon hr ck, bDA K hda da, bD K (da d) h hi hb_ gd hd, bO K h hw hq hs hf fr fw gu tu, bM K hw aw 40 wr gw, bH K hq q mh fi sz] Unit (fun v _ => v = some (.int (-2))) (fun _ => [bRP K hX hda hc hon hr ck, bDA K hda da, bD K (da d) h hi hb_ gd hd, bO K h hw hq hs hf fr fw gu tu, bM K hw aw 40 wr gw, bH K hq q mh fi sz]) := by
  refine Mt.ofW [(0, .ref hX), (1, .int (nI d))] (by decide) rfl (Nat.le_of_ble_eq_true rfl) ?_
  intro p e s m args below meth c A ls H locs Qz hQ C hin hl ho
  have hx := C.1.1
  have hb := C.1.2.1
  refine lv_iload_n hx hb dX8_send_0 rfl (lv_at hl 1 rfl) ?_
  refine o_callS (wr := [bRP K hX hda hc hon hr ck, bDA K hda da, bD K (da d) h hi hb_ gd hd, bO K h hw hq hs hf fr fw gu tu, bM K hw aw 40 wr gw, bH K hq q mh fi sz]) (rest := []) (As := [.int (nI d)]) C (c_RP_isDev la D K d (by first | omega | assumption | (simp only [List.length_append, List.length_cons, List.length_nil, List.length_modify, List.length_set, nb_len, rb_len, rbp_len, sl_len, slN_len, wh_len, wt_len, hd10_len, hdB_len, thr_len, ldp_len, ldB_len, tens_len, whz_len, majL_len, mf_len, tkL_len, ldY_len, fif_len, ldY_len]; omega) | decide)) kX8_48 vX8_isDevice (by decide) rfl ho [0, 1, 2, 3, 4, 5] 6 (by decide +kernel) rfl rfl hl.1 rfl (Nat.le_of_ble_eq_true rfl) dX8_send_1 0 0 rfl rfl (by decide) (fun v u_1 H locs hq ho => ?_)
  obtain rfl := hq
  have ho : ow D vwCl A s.heap H locs [bRP K hX hda hc hon hr ck, bDA K hda da, bD K (da d) h hi hb_ gd hd, bO K h hw hq hs hf fr fw gu tu, bM K hw aw 40 wr gw, bH K hq q mh fi sz] := ho
  refine W.eq (g2 := F0 m 4 ls [.int (bI true)]) rfl ?_
  refine o_ifb_ne (tgt := 9) hx hb dX8_send_4 (by decide) (fun _ => ?_) (fun c9 => absurd c9 (by decide))
  refine lv_aload_n hx hb dX8_send_9 rfl (lv_at hl 0 rfl) ?_
  refine o_get (v := .ref hda) C ho 0 0 rfl rfl rfl 0 fX8_11 rfl dX8_send_10 ?_
  refine lv_iload_n hx hb dX8_send_13 rfl (lv_at hl 1 rfl) ?_
  refine o_aald (v := (da d)) C ho 1 0 rfl rfl 2 rfl d rfl (by omega) (by omega) rfl dX8_send_14 ?_
  refine o_get (v := .ref h) C ho 2 0 rfl rfl rfl 0 fX8_52 rfl dX8_send_15 ?_
  refine lv_astore_n (lv' := [(2, .ref h), (0, .ref hX), (1, .int (nI d))]) hx hb dX8_send_18 rfl hl (by decide) rfl (fun ls hl => ?_)
  refine lv_aload_n hx hb dX8_send_19 rfl (lv_at hl 0 rfl) ?_
  refine o_get (v := .ref hw) C ho 3 0 rfl rfl rfl 0 fX8_62 rfl dX8_send_20 ?_
  refine o_get (v := .int (nI wr.length)) C ho 4 0 rfl rfl rfl 1 fX8_75 rfl dX8_send_23 ?_
  refine o_if_ne (tgt := 31) hx hb dX8_send_26 (by decide) (by omega) (fun c_2 => ?_) (fun c_2 => ?_)
  · skip
    refine lv_aload_n hx hb dX8_send_31 rfl (lv_at hl 0 rfl) ?_
    refine o_get (v := .ref hq) C ho 3 0 rfl rfl rfl 1 fX8_79 rfl dX8_send_32 ?_
    refine o_callV (wr := [bRP K hX hda hc hon hr ck, bDA K hda da, bD K (da d) h hi hb_ gd hd, bO K h hw hq hs hf fr fw gu tu, bM K hw aw 40 wr gw]) (rest := []) (As := []) C (c_Row_isFull la D K hq q mh fi sz (by first | omega | assumption | (simp only [List.length_append, List.length_cons, List.length_nil, List.length_modify, List.length_set, nb_len, rb_len, rbp_len, sl_len, slN_len, wh_len, wt_len, hd10_len, hdB_len, thr_len, ldp_len, ldB_len, tens_len, whz_len, majL_len, mf_len, tkL_len, ldY_len, fif_len, ldY_len]; omega) | decide) (by first | omega | assumption | (simp only [List.length_append, List.length_cons, List.length_nil, List.length_modify, List.length_set, nb_len, rb_len, rbp_len, sl_len, slN_len, wh_len, wt_len, hd10_len, hdB_len, thr_len, ldp_len, ldB_len, tens_len, whz_len, majL_len, mf_len, tkL_len, ldY_len, fif_len, ldY_len]; omega) | decide)) kX8_83 vX6_isFull (by decide) rfl ho [5, 0, 1, 2, 3, 4] 6 (by decide +kernel) rfl rfl rfl rfl rfl hl.1 rfl (Nat.le_of_ble_eq_true rfl) dX8_send_35 0 0 rfl rfl (by decide) (fun v u_3 H locs hq ho => ?_)
    obtain rfl := hq
    have ho : ow D vwCl A s.heap H locs [bH K hq q mh fi sz, bRP K hX hda hc hon hr ck, bDA K hda da, bD K (da d) h hi hb_ gd hd, bO K h hw hq hs hf fr fw gu tu, bM K hw aw 40 wr gw] := ho
    refine W.eq (g2 := F0 m 38 ls [.int (bI (decide (6 ≤ sz)))]) rfl ?_
    refine o_ifb_eq (tgt := 44) hx hb dX8_send_38 (by decide) (fun c_4 => ?_) (fun c_4 => ?_)
    · skip
      exact absurd (by omega) (of_decide_eq_false c_4)
    · skip
      refine lv_bipush (v := (-2)) hx hb dX8_send_41 (by decide) ?_
      have ho : ow D vwCl A s.heap H locs [bRP K hX hda hc hon hr ck, bDA K hda da, bD K (da d) h hi hb_ gd hd, bO K h hw hq hs hf fr fw gu tu, bM K hw aw 40 wr gw, bH K hq q mh fi sz] := ho.re [1, 2, 3, 4, 5, 0] 6 (by decide +kernel) rfl rfl
      exact o_iret hQ C rfl ho () rfl rfl (Nat.le_of_ble_eq_true rfl) (Nat.le_of_ble_eq_true rfl) dX8_send_43
  · skip
    exact absurd c_2 (by omega)

set_option maxHeartbeats 4000000 in
set_option maxRecDepth 100000 in
theorem c_RP_send (la : Launch) (D : va_G) (K : Nat → ClassId) (hX : Nat) (hda : Nat) (hc : Nat) (hon : Nat) (hr : Nat) (ck : Nat) (da : Nat → Nat) (d : Nat) (hi : Nat) (hb_ : Nat) (gd : Bool) (hd : Bool) (h : Nat) (hw : Nat) (hq : Nat) (hs : Nat) (hf : Nat) (fr : Nat) (fw : Bool) (gu : Bool) (tu : Bool) (aw : Nat) (wr : List Nat) (gw : Nat → Int32) (q : Nat) (mh : Nat → Nat) (fi : Nat) (sz : Nat) (ma : Nat → Nat) (ml : Nat → List Nat) (mg : Nat → Nat → Int32) (q2d : d < 2) (qw : 0 < wr.length) (qw2 : wr.length ≤ 40) (q6 : sz < 6) (qf : fi < 6) : MT la D K yX8_send cX8_send 3 (some .int) (rmL 3 0 0) [.ref hX, .int (nI d)] [bRP K hX hda hc hon hr ck, bDA K hda da, bD K (da d) h hi hb_ gd hd, bO K h hw hq hs hf fr fw gu tu, bM K hw aw 40 wr gw, bH K hq q mh fi sz, bPool K mh ma 40 ml mg] ((Nat → Int32) × (Nat → Int32)) (fun v _ => v = some (.int (nI (sz + 1)))) (fun u => [bRP K hX hda hc hon hr ck, bDA K hda da, bD K (da d) h hi hb_ gd hd, bO K h hw hq hs hf fr fw gu tu, bM K hw aw 40 [] u.1, bH K hq q mh fi (sz + 1), bPool K mh ma 40 (va_up ml ((fi + sz) % 6) wr) (va_up mg ((fi + sz) % 6) u.2)]) := by
  refine Mt.ofW [(0, .ref hX), (1, .int (nI d))] (by decide) rfl (Nat.le_of_ble_eq_true rfl) ?_
  intro p e s m args below meth c A ls H locs Qz hQ C hin hl ho
  have hx := C.1.1
  have hb := C.1.2.1
  refine lv_iload_n hx hb dX8_send_0 rfl (lv_at hl 1 rfl) ?_
  refine o_callS (wr := [bRP K hX hda hc hon hr ck, bDA K hda da, bD K (da d) h hi hb_ gd hd, bO K h hw hq hs hf fr fw gu tu, bM K hw aw 40 wr gw, bH K hq q mh fi sz, bPool K mh ma 40 ml mg]) (rest := []) (As := [.int (nI d)]) C (c_RP_isDev la D K d (by first | omega | assumption | (simp only [List.length_append, List.length_cons, List.length_nil, List.length_modify, List.length_set, nb_len, rb_len, rbp_len, sl_len, slN_len, wh_len, wt_len, hd10_len, hdB_len, thr_len, ldp_len, ldB_len, tens_len, whz_len, majL_len, mf_len, tkL_len, ldY_len, fif_len, ldY_len]; omega) | decide)) kX8_48 vX8_isDevice (by decide) rfl ho [0, 1, 2, 3, 4, 5, 6] 7 (by decide +kernel) rfl rfl hl.1 rfl (Nat.le_of_ble_eq_true rfl) dX8_send_1 0 0 rfl rfl (by decide) (fun v u_1 H locs hq ho => ?_)
  obtain rfl := hq
  have ho : ow D vwCl A s.heap H locs [bRP K hX hda hc hon hr ck, bDA K hda da, bD K (da d) h hi hb_ gd hd, bO K h hw hq hs hf fr fw gu tu, bM K hw aw 40 wr gw, bH K hq q mh fi sz, bPool K mh ma 40 ml mg] := ho
  refine W.eq (g2 := F0 m 4 ls [.int (bI true)]) rfl ?_
  refine o_ifb_ne (tgt := 9) hx hb dX8_send_4 (by decide) (fun _ => ?_) (fun c9 => absurd c9 (by decide))
  refine lv_aload_n hx hb dX8_send_9 rfl (lv_at hl 0 rfl) ?_
  refine o_get (v := .ref hda) C ho 0 0 rfl rfl rfl 0 fX8_11 rfl dX8_send_10 ?_
  refine lv_iload_n hx hb dX8_send_13 rfl (lv_at hl 1 rfl) ?_
  refine o_aald (v := (da d)) C ho 1 0 rfl rfl 2 rfl d rfl (by omega) (by omega) rfl dX8_send_14 ?_
  refine o_get (v := .ref h) C ho 2 0 rfl rfl rfl 0 fX8_52 rfl dX8_send_15 ?_
  refine lv_astore_n (lv' := [(2, .ref h), (0, .ref hX), (1, .int (nI d))]) hx hb dX8_send_18 rfl hl (by decide) rfl (fun ls hl => ?_)
  refine lv_aload_n hx hb dX8_send_19 rfl (lv_at hl 0 rfl) ?_
  refine o_get (v := .ref hw) C ho 3 0 rfl rfl rfl 0 fX8_62 rfl dX8_send_20 ?_
  refine o_get (v := .int (nI wr.length)) C ho 4 0 rfl rfl rfl 1 fX8_75 rfl dX8_send_23 ?_
  refine o_if_ne (tgt := 31) hx hb dX8_send_26 (by decide) (by omega) (fun c_2 => ?_) (fun c_2 => ?_)
  · skip
    refine lv_aload_n hx hb dX8_send_31 rfl (lv_at hl 0 rfl) ?_
    refine o_get (v := .ref hq) C ho 3 0 rfl rfl rfl 1 fX8_79 rfl dX8_send_32 ?_
    refine o_callV (wr := [bRP K hX hda hc hon hr ck, bDA K hda da, bD K (da d) h hi hb_ gd hd, bO K h hw hq hs hf fr fw gu tu, bM K hw aw 40 wr gw, bPool K mh ma 40 ml mg]) (rest := []) (As := []) C (c_Row_isFull la D K hq q mh fi sz (by first | omega | assumption | (simp only [List.length_append, List.length_cons, List.length_nil, List.length_modify, List.length_set, nb_len, rb_len, rbp_len, sl_len, slN_len, wh_len, wt_len, hd10_len, hdB_len, thr_len, ldp_len, ldB_len, tens_len, whz_len, majL_len, mf_len, tkL_len, ldY_len, fif_len, ldY_len]; omega) | decide) (by first | omega | assumption | (simp only [List.length_append, List.length_cons, List.length_nil, List.length_modify, List.length_set, nb_len, rb_len, rbp_len, sl_len, slN_len, wh_len, wt_len, hd10_len, hdB_len, thr_len, ldp_len, ldB_len, tens_len, whz_len, majL_len, mf_len, tkL_len, ldY_len, fif_len, ldY_len]; omega) | decide)) kX8_83 vX6_isFull (by decide) rfl ho [5, 0, 1, 2, 3, 4, 6] 7 (by decide +kernel) rfl rfl rfl rfl rfl hl.1 rfl (Nat.le_of_ble_eq_true rfl) dX8_send_35 0 0 rfl rfl (by decide) (fun v u_3 H locs hq ho => ?_)
    obtain rfl := hq
    have ho : ow D vwCl A s.heap H locs [bH K hq q mh fi sz, bRP K hX hda hc hon hr ck, bDA K hda da, bD K (da d) h hi hb_ gd hd, bO K h hw hq hs hf fr fw gu tu, bM K hw aw 40 wr gw, bPool K mh ma 40 ml mg] := ho
    refine W.eq (g2 := F0 m 38 ls [.int (bI (decide (6 ≤ sz)))]) rfl ?_
    refine o_ifb_eq (tgt := 44) hx hb dX8_send_38 (by decide) (fun c_4 => ?_) (fun c_4 => ?_)
    · skip
      refine lv_aload_n hx hb dX8_send_44 rfl (lv_at hl 0 rfl) ?_
      refine o_get (v := .ref hq) C ho 4 0 rfl rfl rfl 1 fX8_79 rfl dX8_send_45 ?_
      refine lv_aload_n hx hb dX8_send_48 rfl (lv_at hl 0 rfl) ?_
      refine o_get (v := .ref hw) C ho 4 0 rfl rfl rfl 0 fX8_62 rfl dX8_send_49 ?_
      refine o_callV (wr := [bRP K hX hda hc hon hr ck, bDA K hda da, bD K (da d) h hi hb_ gd hd, bO K h hw hq hs hf fr fw gu tu]) (rest := []) (As := [.ref hw]) C (c_Row_append la D K hq q mh fi sz ma 40 ml mg hw aw 40 wr gw (by first | omega | assumption | (simp only [List.length_append, List.length_cons, List.length_nil, List.length_modify, List.length_set, nb_len, rb_len, rbp_len, sl_len, slN_len, wh_len, wt_len, hd10_len, hdB_len, thr_len, ldp_len, ldB_len, tens_len, whz_len, majL_len, mf_len, tkL_len, ldY_len, fif_len, ldY_len]; omega) | decide) (by first | omega | assumption | (simp only [List.length_append, List.length_cons, List.length_nil, List.length_modify, List.length_set, nb_len, rb_len, rbp_len, sl_len, slN_len, wh_len, wt_len, hd10_len, hdB_len, thr_len, ldp_len, ldB_len, tens_len, whz_len, majL_len, mf_len, tkL_len, ldY_len, fif_len, ldY_len]; omega) | decide) (by first | omega | assumption | (simp only [List.length_append, List.length_cons, List.length_nil, List.length_modify, List.length_set, nb_len, rb_len, rbp_len, sl_len, slN_len, wh_len, wt_len, hd10_len, hdB_len, thr_len, ldp_len, ldB_len, tens_len, whz_len, majL_len, mf_len, tkL_len, ldY_len, fif_len, ldY_len]; omega) | decide) (by first | omega | assumption | (simp only [List.length_append, List.length_cons, List.length_nil, List.length_modify, List.length_set, nb_len, rb_len, rbp_len, sl_len, slN_len, wh_len, wt_len, hd10_len, hdB_len, thr_len, ldp_len, ldB_len, tens_len, whz_len, majL_len, mf_len, tkL_len, ldY_len, fif_len, ldY_len]; omega) | decide) (by first | omega | assumption | (simp only [List.length_append, List.length_cons, List.length_nil, List.length_modify, List.length_set, nb_len, rb_len, rbp_len, sl_len, slN_len, wh_len, wt_len, hd10_len, hdB_len, thr_len, ldp_len, ldB_len, tens_len, whz_len, majL_len, mf_len, tkL_len, ldY_len, fif_len, ldY_len]; omega) | decide) (by first | omega | assumption | (simp only [List.length_append, List.length_cons, List.length_nil, List.length_modify, List.length_set, nb_len, rb_len, rbp_len, sl_len, slN_len, wh_len, wt_len, hd10_len, hdB_len, thr_len, ldp_len, ldB_len, tens_len, whz_len, majL_len, mf_len, tkL_len, ldY_len, fif_len, ldY_len]; omega) | decide)) kX8_86 vX6_append (by decide) rfl ho [0, 6, 5, 1, 2, 3, 4] 7 (by decide +kernel) rfl rfl rfl rfl rfl hl.1 rfl (Nat.le_of_ble_eq_true rfl) dX8_send_52 0 0 rfl rfl (by decide) (fun v u_5 H locs hq ho => ?_)
      obtain rfl := hq
      have ho : ow D vwCl A s.heap H locs [bH K hq q mh fi (sz + 1), bPool K mh ma 40 (va_up ml ((fi + sz) % 6) wr) (va_up mg ((fi + sz) % 6) u_5), bM K hw aw 40 wr gw, bRP K hX hda hc hon hr ck, bDA K hda da, bD K (da d) h hi hb_ gd hd, bO K h hw hq hs hf fr fw gu tu] := ho
      refine W.eq (g2 := F0 m 55 ls []) rfl ?_
      refine lv_aload_n hx hb dX8_send_55 rfl (lv_at hl 0 rfl) ?_
      refine o_get (v := .ref hw) C ho 6 0 rfl rfl rfl 0 fX8_62 rfl dX8_send_56 ?_
      refine o_callV (wr := [bH K hq q mh fi (sz + 1), bPool K mh ma 40 (va_up ml ((fi + sz) % 6) wr) (va_up mg ((fi + sz) % 6) u_5), bRP K hX hda hc hon hr ck, bDA K hda da, bD K (da d) h hi hb_ gd hd, bO K h hw hq hs hf fr fw gu tu]) (rest := []) (As := []) C (c_Msg_clear la D K hw aw 40 wr gw ) kX8_90 vX5_clear (by decide) rfl ho [2, 0, 1, 3, 4, 5, 6] 7 (by decide +kernel) rfl rfl rfl rfl rfl hl.1 rfl (Nat.le_of_ble_eq_true rfl) dX8_send_59 0 0 rfl rfl (by decide) (fun v u_6 H locs hq ho => ?_)
      obtain rfl := hq
      have ho : ow D vwCl A s.heap H locs [bM K hw aw 40 [] u_6, bH K hq q mh fi (sz + 1), bPool K mh ma 40 (va_up ml ((fi + sz) % 6) wr) (va_up mg ((fi + sz) % 6) u_5), bRP K hX hda hc hon hr ck, bDA K hda da, bD K (da d) h hi hb_ gd hd, bO K h hw hq hs hf fr fw gu tu] := ho
      refine W.eq (g2 := F0 m 62 ls []) rfl ?_
      refine lv_aload_n hx hb dX8_send_62 rfl (lv_at hl 0 rfl) ?_
      refine o_get (v := .ref hq) C ho 6 0 rfl rfl rfl 1 fX8_79 rfl dX8_send_63 ?_
      refine o_get (v := .int (nI (sz + 1))) C ho 1 0 rfl rfl rfl 2 fX8_93 rfl dX8_send_66 ?_
      have ho : ow D vwCl A s.heap H locs [bRP K hX hda hc hon hr ck, bDA K hda da, bD K (da d) h hi hb_ gd hd, bO K h hw hq hs hf fr fw gu tu, bM K hw aw 40 [] u_6, bH K hq q mh fi (sz + 1), bPool K mh ma 40 (va_up ml ((fi + sz) % 6) wr) (va_up mg ((fi + sz) % 6) u_5)] := ho.re [3, 4, 5, 6, 0, 1, 2] 7 (by decide +kernel) rfl rfl
      exact o_iret hQ C rfl ho (u_6, u_5) rfl (by dsimp only [gs, List.getD_cons_zero, List.getD_cons_succ] <;> rfl) (Nat.le_of_ble_eq_true rfl) (Nat.le_of_ble_eq_true rfl) dX8_send_69
    · skip
      exact absurd (of_decide_eq_true c_4) (by omega)
  · skip
    exact absurd c_2 (by omega)

set_option maxHeartbeats 4000000 in
set_option maxRecDepth 100000 in
theorem c_RP_airX (la : Launch) (D : va_G) (K : Nat → ClassId) (hX : Nat) (hda : Nat) (hc : Nat) (hon : Nat) (hr : Nat) (ck : Nat) (eo : Nat) (air : List Bool) (xo : Nat → Int32) (x : Int32) (qa : air.length ≤ 204) (qx : hasI air.length x = false) : MT la D K yX8_air cX8_air 2 (some .int) (rmL 2 0 0) [.ref hX, .int x] [bRP K hX hda hc hon hr ck, bB K hon eo 204 air xo] Unit (fun v _ => v = some (.int (-1))) (fun _ => [bRP K hX hda hc hon hr ck, bB K hon eo 204 air xo]) := by
  refine Mt.ofW [(0, .ref hX), (1, .int x)] (by decide) rfl (Nat.le_of_ble_eq_true rfl) ?_
  intro p e s m args below meth c A ls H locs Qz hQ C hin hl ho
  have hx := C.1.1
  have hb := C.1.2.1
  refine lv_aload_n hx hb dX8_air_0 rfl (lv_at hl 0 rfl) ?_
  refine o_get (v := .ref hon) C ho 0 0 rfl rfl rfl 2 fX8_37 rfl dX8_air_1 ?_
  refine lv_iload_n hx hb dX8_air_4 rfl (lv_at hl 1 rfl) ?_
  refine o_callV (wr := [bRP K hX hda hc hon hr ck]) (rest := []) (As := [.int x]) C (c_Bits_has la D K hon eo 204 air xo x (by first | omega | assumption | (simp only [List.length_append, List.length_cons, List.length_nil, List.length_modify, List.length_set, nb_len, rb_len, rbp_len, sl_len, slN_len, wh_len, wt_len, hd10_len, hdB_len, thr_len, ldp_len, ldB_len, tens_len, whz_len, majL_len, mf_len, tkL_len, ldY_len, fif_len, ldY_len]; omega) | decide) (by first | omega | assumption | (simp only [List.length_append, List.length_cons, List.length_nil, List.length_modify, List.length_set, nb_len, rb_len, rbp_len, sl_len, slN_len, wh_len, wt_len, hd10_len, hdB_len, thr_len, ldp_len, ldB_len, tens_len, whz_len, majL_len, mf_len, tkL_len, ldY_len, fif_len, ldY_len]; omega) | decide)) kX8_113 vX0_has (by decide) rfl ho [1, 0] 2 (by decide +kernel) rfl rfl rfl rfl rfl hl.1 rfl (Nat.le_of_ble_eq_true rfl) dX8_air_5 0 0 rfl rfl (by decide) (fun v u_1 H locs hq ho => ?_)
  obtain rfl := hq
  have ho : ow D vwCl A s.heap H locs [bB K hon eo 204 air xo, bRP K hX hda hc hon hr ck] := ho
  refine W.eq (g2 := F0 m 8 ls [.int (bI (hasI air.length x))]) rfl ?_
  refine o_ifb_eq (tgt := 22) hx hb dX8_air_8 (by decide) (fun c_2 => ?_) (fun c_2 => ?_)
  · skip
    refine lv_iconst (v := (-1)) hx hb dX8_air_22 (by decide) ?_
    have ho : ow D vwCl A s.heap H locs [bRP K hX hda hc hon hr ck, bB K hon eo 204 air xo] := ho.re [1, 0] 2 (by decide +kernel) rfl rfl
    exact o_iret hQ C rfl ho () rfl rfl (Nat.le_of_ble_eq_true rfl) (Nat.le_of_ble_eq_true rfl) dX8_air_23
  · skip
    exact absurd (qx.symm.trans c_2) (by decide)

set_option maxHeartbeats 4000000 in
set_option maxRecDepth 100000 in
theorem c_RP_air (la : Launch) (D : va_G) (K : Nat → ClassId) (hX : Nat) (hda : Nat) (hc : Nat) (hon : Nat) (hr : Nat) (ck : Nat) (eo : Nat) (air : List Bool) (xo : Nat → Int32) (j : Nat) (qa : air.length ≤ 204) (qj : j < air.length) : MT la D K yX8_air cX8_air 2 (some .int) (rmL 2 0 0) [.ref hX, .int (nI j)] [bRP K hX hda hc hon hr ck, bB K hon eo 204 air xo] Unit (fun v _ => v = some (.int (bI (air.getD j false)))) (fun _ => [bRP K hX hda hc hon hr ck, bB K hon eo 204 air xo]) := by
  refine Mt.ofW [(0, .ref hX), (1, .int (nI j))] (by decide) rfl (Nat.le_of_ble_eq_true rfl) ?_
  intro p e s m args below meth c A ls H locs Qz hQ C hin hl ho
  have hx := C.1.1
  have hb := C.1.2.1
  refine lv_aload_n hx hb dX8_air_0 rfl (lv_at hl 0 rfl) ?_
  refine o_get (v := .ref hon) C ho 0 0 rfl rfl rfl 2 fX8_37 rfl dX8_air_1 ?_
  refine lv_iload_n hx hb dX8_air_4 rfl (lv_at hl 1 rfl) ?_
  refine o_callV (wr := [bRP K hX hda hc hon hr ck]) (rest := []) (As := [.int (nI j)]) C (c_Bits_has la D K hon eo 204 air xo (nI j) (by first | omega | assumption | (simp only [List.length_append, List.length_cons, List.length_nil, List.length_modify, List.length_set, nb_len, rb_len, rbp_len, sl_len, slN_len, wh_len, wt_len, hd10_len, hdB_len, thr_len, ldp_len, ldB_len, tens_len, whz_len, majL_len, mf_len, tkL_len, ldY_len, fif_len, ldY_len]; omega) | decide) (by first | omega | assumption | (simp only [List.length_append, List.length_cons, List.length_nil, List.length_modify, List.length_set, nb_len, rb_len, rbp_len, sl_len, slN_len, wh_len, wt_len, hd10_len, hdB_len, thr_len, ldp_len, ldB_len, tens_len, whz_len, majL_len, mf_len, tkL_len, ldY_len, fif_len, ldY_len]; omega) | decide)) kX8_113 vX0_has (by decide) rfl ho [1, 0] 2 (by decide +kernel) rfl rfl rfl rfl rfl hl.1 rfl (Nat.le_of_ble_eq_true rfl) dX8_air_5 0 0 rfl rfl (by decide) (fun v u_1 H locs hq ho => ?_)
  obtain rfl := hq
  have ho : ow D vwCl A s.heap H locs [bB K hon eo 204 air xo, bRP K hX hda hc hon hr ck] := ho
  refine W.eq (g2 := F0 m 8 ls [.int (bI (hasI air.length (nI j)))]) rfl ?_
  refine o_ifb_eq (tgt := 22) hx hb dX8_air_8 (by decide) (fun c_2 => ?_) (fun c_2 => ?_)
  · skip
    rw [hasI_N (by omega) (by omega)] at c_2; exact absurd qj (of_decide_eq_false c_2)
  · skip
    refine lv_aload_n hx hb dX8_air_11 rfl (lv_at hl 0 rfl) ?_
    refine o_get (v := .ref hon) C ho 1 0 rfl rfl rfl 2 fX8_37 rfl dX8_air_12 ?_
    refine lv_iload_n hx hb dX8_air_15 rfl (lv_at hl 1 rfl) ?_
    refine o_callV (wr := [bRP K hX hda hc hon hr ck]) (rest := []) (As := [.int (nI j)]) C (c_Bits_at la D K hon eo 204 air xo j (by first | omega | assumption | (simp only [List.length_append, List.length_cons, List.length_nil, List.length_modify, List.length_set, nb_len, rb_len, rbp_len, sl_len, slN_len, wh_len, wt_len, hd10_len, hdB_len, thr_len, ldp_len, ldB_len, tens_len, whz_len, majL_len, mf_len, tkL_len, ldY_len, fif_len, ldY_len]; omega) | decide) (by first | omega | assumption | (simp only [List.length_append, List.length_cons, List.length_nil, List.length_modify, List.length_set, nb_len, rb_len, rbp_len, sl_len, slN_len, wh_len, wt_len, hd10_len, hdB_len, thr_len, ldp_len, ldB_len, tens_len, whz_len, majL_len, mf_len, tkL_len, ldY_len, fif_len, ldY_len]; omega) | decide) (by first | omega | assumption | (simp only [List.length_append, List.length_cons, List.length_nil, List.length_modify, List.length_set, nb_len, rb_len, rbp_len, sl_len, slN_len, wh_len, wt_len, hd10_len, hdB_len, thr_len, ldp_len, ldB_len, tens_len, whz_len, majL_len, mf_len, tkL_len, ldY_len, fif_len, ldY_len]; omega) | decide)) kX8_116 vX0_at (by decide) rfl ho [0, 1] 2 (by decide +kernel) rfl rfl rfl rfl rfl hl.1 rfl (Nat.le_of_ble_eq_true rfl) dX8_air_16 0 0 rfl rfl (by decide) (fun v u_3 H locs hq ho => ?_)
    obtain rfl := hq
    have ho : ow D vwCl A s.heap H locs [bB K hon eo 204 air xo, bRP K hX hda hc hon hr ck] := ho
    refine W.eq (g2 := F0 m 19 ls [.int (bI (air.getD j false))]) rfl ?_
    refine lv_goto (tgt := 23) hx hb dX8_air_19 (by decide) ?_
    have ho : ow D vwCl A s.heap H locs [bRP K hX hda hc hon hr ck, bB K hon eo 204 air xo] := ho.re [1, 0] 2 (by decide +kernel) rfl rfl
    exact o_iret hQ C rfl ho () rfl rfl (Nat.le_of_ble_eq_true rfl) (Nat.le_of_ble_eq_true rfl) dX8_air_23

set_option maxHeartbeats 4000000 in
set_option maxRecDepth 100000 in
theorem c_RP_flipX (la : Launch) (D : va_G) (K : Nat → ClassId) (hX : Nat) (hda : Nat) (hc : Nat) (hon : Nat) (hr : Nat) (ck : Nat) (eo : Nat) (air : List Bool) (xo : Nat → Int32) (x : Int32) (qa : air.length ≤ 204) (qx : hasI air.length x = false) : MT la D K yX8_flip cX8_flip 2 (some .int) (rmL 2 0 0) [.ref hX, .int x] [bRP K hX hda hc hon hr ck, bB K hon eo 204 air xo] Unit (fun v _ => v = some (.int (-1))) (fun _ => [bRP K hX hda hc hon hr ck, bB K hon eo 204 air xo]) := by
  refine Mt.ofW [(0, .ref hX), (1, .int x)] (by decide) rfl (Nat.le_of_ble_eq_true rfl) ?_
  intro p e s m args below meth c A ls H locs Qz hQ C hin hl ho
  have hx := C.1.1
  have hb := C.1.2.1
  refine lv_aload_n hx hb dX8_flip_0 rfl (lv_at hl 0 rfl) ?_
  refine o_get (v := .ref hon) C ho 0 0 rfl rfl rfl 2 fX8_37 rfl dX8_flip_1 ?_
  refine lv_iload_n hx hb dX8_flip_4 rfl (lv_at hl 1 rfl) ?_
  refine o_callV (wr := [bRP K hX hda hc hon hr ck]) (rest := []) (As := [.int x]) C (c_Bits_has la D K hon eo 204 air xo x (by first | omega | assumption | (simp only [List.length_append, List.length_cons, List.length_nil, List.length_modify, List.length_set, nb_len, rb_len, rbp_len, sl_len, slN_len, wh_len, wt_len, hd10_len, hdB_len, thr_len, ldp_len, ldB_len, tens_len, whz_len, majL_len, mf_len, tkL_len, ldY_len, fif_len, ldY_len]; omega) | decide) (by first | omega | assumption | (simp only [List.length_append, List.length_cons, List.length_nil, List.length_modify, List.length_set, nb_len, rb_len, rbp_len, sl_len, slN_len, wh_len, wt_len, hd10_len, hdB_len, thr_len, ldp_len, ldB_len, tens_len, whz_len, majL_len, mf_len, tkL_len, ldY_len, fif_len, ldY_len]; omega) | decide)) kX8_113 vX0_has (by decide) rfl ho [1, 0] 2 (by decide +kernel) rfl rfl rfl rfl rfl hl.1 rfl (Nat.le_of_ble_eq_true rfl) dX8_flip_5 0 0 rfl rfl (by decide) (fun v u_1 H locs hq ho => ?_)
  obtain rfl := hq
  have ho : ow D vwCl A s.heap H locs [bB K hon eo 204 air xo, bRP K hX hda hc hon hr ck] := ho
  refine W.eq (g2 := F0 m 8 ls [.int (bI (hasI air.length x))]) rfl ?_
  refine o_ifb_ne (tgt := 13) hx hb dX8_flip_8 (by decide) (fun c_2 => ?_) (fun c_2 => ?_)
  · skip
    exact absurd (qx.symm.trans c_2) (by decide)
  · skip
    refine lv_iconst (v := (-1)) hx hb dX8_flip_11 (by decide) ?_
    have ho : ow D vwCl A s.heap H locs [bRP K hX hda hc hon hr ck, bB K hon eo 204 air xo] := ho.re [1, 0] 2 (by decide +kernel) rfl rfl
    exact o_iret hQ C rfl ho () rfl rfl (Nat.le_of_ble_eq_true rfl) (Nat.le_of_ble_eq_true rfl) dX8_flip_12

set_option maxHeartbeats 4000000 in
set_option maxRecDepth 100000 in
theorem c_RP_flip (la : Launch) (D : va_G) (K : Nat → ClassId) (hX : Nat) (hda : Nat) (hc : Nat) (hon : Nat) (hr : Nat) (ck : Nat) (eo : Nat) (air : List Bool) (xo : Nat → Int32) (j : Nat) (qa : air.length ≤ 204) (qj : j < air.length) : MT la D K yX8_flip cX8_flip 2 (some .int) (rmL 3 0 0) [.ref hX, .int (nI j)] [bRP K hX hda hc hon hr ck, bB K hon eo 204 air xo] Unit (fun v _ => v = some (.int (nI 0))) (fun _ => [bRP K hX hda hc hon hr ck, bB K hon eo 204 (air.modify j (fun b => !b)) xo]) := by
  refine Mt.ofW [(0, .ref hX), (1, .int (nI j))] (by decide) rfl (Nat.le_of_ble_eq_true rfl) ?_
  intro p e s m args below meth c A ls H locs Qz hQ C hin hl ho
  have hx := C.1.1
  have hb := C.1.2.1
  refine lv_aload_n hx hb dX8_flip_0 rfl (lv_at hl 0 rfl) ?_
  refine o_get (v := .ref hon) C ho 0 0 rfl rfl rfl 2 fX8_37 rfl dX8_flip_1 ?_
  refine lv_iload_n hx hb dX8_flip_4 rfl (lv_at hl 1 rfl) ?_
  refine o_callV (wr := [bRP K hX hda hc hon hr ck]) (rest := []) (As := [.int (nI j)]) C (c_Bits_has la D K hon eo 204 air xo (nI j) (by first | omega | assumption | (simp only [List.length_append, List.length_cons, List.length_nil, List.length_modify, List.length_set, nb_len, rb_len, rbp_len, sl_len, slN_len, wh_len, wt_len, hd10_len, hdB_len, thr_len, ldp_len, ldB_len, tens_len, whz_len, majL_len, mf_len, tkL_len, ldY_len, fif_len, ldY_len]; omega) | decide) (by first | omega | assumption | (simp only [List.length_append, List.length_cons, List.length_nil, List.length_modify, List.length_set, nb_len, rb_len, rbp_len, sl_len, slN_len, wh_len, wt_len, hd10_len, hdB_len, thr_len, ldp_len, ldB_len, tens_len, whz_len, majL_len, mf_len, tkL_len, ldY_len, fif_len, ldY_len]; omega) | decide)) kX8_113 vX0_has (by decide) rfl ho [1, 0] 2 (by decide +kernel) rfl rfl rfl rfl rfl hl.1 rfl (Nat.le_of_ble_eq_true rfl) dX8_flip_5 0 0 rfl rfl (by decide) (fun v u_1 H locs hq ho => ?_)
  obtain rfl := hq
  have ho : ow D vwCl A s.heap H locs [bB K hon eo 204 air xo, bRP K hX hda hc hon hr ck] := ho
  refine W.eq (g2 := F0 m 8 ls [.int (bI (hasI air.length (nI j)))]) rfl ?_
  refine o_ifb_ne (tgt := 13) hx hb dX8_flip_8 (by decide) (fun c_2 => ?_) (fun c_2 => ?_)
  · skip
    refine lv_aload_n hx hb dX8_flip_13 rfl (lv_at hl 0 rfl) ?_
    refine o_get (v := .ref hon) C ho 1 0 rfl rfl rfl 2 fX8_37 rfl dX8_flip_14 ?_
    refine lv_iload_n hx hb dX8_flip_17 rfl (lv_at hl 1 rfl) ?_
    refine o_callV (wr := [bRP K hX hda hc hon hr ck]) (rest := []) (As := [.int (nI j)]) C (c_Bits_turnOver la D K hon eo 204 air xo j (by first | omega | assumption | (simp only [List.length_append, List.length_cons, List.length_nil, List.length_modify, List.length_set, nb_len, rb_len, rbp_len, sl_len, slN_len, wh_len, wt_len, hd10_len, hdB_len, thr_len, ldp_len, ldB_len, tens_len, whz_len, majL_len, mf_len, tkL_len, ldY_len, fif_len, ldY_len]; omega) | decide) (by first | omega | assumption | (simp only [List.length_append, List.length_cons, List.length_nil, List.length_modify, List.length_set, nb_len, rb_len, rbp_len, sl_len, slN_len, wh_len, wt_len, hd10_len, hdB_len, thr_len, ldp_len, ldB_len, tens_len, whz_len, majL_len, mf_len, tkL_len, ldY_len, fif_len, ldY_len]; omega) | decide) (by first | omega | assumption | (simp only [List.length_append, List.length_cons, List.length_nil, List.length_modify, List.length_set, nb_len, rb_len, rbp_len, sl_len, slN_len, wh_len, wt_len, hd10_len, hdB_len, thr_len, ldp_len, ldB_len, tens_len, whz_len, majL_len, mf_len, tkL_len, ldY_len, fif_len, ldY_len]; omega) | decide)) kX8_120 vX0_turnOver (by decide) rfl ho [0, 1] 2 (by decide +kernel) rfl rfl rfl rfl rfl hl.1 rfl (Nat.le_of_ble_eq_true rfl) dX8_flip_18 0 0 rfl rfl (by decide) (fun v u_3 H locs hq ho => ?_)
    obtain rfl := hq
    have ho : ow D vwCl A s.heap H locs [bB K hon eo 204 (air.modify j (fun b => !b)) xo, bRP K hX hda hc hon hr ck] := ho
    refine W.eq (g2 := F0 m 21 ls []) rfl ?_
    refine lv_iconst (v := nI 0) hx hb dX8_flip_21 (by decide) ?_
    have ho : ow D vwCl A s.heap H locs [bRP K hX hda hc hon hr ck, bB K hon eo 204 (air.modify j (fun b => !b)) xo] := ho.re [1, 0] 2 (by decide +kernel) rfl rfl
    exact o_iret hQ C rfl ho () rfl rfl (Nat.le_of_ble_eq_true rfl) (Nat.le_of_ble_eq_true rfl) dX8_flip_22
  · skip
    rw [hasI_N (by omega) (by omega)] at c_2; exact absurd qj (of_decide_eq_false c_2)

set_option maxHeartbeats 4000000 in
set_option maxRecDepth 100000 in
theorem c_RP_slot0 (la : Launch) (D : va_G) (K : Nat → ClassId) (hX : Nat) (hda : Nat) (hc : Nat) (hon : Nat) (hr : Nat) (ck : Nat) (da : Nat → Nat) (eo : Nat) (air : List Bool) (xo : Nat → Int32) (d : Nat) (h : Nat) (hi : Nat) (hb_ : Nat) (gd : Bool) (hbm : Nat) (bak : Bool) (bt_ : Bool) (bbe : Bool) (bcr : Nat) (qd : ck % 2 = d) (qa : air.length ≤ 204) : MT la D K yX8_slot cX8_slot 2 (some .int) (rmL 2 0 0) [.ref hX] [bRP K hX hda hc hon hr ck, bDA K hda da, bB K hon eo 204 air xo, bD K (da d) h hi hb_ gd false, bF K hb_ hbm 2 bak bt_ bbe bcr] (Nat → Int32) (fun v _ => v = some (.int (nI 0))) (fun u => [bRP K hX hda hc hon hr (ck + 1), bDA K hda da, bB K hon eo 204 [] u, bD K (da d) h hi hb_ gd false, bF K hb_ hbm 2 bak bt_ bbe bcr]) := by
  refine Mt.ofW [(0, .ref hX)] (by decide) rfl (Nat.le_of_ble_eq_true rfl) ?_
  intro p e s m args below meth c A ls H locs Qz hQ C hin hl ho
  have hx := C.1.1
  have hb := C.1.2.1
  refine lv_aload_n hx hb dX8_slot_0 rfl (lv_at hl 0 rfl) ?_
  refine o_get (v := .ref hon) C ho 0 0 rfl rfl rfl 2 fX8_37 rfl dX8_slot_1 ?_
  refine o_callV (wr := [bRP K hX hda hc hon hr ck, bDA K hda da, bD K (da d) h hi hb_ gd false, bF K hb_ hbm 2 bak bt_ bbe bcr]) (rest := []) (As := []) C (c_Bits_clear la D K hon eo 204 air xo (by first | omega | assumption | (simp only [List.length_append, List.length_cons, List.length_nil, List.length_modify, List.length_set, nb_len, rb_len, rbp_len, sl_len, slN_len, wh_len, wt_len, hd10_len, hdB_len, thr_len, ldp_len, ldB_len, tens_len, whz_len, majL_len, mf_len, tkL_len, ldY_len, fif_len, ldY_len]; omega) | decide) (by first | omega | assumption | (simp only [List.length_append, List.length_cons, List.length_nil, List.length_modify, List.length_set, nb_len, rb_len, rbp_len, sl_len, slN_len, wh_len, wt_len, hd10_len, hdB_len, thr_len, ldp_len, ldB_len, tens_len, whz_len, majL_len, mf_len, tkL_len, ldY_len, fif_len, ldY_len]; omega) | decide)) kX8_94 vX0_clear (by decide) rfl ho [2, 0, 1, 3, 4] 5 (by decide +kernel) rfl rfl rfl rfl rfl hl.1 rfl (Nat.le_of_ble_eq_true rfl) dX8_slot_4 0 0 rfl rfl (by decide) (fun v u_1 H locs hq ho => ?_)
  obtain rfl := hq
  have ho : ow D vwCl A s.heap H locs [bB K hon eo 204 [] u_1, bRP K hX hda hc hon hr ck, bDA K hda da, bD K (da d) h hi hb_ gd false, bF K hb_ hbm 2 bak bt_ bbe bcr] := ho
  refine W.eq (g2 := F0 m 7 ls []) rfl ?_
  refine lv_aload_n hx hb dX8_slot_7 rfl (lv_at hl 0 rfl) ?_
  refine o_get (v := .ref hda) C ho 1 0 rfl rfl rfl 0 fX8_11 rfl dX8_slot_8 ?_
  refine lv_aload_n hx hb dX8_slot_11 rfl (lv_at hl 0 rfl) ?_
  refine o_callV (wr := [bB K hon eo 204 [] u_1, bDA K hda da, bD K (da d) h hi hb_ gd false, bF K hb_ hbm 2 bak bt_ bbe bcr]) (rest := [.ref hda]) (As := []) C (c_RP_turn la D K hX hda hc hon hr ck ) kX8_95 vX8_deviceOfTurn (by decide) rfl ho [1, 0, 2, 3, 4] 5 (by decide +kernel) rfl rfl rfl rfl rfl hl.1 rfl (Nat.le_of_ble_eq_true rfl) dX8_slot_12 0 0 rfl rfl (by decide) (fun v u_2 H locs hq ho => ?_)
  obtain rfl := hq
  have ho : ow D vwCl A s.heap H locs [bRP K hX hda hc hon hr ck, bB K hon eo 204 [] u_1, bDA K hda da, bD K (da d) h hi hb_ gd false, bF K hb_ hbm 2 bak bt_ bbe bcr] := ho
  refine W.eq (g2 := F0 m 15 ls [.int (nI (ck % 2)), .ref hda]) rfl ?_
  refine o_top (y := nI d) (by rw [qd]) ?_
  have hd2 : d < 2 := by omega
  refine o_aald (v := (da d)) C ho 2 0 rfl rfl 2 rfl d rfl (by omega) (by omega) rfl dX8_slot_15 ?_
  refine o_callV (wr := [bRP K hX hda hc hon hr ck, bB K hon eo 204 [] u_1, bDA K hda da]) (rest := []) (As := []) C (c_Dev_speak0 la D K h (da d) hi gd hb_ hbm bak bt_ bbe bcr ) kX8_99 vX2_speak (by decide) rfl ho [3, 4, 0, 1, 2] 5 (by decide +kernel) rfl rfl rfl rfl rfl hl.1 rfl (Nat.le_of_ble_eq_true rfl) dX8_slot_16 0 0 rfl rfl (by decide) (fun v u_3 H locs hq ho => ?_)
  obtain rfl := hq
  have ho : ow D vwCl A s.heap H locs [bD K (da d) h hi hb_ gd false, bF K hb_ hbm 2 bak bt_ bbe bcr, bRP K hX hda hc hon hr ck, bB K hon eo 204 [] u_1, bDA K hda da] := ho
  refine W.eq (g2 := F0 m 19 ls [.null]) rfl ?_
  refine lv_astore_nN (lv' := [(1, .null), (0, .ref hX)]) hx hb dX8_slot_19 rfl hl (by decide) rfl (fun ls hl => ?_)
  refine lv_aload_nN hx hb dX8_slot_20 rfl (lv_at hl 0 rfl) ?_
  refine lv_ifnullN (tgt := 40) hx hb dX8_slot_21 (by decide) ?_
  refine lv_aload_n hx hb dX8_slot_40 rfl (lv_at hl 1 rfl) ?_
  refine lv_dup hx hb dX8_slot_41 rfl ?_
  refine o_get (v := .int (nI ck)) C ho 2 0 rfl rfl rfl 4 fX8_103 rfl dX8_slot_42 ?_
  refine lv_iconst (v := nI 1) hx hb dX8_slot_45 (by decide) ?_
  refine o_add hx hb dX8_slot_46 ?_
  refine o_put (v := .int (nI (ck + 1))) (bs' := [bD K (da d) h hi hb_ gd false, bF K hb_ hbm 2 bak bt_ bbe bcr, bRP K hX hda hc hon hr (ck + 1), bB K hon eo 204 [] u_1, bDA K hda da]) C ho 2 0 rfl rfl rfl 4 fX8_103 pX8_4 rfl rfl (Nat.le_of_ble_eq_true rfl) dX8_slot_47 rfl (fun H locs ho => ?_)
  refine lv_aload_nN hx hb dX8_slot_50 rfl (lv_at hl 0 rfl) ?_
  refine lv_ifnonnullN hx hb dX8_slot_51 ?_
  refine lv_iconst (v := nI 0) hx hb dX8_slot_54 (by decide) ?_
  refine lv_goto (tgt := 62) hx hb dX8_slot_55 (by decide) ?_
  have ho : ow D vwCl A s.heap H locs [bRP K hX hda hc hon hr (ck + 1), bDA K hda da, bB K hon eo 204 [] u_1, bD K (da d) h hi hb_ gd false, bF K hb_ hbm 2 bak bt_ bbe bcr] := ho.re [2, 4, 3, 0, 1] 5 (by decide +kernel) rfl rfl
  exact o_iret hQ C rfl ho u_1 rfl rfl (Nat.le_of_ble_eq_true rfl) (Nat.le_of_ble_eq_true rfl) dX8_slot_62

set_option maxHeartbeats 4000000 in
set_option maxRecDepth 100000 in
theorem c_RP_slot1_1 (la : Launch) (D : va_G) (K : Nat → ClassId) (hX : Nat) (hda : Nat) (hc : Nat) (hon : Nat) (hr : Nat) (ck : Nat) (da : Nat → Nat) (eo : Nat) (air : List Bool) (xo : Nat → Int32) (ad : Nat) (c1 : Nat) (c2 : Nat) (c3 : Nat) (c4 : Nat) (e1 : Nat) (e2 : Nat) (e3 : Nat) (e4 : Nat) (w1 : List Bool) (w2 : List Bool) (w3 : List Bool) (w4 : List Bool) (x1 : Nat → Int32) (x2 : Nat → Int32) (x3 : Nat → Int32) (x4 : Nat → Int32) (d : Nat) (hi : Nat) (gd : Bool) (hd : Bool) (h : Nat) (hw : Nat) (hq : Nat) (hs : Nat) (hf : Nat) (fr : Nat) (gu : Bool) (tu : Bool) (hm : Nat) (kd : Nat) (ak : Bool) (ft : Bool) (be : Bool) (cr : Nat) (am : Nat) (lm : List Nat) (gm : Nat → Int32) (hb_ : Nat) (hbm : Nat) (bak : Bool) (bt_ : Bool) (bbe : Bool) (bcr : Nat) (qw1 : w1.length ≤ 168) (qw2 : w2.length ≤ 18) (qw3 : w3.length ≤ 150) (qw4 : w4.length ≤ 15) (qad : ad < 8) (qck : ck < 2 ^ 29) (qd : ck % 2 = d) (qa : air.length ≤ 204) (qk : kd = 3 ∨ kd = 4) (qm : lm.length ≤ 13) (qm9 : kd = 3 → lm.length ≤ 9) (qb : ∀ j, lm.getD j 0 < 256) : MT la D K yX8_slot cX8_slot 2 (some .int) (rmL 5 0 0) [.ref hX] [bRP K hX hda hc hon hr ck, bDA K hda da, bB K hon eo 204 air xo, bC K hc ad c1 c2 c3 c4, bB K c1 e1 168 w1 x1, bB K c2 e2 18 w2 x2, bB K c3 e3 150 w3 x3, bB K c4 e4 15 w4 x4, bD K (da d) h hi hb_ gd hd, bO K h hw hq hs hf fr true gu tu, bF K hf hm kd ak ft be cr, bM K hm am 63 lm gm, bF K hb_ hbm 1 bak bt_ bbe bcr] ((Nat → Nat → Int32) × List Bool × List Bool × List Bool × List Bool) (fun v u => v = some (.int (nI kd)) ∧ u.2.1.length ≤ 18 ∧ u.2.2.1.length ≤ 150 ∧ u.2.2.2.1.length ≤ 15 ∧ u.2.2.2.2.length ≤ 168) (fun u => [bRP K hX hda hc hon hr (ck + 1), bDA K hda da, bB K hon eo 204 (airW ck ad kd gd ft (cond be 2 1) lm) (u.1 4), bC K hc ad c1 c2 c3 c4, bB K c1 e1 168 u.2.2.2.2 (u.1 0), bB K c2 e2 18 u.2.1 (u.1 1), bB K c3 e3 150 u.2.2.1 (u.1 2), bB K c4 e4 15 u.2.2.2.1 (u.1 3), bD K (da d) h hi hb_ false false, bO K h hw hq hs hf fr true gu tu, bF K hf hm kd gd ft be cr, bM K hm am 63 lm gm, bF K hb_ hbm 1 bak bt_ bbe bcr]) := by
  refine Mt.ofW [(0, .ref hX)] (by decide) rfl (Nat.le_of_ble_eq_true rfl) ?_
  intro p e s m args below meth c A ls H locs Qz hQ C hin hl ho
  have hx := C.1.1
  have hb := C.1.2.1
  refine lv_aload_n hx hb dX8_slot_0 rfl (lv_at hl 0 rfl) ?_
  refine o_get (v := .ref hon) C ho 0 0 rfl rfl rfl 2 fX8_37 rfl dX8_slot_1 ?_
  refine o_callV (wr := [bRP K hX hda hc hon hr ck, bDA K hda da, bC K hc ad c1 c2 c3 c4, bB K c1 e1 168 w1 x1, bB K c2 e2 18 w2 x2, bB K c3 e3 150 w3 x3, bB K c4 e4 15 w4 x4, bD K (da d) h hi hb_ gd hd, bO K h hw hq hs hf fr true gu tu, bF K hf hm kd ak ft be cr, bM K hm am 63 lm gm, bF K hb_ hbm 1 bak bt_ bbe bcr]) (rest := []) (As := []) C (c_Bits_clear la D K hon eo 204 air xo (by first | omega | assumption | (simp only [List.length_append, List.length_cons, List.length_nil, List.length_modify, List.length_set, nb_len, rb_len, rbp_len, sl_len, slN_len, wh_len, wt_len, hd10_len, hdB_len, thr_len, ldp_len, ldB_len, tens_len, whz_len, majL_len, mf_len, tkL_len, ldY_len, fif_len, ldY_len]; omega) | decide) (by first | omega | assumption | (simp only [List.length_append, List.length_cons, List.length_nil, List.length_modify, List.length_set, nb_len, rb_len, rbp_len, sl_len, slN_len, wh_len, wt_len, hd10_len, hdB_len, thr_len, ldp_len, ldB_len, tens_len, whz_len, majL_len, mf_len, tkL_len, ldY_len, fif_len, ldY_len]; omega) | decide)) kX8_94 vX0_clear (by decide) rfl ho [2, 0, 1, 3, 4, 5, 6, 7, 8, 9, 10, 11, 12] 13 (by decide +kernel) rfl rfl rfl rfl rfl hl.1 rfl (Nat.le_of_ble_eq_true rfl) dX8_slot_4 0 0 rfl rfl (by decide) (fun v u_1 H locs hq ho => ?_)
  obtain rfl := hq
  have ho : ow D vwCl A s.heap H locs [bB K hon eo 204 [] u_1, bRP K hX hda hc hon hr ck, bDA K hda da, bC K hc ad c1 c2 c3 c4, bB K c1 e1 168 w1 x1, bB K c2 e2 18 w2 x2, bB K c3 e3 150 w3 x3, bB K c4 e4 15 w4 x4, bD K (da d) h hi hb_ gd hd, bO K h hw hq hs hf fr true gu tu, bF K hf hm kd ak ft be cr, bM K hm am 63 lm gm, bF K hb_ hbm 1 bak bt_ bbe bcr] := ho
  refine W.eq (g2 := F0 m 7 ls []) rfl ?_
  refine lv_aload_n hx hb dX8_slot_7 rfl (lv_at hl 0 rfl) ?_
  refine o_get (v := .ref hda) C ho 1 0 rfl rfl rfl 0 fX8_11 rfl dX8_slot_8 ?_
  refine lv_aload_n hx hb dX8_slot_11 rfl (lv_at hl 0 rfl) ?_
  refine o_callV (wr := [bB K hon eo 204 [] u_1, bDA K hda da, bC K hc ad c1 c2 c3 c4, bB K c1 e1 168 w1 x1, bB K c2 e2 18 w2 x2, bB K c3 e3 150 w3 x3, bB K c4 e4 15 w4 x4, bD K (da d) h hi hb_ gd hd, bO K h hw hq hs hf fr true gu tu, bF K hf hm kd ak ft be cr, bM K hm am 63 lm gm, bF K hb_ hbm 1 bak bt_ bbe bcr]) (rest := [.ref hda]) (As := []) C (c_RP_turn la D K hX hda hc hon hr ck ) kX8_95 vX8_deviceOfTurn (by decide) rfl ho [1, 0, 2, 3, 4, 5, 6, 7, 8, 9, 10, 11, 12] 13 (by decide +kernel) rfl rfl rfl rfl rfl hl.1 rfl (Nat.le_of_ble_eq_true rfl) dX8_slot_12 0 0 rfl rfl (by decide) (fun v u_2 H locs hq ho => ?_)
  obtain rfl := hq
  have ho : ow D vwCl A s.heap H locs [bRP K hX hda hc hon hr ck, bB K hon eo 204 [] u_1, bDA K hda da, bC K hc ad c1 c2 c3 c4, bB K c1 e1 168 w1 x1, bB K c2 e2 18 w2 x2, bB K c3 e3 150 w3 x3, bB K c4 e4 15 w4 x4, bD K (da d) h hi hb_ gd hd, bO K h hw hq hs hf fr true gu tu, bF K hf hm kd ak ft be cr, bM K hm am 63 lm gm, bF K hb_ hbm 1 bak bt_ bbe bcr] := ho
  refine W.eq (g2 := F0 m 15 ls [.int (nI (ck % 2)), .ref hda]) rfl ?_
  refine o_top (y := nI d) (by rw [qd]) ?_
  have hd2 : d < 2 := by omega
  refine o_aald (v := (da d)) C ho 2 0 rfl rfl 2 rfl d rfl (by omega) (by omega) rfl dX8_slot_15 ?_
  refine o_callV (wr := [bRP K hX hda hc hon hr ck, bB K hon eo 204 [] u_1, bDA K hda da, bC K hc ad c1 c2 c3 c4, bB K c1 e1 168 w1 x1, bB K c2 e2 18 w2 x2, bB K c3 e3 150 w3 x3, bB K c4 e4 15 w4 x4, bM K hm am 63 lm gm]) (rest := []) (As := []) C (c_Dev_speak1_1 la D K (da d) hi gd hd h hw hq hs hf fr gu tu hm kd ak ft be cr hb_ hbm bak bt_ bbe bcr ) kX8_99 vX2_speak (by decide) rfl ho [8, 9, 10, 12, 0, 1, 2, 3, 4, 5, 6, 7, 11] 13 (by decide +kernel) rfl rfl rfl rfl rfl hl.1 rfl (Nat.le_of_ble_eq_true rfl) dX8_slot_16 0 0 rfl rfl (by decide) (fun v u_3 H locs hq ho => ?_)
  obtain rfl := hq
  have ho : ow D vwCl A s.heap H locs [bD K (da d) h hi hb_ false false, bO K h hw hq hs hf fr true gu tu, bF K hf hm kd gd ft be cr, bF K hb_ hbm 1 bak bt_ bbe bcr, bRP K hX hda hc hon hr ck, bB K hon eo 204 [] u_1, bDA K hda da, bC K hc ad c1 c2 c3 c4, bB K c1 e1 168 w1 x1, bB K c2 e2 18 w2 x2, bB K c3 e3 150 w3 x3, bB K c4 e4 15 w4 x4, bM K hm am 63 lm gm] := ho
  refine W.eq (g2 := F0 m 19 ls [.ref hf]) rfl ?_
  refine lv_astore_n (lv' := [(1, .ref hf), (0, .ref hX)]) hx hb dX8_slot_19 rfl hl (by decide) rfl (fun ls hl => ?_)
  refine lv_aload_n hx hb dX8_slot_20 rfl (lv_at hl 0 rfl) ?_
  refine lv_ifnull hx hb dX8_slot_21 ?_
  have hk16 : kd < 16 := by omega
  refine lv_aload_n hx hb dX8_slot_24 rfl (lv_at hl 1 rfl) ?_
  refine o_get (v := .ref hc) C ho 4 0 rfl rfl rfl 1 fX8_30 rfl dX8_slot_25 ?_
  refine lv_aload_n hx hb dX8_slot_28 rfl (lv_at hl 0 rfl) ?_
  refine lv_aload_n hx hb dX8_slot_29 rfl (lv_at hl 1 rfl) ?_
  refine o_get (v := .int (nI ck)) C ho 4 0 rfl rfl rfl 4 fX8_103 rfl dX8_slot_30 ?_
  refine lv_aload_n hx hb dX8_slot_33 rfl (lv_at hl 1 rfl) ?_
  refine o_get (v := .ref hon) C ho 4 0 rfl rfl rfl 2 fX8_37 rfl dX8_slot_34 ?_
  refine o_callV (wr := [bD K (da d) h hi hb_ false false, bO K h hw hq hs hf fr true gu tu, bF K hb_ hbm 1 bak bt_ bbe bcr, bRP K hX hda hc hon hr ck, bDA K hda da]) (rest := []) (As := [.ref hf, .int (nI ck), .ref hon]) C (c_Coder_put la D K hc ad c1 c2 c3 c4 e1 w1 x1 e2 w2 x2 e3 w3 x3 e4 w4 x4 hf hm kd gd ft be cr am lm gm hon eo u_1 ck qw1 qw2 qw3 qw4 qad hk16 qm qm9 qb (by omega)) kX8_106 vX1_put (by decide) rfl ho [7, 8, 9, 10, 11, 2, 12, 5, 0, 1, 3, 4, 6] 13 (by decide +kernel) rfl rfl rfl rfl rfl hl.1 rfl (Nat.le_of_ble_eq_true rfl) dX8_slot_37 0 0 rfl rfl (by decide) (fun v u_4 H locs hq ho => ?_)
  obtain ⟨rfl, hqp⟩ := hq
  have ho : ow D vwCl A s.heap H locs [bC K hc ad c1 c2 c3 c4, bB K c1 e1 168 u_4.2.2.2.2 (u_4.1 0), bB K c2 e2 18 u_4.2.1 (u_4.1 1), bB K c3 e3 150 u_4.2.2.1 (u_4.1 2), bB K c4 e4 15 u_4.2.2.2.1 (u_4.1 3), bF K hf hm kd gd ft be cr, bM K hm am 63 lm gm, bB K hon eo 204 (airW ck ad kd gd ft (cond be 2 1) lm) u_1, bD K (da d) h hi hb_ false false, bO K h hw hq hs hf fr true gu tu, bF K hb_ hbm 1 bak bt_ bbe bcr, bRP K hX hda hc hon hr ck, bDA K hda da] := ho
  refine W.eq (g2 := F0 m 40 ls []) rfl ?_
  refine lv_aload_n hx hb dX8_slot_40 rfl (lv_at hl 1 rfl) ?_
  refine lv_dup hx hb dX8_slot_41 rfl ?_
  refine o_get (v := .int (nI ck)) C ho 11 0 rfl rfl rfl 4 fX8_103 rfl dX8_slot_42 ?_
  refine lv_iconst (v := nI 1) hx hb dX8_slot_45 (by decide) ?_
  refine o_add hx hb dX8_slot_46 ?_
  refine o_put (v := .int (nI (ck + 1))) (bs' := [bC K hc ad c1 c2 c3 c4, bB K c1 e1 168 u_4.2.2.2.2 (u_4.1 0), bB K c2 e2 18 u_4.2.1 (u_4.1 1), bB K c3 e3 150 u_4.2.2.1 (u_4.1 2), bB K c4 e4 15 u_4.2.2.2.1 (u_4.1 3), bF K hf hm kd gd ft be cr, bM K hm am 63 lm gm, bB K hon eo 204 (airW ck ad kd gd ft (cond be 2 1) lm) u_1, bD K (da d) h hi hb_ false false, bO K h hw hq hs hf fr true gu tu, bF K hb_ hbm 1 bak bt_ bbe bcr, bRP K hX hda hc hon hr (ck + 1), bDA K hda da]) C ho 11 0 rfl rfl rfl 4 fX8_103 pX8_4 rfl rfl (Nat.le_of_ble_eq_true rfl) dX8_slot_47 rfl (fun H locs ho => ?_)
  refine lv_aload_n hx hb dX8_slot_50 rfl (lv_at hl 0 rfl) ?_
  refine lv_ifnonnull (tgt := 58) hx hb dX8_slot_51 (by decide) ?_
  refine lv_aload_n hx hb dX8_slot_58 rfl (lv_at hl 0 rfl) ?_
  refine o_get (v := .int (nI kd)) C ho 5 0 rfl rfl rfl 1 fX8_110 rfl dX8_slot_59 ?_
  have ho : ow D vwCl A s.heap H locs [bRP K hX hda hc hon hr (ck + 1), bDA K hda da, bB K hon eo 204 (airW ck ad kd gd ft (cond be 2 1) lm) u_1, bC K hc ad c1 c2 c3 c4, bB K c1 e1 168 u_4.2.2.2.2 (u_4.1 0), bB K c2 e2 18 u_4.2.1 (u_4.1 1), bB K c3 e3 150 u_4.2.2.1 (u_4.1 2), bB K c4 e4 15 u_4.2.2.2.1 (u_4.1 3), bD K (da d) h hi hb_ false false, bO K h hw hq hs hf fr true gu tu, bF K hf hm kd gd ft be cr, bM K hm am 63 lm gm, bF K hb_ hbm 1 bak bt_ bbe bcr] := ho.re [11, 12, 7, 0, 1, 2, 3, 4, 8, 9, 5, 6, 10] 13 (by decide +kernel) rfl rfl
  exact o_iret hQ C rfl ho (gs [u_4.1 0, u_4.1 1, u_4.1 2, u_4.1 3, u_1], u_4.2.1, u_4.2.2.1, u_4.2.2.2.1, u_4.2.2.2.2) (by dsimp only; exact ⟨rfl, hqp⟩) (by dsimp only [gs, List.getD_cons_zero, List.getD_cons_succ] <;> rfl) (Nat.le_of_ble_eq_true rfl) (Nat.le_of_ble_eq_true rfl) dX8_slot_62

set_option maxHeartbeats 4000000 in
set_option maxRecDepth 100000 in
theorem c_RP_slot1_2 (la : Launch) (D : va_G) (K : Nat → ClassId) (hX : Nat) (hda : Nat) (hc : Nat) (hon : Nat) (hr : Nat) (ck : Nat) (da : Nat → Nat) (eo : Nat) (air : List Bool) (xo : Nat → Int32) (ad : Nat) (c1 : Nat) (c2 : Nat) (c3 : Nat) (c4 : Nat) (e1 : Nat) (e2 : Nat) (e3 : Nat) (e4 : Nat) (w1 : List Bool) (w2 : List Bool) (w3 : List Bool) (w4 : List Bool) (x1 : Nat → Int32) (x2 : Nat → Int32) (x3 : Nat → Int32) (x4 : Nat → Int32) (d : Nat) (hi : Nat) (gd : Bool) (hd : Bool) (h : Nat) (hw : Nat) (hq : Nat) (hs : Nat) (hf : Nat) (fr : Nat) (gu : Bool) (tu : Bool) (as_ : Nat) (ls_ : List Nat) (gs_ : Nat → Int32) (hm : Nat) (kd : Nat) (ak : Bool) (ft : Bool) (be : Bool) (cr : Nat) (am : Nat) (lm : List Nat) (gm : Nat → Int32) (hb_ : Nat) (hbm : Nat) (bak : Bool) (bt_ : Bool) (bbe : Bool) (bcr : Nat) (qw1 : w1.length ≤ 168) (qw2 : w2.length ≤ 18) (qw3 : w3.length ≤ 150) (qw4 : w4.length ≤ 15) (qad : ad < 8) (qck : ck < 2 ^ 29) (qd : ck % 2 = d) (qa : air.length ≤ 204) (q1 : fr < ls_.length) (q2 : ls_.length ≤ 41) (q3 : lm.length ≤ 63) (qb : ∀ j, ls_.getD j 0 < 256) : MT la D K yX8_slot cX8_slot 2 (some .int) (rmL 6 0 0) [.ref hX] [bRP K hX hda hc hon hr ck, bDA K hda da, bB K hon eo 204 air xo, bC K hc ad c1 c2 c3 c4, bB K c1 e1 168 w1 x1, bB K c2 e2 18 w2 x2, bB K c3 e3 150 w3 x3, bB K c4 e4 15 w4 x4, bD K (da d) h hi hb_ gd hd, bO K h hw hq hs hf fr false gu tu, bM K hs as_ 41 ls_ gs_, bF K hf hm kd ak ft be cr, bM K hm am 63 lm gm, bF K hb_ hbm 1 bak bt_ bbe bcr] (((Nat → Nat → Int32) × List Bool × List Bool × List Bool × List Bool) × (Nat → Int32)) (fun v u => v = some (.int (nI (cond gu 3 4))) ∧ u.1.2.1.length ≤ 18 ∧ u.1.2.2.1.length ≤ 150 ∧ u.1.2.2.2.1.length ≤ 15 ∧ u.1.2.2.2.2.length ≤ 168) (fun u => [bRP K hX hda hc hon hr (ck + 1), bDA K hda da, bB K hon eo 204 (airW ck ad (cond gu 3 4) gd (!tu) (cond (decide (fr = 0)) 2 1) (slN ls_ fr (nxt gu (ls_.length - fr)))) (u.1.1 4), bC K hc ad c1 c2 c3 c4, bB K c1 e1 168 u.1.2.2.2.2 (u.1.1 0), bB K c2 e2 18 u.1.2.1 (u.1.1 1), bB K c3 e3 150 u.1.2.2.1 (u.1.1 2), bB K c4 e4 15 u.1.2.2.2.1 (u.1.1 3), bD K (da d) h hi hb_ false false, bO K h hw hq hs hf (fr + nxt gu (ls_.length - fr)) true gu (!tu), bM K hs as_ 41 ls_ gs_, bF K hf hm (cond gu 3 4) gd (!tu) (decide (fr = 0)) cr, bM K hm am 63 (slN ls_ fr (nxt gu (ls_.length - fr))) u.2, bF K hb_ hbm 1 bak bt_ bbe bcr]) := by
  refine Mt.ofW [(0, .ref hX)] (by decide) rfl (Nat.le_of_ble_eq_true rfl) ?_
  intro p e s m args below meth c A ls H locs Qz hQ C hin hl ho
  have hx := C.1.1
  have hb := C.1.2.1
  refine lv_aload_n hx hb dX8_slot_0 rfl (lv_at hl 0 rfl) ?_
  refine o_get (v := .ref hon) C ho 0 0 rfl rfl rfl 2 fX8_37 rfl dX8_slot_1 ?_
  refine o_callV (wr := [bRP K hX hda hc hon hr ck, bDA K hda da, bC K hc ad c1 c2 c3 c4, bB K c1 e1 168 w1 x1, bB K c2 e2 18 w2 x2, bB K c3 e3 150 w3 x3, bB K c4 e4 15 w4 x4, bD K (da d) h hi hb_ gd hd, bO K h hw hq hs hf fr false gu tu, bM K hs as_ 41 ls_ gs_, bF K hf hm kd ak ft be cr, bM K hm am 63 lm gm, bF K hb_ hbm 1 bak bt_ bbe bcr]) (rest := []) (As := []) C (c_Bits_clear la D K hon eo 204 air xo (by first | omega | assumption | (simp only [List.length_append, List.length_cons, List.length_nil, List.length_modify, List.length_set, nb_len, rb_len, rbp_len, sl_len, slN_len, wh_len, wt_len, hd10_len, hdB_len, thr_len, ldp_len, ldB_len, tens_len, whz_len, majL_len, mf_len, tkL_len, ldY_len, fif_len, ldY_len]; omega) | decide) (by first | omega | assumption | (simp only [List.length_append, List.length_cons, List.length_nil, List.length_modify, List.length_set, nb_len, rb_len, rbp_len, sl_len, slN_len, wh_len, wt_len, hd10_len, hdB_len, thr_len, ldp_len, ldB_len, tens_len, whz_len, majL_len, mf_len, tkL_len, ldY_len, fif_len, ldY_len]; omega) | decide)) kX8_94 vX0_clear (by decide) rfl ho [2, 0, 1, 3, 4, 5, 6, 7, 8, 9, 10, 11, 12, 13] 14 (by decide +kernel) rfl rfl rfl rfl rfl hl.1 rfl (Nat.le_of_ble_eq_true rfl) dX8_slot_4 0 0 rfl rfl (by decide) (fun v u_1 H locs hq ho => ?_)
  obtain rfl := hq
  have ho : ow D vwCl A s.heap H locs [bB K hon eo 204 [] u_1, bRP K hX hda hc hon hr ck, bDA K hda da, bC K hc ad c1 c2 c3 c4, bB K c1 e1 168 w1 x1, bB K c2 e2 18 w2 x2, bB K c3 e3 150 w3 x3, bB K c4 e4 15 w4 x4, bD K (da d) h hi hb_ gd hd, bO K h hw hq hs hf fr false gu tu, bM K hs as_ 41 ls_ gs_, bF K hf hm kd ak ft be cr, bM K hm am 63 lm gm, bF K hb_ hbm 1 bak bt_ bbe bcr] := ho
  refine W.eq (g2 := F0 m 7 ls []) rfl ?_
  refine lv_aload_n hx hb dX8_slot_7 rfl (lv_at hl 0 rfl) ?_
  refine o_get (v := .ref hda) C ho 1 0 rfl rfl rfl 0 fX8_11 rfl dX8_slot_8 ?_
  refine lv_aload_n hx hb dX8_slot_11 rfl (lv_at hl 0 rfl) ?_
  refine o_callV (wr := [bB K hon eo 204 [] u_1, bDA K hda da, bC K hc ad c1 c2 c3 c4, bB K c1 e1 168 w1 x1, bB K c2 e2 18 w2 x2, bB K c3 e3 150 w3 x3, bB K c4 e4 15 w4 x4, bD K (da d) h hi hb_ gd hd, bO K h hw hq hs hf fr false gu tu, bM K hs as_ 41 ls_ gs_, bF K hf hm kd ak ft be cr, bM K hm am 63 lm gm, bF K hb_ hbm 1 bak bt_ bbe bcr]) (rest := [.ref hda]) (As := []) C (c_RP_turn la D K hX hda hc hon hr ck ) kX8_95 vX8_deviceOfTurn (by decide) rfl ho [1, 0, 2, 3, 4, 5, 6, 7, 8, 9, 10, 11, 12, 13] 14 (by decide +kernel) rfl rfl rfl rfl rfl hl.1 rfl (Nat.le_of_ble_eq_true rfl) dX8_slot_12 0 0 rfl rfl (by decide) (fun v u_2 H locs hq ho => ?_)
  obtain rfl := hq
  have ho : ow D vwCl A s.heap H locs [bRP K hX hda hc hon hr ck, bB K hon eo 204 [] u_1, bDA K hda da, bC K hc ad c1 c2 c3 c4, bB K c1 e1 168 w1 x1, bB K c2 e2 18 w2 x2, bB K c3 e3 150 w3 x3, bB K c4 e4 15 w4 x4, bD K (da d) h hi hb_ gd hd, bO K h hw hq hs hf fr false gu tu, bM K hs as_ 41 ls_ gs_, bF K hf hm kd ak ft be cr, bM K hm am 63 lm gm, bF K hb_ hbm 1 bak bt_ bbe bcr] := ho
  refine W.eq (g2 := F0 m 15 ls [.int (nI (ck % 2)), .ref hda]) rfl ?_
  refine o_top (y := nI d) (by rw [qd]) ?_
  have hd2 : d < 2 := by omega
  refine o_aald (v := (da d)) C ho 2 0 rfl rfl 2 rfl d rfl (by omega) (by omega) rfl dX8_slot_15 ?_
  refine o_callV (wr := [bRP K hX hda hc hon hr ck, bB K hon eo 204 [] u_1, bDA K hda da, bC K hc ad c1 c2 c3 c4, bB K c1 e1 168 w1 x1, bB K c2 e2 18 w2 x2, bB K c3 e3 150 w3 x3, bB K c4 e4 15 w4 x4]) (rest := []) (As := []) C (c_Dev_speak1_2 la D K (da d) hi gd hd h hw hq hs hf fr gu tu as_ ls_ gs_ hm kd ak ft be cr am lm gm hb_ hbm bak bt_ bbe bcr (by first | omega | assumption | (simp only [List.length_append, List.length_cons, List.length_nil, List.length_modify, List.length_set, nb_len, rb_len, rbp_len, sl_len, slN_len, wh_len, wt_len, hd10_len, hdB_len, thr_len, ldp_len, ldB_len, tens_len, whz_len, majL_len, mf_len, tkL_len, ldY_len, fif_len, ldY_len]; omega) | decide) (by first | omega | assumption | (simp only [List.length_append, List.length_cons, List.length_nil, List.length_modify, List.length_set, nb_len, rb_len, rbp_len, sl_len, slN_len, wh_len, wt_len, hd10_len, hdB_len, thr_len, ldp_len, ldB_len, tens_len, whz_len, majL_len, mf_len, tkL_len, ldY_len, fif_len, ldY_len]; omega) | decide) (by first | omega | assumption | (simp only [List.length_append, List.length_cons, List.length_nil, List.length_modify, List.length_set, nb_len, rb_len, rbp_len, sl_len, slN_len, wh_len, wt_len, hd10_len, hdB_len, thr_len, ldp_len, ldB_len, tens_len, whz_len, majL_len, mf_len, tkL_len, ldY_len, fif_len, ldY_len]; omega) | decide)) kX8_99 vX2_speak (by decide) rfl ho [8, 9, 10, 11, 12, 13, 0, 1, 2, 3, 4, 5, 6, 7] 14 (by decide +kernel) rfl rfl rfl rfl rfl hl.1 rfl (Nat.le_of_ble_eq_true rfl) dX8_slot_16 0 0 rfl rfl (by decide) (fun v u_3 H locs hq ho => ?_)
  obtain rfl := hq
  have ho : ow D vwCl A s.heap H locs [bD K (da d) h hi hb_ false false, bO K h hw hq hs hf (fr + nxt gu (ls_.length - fr)) true gu (!tu), bM K hs as_ 41 ls_ gs_, bF K hf hm (cond gu 3 4) gd (!tu) (decide (fr = 0)) cr, bM K hm am 63 (slN ls_ fr (nxt gu (ls_.length - fr))) u_3, bF K hb_ hbm 1 bak bt_ bbe bcr, bRP K hX hda hc hon hr ck, bB K hon eo 204 [] u_1, bDA K hda da, bC K hc ad c1 c2 c3 c4, bB K c1 e1 168 w1 x1, bB K c2 e2 18 w2 x2, bB K c3 e3 150 w3 x3, bB K c4 e4 15 w4 x4] := ho
  refine W.eq (g2 := F0 m 19 ls [.ref hf]) rfl ?_
  refine lv_astore_n (lv' := [(1, .ref hf), (0, .ref hX)]) hx hb dX8_slot_19 rfl hl (by decide) rfl (fun ls hl => ?_)
  refine lv_aload_n hx hb dX8_slot_20 rfl (lv_at hl 0 rfl) ?_
  refine lv_ifnull hx hb dX8_slot_21 ?_
  have hn9 : nxt gu (ls_.length - fr) ≤ cond gu 9 13 := Nat.min_le_right _ _
  have hn8 : cond gu 9 13 ≤ 13 := by cases gu <;> decide
  have hqb : ∀ j, (slN ls_ fr (nxt gu (ls_.length - fr))).getD j 0 < 256 := slN_b qb
  have hk16 : cond gu 3 4 < 16 := by cases gu <;> decide
  have hk9 : cond gu 3 4 = 3 → (slN ls_ fr (nxt gu (ls_.length - fr))).length ≤ 9 := by rw [slN_len]; cases gu; (intro q; exact absurd q (by decide)); (intro _; exact hn9)
  refine lv_aload_n hx hb dX8_slot_24 rfl (lv_at hl 1 rfl) ?_
  refine o_get (v := .ref hc) C ho 6 0 rfl rfl rfl 1 fX8_30 rfl dX8_slot_25 ?_
  refine lv_aload_n hx hb dX8_slot_28 rfl (lv_at hl 0 rfl) ?_
  refine lv_aload_n hx hb dX8_slot_29 rfl (lv_at hl 1 rfl) ?_
  refine o_get (v := .int (nI ck)) C ho 6 0 rfl rfl rfl 4 fX8_103 rfl dX8_slot_30 ?_
  refine lv_aload_n hx hb dX8_slot_33 rfl (lv_at hl 1 rfl) ?_
  refine o_get (v := .ref hon) C ho 6 0 rfl rfl rfl 2 fX8_37 rfl dX8_slot_34 ?_
  refine o_callV (wr := [bD K (da d) h hi hb_ false false, bO K h hw hq hs hf (fr + nxt gu (ls_.length - fr)) true gu (!tu), bM K hs as_ 41 ls_ gs_, bF K hb_ hbm 1 bak bt_ bbe bcr, bRP K hX hda hc hon hr ck, bDA K hda da]) (rest := []) (As := [.ref hf, .int (nI ck), .ref hon]) C (c_Coder_put la D K hc ad c1 c2 c3 c4 e1 w1 x1 e2 w2 x2 e3 w3 x3 e4 w4 x4 hf hm (cond gu 3 4) gd (!tu) (decide (fr = 0)) cr am (slN ls_ fr (nxt gu (ls_.length - fr))) u_3 hon eo u_1 ck qw1 qw2 qw3 qw4 qad hk16 (by rw [slN_len]; omega) hk9 hqb (by omega)) kX8_106 vX1_put (by decide) rfl ho [9, 10, 11, 12, 13, 3, 4, 7, 0, 1, 2, 5, 6, 8] 14 (by decide +kernel) rfl rfl rfl rfl rfl hl.1 rfl (Nat.le_of_ble_eq_true rfl) dX8_slot_37 0 0 rfl rfl (by decide) (fun v u_4 H locs hq ho => ?_)
  obtain ⟨rfl, hqp⟩ := hq
  have ho : ow D vwCl A s.heap H locs [bC K hc ad c1 c2 c3 c4, bB K c1 e1 168 u_4.2.2.2.2 (u_4.1 0), bB K c2 e2 18 u_4.2.1 (u_4.1 1), bB K c3 e3 150 u_4.2.2.1 (u_4.1 2), bB K c4 e4 15 u_4.2.2.2.1 (u_4.1 3), bF K hf hm (cond gu 3 4) gd (!tu) (decide (fr = 0)) cr, bM K hm am 63 (slN ls_ fr (nxt gu (ls_.length - fr))) u_3, bB K hon eo 204 (airW ck ad (cond gu 3 4) gd (!tu) (cond (decide (fr = 0)) 2 1) (slN ls_ fr (nxt gu (ls_.length - fr)))) u_1, bD K (da d) h hi hb_ false false, bO K h hw hq hs hf (fr + nxt gu (ls_.length - fr)) true gu (!tu), bM K hs as_ 41 ls_ gs_, bF K hb_ hbm 1 bak bt_ bbe bcr, bRP K hX hda hc hon hr ck, bDA K hda da] := ho
  refine W.eq (g2 := F0 m 40 ls []) rfl ?_
  refine lv_aload_n hx hb dX8_slot_40 rfl (lv_at hl 1 rfl) ?_
  refine lv_dup hx hb dX8_slot_41 rfl ?_
  refine o_get (v := .int (nI ck)) C ho 12 0 rfl rfl rfl 4 fX8_103 rfl dX8_slot_42 ?_
  refine lv_iconst (v := nI 1) hx hb dX8_slot_45 (by decide) ?_
  refine o_add hx hb dX8_slot_46 ?_
  refine o_put (v := .int (nI (ck + 1))) (bs' := [bC K hc ad c1 c2 c3 c4, bB K c1 e1 168 u_4.2.2.2.2 (u_4.1 0), bB K c2 e2 18 u_4.2.1 (u_4.1 1), bB K c3 e3 150 u_4.2.2.1 (u_4.1 2), bB K c4 e4 15 u_4.2.2.2.1 (u_4.1 3), bF K hf hm (cond gu 3 4) gd (!tu) (decide (fr = 0)) cr, bM K hm am 63 (slN ls_ fr (nxt gu (ls_.length - fr))) u_3, bB K hon eo 204 (airW ck ad (cond gu 3 4) gd (!tu) (cond (decide (fr = 0)) 2 1) (slN ls_ fr (nxt gu (ls_.length - fr)))) u_1, bD K (da d) h hi hb_ false false, bO K h hw hq hs hf (fr + nxt gu (ls_.length - fr)) true gu (!tu), bM K hs as_ 41 ls_ gs_, bF K hb_ hbm 1 bak bt_ bbe bcr, bRP K hX hda hc hon hr (ck + 1), bDA K hda da]) C ho 12 0 rfl rfl rfl 4 fX8_103 pX8_4 rfl rfl (Nat.le_of_ble_eq_true rfl) dX8_slot_47 rfl (fun H locs ho => ?_)
  refine lv_aload_n hx hb dX8_slot_50 rfl (lv_at hl 0 rfl) ?_
  refine lv_ifnonnull (tgt := 58) hx hb dX8_slot_51 (by decide) ?_
  refine lv_aload_n hx hb dX8_slot_58 rfl (lv_at hl 0 rfl) ?_
  refine o_get (v := .int (nI (cond gu 3 4))) C ho 5 0 rfl rfl rfl 1 fX8_110 rfl dX8_slot_59 ?_
  have ho : ow D vwCl A s.heap H locs [bRP K hX hda hc hon hr (ck + 1), bDA K hda da, bB K hon eo 204 (airW ck ad (cond gu 3 4) gd (!tu) (cond (decide (fr = 0)) 2 1) (slN ls_ fr (nxt gu (ls_.length - fr)))) u_1, bC K hc ad c1 c2 c3 c4, bB K c1 e1 168 u_4.2.2.2.2 (u_4.1 0), bB K c2 e2 18 u_4.2.1 (u_4.1 1), bB K c3 e3 150 u_4.2.2.1 (u_4.1 2), bB K c4 e4 15 u_4.2.2.2.1 (u_4.1 3), bD K (da d) h hi hb_ false false, bO K h hw hq hs hf (fr + nxt gu (ls_.length - fr)) true gu (!tu), bM K hs as_ 41 ls_ gs_, bF K hf hm (cond gu 3 4) gd (!tu) (decide (fr = 0)) cr, bM K hm am 63 (slN ls_ fr (nxt gu (ls_.length - fr))) u_3, bF K hb_ hbm 1 bak bt_ bbe bcr] := ho.re [12, 13, 7, 0, 1, 2, 3, 4, 8, 9, 10, 5, 6, 11] 14 (by decide +kernel) rfl rfl
  exact o_iret hQ C rfl ho ((gs [u_4.1 0, u_4.1 1, u_4.1 2, u_4.1 3, u_1], u_4.2.1, u_4.2.2.1, u_4.2.2.2.1, u_4.2.2.2.2), u_3) (by dsimp only; exact ⟨rfl, hqp⟩) (by dsimp only [gs, List.getD_cons_zero, List.getD_cons_succ] <;> rfl) (Nat.le_of_ble_eq_true rfl) (Nat.le_of_ble_eq_true rfl) dX8_slot_62

set_option maxHeartbeats 4000000 in
set_option maxRecDepth 100000 in
theorem c_RP_slot1_3 (la : Launch) (D : va_G) (K : Nat → ClassId) (hX : Nat) (hda : Nat) (hc : Nat) (hon : Nat) (hr : Nat) (ck : Nat) (da : Nat → Nat) (eo : Nat) (air : List Bool) (xo : Nat → Int32) (ad : Nat) (c1 : Nat) (c2 : Nat) (c3 : Nat) (c4 : Nat) (e1 : Nat) (e2 : Nat) (e3 : Nat) (e4 : Nat) (w1 : List Bool) (w2 : List Bool) (w3 : List Bool) (w4 : List Bool) (x1 : Nat → Int32) (x2 : Nat → Int32) (x3 : Nat → Int32) (x4 : Nat → Int32) (d : Nat) (hi : Nat) (gd : Bool) (hd : Bool) (h : Nat) (hw : Nat) (hq : Nat) (hs : Nat) (hf : Nat) (fr : Nat) (gu : Bool) (tu : Bool) (q : Nat) (mh : Nat → Nat) (fi : Nat) (sz : Nat) (ma : Nat → Nat) (ml : Nat → List Nat) (mg : Nat → Nat → Int32) (as_ : Nat) (ls_ : List Nat) (gs_ : Nat → Int32) (hm : Nat) (kd : Nat) (ak : Bool) (ft : Bool) (be : Bool) (cr : Nat) (am : Nat) (lm : List Nat) (gm : Nat → Int32) (hb_ : Nat) (hbm : Nat) (bak : Bool) (bt_ : Bool) (bbe : Bool) (bcr : Nat) (qw1 : w1.length ≤ 168) (qw2 : w2.length ≤ 18) (qw3 : w3.length ≤ 150) (qw4 : w4.length ≤ 15) (qad : ad < 8) (qck : ck < 2 ^ 29) (qd : ck % 2 = d) (qa : air.length ≤ 204) (q1 : fr = ls_.length) (q2 : ls_.length ≤ 41) (q3 : lm.length ≤ 63) (q0 : 0 < sz) (q6 : sz ≤ 6) (qf : fi < 6) (qm : (ml fi).length ≤ 40) (qb : ∀ j, ((ml fi).length :: ml fi).getD j 0 < 256) : MT la D K yX8_slot cX8_slot 2 (some .int) (rmL 6 0 0) [.ref hX] [bRP K hX hda hc hon hr ck, bDA K hda da, bB K hon eo 204 air xo, bC K hc ad c1 c2 c3 c4, bB K c1 e1 168 w1 x1, bB K c2 e2 18 w2 x2, bB K c3 e3 150 w3 x3, bB K c4 e4 15 w4 x4, bD K (da d) h hi hb_ gd hd, bO K h hw hq hs hf fr false gu tu, bH K hq q mh fi sz, bPool K mh ma 40 ml mg, bM K hs as_ 41 ls_ gs_, bF K hf hm kd ak ft be cr, bM K hm am 63 lm gm, bF K hb_ hbm 1 bak bt_ bbe bcr] (((Nat → Nat → Int32) × List Bool × List Bool × List Bool × List Bool) × ((Nat → Int32) × (Nat → Int32))) (fun v u => v = some (.int (nI (cond gu 3 4))) ∧ u.1.2.1.length ≤ 18 ∧ u.1.2.2.1.length ≤ 150 ∧ u.1.2.2.2.1.length ≤ 15 ∧ u.1.2.2.2.2.length ≤ 168) (fun u => [bRP K hX hda hc hon hr (ck + 1), bDA K hda da, bB K hon eo 204 (airW ck ad (cond gu 3 4) gd (!tu) (cond (decide (0 = 0)) 2 1) (slN ((ml fi).length :: ml fi) 0 (nxt gu ((ml fi).length + 1)))) (u.1.1 4), bC K hc ad c1 c2 c3 c4, bB K c1 e1 168 u.1.2.2.2.2 (u.1.1 0), bB K c2 e2 18 u.1.2.1 (u.1.1 1), bB K c3 e3 150 u.1.2.2.1 (u.1.1 2), bB K c4 e4 15 u.1.2.2.2.1 (u.1.1 3), bD K (da d) h hi hb_ false false, bO K h hw hq hs hf (0 + nxt gu ((ml fi).length + 1)) true gu (!tu), bH K hq q mh ((fi + 1) % 6) (sz - 1), bPool K mh ma 40 ml mg, bM K hs as_ 41 ((ml fi).length :: ml fi) u.2.1, bF K hf hm (cond gu 3 4) gd (!tu) (decide (0 = 0)) cr, bM K hm am 63 (slN ((ml fi).length :: ml fi) 0 (nxt gu ((ml fi).length + 1))) u.2.2, bF K hb_ hbm 1 bak bt_ bbe bcr]) := by
  refine Mt.ofW [(0, .ref hX)] (by decide) rfl (Nat.le_of_ble_eq_true rfl) ?_
  intro p e s m args below meth c A ls H locs Qz hQ C hin hl ho
  have hx := C.1.1
  have hb := C.1.2.1
  refine lv_aload_n hx hb dX8_slot_0 rfl (lv_at hl 0 rfl) ?_
  refine o_get (v := .ref hon) C ho 0 0 rfl rfl rfl 2 fX8_37 rfl dX8_slot_1 ?_
  refine o_callV (wr := [bRP K hX hda hc hon hr ck, bDA K hda da, bC K hc ad c1 c2 c3 c4, bB K c1 e1 168 w1 x1, bB K c2 e2 18 w2 x2, bB K c3 e3 150 w3 x3, bB K c4 e4 15 w4 x4, bD K (da d) h hi hb_ gd hd, bO K h hw hq hs hf fr false gu tu, bH K hq q mh fi sz, bPool K mh ma 40 ml mg, bM K hs as_ 41 ls_ gs_, bF K hf hm kd ak ft be cr, bM K hm am 63 lm gm, bF K hb_ hbm 1 bak bt_ bbe bcr]) (rest := []) (As := []) C (c_Bits_clear la D K hon eo 204 air xo (by first | omega | assumption | (simp only [List.length_append, List.length_cons, List.length_nil, List.length_modify, List.length_set, nb_len, rb_len, rbp_len, sl_len, slN_len, wh_len, wt_len, hd10_len, hdB_len, thr_len, ldp_len, ldB_len, tens_len, whz_len, majL_len, mf_len, tkL_len, ldY_len, fif_len, ldY_len]; omega) | decide) (by first | omega | assumption | (simp only [List.length_append, List.length_cons, List.length_nil, List.length_modify, List.length_set, nb_len, rb_len, rbp_len, sl_len, slN_len, wh_len, wt_len, hd10_len, hdB_len, thr_len, ldp_len, ldB_len, tens_len, whz_len, majL_len, mf_len, tkL_len, ldY_len, fif_len, ldY_len]; omega) | decide)) kX8_94 vX0_clear (by decide) rfl ho [2, 0, 1, 3, 4, 5, 6, 7, 8, 9, 10, 11, 12, 13, 14, 15] 16 (by decide +kernel) rfl rfl rfl rfl rfl hl.1 rfl (Nat.le_of_ble_eq_true rfl) dX8_slot_4 0 0 rfl rfl (by decide) (fun v u_1 H locs hq ho => ?_)
  obtain rfl := hq
  have ho : ow D vwCl A s.heap H locs [bB K hon eo 204 [] u_1, bRP K hX hda hc hon hr ck, bDA K hda da, bC K hc ad c1 c2 c3 c4, bB K c1 e1 168 w1 x1, bB K c2 e2 18 w2 x2, bB K c3 e3 150 w3 x3, bB K c4 e4 15 w4 x4, bD K (da d) h hi hb_ gd hd, bO K h hw hq hs hf fr false gu tu, bH K hq q mh fi sz, bPool K mh ma 40 ml mg, bM K hs as_ 41 ls_ gs_, bF K hf hm kd ak ft be cr, bM K hm am 63 lm gm, bF K hb_ hbm 1 bak bt_ bbe bcr] := ho
  refine W.eq (g2 := F0 m 7 ls []) rfl ?_
  refine lv_aload_n hx hb dX8_slot_7 rfl (lv_at hl 0 rfl) ?_
  refine o_get (v := .ref hda) C ho 1 0 rfl rfl rfl 0 fX8_11 rfl dX8_slot_8 ?_
  refine lv_aload_n hx hb dX8_slot_11 rfl (lv_at hl 0 rfl) ?_
  refine o_callV (wr := [bB K hon eo 204 [] u_1, bDA K hda da, bC K hc ad c1 c2 c3 c4, bB K c1 e1 168 w1 x1, bB K c2 e2 18 w2 x2, bB K c3 e3 150 w3 x3, bB K c4 e4 15 w4 x4, bD K (da d) h hi hb_ gd hd, bO K h hw hq hs hf fr false gu tu, bH K hq q mh fi sz, bPool K mh ma 40 ml mg, bM K hs as_ 41 ls_ gs_, bF K hf hm kd ak ft be cr, bM K hm am 63 lm gm, bF K hb_ hbm 1 bak bt_ bbe bcr]) (rest := [.ref hda]) (As := []) C (c_RP_turn la D K hX hda hc hon hr ck ) kX8_95 vX8_deviceOfTurn (by decide) rfl ho [1, 0, 2, 3, 4, 5, 6, 7, 8, 9, 10, 11, 12, 13, 14, 15] 16 (by decide +kernel) rfl rfl rfl rfl rfl hl.1 rfl (Nat.le_of_ble_eq_true rfl) dX8_slot_12 0 0 rfl rfl (by decide) (fun v u_2 H locs hq ho => ?_)
  obtain rfl := hq
  have ho : ow D vwCl A s.heap H locs [bRP K hX hda hc hon hr ck, bB K hon eo 204 [] u_1, bDA K hda da, bC K hc ad c1 c2 c3 c4, bB K c1 e1 168 w1 x1, bB K c2 e2 18 w2 x2, bB K c3 e3 150 w3 x3, bB K c4 e4 15 w4 x4, bD K (da d) h hi hb_ gd hd, bO K h hw hq hs hf fr false gu tu, bH K hq q mh fi sz, bPool K mh ma 40 ml mg, bM K hs as_ 41 ls_ gs_, bF K hf hm kd ak ft be cr, bM K hm am 63 lm gm, bF K hb_ hbm 1 bak bt_ bbe bcr] := ho
  refine W.eq (g2 := F0 m 15 ls [.int (nI (ck % 2)), .ref hda]) rfl ?_
  refine o_top (y := nI d) (by rw [qd]) ?_
  have hd2 : d < 2 := by omega
  refine o_aald (v := (da d)) C ho 2 0 rfl rfl 2 rfl d rfl (by omega) (by omega) rfl dX8_slot_15 ?_
  refine o_callV (wr := [bRP K hX hda hc hon hr ck, bB K hon eo 204 [] u_1, bDA K hda da, bC K hc ad c1 c2 c3 c4, bB K c1 e1 168 w1 x1, bB K c2 e2 18 w2 x2, bB K c3 e3 150 w3 x3, bB K c4 e4 15 w4 x4]) (rest := []) (As := []) C (c_Dev_speak1_3 la D K (da d) hi gd hd h hw hq hs hf fr gu tu q mh fi sz ma ml mg as_ ls_ gs_ hm kd ak ft be cr am lm gm hb_ hbm bak bt_ bbe bcr (by first | omega | assumption | (simp only [List.length_append, List.length_cons, List.length_nil, List.length_modify, List.length_set, nb_len, rb_len, rbp_len, sl_len, slN_len, wh_len, wt_len, hd10_len, hdB_len, thr_len, ldp_len, ldB_len, tens_len, whz_len, majL_len, mf_len, tkL_len, ldY_len, fif_len, ldY_len]; omega) | decide) (by first | omega | assumption | (simp only [List.length_append, List.length_cons, List.length_nil, List.length_modify, List.length_set, nb_len, rb_len, rbp_len, sl_len, slN_len, wh_len, wt_len, hd10_len, hdB_len, thr_len, ldp_len, ldB_len, tens_len, whz_len, majL_len, mf_len, tkL_len, ldY_len, fif_len, ldY_len]; omega) | decide) (by first | omega | assumption | (simp only [List.length_append, List.length_cons, List.length_nil, List.length_modify, List.length_set, nb_len, rb_len, rbp_len, sl_len, slN_len, wh_len, wt_len, hd10_len, hdB_len, thr_len, ldp_len, ldB_len, tens_len, whz_len, majL_len, mf_len, tkL_len, ldY_len, fif_len, ldY_len]; omega) | decide) (by first | omega | assumption | (simp only [List.length_append, List.length_cons, List.length_nil, List.length_modify, List.length_set, nb_len, rb_len, rbp_len, sl_len, slN_len, wh_len, wt_len, hd10_len, hdB_len, thr_len, ldp_len, ldB_len, tens_len, whz_len, majL_len, mf_len, tkL_len, ldY_len, fif_len, ldY_len]; omega) | decide) (by first | omega | assumption | (simp only [List.length_append, List.length_cons, List.length_nil, List.length_modify, List.length_set, nb_len, rb_len, rbp_len, sl_len, slN_len, wh_len, wt_len, hd10_len, hdB_len, thr_len, ldp_len, ldB_len, tens_len, whz_len, majL_len, mf_len, tkL_len, ldY_len, fif_len, ldY_len]; omega) | decide) (by first | omega | assumption | (simp only [List.length_append, List.length_cons, List.length_nil, List.length_modify, List.length_set, nb_len, rb_len, rbp_len, sl_len, slN_len, wh_len, wt_len, hd10_len, hdB_len, thr_len, ldp_len, ldB_len, tens_len, whz_len, majL_len, mf_len, tkL_len, ldY_len, fif_len, ldY_len]; omega) | decide) (by first | omega | assumption | (simp only [List.length_append, List.length_cons, List.length_nil, List.length_modify, List.length_set, nb_len, rb_len, rbp_len, sl_len, slN_len, wh_len, wt_len, hd10_len, hdB_len, thr_len, ldp_len, ldB_len, tens_len, whz_len, majL_len, mf_len, tkL_len, ldY_len, fif_len, ldY_len]; omega) | decide)) kX8_99 vX2_speak (by decide) rfl ho [8, 9, 10, 11, 12, 13, 14, 15, 0, 1, 2, 3, 4, 5, 6, 7] 16 (by decide +kernel) rfl rfl rfl rfl rfl hl.1 rfl (Nat.le_of_ble_eq_true rfl) dX8_slot_16 0 0 rfl rfl (by decide) (fun v u_3 H locs hq ho => ?_)
  obtain rfl := hq
  have ho : ow D vwCl A s.heap H locs [bD K (da d) h hi hb_ false false, bO K h hw hq hs hf (0 + nxt gu ((ml fi).length + 1)) true gu (!tu), bH K hq q mh ((fi + 1) % 6) (sz - 1), bPool K mh ma 40 ml mg, bM K hs as_ 41 ((ml fi).length :: ml fi) u_3.1, bF K hf hm (cond gu 3 4) gd (!tu) (decide (0 = 0)) cr, bM K hm am 63 (slN ((ml fi).length :: ml fi) 0 (nxt gu ((ml fi).length + 1))) u_3.2, bF K hb_ hbm 1 bak bt_ bbe bcr, bRP K hX hda hc hon hr ck, bB K hon eo 204 [] u_1, bDA K hda da, bC K hc ad c1 c2 c3 c4, bB K c1 e1 168 w1 x1, bB K c2 e2 18 w2 x2, bB K c3 e3 150 w3 x3, bB K c4 e4 15 w4 x4] := ho
  refine W.eq (g2 := F0 m 19 ls [.ref hf]) rfl ?_
  refine lv_astore_n (lv' := [(1, .ref hf), (0, .ref hX)]) hx hb dX8_slot_19 rfl hl (by decide) rfl (fun ls hl => ?_)
  refine lv_aload_n hx hb dX8_slot_20 rfl (lv_at hl 0 rfl) ?_
  refine lv_ifnull hx hb dX8_slot_21 ?_
  have hn9 : nxt gu ((ml fi).length + 1) ≤ cond gu 9 13 := Nat.min_le_right _ _
  have hn8 : cond gu 9 13 ≤ 13 := by cases gu <;> decide
  have hqb : ∀ j, (slN ((ml fi).length :: ml fi) 0 (nxt gu ((ml fi).length + 1))).getD j 0 < 256 := slN_b qb
  have hk16 : cond gu 3 4 < 16 := by cases gu <;> decide
  have hk9 : cond gu 3 4 = 3 → (slN ((ml fi).length :: ml fi) 0 (nxt gu ((ml fi).length + 1))).length ≤ 9 := by rw [slN_len]; cases gu; (intro q; exact absurd q (by decide)); (intro _; exact hn9)
  refine lv_aload_n hx hb dX8_slot_24 rfl (lv_at hl 1 rfl) ?_
  refine o_get (v := .ref hc) C ho 8 0 rfl rfl rfl 1 fX8_30 rfl dX8_slot_25 ?_
  refine lv_aload_n hx hb dX8_slot_28 rfl (lv_at hl 0 rfl) ?_
  refine lv_aload_n hx hb dX8_slot_29 rfl (lv_at hl 1 rfl) ?_
  refine o_get (v := .int (nI ck)) C ho 8 0 rfl rfl rfl 4 fX8_103 rfl dX8_slot_30 ?_
  refine lv_aload_n hx hb dX8_slot_33 rfl (lv_at hl 1 rfl) ?_
  refine o_get (v := .ref hon) C ho 8 0 rfl rfl rfl 2 fX8_37 rfl dX8_slot_34 ?_
  refine o_callV (wr := [bD K (da d) h hi hb_ false false, bO K h hw hq hs hf (0 + nxt gu ((ml fi).length + 1)) true gu (!tu), bH K hq q mh ((fi + 1) % 6) (sz - 1), bPool K mh ma 40 ml mg, bM K hs as_ 41 ((ml fi).length :: ml fi) u_3.1, bF K hb_ hbm 1 bak bt_ bbe bcr, bRP K hX hda hc hon hr ck, bDA K hda da]) (rest := []) (As := [.ref hf, .int (nI ck), .ref hon]) C (c_Coder_put la D K hc ad c1 c2 c3 c4 e1 w1 x1 e2 w2 x2 e3 w3 x3 e4 w4 x4 hf hm (cond gu 3 4) gd (!tu) (decide (0 = 0)) cr am (slN ((ml fi).length :: ml fi) 0 (nxt gu ((ml fi).length + 1))) u_3.2 hon eo u_1 ck qw1 qw2 qw3 qw4 qad hk16 (by rw [slN_len]; omega) hk9 hqb (by omega)) kX8_106 vX1_put (by decide) rfl ho [11, 12, 13, 14, 15, 5, 6, 9, 0, 1, 2, 3, 4, 7, 8, 10] 16 (by decide +kernel) rfl rfl rfl rfl rfl hl.1 rfl (Nat.le_of_ble_eq_true rfl) dX8_slot_37 0 0 rfl rfl (by decide) (fun v u_4 H locs hq ho => ?_)
  obtain ⟨rfl, hqp⟩ := hq
  have ho : ow D vwCl A s.heap H locs [bC K hc ad c1 c2 c3 c4, bB K c1 e1 168 u_4.2.2.2.2 (u_4.1 0), bB K c2 e2 18 u_4.2.1 (u_4.1 1), bB K c3 e3 150 u_4.2.2.1 (u_4.1 2), bB K c4 e4 15 u_4.2.2.2.1 (u_4.1 3), bF K hf hm (cond gu 3 4) gd (!tu) (decide (0 = 0)) cr, bM K hm am 63 (slN ((ml fi).length :: ml fi) 0 (nxt gu ((ml fi).length + 1))) u_3.2, bB K hon eo 204 (airW ck ad (cond gu 3 4) gd (!tu) (cond (decide (0 = 0)) 2 1) (slN ((ml fi).length :: ml fi) 0 (nxt gu ((ml fi).length + 1)))) u_1, bD K (da d) h hi hb_ false false, bO K h hw hq hs hf (0 + nxt gu ((ml fi).length + 1)) true gu (!tu), bH K hq q mh ((fi + 1) % 6) (sz - 1), bPool K mh ma 40 ml mg, bM K hs as_ 41 ((ml fi).length :: ml fi) u_3.1, bF K hb_ hbm 1 bak bt_ bbe bcr, bRP K hX hda hc hon hr ck, bDA K hda da] := ho
  refine W.eq (g2 := F0 m 40 ls []) rfl ?_
  refine lv_aload_n hx hb dX8_slot_40 rfl (lv_at hl 1 rfl) ?_
  refine lv_dup hx hb dX8_slot_41 rfl ?_
  refine o_get (v := .int (nI ck)) C ho 14 0 rfl rfl rfl 4 fX8_103 rfl dX8_slot_42 ?_
  refine lv_iconst (v := nI 1) hx hb dX8_slot_45 (by decide) ?_
  refine o_add hx hb dX8_slot_46 ?_
  refine o_put (v := .int (nI (ck + 1))) (bs' := [bC K hc ad c1 c2 c3 c4, bB K c1 e1 168 u_4.2.2.2.2 (u_4.1 0), bB K c2 e2 18 u_4.2.1 (u_4.1 1), bB K c3 e3 150 u_4.2.2.1 (u_4.1 2), bB K c4 e4 15 u_4.2.2.2.1 (u_4.1 3), bF K hf hm (cond gu 3 4) gd (!tu) (decide (0 = 0)) cr, bM K hm am 63 (slN ((ml fi).length :: ml fi) 0 (nxt gu ((ml fi).length + 1))) u_3.2, bB K hon eo 204 (airW ck ad (cond gu 3 4) gd (!tu) (cond (decide (0 = 0)) 2 1) (slN ((ml fi).length :: ml fi) 0 (nxt gu ((ml fi).length + 1)))) u_1, bD K (da d) h hi hb_ false false, bO K h hw hq hs hf (0 + nxt gu ((ml fi).length + 1)) true gu (!tu), bH K hq q mh ((fi + 1) % 6) (sz - 1), bPool K mh ma 40 ml mg, bM K hs as_ 41 ((ml fi).length :: ml fi) u_3.1, bF K hb_ hbm 1 bak bt_ bbe bcr, bRP K hX hda hc hon hr (ck + 1), bDA K hda da]) C ho 14 0 rfl rfl rfl 4 fX8_103 pX8_4 rfl rfl (Nat.le_of_ble_eq_true rfl) dX8_slot_47 rfl (fun H locs ho => ?_)
  refine lv_aload_n hx hb dX8_slot_50 rfl (lv_at hl 0 rfl) ?_
  refine lv_ifnonnull (tgt := 58) hx hb dX8_slot_51 (by decide) ?_
  refine lv_aload_n hx hb dX8_slot_58 rfl (lv_at hl 0 rfl) ?_
  refine o_get (v := .int (nI (cond gu 3 4))) C ho 5 0 rfl rfl rfl 1 fX8_110 rfl dX8_slot_59 ?_
  have ho : ow D vwCl A s.heap H locs [bRP K hX hda hc hon hr (ck + 1), bDA K hda da, bB K hon eo 204 (airW ck ad (cond gu 3 4) gd (!tu) (cond (decide (0 = 0)) 2 1) (slN ((ml fi).length :: ml fi) 0 (nxt gu ((ml fi).length + 1)))) u_1, bC K hc ad c1 c2 c3 c4, bB K c1 e1 168 u_4.2.2.2.2 (u_4.1 0), bB K c2 e2 18 u_4.2.1 (u_4.1 1), bB K c3 e3 150 u_4.2.2.1 (u_4.1 2), bB K c4 e4 15 u_4.2.2.2.1 (u_4.1 3), bD K (da d) h hi hb_ false false, bO K h hw hq hs hf (0 + nxt gu ((ml fi).length + 1)) true gu (!tu), bH K hq q mh ((fi + 1) % 6) (sz - 1), bPool K mh ma 40 ml mg, bM K hs as_ 41 ((ml fi).length :: ml fi) u_3.1, bF K hf hm (cond gu 3 4) gd (!tu) (decide (0 = 0)) cr, bM K hm am 63 (slN ((ml fi).length :: ml fi) 0 (nxt gu ((ml fi).length + 1))) u_3.2, bF K hb_ hbm 1 bak bt_ bbe bcr] := ho.re [14, 15, 7, 0, 1, 2, 3, 4, 8, 9, 10, 11, 12, 5, 6, 13] 16 (by decide +kernel) rfl rfl
  exact o_iret hQ C rfl ho ((gs [u_4.1 0, u_4.1 1, u_4.1 2, u_4.1 3, u_1], u_4.2.1, u_4.2.2.1, u_4.2.2.2.1, u_4.2.2.2.2), (u_3.1, u_3.2)) (by dsimp only; exact ⟨rfl, hqp⟩) (by dsimp only [gs, List.getD_cons_zero, List.getD_cons_succ] <;> rfl) (Nat.le_of_ble_eq_true rfl) (Nat.le_of_ble_eq_true rfl) dX8_slot_62

set_option maxHeartbeats 4000000 in
set_option maxRecDepth 100000 in
theorem c_RP_slot1_4 (la : Launch) (D : va_G) (K : Nat → ClassId) (hX : Nat) (hda : Nat) (hc : Nat) (hon : Nat) (hr : Nat) (ck : Nat) (da : Nat → Nat) (eo : Nat) (air : List Bool) (xo : Nat → Int32) (ad : Nat) (c1 : Nat) (c2 : Nat) (c3 : Nat) (c4 : Nat) (e1 : Nat) (e2 : Nat) (e3 : Nat) (e4 : Nat) (w1 : List Bool) (w2 : List Bool) (w3 : List Bool) (w4 : List Bool) (x1 : Nat → Int32) (x2 : Nat → Int32) (x3 : Nat → Int32) (x4 : Nat → Int32) (d : Nat) (hi : Nat) (gd : Bool) (hd : Bool) (h : Nat) (hw : Nat) (hq : Nat) (hs : Nat) (hf : Nat) (fr : Nat) (gu : Bool) (tu : Bool) (q : Nat) (mh : Nat → Nat) (fi : Nat) (sz : Nat) (as_ : Nat) (ls_ : List Nat) (gs_ : Nat → Int32) (hb_ : Nat) (hbm : Nat) (bak : Bool) (bt_ : Bool) (bbe : Bool) (bcr : Nat) (abm : Nat) (gbm : Nat → Int32) (qw1 : w1.length ≤ 168) (qw2 : w2.length ≤ 18) (qw3 : w3.length ≤ 150) (qw4 : w4.length ≤ 15) (qad : ad < 8) (qck : ck < 2 ^ 29) (qd : ck % 2 = d) (qa : air.length ≤ 204) (q1 : fr = ls_.length) (q2 : ls_.length ≤ 41) (q0 : sz = 0) : MT la D K yX8_slot cX8_slot 2 (some .int) (rmL 5 0 0) [.ref hX] [bRP K hX hda hc hon hr ck, bDA K hda da, bB K hon eo 204 air xo, bC K hc ad c1 c2 c3 c4, bB K c1 e1 168 w1 x1, bB K c2 e2 18 w2 x2, bB K c3 e3 150 w3 x3, bB K c4 e4 15 w4 x4, bD K (da d) h hi hb_ gd hd, bO K h hw hq hs hf fr false gu tu, bH K hq q mh fi sz, bM K hs as_ 41 ls_ gs_, bF K hb_ hbm 1 bak bt_ bbe bcr, bM K hbm abm 63 [] gbm] ((Nat → Nat → Int32) × List Bool × List Bool × List Bool × List Bool) (fun v u => v = some (.int (nI 1)) ∧ u.2.1.length ≤ 18 ∧ u.2.2.1.length ≤ 150 ∧ u.2.2.2.1.length ≤ 15 ∧ u.2.2.2.2.length ≤ 168) (fun u => [bRP K hX hda hc hon hr (ck + 1), bDA K hda da, bB K hon eo 204 (airW ck ad 1 gd tu (cond bbe 2 1) []) (u.1 4), bC K hc ad c1 c2 c3 c4, bB K c1 e1 168 u.2.2.2.2 (u.1 0), bB K c2 e2 18 u.2.1 (u.1 1), bB K c3 e3 150 u.2.2.1 (u.1 2), bB K c4 e4 15 u.2.2.2.1 (u.1 3), bD K (da d) h hi hb_ false false, bO K h hw hq hs hf fr false gu tu, bH K hq q mh fi sz, bM K hs as_ 41 ls_ gs_, bF K hb_ hbm 1 gd tu bbe bcr, bM K hbm abm 63 [] gbm]) := by
  refine Mt.ofW [(0, .ref hX)] (by decide) rfl (Nat.le_of_ble_eq_true rfl) ?_
  intro p e s m args below meth c A ls H locs Qz hQ C hin hl ho
  have hx := C.1.1
  have hb := C.1.2.1
  refine lv_aload_n hx hb dX8_slot_0 rfl (lv_at hl 0 rfl) ?_
  refine o_get (v := .ref hon) C ho 0 0 rfl rfl rfl 2 fX8_37 rfl dX8_slot_1 ?_
  refine o_callV (wr := [bRP K hX hda hc hon hr ck, bDA K hda da, bC K hc ad c1 c2 c3 c4, bB K c1 e1 168 w1 x1, bB K c2 e2 18 w2 x2, bB K c3 e3 150 w3 x3, bB K c4 e4 15 w4 x4, bD K (da d) h hi hb_ gd hd, bO K h hw hq hs hf fr false gu tu, bH K hq q mh fi sz, bM K hs as_ 41 ls_ gs_, bF K hb_ hbm 1 bak bt_ bbe bcr, bM K hbm abm 63 [] gbm]) (rest := []) (As := []) C (c_Bits_clear la D K hon eo 204 air xo (by first | omega | assumption | (simp only [List.length_append, List.length_cons, List.length_nil, List.length_modify, List.length_set, nb_len, rb_len, rbp_len, sl_len, slN_len, wh_len, wt_len, hd10_len, hdB_len, thr_len, ldp_len, ldB_len, tens_len, whz_len, majL_len, mf_len, tkL_len, ldY_len, fif_len, ldY_len]; omega) | decide) (by first | omega | assumption | (simp only [List.length_append, List.length_cons, List.length_nil, List.length_modify, List.length_set, nb_len, rb_len, rbp_len, sl_len, slN_len, wh_len, wt_len, hd10_len, hdB_len, thr_len, ldp_len, ldB_len, tens_len, whz_len, majL_len, mf_len, tkL_len, ldY_len, fif_len, ldY_len]; omega) | decide)) kX8_94 vX0_clear (by decide) rfl ho [2, 0, 1, 3, 4, 5, 6, 7, 8, 9, 10, 11, 12, 13] 14 (by decide +kernel) rfl rfl rfl rfl rfl hl.1 rfl (Nat.le_of_ble_eq_true rfl) dX8_slot_4 0 0 rfl rfl (by decide) (fun v u_1 H locs hq ho => ?_)
  obtain rfl := hq
  have ho : ow D vwCl A s.heap H locs [bB K hon eo 204 [] u_1, bRP K hX hda hc hon hr ck, bDA K hda da, bC K hc ad c1 c2 c3 c4, bB K c1 e1 168 w1 x1, bB K c2 e2 18 w2 x2, bB K c3 e3 150 w3 x3, bB K c4 e4 15 w4 x4, bD K (da d) h hi hb_ gd hd, bO K h hw hq hs hf fr false gu tu, bH K hq q mh fi sz, bM K hs as_ 41 ls_ gs_, bF K hb_ hbm 1 bak bt_ bbe bcr, bM K hbm abm 63 [] gbm] := ho
  refine W.eq (g2 := F0 m 7 ls []) rfl ?_
  refine lv_aload_n hx hb dX8_slot_7 rfl (lv_at hl 0 rfl) ?_
  refine o_get (v := .ref hda) C ho 1 0 rfl rfl rfl 0 fX8_11 rfl dX8_slot_8 ?_
  refine lv_aload_n hx hb dX8_slot_11 rfl (lv_at hl 0 rfl) ?_
  refine o_callV (wr := [bB K hon eo 204 [] u_1, bDA K hda da, bC K hc ad c1 c2 c3 c4, bB K c1 e1 168 w1 x1, bB K c2 e2 18 w2 x2, bB K c3 e3 150 w3 x3, bB K c4 e4 15 w4 x4, bD K (da d) h hi hb_ gd hd, bO K h hw hq hs hf fr false gu tu, bH K hq q mh fi sz, bM K hs as_ 41 ls_ gs_, bF K hb_ hbm 1 bak bt_ bbe bcr, bM K hbm abm 63 [] gbm]) (rest := [.ref hda]) (As := []) C (c_RP_turn la D K hX hda hc hon hr ck ) kX8_95 vX8_deviceOfTurn (by decide) rfl ho [1, 0, 2, 3, 4, 5, 6, 7, 8, 9, 10, 11, 12, 13] 14 (by decide +kernel) rfl rfl rfl rfl rfl hl.1 rfl (Nat.le_of_ble_eq_true rfl) dX8_slot_12 0 0 rfl rfl (by decide) (fun v u_2 H locs hq ho => ?_)
  obtain rfl := hq
  have ho : ow D vwCl A s.heap H locs [bRP K hX hda hc hon hr ck, bB K hon eo 204 [] u_1, bDA K hda da, bC K hc ad c1 c2 c3 c4, bB K c1 e1 168 w1 x1, bB K c2 e2 18 w2 x2, bB K c3 e3 150 w3 x3, bB K c4 e4 15 w4 x4, bD K (da d) h hi hb_ gd hd, bO K h hw hq hs hf fr false gu tu, bH K hq q mh fi sz, bM K hs as_ 41 ls_ gs_, bF K hb_ hbm 1 bak bt_ bbe bcr, bM K hbm abm 63 [] gbm] := ho
  refine W.eq (g2 := F0 m 15 ls [.int (nI (ck % 2)), .ref hda]) rfl ?_
  refine o_top (y := nI d) (by rw [qd]) ?_
  have hd2 : d < 2 := by omega
  refine o_aald (v := (da d)) C ho 2 0 rfl rfl 2 rfl d rfl (by omega) (by omega) rfl dX8_slot_15 ?_
  refine o_callV (wr := [bRP K hX hda hc hon hr ck, bB K hon eo 204 [] u_1, bDA K hda da, bC K hc ad c1 c2 c3 c4, bB K c1 e1 168 w1 x1, bB K c2 e2 18 w2 x2, bB K c3 e3 150 w3 x3, bB K c4 e4 15 w4 x4, bM K hbm abm 63 [] gbm]) (rest := []) (As := []) C (c_Dev_speak1_4 la D K (da d) hi gd hd h hw hq hs hf fr gu tu q mh fi sz as_ ls_ gs_ hb_ hbm bak bt_ bbe bcr (by first | omega | assumption | (simp only [List.length_append, List.length_cons, List.length_nil, List.length_modify, List.length_set, nb_len, rb_len, rbp_len, sl_len, slN_len, wh_len, wt_len, hd10_len, hdB_len, thr_len, ldp_len, ldB_len, tens_len, whz_len, majL_len, mf_len, tkL_len, ldY_len, fif_len, ldY_len]; omega) | decide) (by first | omega | assumption | (simp only [List.length_append, List.length_cons, List.length_nil, List.length_modify, List.length_set, nb_len, rb_len, rbp_len, sl_len, slN_len, wh_len, wt_len, hd10_len, hdB_len, thr_len, ldp_len, ldB_len, tens_len, whz_len, majL_len, mf_len, tkL_len, ldY_len, fif_len, ldY_len]; omega) | decide) (by first | omega | assumption | (simp only [List.length_append, List.length_cons, List.length_nil, List.length_modify, List.length_set, nb_len, rb_len, rbp_len, sl_len, slN_len, wh_len, wt_len, hd10_len, hdB_len, thr_len, ldp_len, ldB_len, tens_len, whz_len, majL_len, mf_len, tkL_len, ldY_len, fif_len, ldY_len]; omega) | decide)) kX8_99 vX2_speak (by decide) rfl ho [8, 9, 10, 11, 12, 0, 1, 2, 3, 4, 5, 6, 7, 13] 14 (by decide +kernel) rfl rfl rfl rfl rfl hl.1 rfl (Nat.le_of_ble_eq_true rfl) dX8_slot_16 0 0 rfl rfl (by decide) (fun v u_3 H locs hq ho => ?_)
  obtain rfl := hq
  have ho : ow D vwCl A s.heap H locs [bD K (da d) h hi hb_ false false, bO K h hw hq hs hf fr false gu tu, bH K hq q mh fi sz, bM K hs as_ 41 ls_ gs_, bF K hb_ hbm 1 gd tu bbe bcr, bRP K hX hda hc hon hr ck, bB K hon eo 204 [] u_1, bDA K hda da, bC K hc ad c1 c2 c3 c4, bB K c1 e1 168 w1 x1, bB K c2 e2 18 w2 x2, bB K c3 e3 150 w3 x3, bB K c4 e4 15 w4 x4, bM K hbm abm 63 [] gbm] := ho
  refine W.eq (g2 := F0 m 19 ls [.ref hb_]) rfl ?_
  refine lv_astore_n (lv' := [(1, .ref hb_), (0, .ref hX)]) hx hb dX8_slot_19 rfl hl (by decide) rfl (fun ls hl => ?_)
  refine lv_aload_n hx hb dX8_slot_20 rfl (lv_at hl 0 rfl) ?_
  refine lv_ifnull hx hb dX8_slot_21 ?_
  refine lv_aload_n hx hb dX8_slot_24 rfl (lv_at hl 1 rfl) ?_
  refine o_get (v := .ref hc) C ho 5 0 rfl rfl rfl 1 fX8_30 rfl dX8_slot_25 ?_
  refine lv_aload_n hx hb dX8_slot_28 rfl (lv_at hl 0 rfl) ?_
  refine lv_aload_n hx hb dX8_slot_29 rfl (lv_at hl 1 rfl) ?_
  refine o_get (v := .int (nI ck)) C ho 5 0 rfl rfl rfl 4 fX8_103 rfl dX8_slot_30 ?_
  refine lv_aload_n hx hb dX8_slot_33 rfl (lv_at hl 1 rfl) ?_
  refine o_get (v := .ref hon) C ho 5 0 rfl rfl rfl 2 fX8_37 rfl dX8_slot_34 ?_
  refine o_callV (wr := [bD K (da d) h hi hb_ false false, bO K h hw hq hs hf fr false gu tu, bH K hq q mh fi sz, bM K hs as_ 41 ls_ gs_, bRP K hX hda hc hon hr ck, bDA K hda da]) (rest := []) (As := [.ref hb_, .int (nI ck), .ref hon]) C (c_Coder_put la D K hc ad c1 c2 c3 c4 e1 w1 x1 e2 w2 x2 e3 w3 x3 e4 w4 x4 hb_ hbm 1 gd tu bbe bcr abm [] gbm hon eo u_1 ck qw1 qw2 qw3 qw4 qad (by decide) (Nat.zero_le _) (fun _ => Nat.zero_le _) (fun j => by simp) (by omega)) kX8_106 vX1_put (by decide) rfl ho [8, 9, 10, 11, 12, 4, 13, 6, 0, 1, 2, 3, 5, 7] 14 (by decide +kernel) rfl rfl rfl rfl rfl hl.1 rfl (Nat.le_of_ble_eq_true rfl) dX8_slot_37 0 0 rfl rfl (by decide) (fun v u_4 H locs hq ho => ?_)
  obtain ⟨rfl, hqp⟩ := hq
  have ho : ow D vwCl A s.heap H locs [bC K hc ad c1 c2 c3 c4, bB K c1 e1 168 u_4.2.2.2.2 (u_4.1 0), bB K c2 e2 18 u_4.2.1 (u_4.1 1), bB K c3 e3 150 u_4.2.2.1 (u_4.1 2), bB K c4 e4 15 u_4.2.2.2.1 (u_4.1 3), bF K hb_ hbm 1 gd tu bbe bcr, bM K hbm abm 63 [] gbm, bB K hon eo 204 (airW ck ad 1 gd tu (cond bbe 2 1) []) u_1, bD K (da d) h hi hb_ false false, bO K h hw hq hs hf fr false gu tu, bH K hq q mh fi sz, bM K hs as_ 41 ls_ gs_, bRP K hX hda hc hon hr ck, bDA K hda da] := ho
  refine W.eq (g2 := F0 m 40 ls []) rfl ?_
  refine lv_aload_n hx hb dX8_slot_40 rfl (lv_at hl 1 rfl) ?_
  refine lv_dup hx hb dX8_slot_41 rfl ?_
  refine o_get (v := .int (nI ck)) C ho 12 0 rfl rfl rfl 4 fX8_103 rfl dX8_slot_42 ?_
  refine lv_iconst (v := nI 1) hx hb dX8_slot_45 (by decide) ?_
  refine o_add hx hb dX8_slot_46 ?_
  refine o_put (v := .int (nI (ck + 1))) (bs' := [bC K hc ad c1 c2 c3 c4, bB K c1 e1 168 u_4.2.2.2.2 (u_4.1 0), bB K c2 e2 18 u_4.2.1 (u_4.1 1), bB K c3 e3 150 u_4.2.2.1 (u_4.1 2), bB K c4 e4 15 u_4.2.2.2.1 (u_4.1 3), bF K hb_ hbm 1 gd tu bbe bcr, bM K hbm abm 63 [] gbm, bB K hon eo 204 (airW ck ad 1 gd tu (cond bbe 2 1) []) u_1, bD K (da d) h hi hb_ false false, bO K h hw hq hs hf fr false gu tu, bH K hq q mh fi sz, bM K hs as_ 41 ls_ gs_, bRP K hX hda hc hon hr (ck + 1), bDA K hda da]) C ho 12 0 rfl rfl rfl 4 fX8_103 pX8_4 rfl rfl (Nat.le_of_ble_eq_true rfl) dX8_slot_47 rfl (fun H locs ho => ?_)
  refine lv_aload_n hx hb dX8_slot_50 rfl (lv_at hl 0 rfl) ?_
  refine lv_ifnonnull (tgt := 58) hx hb dX8_slot_51 (by decide) ?_
  refine lv_aload_n hx hb dX8_slot_58 rfl (lv_at hl 0 rfl) ?_
  refine o_get (v := .int (nI 1)) C ho 5 0 rfl rfl rfl 1 fX8_110 rfl dX8_slot_59 ?_
  have ho : ow D vwCl A s.heap H locs [bRP K hX hda hc hon hr (ck + 1), bDA K hda da, bB K hon eo 204 (airW ck ad 1 gd tu (cond bbe 2 1) []) u_1, bC K hc ad c1 c2 c3 c4, bB K c1 e1 168 u_4.2.2.2.2 (u_4.1 0), bB K c2 e2 18 u_4.2.1 (u_4.1 1), bB K c3 e3 150 u_4.2.2.1 (u_4.1 2), bB K c4 e4 15 u_4.2.2.2.1 (u_4.1 3), bD K (da d) h hi hb_ false false, bO K h hw hq hs hf fr false gu tu, bH K hq q mh fi sz, bM K hs as_ 41 ls_ gs_, bF K hb_ hbm 1 gd tu bbe bcr, bM K hbm abm 63 [] gbm] := ho.re [12, 13, 7, 0, 1, 2, 3, 4, 8, 9, 10, 11, 5, 6] 14 (by decide +kernel) rfl rfl
  exact o_iret hQ C rfl ho (gs [u_4.1 0, u_4.1 1, u_4.1 2, u_4.1 3, u_1], u_4.2.1, u_4.2.2.1, u_4.2.2.2.1, u_4.2.2.2.2) (by dsimp only; exact ⟨rfl, hqp⟩) (by dsimp only [gs, List.getD_cons_zero, List.getD_cons_succ] <;> rfl) (Nat.le_of_ble_eq_true rfl) (Nat.le_of_ble_eq_true rfl) dX8_slot_62

set_option maxHeartbeats 4000000 in
set_option maxRecDepth 100000 in
theorem c_RP_slot2_1 (la : Launch) (D : va_G) (K : Nat → ClassId) (hX : Nat) (hda : Nat) (hc : Nat) (hon : Nat) (hr : Nat) (ck : Nat) (da : Nat → Nat) (eo : Nat) (air : List Bool) (xo : Nat → Int32) (ad : Nat) (c1 : Nat) (c2 : Nat) (c3 : Nat) (c4 : Nat) (e1 : Nat) (e2 : Nat) (e3 : Nat) (e4 : Nat) (w1 : List Bool) (w2 : List Bool) (w3 : List Bool) (w4 : List Bool) (x1 : Nat → Int32) (x2 : Nat → Int32) (x3 : Nat → Int32) (x4 : Nat → Int32) (d : Nat) (hi : Nat) (gd : Bool) (h : Nat) (hw : Nat) (hq : Nat) (hs : Nat) (hf : Nat) (fr : Nat) (gu : Bool) (tu : Bool) (hm : Nat) (kd : Nat) (ak : Bool) (ft : Bool) (be : Bool) (cr : Nat) (am : Nat) (lm : List Nat) (gm : Nat → Int32) (hb_ : Nat) (hbm : Nat) (bak : Bool) (bt_ : Bool) (bbe : Bool) (bcr : Nat) (qw1 : w1.length ≤ 168) (qw2 : w2.length ≤ 18) (qw3 : w3.length ≤ 150) (qw4 : w4.length ≤ 15) (qad : ad < 8) (qck : ck < 2 ^ 29) (qd : ck % 2 = d) (qa : air.length ≤ 204) (qk : kd = 3 ∨ kd = 4) (qm : lm.length ≤ 13) (qm9 : kd = 3 → lm.length ≤ 9) (qb : ∀ j, lm.getD j 0 < 256) : MT la D K yX8_slot cX8_slot 2 (some .int) (rmL 5 0 0) [.ref hX] [bRP K hX hda hc hon hr ck, bDA K hda da, bB K hon eo 204 air xo, bC K hc ad c1 c2 c3 c4, bB K c1 e1 168 w1 x1, bB K c2 e2 18 w2 x2, bB K c3 e3 150 w3 x3, bB K c4 e4 15 w4 x4, bD K (da d) h hi hb_ gd true, bO K h hw hq hs hf fr true gu tu, bF K hf hm kd ak ft be cr, bM K hm am 63 lm gm, bF K hb_ hbm 2 bak bt_ bbe bcr] ((Nat → Nat → Int32) × List Bool × List Bool × List Bool × List Bool) (fun v u => v = some (.int (nI kd)) ∧ u.2.1.length ≤ 18 ∧ u.2.2.1.length ≤ 150 ∧ u.2.2.2.1.length ≤ 15 ∧ u.2.2.2.2.length ≤ 168) (fun u => [bRP K hX hda hc hon hr (ck + 1), bDA K hda da, bB K hon eo 204 (airW ck ad kd gd ft (cond be 2 1) lm) (u.1 4), bC K hc ad c1 c2 c3 c4, bB K c1 e1 168 u.2.2.2.2 (u.1 0), bB K c2 e2 18 u.2.1 (u.1 1), bB K c3 e3 150 u.2.2.1 (u.1 2), bB K c4 e4 15 u.2.2.2.1 (u.1 3), bD K (da d) h hi hb_ false false, bO K h hw hq hs hf fr true gu tu, bF K hf hm kd gd ft be cr, bM K hm am 63 lm gm, bF K hb_ hbm 2 bak bt_ bbe bcr]) := by
  refine Mt.ofW [(0, .ref hX)] (by decide) rfl (Nat.le_of_ble_eq_true rfl) ?_
  intro p e s m args below meth c A ls H locs Qz hQ C hin hl ho
  have hx := C.1.1
  have hb := C.1.2.1
  refine lv_aload_n hx hb dX8_slot_0 rfl (lv_at hl 0 rfl) ?_
  refine o_get (v := .ref hon) C ho 0 0 rfl rfl rfl 2 fX8_37 rfl dX8_slot_1 ?_
  refine o_callV (wr := [bRP K hX hda hc hon hr ck, bDA K hda da, bC K hc ad c1 c2 c3 c4, bB K c1 e1 168 w1 x1, bB K c2 e2 18 w2 x2, bB K c3 e3 150 w3 x3, bB K c4 e4 15 w4 x4, bD K (da d) h hi hb_ gd true, bO K h hw hq hs hf fr true gu tu, bF K hf hm kd ak ft be cr, bM K hm am 63 lm gm, bF K hb_ hbm 2 bak bt_ bbe bcr]) (rest := []) (As := []) C (c_Bits_clear la D K hon eo 204 air xo (by first | omega | assumption | (simp only [List.length_append, List.length_cons, List.length_nil, List.length_modify, List.length_set, nb_len, rb_len, rbp_len, sl_len, slN_len, wh_len, wt_len, hd10_len, hdB_len, thr_len, ldp_len, ldB_len, tens_len, whz_len, majL_len, mf_len, tkL_len, ldY_len, fif_len, ldY_len]; omega) | decide) (by first | omega | assumption | (simp only [List.length_append, List.length_cons, List.length_nil, List.length_modify, List.length_set, nb_len, rb_len, rbp_len, sl_len, slN_len, wh_len, wt_len, hd10_len, hdB_len, thr_len, ldp_len, ldB_len, tens_len, whz_len, majL_len, mf_len, tkL_len, ldY_len, fif_len, ldY_len]; omega) | decide)) kX8_94 vX0_clear (by decide) rfl ho [2, 0, 1, 3, 4, 5, 6, 7, 8, 9, 10, 11, 12] 13 (by decide +kernel) rfl rfl rfl rfl rfl hl.1 rfl (Nat.le_of_ble_eq_true rfl) dX8_slot_4 0 0 rfl rfl (by decide) (fun v u_1 H locs hq ho => ?_)
  obtain rfl := hq
  have ho : ow D vwCl A s.heap H locs [bB K hon eo 204 [] u_1, bRP K hX hda hc hon hr ck, bDA K hda da, bC K hc ad c1 c2 c3 c4, bB K c1 e1 168 w1 x1, bB K c2 e2 18 w2 x2, bB K c3 e3 150 w3 x3, bB K c4 e4 15 w4 x4, bD K (da d) h hi hb_ gd true, bO K h hw hq hs hf fr true gu tu, bF K hf hm kd ak ft be cr, bM K hm am 63 lm gm, bF K hb_ hbm 2 bak bt_ bbe bcr] := ho
  refine W.eq (g2 := F0 m 7 ls []) rfl ?_
  refine lv_aload_n hx hb dX8_slot_7 rfl (lv_at hl 0 rfl) ?_
  refine o_get (v := .ref hda) C ho 1 0 rfl rfl rfl 0 fX8_11 rfl dX8_slot_8 ?_
  refine lv_aload_n hx hb dX8_slot_11 rfl (lv_at hl 0 rfl) ?_
  refine o_callV (wr := [bB K hon eo 204 [] u_1, bDA K hda da, bC K hc ad c1 c2 c3 c4, bB K c1 e1 168 w1 x1, bB K c2 e2 18 w2 x2, bB K c3 e3 150 w3 x3, bB K c4 e4 15 w4 x4, bD K (da d) h hi hb_ gd true, bO K h hw hq hs hf fr true gu tu, bF K hf hm kd ak ft be cr, bM K hm am 63 lm gm, bF K hb_ hbm 2 bak bt_ bbe bcr]) (rest := [.ref hda]) (As := []) C (c_RP_turn la D K hX hda hc hon hr ck ) kX8_95 vX8_deviceOfTurn (by decide) rfl ho [1, 0, 2, 3, 4, 5, 6, 7, 8, 9, 10, 11, 12] 13 (by decide +kernel) rfl rfl rfl rfl rfl hl.1 rfl (Nat.le_of_ble_eq_true rfl) dX8_slot_12 0 0 rfl rfl (by decide) (fun v u_2 H locs hq ho => ?_)
  obtain rfl := hq
  have ho : ow D vwCl A s.heap H locs [bRP K hX hda hc hon hr ck, bB K hon eo 204 [] u_1, bDA K hda da, bC K hc ad c1 c2 c3 c4, bB K c1 e1 168 w1 x1, bB K c2 e2 18 w2 x2, bB K c3 e3 150 w3 x3, bB K c4 e4 15 w4 x4, bD K (da d) h hi hb_ gd true, bO K h hw hq hs hf fr true gu tu, bF K hf hm kd ak ft be cr, bM K hm am 63 lm gm, bF K hb_ hbm 2 bak bt_ bbe bcr] := ho
  refine W.eq (g2 := F0 m 15 ls [.int (nI (ck % 2)), .ref hda]) rfl ?_
  refine o_top (y := nI d) (by rw [qd]) ?_
  have hd2 : d < 2 := by omega
  refine o_aald (v := (da d)) C ho 2 0 rfl rfl 2 rfl d rfl (by omega) (by omega) rfl dX8_slot_15 ?_
  refine o_callV (wr := [bRP K hX hda hc hon hr ck, bB K hon eo 204 [] u_1, bDA K hda da, bC K hc ad c1 c2 c3 c4, bB K c1 e1 168 w1 x1, bB K c2 e2 18 w2 x2, bB K c3 e3 150 w3 x3, bB K c4 e4 15 w4 x4, bM K hm am 63 lm gm]) (rest := []) (As := []) C (c_Dev_speak2_1 la D K (da d) hi gd h hw hq hs hf fr gu tu hm kd ak ft be cr hb_ hbm bak bt_ bbe bcr ) kX8_99 vX2_speak (by decide) rfl ho [8, 9, 10, 12, 0, 1, 2, 3, 4, 5, 6, 7, 11] 13 (by decide +kernel) rfl rfl rfl rfl rfl hl.1 rfl (Nat.le_of_ble_eq_true rfl) dX8_slot_16 0 0 rfl rfl (by decide) (fun v u_3 H locs hq ho => ?_)
  obtain rfl := hq
  have ho : ow D vwCl A s.heap H locs [bD K (da d) h hi hb_ false false, bO K h hw hq hs hf fr true gu tu, bF K hf hm kd gd ft be cr, bF K hb_ hbm 2 bak bt_ bbe bcr, bRP K hX hda hc hon hr ck, bB K hon eo 204 [] u_1, bDA K hda da, bC K hc ad c1 c2 c3 c4, bB K c1 e1 168 w1 x1, bB K c2 e2 18 w2 x2, bB K c3 e3 150 w3 x3, bB K c4 e4 15 w4 x4, bM K hm am 63 lm gm] := ho
  refine W.eq (g2 := F0 m 19 ls [.ref hf]) rfl ?_
  refine lv_astore_n (lv' := [(1, .ref hf), (0, .ref hX)]) hx hb dX8_slot_19 rfl hl (by decide) rfl (fun ls hl => ?_)
  refine lv_aload_n hx hb dX8_slot_20 rfl (lv_at hl 0 rfl) ?_
  refine lv_ifnull hx hb dX8_slot_21 ?_
  have hk16 : kd < 16 := by omega
  refine lv_aload_n hx hb dX8_slot_24 rfl (lv_at hl 1 rfl) ?_
  refine o_get (v := .ref hc) C ho 4 0 rfl rfl rfl 1 fX8_30 rfl dX8_slot_25 ?_
  refine lv_aload_n hx hb dX8_slot_28 rfl (lv_at hl 0 rfl) ?_
  refine lv_aload_n hx hb dX8_slot_29 rfl (lv_at hl 1 rfl) ?_
  refine o_get (v := .int (nI ck)) C ho 4 0 rfl rfl rfl 4 fX8_103 rfl dX8_slot_30 ?_
  refine lv_aload_n hx hb dX8_slot_33 rfl (lv_at hl 1 rfl) ?_
  refine o_get (v := .ref hon) C ho 4 0 rfl rfl rfl 2 fX8_37 rfl dX8_slot_34 ?_
  refine o_callV (wr := [bD K (da d) h hi hb_ false false, bO K h hw hq hs hf fr true gu tu, bF K hb_ hbm 2 bak bt_ bbe bcr, bRP K hX hda hc hon hr ck, bDA K hda da]) (rest := []) (As := [.ref hf, .int (nI ck), .ref hon]) C (c_Coder_put la D K hc ad c1 c2 c3 c4 e1 w1 x1 e2 w2 x2 e3 w3 x3 e4 w4 x4 hf hm kd gd ft be cr am lm gm hon eo u_1 ck qw1 qw2 qw3 qw4 qad hk16 qm qm9 qb (by omega)) kX8_106 vX1_put (by decide) rfl ho [7, 8, 9, 10, 11, 2, 12, 5, 0, 1, 3, 4, 6] 13 (by decide +kernel) rfl rfl rfl rfl rfl hl.1 rfl (Nat.le_of_ble_eq_true rfl) dX8_slot_37 0 0 rfl rfl (by decide) (fun v u_4 H locs hq ho => ?_)
  obtain ⟨rfl, hqp⟩ := hq
  have ho : ow D vwCl A s.heap H locs [bC K hc ad c1 c2 c3 c4, bB K c1 e1 168 u_4.2.2.2.2 (u_4.1 0), bB K c2 e2 18 u_4.2.1 (u_4.1 1), bB K c3 e3 150 u_4.2.2.1 (u_4.1 2), bB K c4 e4 15 u_4.2.2.2.1 (u_4.1 3), bF K hf hm kd gd ft be cr, bM K hm am 63 lm gm, bB K hon eo 204 (airW ck ad kd gd ft (cond be 2 1) lm) u_1, bD K (da d) h hi hb_ false false, bO K h hw hq hs hf fr true gu tu, bF K hb_ hbm 2 bak bt_ bbe bcr, bRP K hX hda hc hon hr ck, bDA K hda da] := ho
  refine W.eq (g2 := F0 m 40 ls []) rfl ?_
  refine lv_aload_n hx hb dX8_slot_40 rfl (lv_at hl 1 rfl) ?_
  refine lv_dup hx hb dX8_slot_41 rfl ?_
  refine o_get (v := .int (nI ck)) C ho 11 0 rfl rfl rfl 4 fX8_103 rfl dX8_slot_42 ?_
  refine lv_iconst (v := nI 1) hx hb dX8_slot_45 (by decide) ?_
  refine o_add hx hb dX8_slot_46 ?_
  refine o_put (v := .int (nI (ck + 1))) (bs' := [bC K hc ad c1 c2 c3 c4, bB K c1 e1 168 u_4.2.2.2.2 (u_4.1 0), bB K c2 e2 18 u_4.2.1 (u_4.1 1), bB K c3 e3 150 u_4.2.2.1 (u_4.1 2), bB K c4 e4 15 u_4.2.2.2.1 (u_4.1 3), bF K hf hm kd gd ft be cr, bM K hm am 63 lm gm, bB K hon eo 204 (airW ck ad kd gd ft (cond be 2 1) lm) u_1, bD K (da d) h hi hb_ false false, bO K h hw hq hs hf fr true gu tu, bF K hb_ hbm 2 bak bt_ bbe bcr, bRP K hX hda hc hon hr (ck + 1), bDA K hda da]) C ho 11 0 rfl rfl rfl 4 fX8_103 pX8_4 rfl rfl (Nat.le_of_ble_eq_true rfl) dX8_slot_47 rfl (fun H locs ho => ?_)
  refine lv_aload_n hx hb dX8_slot_50 rfl (lv_at hl 0 rfl) ?_
  refine lv_ifnonnull (tgt := 58) hx hb dX8_slot_51 (by decide) ?_
  refine lv_aload_n hx hb dX8_slot_58 rfl (lv_at hl 0 rfl) ?_
  refine o_get (v := .int (nI kd)) C ho 5 0 rfl rfl rfl 1 fX8_110 rfl dX8_slot_59 ?_
  have ho : ow D vwCl A s.heap H locs [bRP K hX hda hc hon hr (ck + 1), bDA K hda da, bB K hon eo 204 (airW ck ad kd gd ft (cond be 2 1) lm) u_1, bC K hc ad c1 c2 c3 c4, bB K c1 e1 168 u_4.2.2.2.2 (u_4.1 0), bB K c2 e2 18 u_4.2.1 (u_4.1 1), bB K c3 e3 150 u_4.2.2.1 (u_4.1 2), bB K c4 e4 15 u_4.2.2.2.1 (u_4.1 3), bD K (da d) h hi hb_ false false, bO K h hw hq hs hf fr true gu tu, bF K hf hm kd gd ft be cr, bM K hm am 63 lm gm, bF K hb_ hbm 2 bak bt_ bbe bcr] := ho.re [11, 12, 7, 0, 1, 2, 3, 4, 8, 9, 5, 6, 10] 13 (by decide +kernel) rfl rfl
  exact o_iret hQ C rfl ho (gs [u_4.1 0, u_4.1 1, u_4.1 2, u_4.1 3, u_1], u_4.2.1, u_4.2.2.1, u_4.2.2.2.1, u_4.2.2.2.2) (by dsimp only; exact ⟨rfl, hqp⟩) (by dsimp only [gs, List.getD_cons_zero, List.getD_cons_succ] <;> rfl) (Nat.le_of_ble_eq_true rfl) (Nat.le_of_ble_eq_true rfl) dX8_slot_62

set_option maxHeartbeats 4000000 in
set_option maxRecDepth 100000 in
theorem c_RP_slot2_2 (la : Launch) (D : va_G) (K : Nat → ClassId) (hX : Nat) (hda : Nat) (hc : Nat) (hon : Nat) (hr : Nat) (ck : Nat) (da : Nat → Nat) (eo : Nat) (air : List Bool) (xo : Nat → Int32) (ad : Nat) (c1 : Nat) (c2 : Nat) (c3 : Nat) (c4 : Nat) (e1 : Nat) (e2 : Nat) (e3 : Nat) (e4 : Nat) (w1 : List Bool) (w2 : List Bool) (w3 : List Bool) (w4 : List Bool) (x1 : Nat → Int32) (x2 : Nat → Int32) (x3 : Nat → Int32) (x4 : Nat → Int32) (d : Nat) (hi : Nat) (gd : Bool) (h : Nat) (hw : Nat) (hq : Nat) (hs : Nat) (hf : Nat) (fr : Nat) (gu : Bool) (tu : Bool) (as_ : Nat) (ls_ : List Nat) (gs_ : Nat → Int32) (hm : Nat) (kd : Nat) (ak : Bool) (ft : Bool) (be : Bool) (cr : Nat) (am : Nat) (lm : List Nat) (gm : Nat → Int32) (hb_ : Nat) (hbm : Nat) (bak : Bool) (bt_ : Bool) (bbe : Bool) (bcr : Nat) (qw1 : w1.length ≤ 168) (qw2 : w2.length ≤ 18) (qw3 : w3.length ≤ 150) (qw4 : w4.length ≤ 15) (qad : ad < 8) (qck : ck < 2 ^ 29) (qd : ck % 2 = d) (qa : air.length ≤ 204) (q1 : fr < ls_.length) (q2 : ls_.length ≤ 41) (q3 : lm.length ≤ 63) (qb : ∀ j, ls_.getD j 0 < 256) : MT la D K yX8_slot cX8_slot 2 (some .int) (rmL 6 0 0) [.ref hX] [bRP K hX hda hc hon hr ck, bDA K hda da, bB K hon eo 204 air xo, bC K hc ad c1 c2 c3 c4, bB K c1 e1 168 w1 x1, bB K c2 e2 18 w2 x2, bB K c3 e3 150 w3 x3, bB K c4 e4 15 w4 x4, bD K (da d) h hi hb_ gd true, bO K h hw hq hs hf fr false gu tu, bM K hs as_ 41 ls_ gs_, bF K hf hm kd ak ft be cr, bM K hm am 63 lm gm, bF K hb_ hbm 2 bak bt_ bbe bcr] (((Nat → Nat → Int32) × List Bool × List Bool × List Bool × List Bool) × (Nat → Int32)) (fun v u => v = some (.int (nI (cond gu 3 4))) ∧ u.1.2.1.length ≤ 18 ∧ u.1.2.2.1.length ≤ 150 ∧ u.1.2.2.2.1.length ≤ 15 ∧ u.1.2.2.2.2.length ≤ 168) (fun u => [bRP K hX hda hc hon hr (ck + 1), bDA K hda da, bB K hon eo 204 (airW ck ad (cond gu 3 4) gd (!tu) (cond (decide (fr = 0)) 2 1) (slN ls_ fr (nxt gu (ls_.length - fr)))) (u.1.1 4), bC K hc ad c1 c2 c3 c4, bB K c1 e1 168 u.1.2.2.2.2 (u.1.1 0), bB K c2 e2 18 u.1.2.1 (u.1.1 1), bB K c3 e3 150 u.1.2.2.1 (u.1.1 2), bB K c4 e4 15 u.1.2.2.2.1 (u.1.1 3), bD K (da d) h hi hb_ false false, bO K h hw hq hs hf (fr + nxt gu (ls_.length - fr)) true gu (!tu), bM K hs as_ 41 ls_ gs_, bF K hf hm (cond gu 3 4) gd (!tu) (decide (fr = 0)) cr, bM K hm am 63 (slN ls_ fr (nxt gu (ls_.length - fr))) u.2, bF K hb_ hbm 2 bak bt_ bbe bcr]) := by
  refine Mt.ofW [(0, .ref hX)] (by decide) rfl (Nat.le_of_ble_eq_true rfl) ?_
  intro p e s m args below meth c A ls H locs Qz hQ C hin hl ho
  have hx := C.1.1
  have hb := C.1.2.1
  refine lv_aload_n hx hb dX8_slot_0 rfl (lv_at hl 0 rfl) ?_
  refine o_get (v := .ref hon) C ho 0 0 rfl rfl rfl 2 fX8_37 rfl dX8_slot_1 ?_
  refine o_callV (wr := [bRP K hX hda hc hon hr ck, bDA K hda da, bC K hc ad c1 c2 c3 c4, bB K c1 e1 168 w1 x1, bB K c2 e2 18 w2 x2, bB K c3 e3 150 w3 x3, bB K c4 e4 15 w4 x4, bD K (da d) h hi hb_ gd true, bO K h hw hq hs hf fr false gu tu, bM K hs as_ 41 ls_ gs_, bF K hf hm kd ak ft be cr, bM K hm am 63 lm gm, bF K hb_ hbm 2 bak bt_ bbe bcr]) (rest := []) (As := []) C (c_Bits_clear la D K hon eo 204 air xo (by first | omega | assumption | (simp only [List.length_append, List.length_cons, List.length_nil, List.length_modify, List.length_set, nb_len, rb_len, rbp_len, sl_len, slN_len, wh_len, wt_len, hd10_len, hdB_len, thr_len, ldp_len, ldB_len, tens_len, whz_len, majL_len, mf_len, tkL_len, ldY_len, fif_len, ldY_len]; omega) | decide) (by first | omega | assumption | (simp only [List.length_append, List.length_cons, List.length_nil, List.length_modify, List.length_set, nb_len, rb_len, rbp_len, sl_len, slN_len, wh_len, wt_len, hd10_len, hdB_len, thr_len, ldp_len, ldB_len, tens_len, whz_len, majL_len, mf_len, tkL_len, ldY_len, fif_len, ldY_len]; omega) | decide)) kX8_94 vX0_clear (by decide) rfl ho [2, 0, 1, 3, 4, 5, 6, 7, 8, 9, 10, 11, 12, 13] 14 (by decide +kernel) rfl rfl rfl rfl rfl hl.1 rfl (Nat.le_of_ble_eq_true rfl) dX8_slot_4 0 0 rfl rfl (by decide) (fun v u_1 H locs hq ho => ?_)
  obtain rfl := hq
  have ho : ow D vwCl A s.heap H locs [bB K hon eo 204 [] u_1, bRP K hX hda hc hon hr ck, bDA K hda da, bC K hc ad c1 c2 c3 c4, bB K c1 e1 168 w1 x1, bB K c2 e2 18 w2 x2, bB K c3 e3 150 w3 x3, bB K c4 e4 15 w4 x4, bD K (da d) h hi hb_ gd true, bO K h hw hq hs hf fr false gu tu, bM K hs as_ 41 ls_ gs_, bF K hf hm kd ak ft be cr, bM K hm am 63 lm gm, bF K hb_ hbm 2 bak bt_ bbe bcr] := ho
  refine W.eq (g2 := F0 m 7 ls []) rfl ?_
  refine lv_aload_n hx hb dX8_slot_7 rfl (lv_at hl 0 rfl) ?_
  refine o_get (v := .ref hda) C ho 1 0 rfl rfl rfl 0 fX8_11 rfl dX8_slot_8 ?_
  refine lv_aload_n hx hb dX8_slot_11 rfl (lv_at hl 0 rfl) ?_
  refine o_callV (wr := [bB K hon eo 204 [] u_1, bDA K hda da, bC K hc ad c1 c2 c3 c4, bB K c1 e1 168 w1 x1, bB K c2 e2 18 w2 x2, bB K c3 e3 150 w3 x3, bB K c4 e4 15 w4 x4, bD K (da d) h hi hb_ gd true, bO K h hw hq hs hf fr false gu tu, bM K hs as_ 41 ls_ gs_, bF K hf hm kd ak ft be cr, bM K hm am 63 lm gm, bF K hb_ hbm 2 bak bt_ bbe bcr]) (rest := [.ref hda]) (As := []) C (c_RP_turn la D K hX hda hc hon hr ck ) kX8_95 vX8_deviceOfTurn (by decide) rfl ho [1, 0, 2, 3, 4, 5, 6, 7, 8, 9, 10, 11, 12, 13] 14 (by decide +kernel) rfl rfl rfl rfl rfl hl.1 rfl (Nat.le_of_ble_eq_true rfl) dX8_slot_12 0 0 rfl rfl (by decide) (fun v u_2 H locs hq ho => ?_)
  obtain rfl := hq
  have ho : ow D vwCl A s.heap H locs [bRP K hX hda hc hon hr ck, bB K hon eo 204 [] u_1, bDA K hda da, bC K hc ad c1 c2 c3 c4, bB K c1 e1 168 w1 x1, bB K c2 e2 18 w2 x2, bB K c3 e3 150 w3 x3, bB K c4 e4 15 w4 x4, bD K (da d) h hi hb_ gd true, bO K h hw hq hs hf fr false gu tu, bM K hs as_ 41 ls_ gs_, bF K hf hm kd ak ft be cr, bM K hm am 63 lm gm, bF K hb_ hbm 2 bak bt_ bbe bcr] := ho
  refine W.eq (g2 := F0 m 15 ls [.int (nI (ck % 2)), .ref hda]) rfl ?_
  refine o_top (y := nI d) (by rw [qd]) ?_
  have hd2 : d < 2 := by omega
  refine o_aald (v := (da d)) C ho 2 0 rfl rfl 2 rfl d rfl (by omega) (by omega) rfl dX8_slot_15 ?_
  refine o_callV (wr := [bRP K hX hda hc hon hr ck, bB K hon eo 204 [] u_1, bDA K hda da, bC K hc ad c1 c2 c3 c4, bB K c1 e1 168 w1 x1, bB K c2 e2 18 w2 x2, bB K c3 e3 150 w3 x3, bB K c4 e4 15 w4 x4]) (rest := []) (As := []) C (c_Dev_speak2_2 la D K (da d) hi gd h hw hq hs hf fr gu tu as_ ls_ gs_ hm kd ak ft be cr am lm gm hb_ hbm bak bt_ bbe bcr (by first | omega | assumption | (simp only [List.length_append, List.length_cons, List.length_nil, List.length_modify, List.length_set, nb_len, rb_len, rbp_len, sl_len, slN_len, wh_len, wt_len, hd10_len, hdB_len, thr_len, ldp_len, ldB_len, tens_len, whz_len, majL_len, mf_len, tkL_len, ldY_len, fif_len, ldY_len]; omega) | decide) (by first | omega | assumption | (simp only [List.length_append, List.length_cons, List.length_nil, List.length_modify, List.length_set, nb_len, rb_len, rbp_len, sl_len, slN_len, wh_len, wt_len, hd10_len, hdB_len, thr_len, ldp_len, ldB_len, tens_len, whz_len, majL_len, mf_len, tkL_len, ldY_len, fif_len, ldY_len]; omega) | decide) (by first | omega | assumption | (simp only [List.length_append, List.length_cons, List.length_nil, List.length_modify, List.length_set, nb_len, rb_len, rbp_len, sl_len, slN_len, wh_len, wt_len, hd10_len, hdB_len, thr_len, ldp_len, ldB_len, tens_len, whz_len, majL_len, mf_len, tkL_len, ldY_len, fif_len, ldY_len]; omega) | decide)) kX8_99 vX2_speak (by decide) rfl ho [8, 9, 10, 11, 12, 13, 0, 1, 2, 3, 4, 5, 6, 7] 14 (by decide +kernel) rfl rfl rfl rfl rfl hl.1 rfl (Nat.le_of_ble_eq_true rfl) dX8_slot_16 0 0 rfl rfl (by decide) (fun v u_3 H locs hq ho => ?_)
  obtain rfl := hq
  have ho : ow D vwCl A s.heap H locs [bD K (da d) h hi hb_ false false, bO K h hw hq hs hf (fr + nxt gu (ls_.length - fr)) true gu (!tu), bM K hs as_ 41 ls_ gs_, bF K hf hm (cond gu 3 4) gd (!tu) (decide (fr = 0)) cr, bM K hm am 63 (slN ls_ fr (nxt gu (ls_.length - fr))) u_3, bF K hb_ hbm 2 bak bt_ bbe bcr, bRP K hX hda hc hon hr ck, bB K hon eo 204 [] u_1, bDA K hda da, bC K hc ad c1 c2 c3 c4, bB K c1 e1 168 w1 x1, bB K c2 e2 18 w2 x2, bB K c3 e3 150 w3 x3, bB K c4 e4 15 w4 x4] := ho
  refine W.eq (g2 := F0 m 19 ls [.ref hf]) rfl ?_
  refine lv_astore_n (lv' := [(1, .ref hf), (0, .ref hX)]) hx hb dX8_slot_19 rfl hl (by decide) rfl (fun ls hl => ?_)
  refine lv_aload_n hx hb dX8_slot_20 rfl (lv_at hl 0 rfl) ?_
  refine lv_ifnull hx hb dX8_slot_21 ?_
  have hn9 : nxt gu (ls_.length - fr) ≤ cond gu 9 13 := Nat.min_le_right _ _
  have hn8 : cond gu 9 13 ≤ 13 := by cases gu <;> decide
  have hqb : ∀ j, (slN ls_ fr (nxt gu (ls_.length - fr))).getD j 0 < 256 := slN_b qb
  have hk16 : cond gu 3 4 < 16 := by cases gu <;> decide
  have hk9 : cond gu 3 4 = 3 → (slN ls_ fr (nxt gu (ls_.length - fr))).length ≤ 9 := by rw [slN_len]; cases gu; (intro q; exact absurd q (by decide)); (intro _; exact hn9)
  refine lv_aload_n hx hb dX8_slot_24 rfl (lv_at hl 1 rfl) ?_
  refine o_get (v := .ref hc) C ho 6 0 rfl rfl rfl 1 fX8_30 rfl dX8_slot_25 ?_
  refine lv_aload_n hx hb dX8_slot_28 rfl (lv_at hl 0 rfl) ?_
  refine lv_aload_n hx hb dX8_slot_29 rfl (lv_at hl 1 rfl) ?_
  refine o_get (v := .int (nI ck)) C ho 6 0 rfl rfl rfl 4 fX8_103 rfl dX8_slot_30 ?_
  refine lv_aload_n hx hb dX8_slot_33 rfl (lv_at hl 1 rfl) ?_
  refine o_get (v := .ref hon) C ho 6 0 rfl rfl rfl 2 fX8_37 rfl dX8_slot_34 ?_
  refine o_callV (wr := [bD K (da d) h hi hb_ false false, bO K h hw hq hs hf (fr + nxt gu (ls_.length - fr)) true gu (!tu), bM K hs as_ 41 ls_ gs_, bF K hb_ hbm 2 bak bt_ bbe bcr, bRP K hX hda hc hon hr ck, bDA K hda da]) (rest := []) (As := [.ref hf, .int (nI ck), .ref hon]) C (c_Coder_put la D K hc ad c1 c2 c3 c4 e1 w1 x1 e2 w2 x2 e3 w3 x3 e4 w4 x4 hf hm (cond gu 3 4) gd (!tu) (decide (fr = 0)) cr am (slN ls_ fr (nxt gu (ls_.length - fr))) u_3 hon eo u_1 ck qw1 qw2 qw3 qw4 qad hk16 (by rw [slN_len]; omega) hk9 hqb (by omega)) kX8_106 vX1_put (by decide) rfl ho [9, 10, 11, 12, 13, 3, 4, 7, 0, 1, 2, 5, 6, 8] 14 (by decide +kernel) rfl rfl rfl rfl rfl hl.1 rfl (Nat.le_of_ble_eq_true rfl) dX8_slot_37 0 0 rfl rfl (by decide) (fun v u_4 H locs hq ho => ?_)
  obtain ⟨rfl, hqp⟩ := hq
  have ho : ow D vwCl A s.heap H locs [bC K hc ad c1 c2 c3 c4, bB K c1 e1 168 u_4.2.2.2.2 (u_4.1 0), bB K c2 e2 18 u_4.2.1 (u_4.1 1), bB K c3 e3 150 u_4.2.2.1 (u_4.1 2), bB K c4 e4 15 u_4.2.2.2.1 (u_4.1 3), bF K hf hm (cond gu 3 4) gd (!tu) (decide (fr = 0)) cr, bM K hm am 63 (slN ls_ fr (nxt gu (ls_.length - fr))) u_3, bB K hon eo 204 (airW ck ad (cond gu 3 4) gd (!tu) (cond (decide (fr = 0)) 2 1) (slN ls_ fr (nxt gu (ls_.length - fr)))) u_1, bD K (da d) h hi hb_ false false, bO K h hw hq hs hf (fr + nxt gu (ls_.length - fr)) true gu (!tu), bM K hs as_ 41 ls_ gs_, bF K hb_ hbm 2 bak bt_ bbe bcr, bRP K hX hda hc hon hr ck, bDA K hda da] := ho
  refine W.eq (g2 := F0 m 40 ls []) rfl ?_
  refine lv_aload_n hx hb dX8_slot_40 rfl (lv_at hl 1 rfl) ?_
  refine lv_dup hx hb dX8_slot_41 rfl ?_
  refine o_get (v := .int (nI ck)) C ho 12 0 rfl rfl rfl 4 fX8_103 rfl dX8_slot_42 ?_
  refine lv_iconst (v := nI 1) hx hb dX8_slot_45 (by decide) ?_
  refine o_add hx hb dX8_slot_46 ?_
  refine o_put (v := .int (nI (ck + 1))) (bs' := [bC K hc ad c1 c2 c3 c4, bB K c1 e1 168 u_4.2.2.2.2 (u_4.1 0), bB K c2 e2 18 u_4.2.1 (u_4.1 1), bB K c3 e3 150 u_4.2.2.1 (u_4.1 2), bB K c4 e4 15 u_4.2.2.2.1 (u_4.1 3), bF K hf hm (cond gu 3 4) gd (!tu) (decide (fr = 0)) cr, bM K hm am 63 (slN ls_ fr (nxt gu (ls_.length - fr))) u_3, bB K hon eo 204 (airW ck ad (cond gu 3 4) gd (!tu) (cond (decide (fr = 0)) 2 1) (slN ls_ fr (nxt gu (ls_.length - fr)))) u_1, bD K (da d) h hi hb_ false false, bO K h hw hq hs hf (fr + nxt gu (ls_.length - fr)) true gu (!tu), bM K hs as_ 41 ls_ gs_, bF K hb_ hbm 2 bak bt_ bbe bcr, bRP K hX hda hc hon hr (ck + 1), bDA K hda da]) C ho 12 0 rfl rfl rfl 4 fX8_103 pX8_4 rfl rfl (Nat.le_of_ble_eq_true rfl) dX8_slot_47 rfl (fun H locs ho => ?_)
  refine lv_aload_n hx hb dX8_slot_50 rfl (lv_at hl 0 rfl) ?_
  refine lv_ifnonnull (tgt := 58) hx hb dX8_slot_51 (by decide) ?_
  refine lv_aload_n hx hb dX8_slot_58 rfl (lv_at hl 0 rfl) ?_
  refine o_get (v := .int (nI (cond gu 3 4))) C ho 5 0 rfl rfl rfl 1 fX8_110 rfl dX8_slot_59 ?_
  have ho : ow D vwCl A s.heap H locs [bRP K hX hda hc hon hr (ck + 1), bDA K hda da, bB K hon eo 204 (airW ck ad (cond gu 3 4) gd (!tu) (cond (decide (fr = 0)) 2 1) (slN ls_ fr (nxt gu (ls_.length - fr)))) u_1, bC K hc ad c1 c2 c3 c4, bB K c1 e1 168 u_4.2.2.2.2 (u_4.1 0), bB K c2 e2 18 u_4.2.1 (u_4.1 1), bB K c3 e3 150 u_4.2.2.1 (u_4.1 2), bB K c4 e4 15 u_4.2.2.2.1 (u_4.1 3), bD K (da d) h hi hb_ false false, bO K h hw hq hs hf (fr + nxt gu (ls_.length - fr)) true gu (!tu), bM K hs as_ 41 ls_ gs_, bF K hf hm (cond gu 3 4) gd (!tu) (decide (fr = 0)) cr, bM K hm am 63 (slN ls_ fr (nxt gu (ls_.length - fr))) u_3, bF K hb_ hbm 2 bak bt_ bbe bcr] := ho.re [12, 13, 7, 0, 1, 2, 3, 4, 8, 9, 10, 5, 6, 11] 14 (by decide +kernel) rfl rfl
  exact o_iret hQ C rfl ho ((gs [u_4.1 0, u_4.1 1, u_4.1 2, u_4.1 3, u_1], u_4.2.1, u_4.2.2.1, u_4.2.2.2.1, u_4.2.2.2.2), u_3) (by dsimp only; exact ⟨rfl, hqp⟩) (by dsimp only [gs, List.getD_cons_zero, List.getD_cons_succ] <;> rfl) (Nat.le_of_ble_eq_true rfl) (Nat.le_of_ble_eq_true rfl) dX8_slot_62

set_option maxHeartbeats 4000000 in
set_option maxRecDepth 100000 in
theorem c_RP_slot2_3 (la : Launch) (D : va_G) (K : Nat → ClassId) (hX : Nat) (hda : Nat) (hc : Nat) (hon : Nat) (hr : Nat) (ck : Nat) (da : Nat → Nat) (eo : Nat) (air : List Bool) (xo : Nat → Int32) (ad : Nat) (c1 : Nat) (c2 : Nat) (c3 : Nat) (c4 : Nat) (e1 : Nat) (e2 : Nat) (e3 : Nat) (e4 : Nat) (w1 : List Bool) (w2 : List Bool) (w3 : List Bool) (w4 : List Bool) (x1 : Nat → Int32) (x2 : Nat → Int32) (x3 : Nat → Int32) (x4 : Nat → Int32) (d : Nat) (hi : Nat) (gd : Bool) (h : Nat) (hw : Nat) (hq : Nat) (hs : Nat) (hf : Nat) (fr : Nat) (gu : Bool) (tu : Bool) (q : Nat) (mh : Nat → Nat) (fi : Nat) (sz : Nat) (ma : Nat → Nat) (ml : Nat → List Nat) (mg : Nat → Nat → Int32) (as_ : Nat) (ls_ : List Nat) (gs_ : Nat → Int32) (hm : Nat) (kd : Nat) (ak : Bool) (ft : Bool) (be : Bool) (cr : Nat) (am : Nat) (lm : List Nat) (gm : Nat → Int32) (hb_ : Nat) (hbm : Nat) (bak : Bool) (bt_ : Bool) (bbe : Bool) (bcr : Nat) (qw1 : w1.length ≤ 168) (qw2 : w2.length ≤ 18) (qw3 : w3.length ≤ 150) (qw4 : w4.length ≤ 15) (qad : ad < 8) (qck : ck < 2 ^ 29) (qd : ck % 2 = d) (qa : air.length ≤ 204) (q1 : fr = ls_.length) (q2 : ls_.length ≤ 41) (q3 : lm.length ≤ 63) (q0 : 0 < sz) (q6 : sz ≤ 6) (qf : fi < 6) (qm : (ml fi).length ≤ 40) (qb : ∀ j, ((ml fi).length :: ml fi).getD j 0 < 256) : MT la D K yX8_slot cX8_slot 2 (some .int) (rmL 6 0 0) [.ref hX] [bRP K hX hda hc hon hr ck, bDA K hda da, bB K hon eo 204 air xo, bC K hc ad c1 c2 c3 c4, bB K c1 e1 168 w1 x1, bB K c2 e2 18 w2 x2, bB K c3 e3 150 w3 x3, bB K c4 e4 15 w4 x4, bD K (da d) h hi hb_ gd true, bO K h hw hq hs hf fr false gu tu, bH K hq q mh fi sz, bPool K mh ma 40 ml mg, bM K hs as_ 41 ls_ gs_, bF K hf hm kd ak ft be cr, bM K hm am 63 lm gm, bF K hb_ hbm 2 bak bt_ bbe bcr] (((Nat → Nat → Int32) × List Bool × List Bool × List Bool × List Bool) × ((Nat → Int32) × (Nat → Int32))) (fun v u => v = some (.int (nI (cond gu 3 4))) ∧ u.1.2.1.length ≤ 18 ∧ u.1.2.2.1.length ≤ 150 ∧ u.1.2.2.2.1.length ≤ 15 ∧ u.1.2.2.2.2.length ≤ 168) (fun u => [bRP K hX hda hc hon hr (ck + 1), bDA K hda da, bB K hon eo 204 (airW ck ad (cond gu 3 4) gd (!tu) (cond (decide (0 = 0)) 2 1) (slN ((ml fi).length :: ml fi) 0 (nxt gu ((ml fi).length + 1)))) (u.1.1 4), bC K hc ad c1 c2 c3 c4, bB K c1 e1 168 u.1.2.2.2.2 (u.1.1 0), bB K c2 e2 18 u.1.2.1 (u.1.1 1), bB K c3 e3 150 u.1.2.2.1 (u.1.1 2), bB K c4 e4 15 u.1.2.2.2.1 (u.1.1 3), bD K (da d) h hi hb_ false false, bO K h hw hq hs hf (0 + nxt gu ((ml fi).length + 1)) true gu (!tu), bH K hq q mh ((fi + 1) % 6) (sz - 1), bPool K mh ma 40 ml mg, bM K hs as_ 41 ((ml fi).length :: ml fi) u.2.1, bF K hf hm (cond gu 3 4) gd (!tu) (decide (0 = 0)) cr, bM K hm am 63 (slN ((ml fi).length :: ml fi) 0 (nxt gu ((ml fi).length + 1))) u.2.2, bF K hb_ hbm 2 bak bt_ bbe bcr]) := by
  refine Mt.ofW [(0, .ref hX)] (by decide) rfl (Nat.le_of_ble_eq_true rfl) ?_
  intro p e s m args below meth c A ls H locs Qz hQ C hin hl ho
  have hx := C.1.1
  have hb := C.1.2.1
  refine lv_aload_n hx hb dX8_slot_0 rfl (lv_at hl 0 rfl) ?_
  refine o_get (v := .ref hon) C ho 0 0 rfl rfl rfl 2 fX8_37 rfl dX8_slot_1 ?_
  refine o_callV (wr := [bRP K hX hda hc hon hr ck, bDA K hda da, bC K hc ad c1 c2 c3 c4, bB K c1 e1 168 w1 x1, bB K c2 e2 18 w2 x2, bB K c3 e3 150 w3 x3, bB K c4 e4 15 w4 x4, bD K (da d) h hi hb_ gd true, bO K h hw hq hs hf fr false gu tu, bH K hq q mh fi sz, bPool K mh ma 40 ml mg, bM K hs as_ 41 ls_ gs_, bF K hf hm kd ak ft be cr, bM K hm am 63 lm gm, bF K hb_ hbm 2 bak bt_ bbe bcr]) (rest := []) (As := []) C (c_Bits_clear la D K hon eo 204 air xo (by first | omega | assumption | (simp only [List.length_append, List.length_cons, List.length_nil, List.length_modify, List.length_set, nb_len, rb_len, rbp_len, sl_len, slN_len, wh_len, wt_len, hd10_len, hdB_len, thr_len, ldp_len, ldB_len, tens_len, whz_len, majL_len, mf_len, tkL_len, ldY_len, fif_len, ldY_len]; omega) | decide) (by first | omega | assumption | (simp only [List.length_append, List.length_cons, List.length_nil, List.length_modify, List.length_set, nb_len, rb_len, rbp_len, sl_len, slN_len, wh_len, wt_len, hd10_len, hdB_len, thr_len, ldp_len, ldB_len, tens_len, whz_len, majL_len, mf_len, tkL_len, ldY_len, fif_len, ldY_len]; omega) | decide)) kX8_94 vX0_clear (by decide) rfl ho [2, 0, 1, 3, 4, 5, 6, 7, 8, 9, 10, 11, 12, 13, 14, 15] 16 (by decide +kernel) rfl rfl rfl rfl rfl hl.1 rfl (Nat.le_of_ble_eq_true rfl) dX8_slot_4 0 0 rfl rfl (by decide) (fun v u_1 H locs hq ho => ?_)
  obtain rfl := hq
  have ho : ow D vwCl A s.heap H locs [bB K hon eo 204 [] u_1, bRP K hX hda hc hon hr ck, bDA K hda da, bC K hc ad c1 c2 c3 c4, bB K c1 e1 168 w1 x1, bB K c2 e2 18 w2 x2, bB K c3 e3 150 w3 x3, bB K c4 e4 15 w4 x4, bD K (da d) h hi hb_ gd true, bO K h hw hq hs hf fr false gu tu, bH K hq q mh fi sz, bPool K mh ma 40 ml mg, bM K hs as_ 41 ls_ gs_, bF K hf hm kd ak ft be cr, bM K hm am 63 lm gm, bF K hb_ hbm 2 bak bt_ bbe bcr] := ho
  refine W.eq (g2 := F0 m 7 ls []) rfl ?_
  refine lv_aload_n hx hb dX8_slot_7 rfl (lv_at hl 0 rfl) ?_
  refine o_get (v := .ref hda) C ho 1 0 rfl rfl rfl 0 fX8_11 rfl dX8_slot_8 ?_
  refine lv_aload_n hx hb dX8_slot_11 rfl (lv_at hl 0 rfl) ?_
  refine o_callV (wr := [bB K hon eo 204 [] u_1, bDA K hda da, bC K hc ad c1 c2 c3 c4, bB K c1 e1 168 w1 x1, bB K c2 e2 18 w2 x2, bB K c3 e3 150 w3 x3, bB K c4 e4 15 w4 x4, bD K (da d) h hi hb_ gd true, bO K h hw hq hs hf fr false gu tu, bH K hq q mh fi sz, bPool K mh ma 40 ml mg, bM K hs as_ 41 ls_ gs_, bF K hf hm kd ak ft be cr, bM K hm am 63 lm gm, bF K hb_ hbm 2 bak bt_ bbe bcr]) (rest := [.ref hda]) (As := []) C (c_RP_turn la D K hX hda hc hon hr ck ) kX8_95 vX8_deviceOfTurn (by decide) rfl ho [1, 0, 2, 3, 4, 5, 6, 7, 8, 9, 10, 11, 12, 13, 14, 15] 16 (by decide +kernel) rfl rfl rfl rfl rfl hl.1 rfl (Nat.le_of_ble_eq_true rfl) dX8_slot_12 0 0 rfl rfl (by decide) (fun v u_2 H locs hq ho => ?_)
  obtain rfl := hq
  have ho : ow D vwCl A s.heap H locs [bRP K hX hda hc hon hr ck, bB K hon eo 204 [] u_1, bDA K hda da, bC K hc ad c1 c2 c3 c4, bB K c1 e1 168 w1 x1, bB K c2 e2 18 w2 x2, bB K c3 e3 150 w3 x3, bB K c4 e4 15 w4 x4, bD K (da d) h hi hb_ gd true, bO K h hw hq hs hf fr false gu tu, bH K hq q mh fi sz, bPool K mh ma 40 ml mg, bM K hs as_ 41 ls_ gs_, bF K hf hm kd ak ft be cr, bM K hm am 63 lm gm, bF K hb_ hbm 2 bak bt_ bbe bcr] := ho
  refine W.eq (g2 := F0 m 15 ls [.int (nI (ck % 2)), .ref hda]) rfl ?_
  refine o_top (y := nI d) (by rw [qd]) ?_
  have hd2 : d < 2 := by omega
  refine o_aald (v := (da d)) C ho 2 0 rfl rfl 2 rfl d rfl (by omega) (by omega) rfl dX8_slot_15 ?_
  refine o_callV (wr := [bRP K hX hda hc hon hr ck, bB K hon eo 204 [] u_1, bDA K hda da, bC K hc ad c1 c2 c3 c4, bB K c1 e1 168 w1 x1, bB K c2 e2 18 w2 x2, bB K c3 e3 150 w3 x3, bB K c4 e4 15 w4 x4]) (rest := []) (As := []) C (c_Dev_speak2_3 la D K (da d) hi gd h hw hq hs hf fr gu tu q mh fi sz ma ml mg as_ ls_ gs_ hm kd ak ft be cr am lm gm hb_ hbm bak bt_ bbe bcr (by first | omega | assumption | (simp only [List.length_append, List.length_cons, List.length_nil, List.length_modify, List.length_set, nb_len, rb_len, rbp_len, sl_len, slN_len, wh_len, wt_len, hd10_len, hdB_len, thr_len, ldp_len, ldB_len, tens_len, whz_len, majL_len, mf_len, tkL_len, ldY_len, fif_len, ldY_len]; omega) | decide) (by first | omega | assumption | (simp only [List.length_append, List.length_cons, List.length_nil, List.length_modify, List.length_set, nb_len, rb_len, rbp_len, sl_len, slN_len, wh_len, wt_len, hd10_len, hdB_len, thr_len, ldp_len, ldB_len, tens_len, whz_len, majL_len, mf_len, tkL_len, ldY_len, fif_len, ldY_len]; omega) | decide) (by first | omega | assumption | (simp only [List.length_append, List.length_cons, List.length_nil, List.length_modify, List.length_set, nb_len, rb_len, rbp_len, sl_len, slN_len, wh_len, wt_len, hd10_len, hdB_len, thr_len, ldp_len, ldB_len, tens_len, whz_len, majL_len, mf_len, tkL_len, ldY_len, fif_len, ldY_len]; omega) | decide) (by first | omega | assumption | (simp only [List.length_append, List.length_cons, List.length_nil, List.length_modify, List.length_set, nb_len, rb_len, rbp_len, sl_len, slN_len, wh_len, wt_len, hd10_len, hdB_len, thr_len, ldp_len, ldB_len, tens_len, whz_len, majL_len, mf_len, tkL_len, ldY_len, fif_len, ldY_len]; omega) | decide) (by first | omega | assumption | (simp only [List.length_append, List.length_cons, List.length_nil, List.length_modify, List.length_set, nb_len, rb_len, rbp_len, sl_len, slN_len, wh_len, wt_len, hd10_len, hdB_len, thr_len, ldp_len, ldB_len, tens_len, whz_len, majL_len, mf_len, tkL_len, ldY_len, fif_len, ldY_len]; omega) | decide) (by first | omega | assumption | (simp only [List.length_append, List.length_cons, List.length_nil, List.length_modify, List.length_set, nb_len, rb_len, rbp_len, sl_len, slN_len, wh_len, wt_len, hd10_len, hdB_len, thr_len, ldp_len, ldB_len, tens_len, whz_len, majL_len, mf_len, tkL_len, ldY_len, fif_len, ldY_len]; omega) | decide) (by first | omega | assumption | (simp only [List.length_append, List.length_cons, List.length_nil, List.length_modify, List.length_set, nb_len, rb_len, rbp_len, sl_len, slN_len, wh_len, wt_len, hd10_len, hdB_len, thr_len, ldp_len, ldB_len, tens_len, whz_len, majL_len, mf_len, tkL_len, ldY_len, fif_len, ldY_len]; omega) | decide)) kX8_99 vX2_speak (by decide) rfl ho [8, 9, 10, 11, 12, 13, 14, 15, 0, 1, 2, 3, 4, 5, 6, 7] 16 (by decide +kernel) rfl rfl rfl rfl rfl hl.1 rfl (Nat.le_of_ble_eq_true rfl) dX8_slot_16 0 0 rfl rfl (by decide) (fun v u_3 H locs hq ho => ?_)
  obtain rfl := hq
  have ho : ow D vwCl A s.heap H locs [bD K (da d) h hi hb_ false false, bO K h hw hq hs hf (0 + nxt gu ((ml fi).length + 1)) true gu (!tu), bH K hq q mh ((fi + 1) % 6) (sz - 1), bPool K mh ma 40 ml mg, bM K hs as_ 41 ((ml fi).length :: ml fi) u_3.1, bF K hf hm (cond gu 3 4) gd (!tu) (decide (0 = 0)) cr, bM K hm am 63 (slN ((ml fi).length :: ml fi) 0 (nxt gu ((ml fi).length + 1))) u_3.2, bF K hb_ hbm 2 bak bt_ bbe bcr, bRP K hX hda hc hon hr ck, bB K hon eo 204 [] u_1, bDA K hda da, bC K hc ad c1 c2 c3 c4, bB K c1 e1 168 w1 x1, bB K c2 e2 18 w2 x2, bB K c3 e3 150 w3 x3, bB K c4 e4 15 w4 x4] := ho
  refine W.eq (g2 := F0 m 19 ls [.ref hf]) rfl ?_
  refine lv_astore_n (lv' := [(1, .ref hf), (0, .ref hX)]) hx hb dX8_slot_19 rfl hl (by decide) rfl (fun ls hl => ?_)
  refine lv_aload_n hx hb dX8_slot_20 rfl (lv_at hl 0 rfl) ?_
  refine lv_ifnull hx hb dX8_slot_21 ?_
  have hn9 : nxt gu ((ml fi).length + 1) ≤ cond gu 9 13 := Nat.min_le_right _ _
  have hn8 : cond gu 9 13 ≤ 13 := by cases gu <;> decide
  have hqb : ∀ j, (slN ((ml fi).length :: ml fi) 0 (nxt gu ((ml fi).length + 1))).getD j 0 < 256 := slN_b qb
  have hk16 : cond gu 3 4 < 16 := by cases gu <;> decide
  have hk9 : cond gu 3 4 = 3 → (slN ((ml fi).length :: ml fi) 0 (nxt gu ((ml fi).length + 1))).length ≤ 9 := by rw [slN_len]; cases gu; (intro q; exact absurd q (by decide)); (intro _; exact hn9)
  refine lv_aload_n hx hb dX8_slot_24 rfl (lv_at hl 1 rfl) ?_
  refine o_get (v := .ref hc) C ho 8 0 rfl rfl rfl 1 fX8_30 rfl dX8_slot_25 ?_
  refine lv_aload_n hx hb dX8_slot_28 rfl (lv_at hl 0 rfl) ?_
  refine lv_aload_n hx hb dX8_slot_29 rfl (lv_at hl 1 rfl) ?_
  refine o_get (v := .int (nI ck)) C ho 8 0 rfl rfl rfl 4 fX8_103 rfl dX8_slot_30 ?_
  refine lv_aload_n hx hb dX8_slot_33 rfl (lv_at hl 1 rfl) ?_
  refine o_get (v := .ref hon) C ho 8 0 rfl rfl rfl 2 fX8_37 rfl dX8_slot_34 ?_
  refine o_callV (wr := [bD K (da d) h hi hb_ false false, bO K h hw hq hs hf (0 + nxt gu ((ml fi).length + 1)) true gu (!tu), bH K hq q mh ((fi + 1) % 6) (sz - 1), bPool K mh ma 40 ml mg, bM K hs as_ 41 ((ml fi).length :: ml fi) u_3.1, bF K hb_ hbm 2 bak bt_ bbe bcr, bRP K hX hda hc hon hr ck, bDA K hda da]) (rest := []) (As := [.ref hf, .int (nI ck), .ref hon]) C (c_Coder_put la D K hc ad c1 c2 c3 c4 e1 w1 x1 e2 w2 x2 e3 w3 x3 e4 w4 x4 hf hm (cond gu 3 4) gd (!tu) (decide (0 = 0)) cr am (slN ((ml fi).length :: ml fi) 0 (nxt gu ((ml fi).length + 1))) u_3.2 hon eo u_1 ck qw1 qw2 qw3 qw4 qad hk16 (by rw [slN_len]; omega) hk9 hqb (by omega)) kX8_106 vX1_put (by decide) rfl ho [11, 12, 13, 14, 15, 5, 6, 9, 0, 1, 2, 3, 4, 7, 8, 10] 16 (by decide +kernel) rfl rfl rfl rfl rfl hl.1 rfl (Nat.le_of_ble_eq_true rfl) dX8_slot_37 0 0 rfl rfl (by decide) (fun v u_4 H locs hq ho => ?_)
  obtain ⟨rfl, hqp⟩ := hq
  have ho : ow D vwCl A s.heap H locs [bC K hc ad c1 c2 c3 c4, bB K c1 e1 168 u_4.2.2.2.2 (u_4.1 0), bB K c2 e2 18 u_4.2.1 (u_4.1 1), bB K c3 e3 150 u_4.2.2.1 (u_4.1 2), bB K c4 e4 15 u_4.2.2.2.1 (u_4.1 3), bF K hf hm (cond gu 3 4) gd (!tu) (decide (0 = 0)) cr, bM K hm am 63 (slN ((ml fi).length :: ml fi) 0 (nxt gu ((ml fi).length + 1))) u_3.2, bB K hon eo 204 (airW ck ad (cond gu 3 4) gd (!tu) (cond (decide (0 = 0)) 2 1) (slN ((ml fi).length :: ml fi) 0 (nxt gu ((ml fi).length + 1)))) u_1, bD K (da d) h hi hb_ false false, bO K h hw hq hs hf (0 + nxt gu ((ml fi).length + 1)) true gu (!tu), bH K hq q mh ((fi + 1) % 6) (sz - 1), bPool K mh ma 40 ml mg, bM K hs as_ 41 ((ml fi).length :: ml fi) u_3.1, bF K hb_ hbm 2 bak bt_ bbe bcr, bRP K hX hda hc hon hr ck, bDA K hda da] := ho
  refine W.eq (g2 := F0 m 40 ls []) rfl ?_
  refine lv_aload_n hx hb dX8_slot_40 rfl (lv_at hl 1 rfl) ?_
  refine lv_dup hx hb dX8_slot_41 rfl ?_
  refine o_get (v := .int (nI ck)) C ho 14 0 rfl rfl rfl 4 fX8_103 rfl dX8_slot_42 ?_
  refine lv_iconst (v := nI 1) hx hb dX8_slot_45 (by decide) ?_
  refine o_add hx hb dX8_slot_46 ?_
  refine o_put (v := .int (nI (ck + 1))) (bs' := [bC K hc ad c1 c2 c3 c4, bB K c1 e1 168 u_4.2.2.2.2 (u_4.1 0), bB K c2 e2 18 u_4.2.1 (u_4.1 1), bB K c3 e3 150 u_4.2.2.1 (u_4.1 2), bB K c4 e4 15 u_4.2.2.2.1 (u_4.1 3), bF K hf hm (cond gu 3 4) gd (!tu) (decide (0 = 0)) cr, bM K hm am 63 (slN ((ml fi).length :: ml fi) 0 (nxt gu ((ml fi).length + 1))) u_3.2, bB K hon eo 204 (airW ck ad (cond gu 3 4) gd (!tu) (cond (decide (0 = 0)) 2 1) (slN ((ml fi).length :: ml fi) 0 (nxt gu ((ml fi).length + 1)))) u_1, bD K (da d) h hi hb_ false false, bO K h hw hq hs hf (0 + nxt gu ((ml fi).length + 1)) true gu (!tu), bH K hq q mh ((fi + 1) % 6) (sz - 1), bPool K mh ma 40 ml mg, bM K hs as_ 41 ((ml fi).length :: ml fi) u_3.1, bF K hb_ hbm 2 bak bt_ bbe bcr, bRP K hX hda hc hon hr (ck + 1), bDA K hda da]) C ho 14 0 rfl rfl rfl 4 fX8_103 pX8_4 rfl rfl (Nat.le_of_ble_eq_true rfl) dX8_slot_47 rfl (fun H locs ho => ?_)
  refine lv_aload_n hx hb dX8_slot_50 rfl (lv_at hl 0 rfl) ?_
  refine lv_ifnonnull (tgt := 58) hx hb dX8_slot_51 (by decide) ?_
  refine lv_aload_n hx hb dX8_slot_58 rfl (lv_at hl 0 rfl) ?_
  refine o_get (v := .int (nI (cond gu 3 4))) C ho 5 0 rfl rfl rfl 1 fX8_110 rfl dX8_slot_59 ?_
  have ho : ow D vwCl A s.heap H locs [bRP K hX hda hc hon hr (ck + 1), bDA K hda da, bB K hon eo 204 (airW ck ad (cond gu 3 4) gd (!tu) (cond (decide (0 = 0)) 2 1) (slN ((ml fi).length :: ml fi) 0 (nxt gu ((ml fi).length + 1)))) u_1, bC K hc ad c1 c2 c3 c4, bB K c1 e1 168 u_4.2.2.2.2 (u_4.1 0), bB K c2 e2 18 u_4.2.1 (u_4.1 1), bB K c3 e3 150 u_4.2.2.1 (u_4.1 2), bB K c4 e4 15 u_4.2.2.2.1 (u_4.1 3), bD K (da d) h hi hb_ false false, bO K h hw hq hs hf (0 + nxt gu ((ml fi).length + 1)) true gu (!tu), bH K hq q mh ((fi + 1) % 6) (sz - 1), bPool K mh ma 40 ml mg, bM K hs as_ 41 ((ml fi).length :: ml fi) u_3.1, bF K hf hm (cond gu 3 4) gd (!tu) (decide (0 = 0)) cr, bM K hm am 63 (slN ((ml fi).length :: ml fi) 0 (nxt gu ((ml fi).length + 1))) u_3.2, bF K hb_ hbm 2 bak bt_ bbe bcr] := ho.re [14, 15, 7, 0, 1, 2, 3, 4, 8, 9, 10, 11, 12, 5, 6, 13] 16 (by decide +kernel) rfl rfl
  exact o_iret hQ C rfl ho ((gs [u_4.1 0, u_4.1 1, u_4.1 2, u_4.1 3, u_1], u_4.2.1, u_4.2.2.1, u_4.2.2.2.1, u_4.2.2.2.2), (u_3.1, u_3.2)) (by dsimp only; exact ⟨rfl, hqp⟩) (by dsimp only [gs, List.getD_cons_zero, List.getD_cons_succ] <;> rfl) (Nat.le_of_ble_eq_true rfl) (Nat.le_of_ble_eq_true rfl) dX8_slot_62

set_option maxHeartbeats 4000000 in
set_option maxRecDepth 100000 in
theorem c_RP_slot2_4 (la : Launch) (D : va_G) (K : Nat → ClassId) (hX : Nat) (hda : Nat) (hc : Nat) (hon : Nat) (hr : Nat) (ck : Nat) (da : Nat → Nat) (eo : Nat) (air : List Bool) (xo : Nat → Int32) (ad : Nat) (c1 : Nat) (c2 : Nat) (c3 : Nat) (c4 : Nat) (e1 : Nat) (e2 : Nat) (e3 : Nat) (e4 : Nat) (w1 : List Bool) (w2 : List Bool) (w3 : List Bool) (w4 : List Bool) (x1 : Nat → Int32) (x2 : Nat → Int32) (x3 : Nat → Int32) (x4 : Nat → Int32) (d : Nat) (hi : Nat) (gd : Bool) (h : Nat) (hw : Nat) (hq : Nat) (hs : Nat) (hf : Nat) (fr : Nat) (gu : Bool) (tu : Bool) (q : Nat) (mh : Nat → Nat) (fi : Nat) (sz : Nat) (as_ : Nat) (ls_ : List Nat) (gs_ : Nat → Int32) (hb_ : Nat) (hbm : Nat) (bak : Bool) (bt_ : Bool) (bbe : Bool) (bcr : Nat) (abm : Nat) (gbm : Nat → Int32) (qw1 : w1.length ≤ 168) (qw2 : w2.length ≤ 18) (qw3 : w3.length ≤ 150) (qw4 : w4.length ≤ 15) (qad : ad < 8) (qck : ck < 2 ^ 29) (qd : ck % 2 = d) (qa : air.length ≤ 204) (q1 : fr = ls_.length) (q2 : ls_.length ≤ 41) (q0 : sz = 0) : MT la D K yX8_slot cX8_slot 2 (some .int) (rmL 5 0 0) [.ref hX] [bRP K hX hda hc hon hr ck, bDA K hda da, bB K hon eo 204 air xo, bC K hc ad c1 c2 c3 c4, bB K c1 e1 168 w1 x1, bB K c2 e2 18 w2 x2, bB K c3 e3 150 w3 x3, bB K c4 e4 15 w4 x4, bD K (da d) h hi hb_ gd true, bO K h hw hq hs hf fr false gu tu, bH K hq q mh fi sz, bM K hs as_ 41 ls_ gs_, bF K hb_ hbm 2 bak bt_ bbe bcr, bM K hbm abm 63 [] gbm] ((Nat → Nat → Int32) × List Bool × List Bool × List Bool × List Bool) (fun v u => v = some (.int (nI 2)) ∧ u.2.1.length ≤ 18 ∧ u.2.2.1.length ≤ 150 ∧ u.2.2.2.1.length ≤ 15 ∧ u.2.2.2.2.length ≤ 168) (fun u => [bRP K hX hda hc hon hr (ck + 1), bDA K hda da, bB K hon eo 204 (airW ck ad 2 gd tu (cond bbe 2 1) []) (u.1 4), bC K hc ad c1 c2 c3 c4, bB K c1 e1 168 u.2.2.2.2 (u.1 0), bB K c2 e2 18 u.2.1 (u.1 1), bB K c3 e3 150 u.2.2.1 (u.1 2), bB K c4 e4 15 u.2.2.2.1 (u.1 3), bD K (da d) h hi hb_ false false, bO K h hw hq hs hf fr false gu tu, bH K hq q mh fi sz, bM K hs as_ 41 ls_ gs_, bF K hb_ hbm 2 gd tu bbe bcr, bM K hbm abm 63 [] gbm]) := by
  refine Mt.ofW [(0, .ref hX)] (by decide) rfl (Nat.le_of_ble_eq_true rfl) ?_
  intro p e s m args below meth c A ls H locs Qz hQ C hin hl ho
  have hx := C.1.1
  have hb := C.1.2.1
  refine lv_aload_n hx hb dX8_slot_0 rfl (lv_at hl 0 rfl) ?_
  refine o_get (v := .ref hon) C ho 0 0 rfl rfl rfl 2 fX8_37 rfl dX8_slot_1 ?_
  refine o_callV (wr := [bRP K hX hda hc hon hr ck, bDA K hda da, bC K hc ad c1 c2 c3 c4, bB K c1 e1 168 w1 x1, bB K c2 e2 18 w2 x2, bB K c3 e3 150 w3 x3, bB K c4 e4 15 w4 x4, bD K (da d) h hi hb_ gd true, bO K h hw hq hs hf fr false gu tu, bH K hq q mh fi sz, bM K hs as_ 41 ls_ gs_, bF K hb_ hbm 2 bak bt_ bbe bcr, bM K hbm abm 63 [] gbm]) (rest := []) (As := []) C (c_Bits_clear la D K hon eo 204 air xo (by first | omega | assumption | (simp only [List.length_append, List.length_cons, List.length_nil, List.length_modify, List.length_set, nb_len, rb_len, rbp_len, sl_len, slN_len, wh_len, wt_len, hd10_len, hdB_len, thr_len, ldp_len, ldB_len, tens_len, whz_len, majL_len, mf_len, tkL_len, ldY_len, fif_len, ldY_len]; omega) | decide) (by first | omega | assumption | (simp only [List.length_append, List.length_cons, List.length_nil, List.length_modify, List.length_set, nb_len, rb_len, rbp_len, sl_len, slN_len, wh_len, wt_len, hd10_len, hdB_len, thr_len, ldp_len, ldB_len, tens_len, whz_len, majL_len, mf_len, tkL_len, ldY_len, fif_len, ldY_len]; omega) | decide)) kX8_94 vX0_clear (by decide) rfl ho [2, 0, 1, 3, 4, 5, 6, 7, 8, 9, 10, 11, 12, 13] 14 (by decide +kernel) rfl rfl rfl rfl rfl hl.1 rfl (Nat.le_of_ble_eq_true rfl) dX8_slot_4 0 0 rfl rfl (by decide) (fun v u_1 H locs hq ho => ?_)
  obtain rfl := hq
  have ho : ow D vwCl A s.heap H locs [bB K hon eo 204 [] u_1, bRP K hX hda hc hon hr ck, bDA K hda da, bC K hc ad c1 c2 c3 c4, bB K c1 e1 168 w1 x1, bB K c2 e2 18 w2 x2, bB K c3 e3 150 w3 x3, bB K c4 e4 15 w4 x4, bD K (da d) h hi hb_ gd true, bO K h hw hq hs hf fr false gu tu, bH K hq q mh fi sz, bM K hs as_ 41 ls_ gs_, bF K hb_ hbm 2 bak bt_ bbe bcr, bM K hbm abm 63 [] gbm] := ho
  refine W.eq (g2 := F0 m 7 ls []) rfl ?_
  refine lv_aload_n hx hb dX8_slot_7 rfl (lv_at hl 0 rfl) ?_
  refine o_get (v := .ref hda) C ho 1 0 rfl rfl rfl 0 fX8_11 rfl dX8_slot_8 ?_
  refine lv_aload_n hx hb dX8_slot_11 rfl (lv_at hl 0 rfl) ?_
  refine o_callV (wr := [bB K hon eo 204 [] u_1, bDA K hda da, bC K hc ad c1 c2 c3 c4, bB K c1 e1 168 w1 x1, bB K c2 e2 18 w2 x2, bB K c3 e3 150 w3 x3, bB K c4 e4 15 w4 x4, bD K (da d) h hi hb_ gd true, bO K h hw hq hs hf fr false gu tu, bH K hq q mh fi sz, bM K hs as_ 41 ls_ gs_, bF K hb_ hbm 2 bak bt_ bbe bcr, bM K hbm abm 63 [] gbm]) (rest := [.ref hda]) (As := []) C (c_RP_turn la D K hX hda hc hon hr ck ) kX8_95 vX8_deviceOfTurn (by decide) rfl ho [1, 0, 2, 3, 4, 5, 6, 7, 8, 9, 10, 11, 12, 13] 14 (by decide +kernel) rfl rfl rfl rfl rfl hl.1 rfl (Nat.le_of_ble_eq_true rfl) dX8_slot_12 0 0 rfl rfl (by decide) (fun v u_2 H locs hq ho => ?_)
  obtain rfl := hq
  have ho : ow D vwCl A s.heap H locs [bRP K hX hda hc hon hr ck, bB K hon eo 204 [] u_1, bDA K hda da, bC K hc ad c1 c2 c3 c4, bB K c1 e1 168 w1 x1, bB K c2 e2 18 w2 x2, bB K c3 e3 150 w3 x3, bB K c4 e4 15 w4 x4, bD K (da d) h hi hb_ gd true, bO K h hw hq hs hf fr false gu tu, bH K hq q mh fi sz, bM K hs as_ 41 ls_ gs_, bF K hb_ hbm 2 bak bt_ bbe bcr, bM K hbm abm 63 [] gbm] := ho
  refine W.eq (g2 := F0 m 15 ls [.int (nI (ck % 2)), .ref hda]) rfl ?_
  refine o_top (y := nI d) (by rw [qd]) ?_
  have hd2 : d < 2 := by omega
  refine o_aald (v := (da d)) C ho 2 0 rfl rfl 2 rfl d rfl (by omega) (by omega) rfl dX8_slot_15 ?_
  refine o_callV (wr := [bRP K hX hda hc hon hr ck, bB K hon eo 204 [] u_1, bDA K hda da, bC K hc ad c1 c2 c3 c4, bB K c1 e1 168 w1 x1, bB K c2 e2 18 w2 x2, bB K c3 e3 150 w3 x3, bB K c4 e4 15 w4 x4, bM K hbm abm 63 [] gbm]) (rest := []) (As := []) C (c_Dev_speak2_4 la D K (da d) hi gd h hw hq hs hf fr gu tu q mh fi sz as_ ls_ gs_ hb_ hbm bak bt_ bbe bcr (by first | omega | assumption | (simp only [List.length_append, List.length_cons, List.length_nil, List.length_modify, List.length_set, nb_len, rb_len, rbp_len, sl_len, slN_len, wh_len, wt_len, hd10_len, hdB_len, thr_len, ldp_len, ldB_len, tens_len, whz_len, majL_len, mf_len, tkL_len, ldY_len, fif_len, ldY_len]; omega) | decide) (by first | omega | assumption | (simp only [List.length_append, List.length_cons, List.length_nil, List.length_modify, List.length_set, nb_len, rb_len, rbp_len, sl_len, slN_len, wh_len, wt_len, hd10_len, hdB_len, thr_len, ldp_len, ldB_len, tens_len, whz_len, majL_len, mf_len, tkL_len, ldY_len, fif_len, ldY_len]; omega) | decide) (by first | omega | assumption | (simp only [List.length_append, List.length_cons, List.length_nil, List.length_modify, List.length_set, nb_len, rb_len, rbp_len, sl_len, slN_len, wh_len, wt_len, hd10_len, hdB_len, thr_len, ldp_len, ldB_len, tens_len, whz_len, majL_len, mf_len, tkL_len, ldY_len, fif_len, ldY_len]; omega) | decide)) kX8_99 vX2_speak (by decide) rfl ho [8, 9, 10, 11, 12, 0, 1, 2, 3, 4, 5, 6, 7, 13] 14 (by decide +kernel) rfl rfl rfl rfl rfl hl.1 rfl (Nat.le_of_ble_eq_true rfl) dX8_slot_16 0 0 rfl rfl (by decide) (fun v u_3 H locs hq ho => ?_)
  obtain rfl := hq
  have ho : ow D vwCl A s.heap H locs [bD K (da d) h hi hb_ false false, bO K h hw hq hs hf fr false gu tu, bH K hq q mh fi sz, bM K hs as_ 41 ls_ gs_, bF K hb_ hbm 2 gd tu bbe bcr, bRP K hX hda hc hon hr ck, bB K hon eo 204 [] u_1, bDA K hda da, bC K hc ad c1 c2 c3 c4, bB K c1 e1 168 w1 x1, bB K c2 e2 18 w2 x2, bB K c3 e3 150 w3 x3, bB K c4 e4 15 w4 x4, bM K hbm abm 63 [] gbm] := ho
  refine W.eq (g2 := F0 m 19 ls [.ref hb_]) rfl ?_
  refine lv_astore_n (lv' := [(1, .ref hb_), (0, .ref hX)]) hx hb dX8_slot_19 rfl hl (by decide) rfl (fun ls hl => ?_)
  refine lv_aload_n hx hb dX8_slot_20 rfl (lv_at hl 0 rfl) ?_
  refine lv_ifnull hx hb dX8_slot_21 ?_
  refine lv_aload_n hx hb dX8_slot_24 rfl (lv_at hl 1 rfl) ?_
  refine o_get (v := .ref hc) C ho 5 0 rfl rfl rfl 1 fX8_30 rfl dX8_slot_25 ?_
  refine lv_aload_n hx hb dX8_slot_28 rfl (lv_at hl 0 rfl) ?_
  refine lv_aload_n hx hb dX8_slot_29 rfl (lv_at hl 1 rfl) ?_
  refine o_get (v := .int (nI ck)) C ho 5 0 rfl rfl rfl 4 fX8_103 rfl dX8_slot_30 ?_
  refine lv_aload_n hx hb dX8_slot_33 rfl (lv_at hl 1 rfl) ?_
  refine o_get (v := .ref hon) C ho 5 0 rfl rfl rfl 2 fX8_37 rfl dX8_slot_34 ?_
  refine o_callV (wr := [bD K (da d) h hi hb_ false false, bO K h hw hq hs hf fr false gu tu, bH K hq q mh fi sz, bM K hs as_ 41 ls_ gs_, bRP K hX hda hc hon hr ck, bDA K hda da]) (rest := []) (As := [.ref hb_, .int (nI ck), .ref hon]) C (c_Coder_put la D K hc ad c1 c2 c3 c4 e1 w1 x1 e2 w2 x2 e3 w3 x3 e4 w4 x4 hb_ hbm 2 gd tu bbe bcr abm [] gbm hon eo u_1 ck qw1 qw2 qw3 qw4 qad (by decide) (Nat.zero_le _) (fun _ => Nat.zero_le _) (fun j => by simp) (by omega)) kX8_106 vX1_put (by decide) rfl ho [8, 9, 10, 11, 12, 4, 13, 6, 0, 1, 2, 3, 5, 7] 14 (by decide +kernel) rfl rfl rfl rfl rfl hl.1 rfl (Nat.le_of_ble_eq_true rfl) dX8_slot_37 0 0 rfl rfl (by decide) (fun v u_4 H locs hq ho => ?_)
  obtain ⟨rfl, hqp⟩ := hq
  have ho : ow D vwCl A s.heap H locs [bC K hc ad c1 c2 c3 c4, bB K c1 e1 168 u_4.2.2.2.2 (u_4.1 0), bB K c2 e2 18 u_4.2.1 (u_4.1 1), bB K c3 e3 150 u_4.2.2.1 (u_4.1 2), bB K c4 e4 15 u_4.2.2.2.1 (u_4.1 3), bF K hb_ hbm 2 gd tu bbe bcr, bM K hbm abm 63 [] gbm, bB K hon eo 204 (airW ck ad 2 gd tu (cond bbe 2 1) []) u_1, bD K (da d) h hi hb_ false false, bO K h hw hq hs hf fr false gu tu, bH K hq q mh fi sz, bM K hs as_ 41 ls_ gs_, bRP K hX hda hc hon hr ck, bDA K hda da] := ho
  refine W.eq (g2 := F0 m 40 ls []) rfl ?_
  refine lv_aload_n hx hb dX8_slot_40 rfl (lv_at hl 1 rfl) ?_
  refine lv_dup hx hb dX8_slot_41 rfl ?_
  refine o_get (v := .int (nI ck)) C ho 12 0 rfl rfl rfl 4 fX8_103 rfl dX8_slot_42 ?_
  refine lv_iconst (v := nI 1) hx hb dX8_slot_45 (by decide) ?_
  refine o_add hx hb dX8_slot_46 ?_
  refine o_put (v := .int (nI (ck + 1))) (bs' := [bC K hc ad c1 c2 c3 c4, bB K c1 e1 168 u_4.2.2.2.2 (u_4.1 0), bB K c2 e2 18 u_4.2.1 (u_4.1 1), bB K c3 e3 150 u_4.2.2.1 (u_4.1 2), bB K c4 e4 15 u_4.2.2.2.1 (u_4.1 3), bF K hb_ hbm 2 gd tu bbe bcr, bM K hbm abm 63 [] gbm, bB K hon eo 204 (airW ck ad 2 gd tu (cond bbe 2 1) []) u_1, bD K (da d) h hi hb_ false false, bO K h hw hq hs hf fr false gu tu, bH K hq q mh fi sz, bM K hs as_ 41 ls_ gs_, bRP K hX hda hc hon hr (ck + 1), bDA K hda da]) C ho 12 0 rfl rfl rfl 4 fX8_103 pX8_4 rfl rfl (Nat.le_of_ble_eq_true rfl) dX8_slot_47 rfl (fun H locs ho => ?_)
  refine lv_aload_n hx hb dX8_slot_50 rfl (lv_at hl 0 rfl) ?_
  refine lv_ifnonnull (tgt := 58) hx hb dX8_slot_51 (by decide) ?_
  refine lv_aload_n hx hb dX8_slot_58 rfl (lv_at hl 0 rfl) ?_
  refine o_get (v := .int (nI 2)) C ho 5 0 rfl rfl rfl 1 fX8_110 rfl dX8_slot_59 ?_
  have ho : ow D vwCl A s.heap H locs [bRP K hX hda hc hon hr (ck + 1), bDA K hda da, bB K hon eo 204 (airW ck ad 2 gd tu (cond bbe 2 1) []) u_1, bC K hc ad c1 c2 c3 c4, bB K c1 e1 168 u_4.2.2.2.2 (u_4.1 0), bB K c2 e2 18 u_4.2.1 (u_4.1 1), bB K c3 e3 150 u_4.2.2.1 (u_4.1 2), bB K c4 e4 15 u_4.2.2.2.1 (u_4.1 3), bD K (da d) h hi hb_ false false, bO K h hw hq hs hf fr false gu tu, bH K hq q mh fi sz, bM K hs as_ 41 ls_ gs_, bF K hb_ hbm 2 gd tu bbe bcr, bM K hbm abm 63 [] gbm] := ho.re [12, 13, 7, 0, 1, 2, 3, 4, 8, 9, 10, 11, 5, 6] 14 (by decide +kernel) rfl rfl
  exact o_iret hQ C rfl ho (gs [u_4.1 0, u_4.1 1, u_4.1 2, u_4.1 3, u_1], u_4.2.1, u_4.2.2.1, u_4.2.2.2.1, u_4.2.2.2.2) (by dsimp only; exact ⟨rfl, hqp⟩) (by dsimp only [gs, List.getD_cons_zero, List.getD_cons_succ] <;> rfl) (Nat.le_of_ble_eq_true rfl) (Nat.le_of_ble_eq_true rfl) dX8_slot_62
