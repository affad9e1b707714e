set_option maxHeartbeats 4000000 in
set_option maxRecDepth 100000 in
theorem c_M_guardX (la : Launch) (D : va_G) (K : Nat → ClassId) (h : Nat) (ar : Nat → Nat) (ad : Nat) (ck : Nat) (bi : Nat) (lo : Nat) (F : Nat → Nat → Int32) (x : Int32) (on : Bool) (qx : x < nI 0 ∨ nI 1 < x) : MT la D K yX9_guard cX9_guard 3 (some .int) (rmL 2 0 0) [.ref h, .int x, .int (bI on)] [bX K h ar ad ck bi lo F] Unit (fun v _ => v = some (.int (-1))) (fun _ => [bX K h ar ad ck bi lo F]) := by
  refine Mt.ofW [(0, .ref h), (1, .int x), (2, .int (bI on))] (by decide) rfl (Nat.le_of_ble_eq_true rfl) ?_
  intro p e s m args below meth c A ls H locs Qz hQ C hin hl ho
  have hx := C.1.1
  have hb := C.1.2.1
  refine lv_iload_n hx hb dX9_guard_0 rfl (lv_at hl 1 rfl) ?_
  refine lv_iconst (v := nI 0) hx hb dX9_guard_1 (by decide) ?_
  refine lv_iconst (v := nI 1) hx hb dX9_guard_2 (by decide) ?_
  refine o_callS (wr := [bX K h ar ad ck bi lo F]) (rest := []) (As := [.int x, .int (nI 0), .int (nI 1)]) C (c_M_inN la D K x 0 1 (by first | omega | assumption | (simp only [List.length_append, List.length_cons, List.length_nil, List.length_modify, List.length_set, nb_len, rb_len, rbp_len, sl_len, slN_len, wh_len, wt_len, hd10_len, hdB_len, thr_len, ldp_len, ldB_len, tens_len, whz_len, majL_len, mf_len, tkL_len, ldY_len, fif_len, ldY_len]; omega) | decide)) kX9_99 vX9_in (by decide) rfl ho [0] 1 (by decide +kernel) rfl rfl hl.1 rfl (Nat.le_of_ble_eq_true rfl) dX9_guard_3 0 0 rfl rfl (by decide) (fun v u_1 H locs hq ho => ?_)
  obtain rfl := hq
  have ho : ow D vwCl A s.heap H locs [bX K h ar ad ck bi lo F] := ho
  refine W.eq (g2 := F0 m 6 ls [.int (bI false)]) rfl ?_
  refine o_ifb_ne (tgt := 11) hx hb dX9_guard_6 (by decide) (fun c9 => absurd c9 (by decide)) (fun _ => ?_)
  refine lv_iconst (v := (-1)) hx hb dX9_guard_9 (by decide) ?_
  exact o_iret hQ C rfl ho () rfl rfl (Nat.le_of_ble_eq_true rfl) (Nat.le_of_ble_eq_true rfl) dX9_guard_10

set_option maxHeartbeats 4000000 in
set_option maxRecDepth 100000 in
theorem c_M_guard (la : Launch) (D : va_G) (K : Nat → ClassId) (h : Nat) (ar : Nat → Nat) (ad : Nat) (ck : Nat) (bi : Nat) (lo : Nat) (F : Nat → Nat → Int32) (d : Nat) (on : Bool) (q2d : d < 2) : MT la D K yX9_guard cX9_guard 3 (some .int) (rmL 2 0 0) [.ref h, .int (nI d), .int (bI on)] [bX K h ar ad ck bi lo F] Unit (fun v _ => v = some (.int (nI 0))) (fun _ => [bX K h ar ad ck bi lo (va_up F 21 (upd (F 21) d (bI (!on))))]) := by
  refine Mt.ofW [(0, .ref h), (1, .int (nI d)), (2, .int (bI on))] (by decide) rfl (Nat.le_of_ble_eq_true rfl) ?_
  intro p e s m args below meth c A ls H locs Qz hQ C hin hl ho
  have hx := C.1.1
  have hb := C.1.2.1
  refine lv_iload_n hx hb dX9_guard_0 rfl (lv_at hl 1 rfl) ?_
  refine lv_iconst (v := nI 0) hx hb dX9_guard_1 (by decide) ?_
  refine lv_iconst (v := nI 1) hx hb dX9_guard_2 (by decide) ?_
  refine o_callS (wr := [bX K h ar ad ck bi lo F]) (rest := []) (As := [.int (nI d), .int (nI 0), .int (nI 1)]) C (c_M_in la D K d 0 1 (by first | omega | assumption | (simp only [List.length_append, List.length_cons, List.length_nil, List.length_modify, List.length_set, nb_len, rb_len, rbp_len, sl_len, slN_len, wh_len, wt_len, hd10_len, hdB_len, thr_len, ldp_len, ldB_len, tens_len, whz_len, majL_len, mf_len, tkL_len, ldY_len, fif_len, ldY_len]; omega) | decide) (by first | omega | assumption | (simp only [List.length_append, List.length_cons, List.length_nil, List.length_modify, List.length_set, nb_len, rb_len, rbp_len, sl_len, slN_len, wh_len, wt_len, hd10_len, hdB_len, thr_len, ldp_len, ldB_len, tens_len, whz_len, majL_len, mf_len, tkL_len, ldY_len, fif_len, ldY_len]; omega) | decide) (by first | omega | assumption | (simp only [List.length_append, List.length_cons, List.length_nil, List.length_modify, List.length_set, nb_len, rb_len, rbp_len, sl_len, slN_len, wh_len, wt_len, hd10_len, hdB_len, thr_len, ldp_len, ldB_len, tens_len, whz_len, majL_len, mf_len, tkL_len, ldY_len, fif_len, ldY_len]; omega) | decide)) kX9_99 vX9_in (by decide) rfl ho [0] 1 (by decide +kernel) rfl rfl hl.1 rfl (Nat.le_of_ble_eq_true rfl) dX9_guard_3 0 0 rfl rfl (by decide) (fun v u_1 H locs hq ho => ?_)
  obtain rfl := hq
  have ho : ow D vwCl A s.heap H locs [bX K h ar ad ck bi lo F] := ho
  refine W.eq (g2 := F0 m 6 ls [.int (bI (decide (0 ≤ d ∧ d ≤ 1)))]) rfl ?_
  refine o_ifb_ne (tgt := 11) hx hb dX9_guard_6 (by decide) (fun c_2 => ?_) (fun c_2 => ?_)
  · skip
    refine lv_aload_n hx hb dX9_guard_11 rfl (lv_at hl 0 rfl) ?_
    refine o_get (v := .ref (ar 21)) C ho 0 0 rfl rfl rfl 25 fX9_74 rfl dX9_guard_12 ?_
    refine lv_iload_n hx hb dX9_guard_15 rfl (lv_at hl 1 rfl) ?_
    refine lv_iload_n hx hb dX9_guard_16 rfl (lv_at hl 2 rfl) ?_
    refine o_ifb_ne (tgt := 24) hx hb dX9_guard_17 (by decide) (fun c_3 => ?_) (fun c_3 => ?_)
    · skip
      refine lv_iconst (v := nI 0) hx hb dX9_guard_24 (by decide) ?_
      refine o_top (y := bI false) (rfl) ?_
      refine o_zast (bs' := [bX K h ar ad ck bi lo (va_up F 21 (upd (F 21) d (bI false)))]) C ho 0 22 rfl rfl 3 rfl d rfl (by omega) (by decide) dX9_guard_25 rfl (fun H locs ho => ?_)
      refine lv_iconst (v := nI 0) hx hb dX9_guard_26 (by decide) ?_
      exact o_iret hQ C rfl ho () rfl (by rw [c_3]; rfl) (Nat.le_of_ble_eq_true rfl) (Nat.le_of_ble_eq_true rfl) dX9_guard_27
    · skip
      refine lv_iconst (v := nI 1) hx hb dX9_guard_20 (by decide) ?_
      refine lv_goto (tgt := 25) hx hb dX9_guard_21 (by decide) ?_
      refine o_top (y := bI true) (rfl) ?_
      refine o_zast (bs' := [bX K h ar ad ck bi lo (va_up F 21 (upd (F 21) d (bI true)))]) C ho 0 22 rfl rfl 3 rfl d rfl (by omega) (by decide) dX9_guard_25 rfl (fun H locs ho => ?_)
      refine lv_iconst (v := nI 0) hx hb dX9_guard_26 (by decide) ?_
      exact o_iret hQ C rfl ho () rfl (by rw [c_3]; rfl) (Nat.le_of_ble_eq_true rfl) (Nat.le_of_ble_eq_true rfl) dX9_guard_27
  · skip
    rw [decide_eq_true (by omega)] at c_2; exact absurd c_2 (by decide)

set_option maxHeartbeats 4000000 in
set_option maxRecDepth 100000 in
theorem c_M_writeX (la : Launch) (D : va_G) (K : Nat → ClassId) (h : Nat) (ar : Nat → Nat) (ad : Nat) (ck : Nat) (bi : Nat) (lo : Nat) (F : Nat → Nat → Int32) (x : Int32) (b : Int32) (qx : x < nI 0 ∨ nI 1 < x) : MT la D K yX9_write cX9_write 3 (some .int) (rmL 2 0 0) [.ref h, .int x, .int b] [bX K h ar ad ck bi lo F] Unit (fun v _ => v = some (.int (-1))) (fun _ => [bX K h ar ad ck bi lo F]) := by
  refine Mt.ofW [(0, .ref h), (1, .int x), (2, .int b)] (by decide) rfl (Nat.le_of_ble_eq_true rfl) ?_
  intro p e s m args below meth c A ls H locs Qz hQ C hin hl ho
  have hx := C.1.1
  have hb := C.1.2.1
  refine lv_iload_n hx hb dX9_write_0 rfl (lv_at hl 1 rfl) ?_
  refine lv_iconst (v := nI 0) hx hb dX9_write_1 (by decide) ?_
  refine lv_iconst (v := nI 1) hx hb dX9_write_2 (by decide) ?_
  refine o_callS (wr := [bX K h ar ad ck bi lo F]) (rest := []) (As := [.int x, .int (nI 0), .int (nI 1)]) C (c_M_inN la D K x 0 1 (by first | omega | assumption | (simp only [List.length_append, List.length_cons, List.length_nil, List.length_modify, List.length_set, nb_len, rb_len, rbp_len, sl_len, slN_len, wh_len, wt_len, hd10_len, hdB_len, thr_len, ldp_len, ldB_len, tens_len, whz_len, majL_len, mf_len, tkL_len, ldY_len, fif_len, ldY_len]; omega) | decide)) kX9_99 vX9_in (by decide) rfl ho [0] 1 (by decide +kernel) rfl rfl hl.1 rfl (Nat.le_of_ble_eq_true rfl) dX9_write_3 0 0 rfl rfl (by decide) (fun v u_1 H locs hq ho => ?_)
  obtain rfl := hq
  have ho : ow D vwCl A s.heap H locs [bX K h ar ad ck bi lo F] := ho
  refine W.eq (g2 := F0 m 6 ls [.int (bI false)]) rfl ?_
  refine o_ifb_eq (tgt := 20) hx hb dX9_write_6 (by decide) (fun _ => ?_) (fun c9 => absurd c9 (by decide))
  refine lv_iconst (v := (-1)) hx hb dX9_write_20 (by decide) ?_
  exact o_iret hQ C rfl ho () rfl rfl (Nat.le_of_ble_eq_true rfl) (Nat.le_of_ble_eq_true rfl) dX9_write_21

set_option maxHeartbeats 4000000 in
set_option maxRecDepth 100000 in
theorem c_M_writeB (la : Launch) (D : va_G) (K : Nat → ClassId) (h : Nat) (ar : Nat → Nat) (ad : Nat) (ck : Nat) (bi : Nat) (lo : Nat) (F : Nat → Nat → Int32) (d : Nat) (b : Int32) (q2d : d < 2) (qb : b < nI 0 ∨ nI 255 < b) : MT la D K yX9_write cX9_write 3 (some .int) (rmL 2 0 0) [.ref h, .int (nI d), .int b] [bX K h ar ad ck bi lo F] Unit (fun v _ => v = some (.int (-1))) (fun _ => [bX K h ar ad ck bi lo F]) := by
  refine Mt.ofW [(0, .ref h), (1, .int (nI d)), (2, .int b)] (by decide) rfl (Nat.le_of_ble_eq_true rfl) ?_
  intro p e s m args below meth c A ls H locs Qz hQ C hin hl ho
  have hx := C.1.1
  have hb := C.1.2.1
  refine lv_iload_n hx hb dX9_write_0 rfl (lv_at hl 1 rfl) ?_
  refine lv_iconst (v := nI 0) hx hb dX9_write_1 (by decide) ?_
  refine lv_iconst (v := nI 1) hx hb dX9_write_2 (by decide) ?_
  refine o_callS (wr := [bX K h ar ad ck bi lo F]) (rest := []) (As := [.int (nI d), .int (nI 0), .int (nI 1)]) C (c_M_in la D K d 0 1 (by first | omega | assumption | (simp only [List.length_append, List.length_cons, List.length_nil, List.length_modify, List.length_set, nb_len, rb_len, rbp_len, sl_len, slN_len, wh_len, wt_len, hd10_len, hdB_len, thr_len, ldp_len, ldB_len, tens_len, whz_len, majL_len, mf_len, tkL_len, ldY_len, fif_len, ldY_len]; omega) | decide) (by first | omega | assumption | (simp only [List.length_append, List.length_cons, List.length_nil, List.length_modify, List.length_set, nb_len, rb_len, rbp_len, sl_len, slN_len, wh_len, wt_len, hd10_len, hdB_len, thr_len, ldp_len, ldB_len, tens_len, whz_len, majL_len, mf_len, tkL_len, ldY_len, fif_len, ldY_len]; omega) | decide) (by first | omega | assumption | (simp only [List.length_append, List.length_cons, List.length_nil, List.length_modify, List.length_set, nb_len, rb_len, rbp_len, sl_len, slN_len, wh_len, wt_len, hd10_len, hdB_len, thr_len, ldp_len, ldB_len, tens_len, whz_len, majL_len, mf_len, tkL_len, ldY_len, fif_len, ldY_len]; omega) | decide)) kX9_99 vX9_in (by decide) rfl ho [0] 1 (by decide +kernel) rfl rfl hl.1 rfl (Nat.le_of_ble_eq_true rfl) dX9_write_3 0 0 rfl rfl (by decide) (fun v u_1 H locs hq ho => ?_)
  obtain rfl := hq
  have ho : ow D vwCl A s.heap H locs [bX K h ar ad ck bi lo F] := ho
  refine W.eq (g2 := F0 m 6 ls [.int (bI (decide (0 ≤ d ∧ d ≤ 1)))]) rfl ?_
  refine o_ifb_eq (tgt := 20) hx hb dX9_write_6 (by decide) (fun c_2 => ?_) (fun c_2 => ?_)
  · skip
    rw [decide_eq_true (by omega)] at c_2; exact absurd c_2 (by decide)
  · skip
    refine lv_iload_n hx hb dX9_write_9 rfl (lv_at hl 2 rfl) ?_
    refine lv_iconst (v := nI 0) hx hb dX9_write_10 (by decide) ?_
    refine lv_sipush (v := nI 255) hx hb dX9_write_11 (by decide) ?_
    refine o_callS (wr := [bX K h ar ad ck bi lo F]) (rest := []) (As := [.int b, .int (nI 0), .int (nI 255)]) C (c_M_inN la D K b 0 255 (by first | omega | assumption | (simp only [List.length_append, List.length_cons, List.length_nil, List.length_modify, List.length_set, nb_len, rb_len, rbp_len, sl_len, slN_len, wh_len, wt_len, hd10_len, hdB_len, thr_len, ldp_len, ldB_len, tens_len, whz_len, majL_len, mf_len, tkL_len, ldY_len, fif_len, ldY_len]; omega) | decide)) kX9_99 vX9_in (by decide) rfl ho [0] 1 (by decide +kernel) rfl rfl hl.1 rfl (Nat.le_of_ble_eq_true rfl) dX9_write_14 0 0 rfl rfl (by decide) (fun v u_3 H locs hq ho => ?_)
    obtain rfl := hq
    have ho : ow D vwCl A s.heap H locs [bX K h ar ad ck bi lo F] := ho
    refine W.eq (g2 := F0 m 17 ls [.int (bI false)]) rfl ?_
    refine o_ifb_ne (tgt := 22) hx hb dX9_write_17 (by decide) (fun c9 => absurd c9 (by decide)) (fun _ => ?_)
    refine lv_iconst (v := (-1)) hx hb dX9_write_20 (by decide) ?_
    exact o_iret hQ C rfl ho () rfl rfl (Nat.le_of_ble_eq_true rfl) (Nat.le_of_ble_eq_true rfl) dX9_write_21

set_option maxHeartbeats 4000000 in
set_option maxRecDepth 100000 in
theorem c_M_writeF (la : Launch) (D : va_G) (K : Nat → ClassId) (h : Nat) (ar : Nat → Nat) (ad : Nat) (ck : Nat) (bi : Nat) (lo : Nat) (F : Nat → Nat → Int32) (d : Nat) (b : Nat) (q2d : d < 2) (qb : b ≤ 255) (qw : F 3 d = nI 40) : MT la D K yX9_write cX9_write 3 (some .int) (rmL 2 0 0) [.ref h, .int (nI d), .int (nI b)] [bX K h ar ad ck bi lo F] Unit (fun v _ => v = some (.int (-2))) (fun _ => [bX K h ar ad ck bi lo F]) := by
  refine Mt.ofW [(0, .ref h), (1, .int (nI d)), (2, .int (nI b))] (by decide) rfl (Nat.le_of_ble_eq_true rfl) ?_
  intro p e s m args below meth c A ls H locs Qz hQ C hin hl ho
  have hx := C.1.1
  have hb := C.1.2.1
  refine lv_iload_n hx hb dX9_write_0 rfl (lv_at hl 1 rfl) ?_
  refine lv_iconst (v := nI 0) hx hb dX9_write_1 (by decide) ?_
  refine lv_iconst (v := nI 1) hx hb dX9_write_2 (by decide) ?_
  refine o_callS (wr := [bX K h ar ad ck bi lo F]) (rest := []) (As := [.int (nI d), .int (nI 0), .int (nI 1)]) C (c_M_in la D K d 0 1 (by first | omega | assumption | (simp only [List.length_append, List.length_cons, List.length_nil, List.length_modify, List.length_set, nb_len, rb_len, rbp_len, sl_len, slN_len, wh_len, wt_len, hd10_len, hdB_len, thr_len, ldp_len, ldB_len, tens_len, whz_len, majL_len, mf_len, tkL_len, ldY_len, fif_len, ldY_len]; omega) | decide) (by first | omega | assumption | (simp only [List.length_append, List.length_cons, List.length_nil, List.length_modify, List.length_set, nb_len, rb_len, rbp_len, sl_len, slN_len, wh_len, wt_len, hd10_len, hdB_len, thr_len, ldp_len, ldB_len, tens_len, whz_len, majL_len, mf_len, tkL_len, ldY_len, fif_len, ldY_len]; omega) | decide) (by first | omega | assumption | (simp only [List.length_append, List.length_cons, List.length_nil, List.length_modify, List.length_set, nb_len, rb_len, rbp_len, sl_len, slN_len, wh_len, wt_len, hd10_len, hdB_len, thr_len, ldp_len, ldB_len, tens_len, whz_len, majL_len, mf_len, tkL_len, ldY_len, fif_len, ldY_len]; omega) | decide)) kX9_99 vX9_in (by decide) rfl ho [0] 1 (by decide +kernel) rfl rfl hl.1 rfl (Nat.le_of_ble_eq_true rfl) dX9_write_3 0 0 rfl rfl (by decide) (fun v u_1 H locs hq ho => ?_)
  obtain rfl := hq
  have ho : ow D vwCl A s.heap H locs [bX K h ar ad ck bi lo F] := ho
  refine W.eq (g2 := F0 m 6 ls [.int (bI (decide (0 ≤ d ∧ d ≤ 1)))]) rfl ?_
  refine o_ifb_eq (tgt := 20) hx hb dX9_write_6 (by decide) (fun c_2 => ?_) (fun c_2 => ?_)
  · skip
    rw [decide_eq_true (by omega)] at c_2; exact absurd c_2 (by decide)
  · skip
    refine lv_iload_n hx hb dX9_write_9 rfl (lv_at hl 2 rfl) ?_
    refine lv_iconst (v := nI 0) hx hb dX9_write_10 (by decide) ?_
    refine lv_sipush (v := nI 255) hx hb dX9_write_11 (by decide) ?_
    refine o_callS (wr := [bX K h ar ad ck bi lo F]) (rest := []) (As := [.int (nI b), .int (nI 0), .int (nI 255)]) C (c_M_in la D K b 0 255 (by first | omega | assumption | (simp only [List.length_append, List.length_cons, List.length_nil, List.length_modify, List.length_set, nb_len, rb_len, rbp_len, sl_len, slN_len, wh_len, wt_len, hd10_len, hdB_len, thr_len, ldp_len, ldB_len, tens_len, whz_len, majL_len, mf_len, tkL_len, ldY_len, fif_len, ldY_len]; omega) | decide) (by first | omega | assumption | (simp only [List.length_append, List.length_cons, List.length_nil, List.length_modify, List.length_set, nb_len, rb_len, rbp_len, sl_len, slN_len, wh_len, wt_len, hd10_len, hdB_len, thr_len, ldp_len, ldB_len, tens_len, whz_len, majL_len, mf_len, tkL_len, ldY_len, fif_len, ldY_len]; omega) | decide) (by first | omega | assumption | (simp only [List.length_append, List.length_cons, List.length_nil, List.length_modify, List.length_set, nb_len, rb_len, rbp_len, sl_len, slN_len, wh_len, wt_len, hd10_len, hdB_len, thr_len, ldp_len, ldB_len, tens_len, whz_len, majL_len, mf_len, tkL_len, ldY_len, fif_len, ldY_len]; omega) | decide)) kX9_99 vX9_in (by decide) rfl ho [0] 1 (by decide +kernel) rfl rfl hl.1 rfl (Nat.le_of_ble_eq_true rfl) dX9_write_14 0 0 rfl rfl (by decide) (fun v u_3 H locs hq ho => ?_)
    obtain rfl := hq
    have ho : ow D vwCl A s.heap H locs [bX K h ar ad ck bi lo F] := ho
    refine W.eq (g2 := F0 m 17 ls [.int (bI (decide (0 ≤ b ∧ b ≤ 255)))]) rfl ?_
    refine o_ifb_ne (tgt := 22) hx hb dX9_write_17 (by decide) (fun c_4 => ?_) (fun c_4 => ?_)
    · skip
      refine lv_aload_n hx hb dX9_write_22 rfl (lv_at hl 0 rfl) ?_
      refine o_get (v := .ref (ar 3)) C ho 0 0 rfl rfl rfl 7 fX9_19 rfl dX9_write_23 ?_
      refine lv_iload_n hx hb dX9_write_26 rfl (lv_at hl 1 rfl) ?_
      refine o_iald (v := nI 40) C ho 0 4 rfl rfl 0 rfl d rfl (by omega) (by omega) qw dX9_write_27 ?_
      refine lv_bipush (v := nI 40) hx hb dX9_write_28 (by decide) ?_
      refine o_icmp_ne (tgt := 36) hx hb dX9_write_30 (by decide) (by decide) (by decide) (fun c9 => absurd c9 (by decide)) (fun _ => ?_)
      refine lv_bipush (v := (-2)) hx hb dX9_write_33 (by decide) ?_
      exact o_iret hQ C rfl ho () rfl rfl (Nat.le_of_ble_eq_true rfl) (Nat.le_of_ble_eq_true rfl) dX9_write_35
    · skip
      rw [decide_eq_true (by omega)] at c_4; exact absurd c_4 (by decide)

set_option maxHeartbeats 4000000 in
set_option maxRecDepth 100000 in
theorem c_M_write (la : Launch) (D : va_G) (K : Nat → ClassId) (h : Nat) (ar : Nat → Nat) (ad : Nat) (ck : Nat) (bi : Nat) (lo : Nat) (F : Nat → Nat → Int32) (d : Nat) (b : Nat) (wn : Nat) (q2d : d < 2) (qb : b ≤ 255) (qw : F 3 d = nI wn) (qw2 : wn < 40) : MT la D K yX9_write cX9_write 3 (some .int) (rmL 2 0 0) [.ref h, .int (nI d), .int (nI b)] [bX K h ar ad ck bi lo F] Unit (fun v _ => v = some (.int (nI (wn + 1)))) (fun _ => [bX K h ar ad ck bi lo (va_up (va_up F 4 (upd (F 4) (40 * d + wn) (nI b))) 3 (upd (F 3) d (nI (wn + 1))))]) := by
  refine Mt.ofW [(0, .ref h), (1, .int (nI d)), (2, .int (nI b))] (by decide) rfl (Nat.le_of_ble_eq_true rfl) ?_
  intro p e s m args below meth c A ls H locs Qz hQ C hin hl ho
  have hx := C.1.1
  have hb := C.1.2.1
  refine lv_iload_n hx hb dX9_write_0 rfl (lv_at hl 1 rfl) ?_
  refine lv_iconst (v := nI 0) hx hb dX9_write_1 (by decide) ?_
  refine lv_iconst (v := nI 1) hx hb dX9_write_2 (by decide) ?_
  refine o_callS (wr := [bX K h ar ad ck bi lo F]) (rest := []) (As := [.int (nI d), .int (nI 0), .int (nI 1)]) C (c_M_in la D K d 0 1 (by first | omega | assumption | (simp only [List.length_append, List.length_cons, List.length_nil, List.length_modify, List.length_set, nb_len, rb_len, rbp_len, sl_len, slN_len, wh_len, wt_len, hd10_len, hdB_len, thr_len, ldp_len, ldB_len, tens_len, whz_len, majL_len, mf_len, tkL_len, ldY_len, fif_len, ldY_len]; omega) | decide) (by first | omega | assumption | (simp only [List.length_append, List.length_cons, List.length_nil, List.length_modify, List.length_set, nb_len, rb_len, rbp_len, sl_len, slN_len, wh_len, wt_len, hd10_len, hdB_len, thr_len, ldp_len, ldB_len, tens_len, whz_len, majL_len, mf_len, tkL_len, ldY_len, fif_len, ldY_len]; omega) | decide) (by first | omega | assumption | (simp only [List.length_append, List.length_cons, List.length_nil, List.length_modify, List.length_set, nb_len, rb_len, rbp_len, sl_len, slN_len, wh_len, wt_len, hd10_len, hdB_len, thr_len, ldp_len, ldB_len, tens_len, whz_len, majL_len, mf_len, tkL_len, ldY_len, fif_len, ldY_len]; omega) | decide)) kX9_99 vX9_in (by decide) rfl ho [0] 1 (by decide +kernel) rfl rfl hl.1 rfl (Nat.le_of_ble_eq_true rfl) dX9_write_3 0 0 rfl rfl (by decide) (fun v u_1 H locs hq ho => ?_)
  obtain rfl := hq
  have ho : ow D vwCl A s.heap H locs [bX K h ar ad ck bi lo F] := ho
  refine W.eq (g2 := F0 m 6 ls [.int (bI (decide (0 ≤ d ∧ d ≤ 1)))]) rfl ?_
  refine o_ifb_eq (tgt := 20) hx hb dX9_write_6 (by decide) (fun c_2 => ?_) (fun c_2 => ?_)
  · skip
    rw [decide_eq_true (by omega)] at c_2; exact absurd c_2 (by decide)
  · skip
    refine lv_iload_n hx hb dX9_write_9 rfl (lv_at hl 2 rfl) ?_
    refine lv_iconst (v := nI 0) hx hb dX9_write_10 (by decide) ?_
    refine lv_sipush (v := nI 255) hx hb dX9_write_11 (by decide) ?_
    refine o_callS (wr := [bX K h ar ad ck bi lo F]) (rest := []) (As := [.int (nI b), .int (nI 0), .int (nI 255)]) C (c_M_in la D K b 0 255 (by first | omega | assumption | (simp only [List.length_append, List.length_cons, List.length_nil, List.length_modify, List.length_set, nb_len, rb_len, rbp_len, sl_len, slN_len, wh_len, wt_len, hd10_len, hdB_len, thr_len, ldp_len, ldB_len, tens_len, whz_len, majL_len, mf_len, tkL_len, ldY_len, fif_len, ldY_len]; omega) | decide) (by first | omega | assumption | (simp only [List.length_append, List.length_cons, List.length_nil, List.length_modify, List.length_set, nb_len, rb_len, rbp_len, sl_len, slN_len, wh_len, wt_len, hd10_len, hdB_len, thr_len, ldp_len, ldB_len, tens_len, whz_len, majL_len, mf_len, tkL_len, ldY_len, fif_len, ldY_len]; omega) | decide) (by first | omega | assumption | (simp only [List.length_append, List.length_cons, List.length_nil, List.length_modify, List.length_set, nb_len, rb_len, rbp_len, sl_len, slN_len, wh_len, wt_len, hd10_len, hdB_len, thr_len, ldp_len, ldB_len, tens_len, whz_len, majL_len, mf_len, tkL_len, ldY_len, fif_len, ldY_len]; omega) | decide)) kX9_99 vX9_in (by decide) rfl ho [0] 1 (by decide +kernel) rfl rfl hl.1 rfl (Nat.le_of_ble_eq_true rfl) dX9_write_14 0 0 rfl rfl (by decide) (fun v u_3 H locs hq ho => ?_)
    obtain rfl := hq
    have ho : ow D vwCl A s.heap H locs [bX K h ar ad ck bi lo F] := ho
    refine W.eq (g2 := F0 m 17 ls [.int (bI (decide (0 ≤ b ∧ b ≤ 255)))]) rfl ?_
    refine o_ifb_ne (tgt := 22) hx hb dX9_write_17 (by decide) (fun c_4 => ?_) (fun c_4 => ?_)
    · skip
      refine lv_aload_n hx hb dX9_write_22 rfl (lv_at hl 0 rfl) ?_
      refine o_get (v := .ref (ar 3)) C ho 0 0 rfl rfl rfl 7 fX9_19 rfl dX9_write_23 ?_
      refine lv_iload_n hx hb dX9_write_26 rfl (lv_at hl 1 rfl) ?_
      refine o_iald (v := nI wn) C ho 0 4 rfl rfl 0 rfl d rfl (by omega) (by omega) qw dX9_write_27 ?_
      refine lv_bipush (v := nI 40) hx hb dX9_write_28 (by decide) ?_
      refine o_icmp_ne (tgt := 36) hx hb dX9_write_30 (by decide) (by first | omega | exact and1_lt _) (by first | omega | exact and1_lt _) (fun c_5 => ?_) (fun c_5 => ?_)
      · skip
        refine lv_aload_n hx hb dX9_write_36 rfl (lv_at hl 0 rfl) ?_
        refine o_get (v := .ref (ar 4)) C ho 0 0 rfl rfl rfl 8 fX9_22 rfl dX9_write_37 ?_
        refine lv_bipush (v := nI 40) hx hb dX9_write_40 (by decide) ?_
        refine lv_iload_n hx hb dX9_write_42 rfl (lv_at hl 1 rfl) ?_
        refine o_mul hx hb dX9_write_43 ?_
        refine lv_aload_n hx hb dX9_write_44 rfl (lv_at hl 0 rfl) ?_
        refine o_get (v := .ref (ar 3)) C ho 0 0 rfl rfl rfl 7 fX9_19 rfl dX9_write_45 ?_
        refine lv_iload_n hx hb dX9_write_48 rfl (lv_at hl 1 rfl) ?_
        refine o_iald (v := nI wn) C ho 0 4 rfl rfl 0 rfl d rfl (by omega) (by omega) qw dX9_write_49 ?_
        refine o_add hx hb dX9_write_50 ?_
        refine lv_iload_n hx hb dX9_write_51 rfl (lv_at hl 2 rfl) ?_
        refine o_iast (bs' := [bX K h ar ad ck bi lo (va_up F 4 (upd (F 4) ((40 * d) + wn) (nI b)))]) C ho 0 5 rfl rfl 0 rfl ((40 * d) + wn) rfl (by omega) (by decide) dX9_write_52 rfl (fun H locs ho => ?_)
        refine lv_aload_n hx hb dX9_write_53 rfl (lv_at hl 0 rfl) ?_
        refine o_get (v := .ref (ar 3)) C ho 0 0 rfl rfl rfl 7 fX9_19 rfl dX9_write_54 ?_
        refine lv_iload_n hx hb dX9_write_57 rfl (lv_at hl 1 rfl) ?_
        refine lv_dup2_11 hx hb dX9_write_58 rfl rfl ?_
        refine o_iald (v := nI wn) C ho 0 4 rfl rfl 0 rfl d rfl (by omega) (by omega) qw dX9_write_59 ?_
        refine lv_iconst (v := nI 1) hx hb dX9_write_60 (by decide) ?_
        refine o_add hx hb dX9_write_61 ?_
        refine o_iast (bs' := [bX K h ar ad ck bi lo (va_up (va_up F 4 (upd (F 4) ((40 * d) + wn) (nI b))) 3 (upd (F 3) d (nI (wn + 1))))]) C ho 0 4 rfl rfl 0 rfl d rfl (by omega) (by decide) dX9_write_62 rfl (fun H locs ho => ?_)
        refine lv_aload_n hx hb dX9_write_63 rfl (lv_at hl 0 rfl) ?_
        refine o_get (v := .ref (ar 3)) C ho 0 0 rfl rfl rfl 7 fX9_19 rfl dX9_write_64 ?_
        refine lv_iload_n hx hb dX9_write_67 rfl (lv_at hl 1 rfl) ?_
        refine o_iald (v := nI (wn + 1)) C ho 0 4 rfl rfl 0 rfl d rfl (by omega) (by omega) pk_us dX9_write_68 ?_
        exact o_iret hQ C rfl ho () rfl rfl (Nat.le_of_ble_eq_true rfl) (Nat.le_of_ble_eq_true rfl) dX9_write_69
      · skip
        exact absurd c_5 (by omega)
    · skip
      rw [decide_eq_true (by omega)] at c_4; exact absurd c_4 (by decide)

set_option maxHeartbeats 4000000 in
set_option maxRecDepth 100000 in
theorem c_M_sendX (la : Launch) (D : va_G) (K : Nat → ClassId) (h : Nat) (ar : Nat → Nat) (ad : Nat) (ck : Nat) (bi : Nat) (lo : Nat) (F : Nat → Nat → Int32) (x : Int32) (qx : x < nI 0 ∨ nI 1 < x) : MT la D K yX9_send cX9_send 4 (some .int) (rmL 2 0 0) [.ref h, .int x] [bX K h ar ad ck bi lo F] Unit (fun v _ => v = some (.int (-1))) (fun _ => [bX K h ar ad ck bi lo F]) := by
  refine Mt.ofW [(0, .ref h), (1, .int x)] (by decide) rfl (Nat.le_of_ble_eq_true rfl) ?_
  intro p e s m args below meth c A ls H locs Qz hQ C hin hl ho
  have hx := C.1.1
  have hb := C.1.2.1
  refine lv_iload_n hx hb dX9_send_0 rfl (lv_at hl 1 rfl) ?_
  refine lv_iconst (v := nI 0) hx hb dX9_send_1 (by decide) ?_
  refine lv_iconst (v := nI 1) hx hb dX9_send_2 (by decide) ?_
  refine o_callS (wr := [bX K h ar ad ck bi lo F]) (rest := []) (As := [.int x, .int (nI 0), .int (nI 1)]) C (c_M_inN la D K x 0 1 (by first | omega | assumption | (simp only [List.length_append, List.length_cons, List.length_nil, List.length_modify, List.length_set, nb_len, rb_len, rbp_len, sl_len, slN_len, wh_len, wt_len, hd10_len, hdB_len, thr_len, ldp_len, ldB_len, tens_len, whz_len, majL_len, mf_len, tkL_len, ldY_len, fif_len, ldY_len]; omega) | decide)) kX9_99 vX9_in (by decide) rfl ho [0] 1 (by decide +kernel) rfl rfl hl.1 rfl (Nat.le_of_ble_eq_true rfl) dX9_send_3 0 0 rfl rfl (by decide) (fun v u_1 H locs hq ho => ?_)
  obtain rfl := hq
  have ho : ow D vwCl A s.heap H locs [bX K h ar ad ck bi lo F] := ho
  refine W.eq (g2 := F0 m 6 ls [.int (bI false)]) rfl ?_
  refine o_ifb_eq (tgt := 18) hx hb dX9_send_6 (by decide) (fun _ => ?_) (fun c9 => absurd c9 (by decide))
  refine lv_iconst (v := (-1)) hx hb dX9_send_18 (by decide) ?_
  exact o_iret hQ C rfl ho () rfl rfl (Nat.le_of_ble_eq_true rfl) (Nat.le_of_ble_eq_true rfl) dX9_send_19

set_option maxHeartbeats 4000000 in
set_option maxRecDepth 100000 in
theorem c_M_send0 (la : Launch) (D : va_G) (K : Nat → ClassId) (h : Nat) (ar : Nat → Nat) (ad : Nat) (ck : Nat) (bi : Nat) (lo : Nat) (F : Nat → Nat → Int32) (d : Nat) (q2d : d < 2) (qw : F 3 d = nI 0) : MT la D K yX9_send cX9_send 4 (some .int) (rmL 2 0 0) [.ref h, .int (nI d)] [bX K h ar ad ck bi lo F] Unit (fun v _ => v = some (.int (-1))) (fun _ => [bX K h ar ad ck bi lo F]) := by
  refine Mt.ofW [(0, .ref h), (1, .int (nI d))] (by decide) rfl (Nat.le_of_ble_eq_true rfl) ?_
  intro p e s m args below meth c A ls H locs Qz hQ C hin hl ho
  have hx := C.1.1
  have hb := C.1.2.1
  refine lv_iload_n hx hb dX9_send_0 rfl (lv_at hl 1 rfl) ?_
  refine lv_iconst (v := nI 0) hx hb dX9_send_1 (by decide) ?_
  refine lv_iconst (v := nI 1) hx hb dX9_send_2 (by decide) ?_
  refine o_callS (wr := [bX K h ar ad ck bi lo F]) (rest := []) (As := [.int (nI d), .int (nI 0), .int (nI 1)]) C (c_M_in la D K d 0 1 (by first | omega | assumption | (simp only [List.length_append, List.length_cons, List.length_nil, List.length_modify, List.length_set, nb_len, rb_len, rbp_len, sl_len, slN_len, wh_len, wt_len, hd10_len, hdB_len, thr_len, ldp_len, ldB_len, tens_len, whz_len, majL_len, mf_len, tkL_len, ldY_len, fif_len, ldY_len]; omega) | decide) (by first | omega | assumption | (simp only [List.length_append, List.length_cons, List.length_nil, List.length_modify, List.length_set, nb_len, rb_len, rbp_len, sl_len, slN_len, wh_len, wt_len, hd10_len, hdB_len, thr_len, ldp_len, ldB_len, tens_len, whz_len, majL_len, mf_len, tkL_len, ldY_len, fif_len, ldY_len]; omega) | decide) (by first | omega | assumption | (simp only [List.length_append, List.length_cons, List.length_nil, List.length_modify, List.length_set, nb_len, rb_len, rbp_len, sl_len, slN_len, wh_len, wt_len, hd10_len, hdB_len, thr_len, ldp_len, ldB_len, tens_len, whz_len, majL_len, mf_len, tkL_len, ldY_len, fif_len, ldY_len]; omega) | decide)) kX9_99 vX9_in (by decide) rfl ho [0] 1 (by decide +kernel) rfl rfl hl.1 rfl (Nat.le_of_ble_eq_true rfl) dX9_send_3 0 0 rfl rfl (by decide) (fun v u_1 H locs hq ho => ?_)
  obtain rfl := hq
  have ho : ow D vwCl A s.heap H locs [bX K h ar ad ck bi lo F] := ho
  refine W.eq (g2 := F0 m 6 ls [.int (bI (decide (0 ≤ d ∧ d ≤ 1)))]) rfl ?_
  refine o_ifb_eq (tgt := 18) hx hb dX9_send_6 (by decide) (fun c_2 => ?_) (fun c_2 => ?_)
  · skip
    rw [decide_eq_true (by omega)] at c_2; exact absurd c_2 (by decide)
  · skip
    refine lv_aload_n hx hb dX9_send_9 rfl (lv_at hl 0 rfl) ?_
    refine o_get (v := .ref (ar 3)) C ho 0 0 rfl rfl rfl 7 fX9_19 rfl dX9_send_10 ?_
    refine lv_iload_n hx hb dX9_send_13 rfl (lv_at hl 1 rfl) ?_
    refine o_iald (v := nI 0) C ho 0 4 rfl rfl 0 rfl d rfl (by omega) (by omega) qw dX9_send_14 ?_
    refine o_if_ne (tgt := 20) hx hb dX9_send_15 (by decide) (by decide) (fun c9 => absurd c9 (by decide)) (fun _ => ?_)
    refine lv_iconst (v := (-1)) hx hb dX9_send_18 (by decide) ?_
    exact o_iret hQ C rfl ho () rfl rfl (Nat.le_of_ble_eq_true rfl) (Nat.le_of_ble_eq_true rfl) dX9_send_19

set_option maxHeartbeats 4000000 in
set_option maxRecDepth 100000 in
theorem c_M_sendF (la : Launch) (D : va_G) (K : Nat → ClassId) (h : Nat) (ar : Nat → Nat) (ad : Nat) (ck : Nat) (bi : Nat) (lo : Nat) (F : Nat → Nat → Int32) (d : Nat) (wn : Nat) (q2d : d < 2) (qw : F 3 d = nI wn) (qw1 : 0 < wn) (qw2 : wn ≤ 40) (qs : F 5 d = nI 6) : MT la D K yX9_send cX9_send 4 (some .int) (rmL 2 0 0) [.ref h, .int (nI d)] [bX K h ar ad ck bi lo F] Unit (fun v _ => v = some (.int (-2))) (fun _ => [bX K h ar ad ck bi lo F]) := by
  refine Mt.ofW [(0, .ref h), (1, .int (nI d))] (by decide) rfl (Nat.le_of_ble_eq_true rfl) ?_
  intro p e s m args below meth c A ls H locs Qz hQ C hin hl ho
  have hx := C.1.1
  have hb := C.1.2.1
  refine lv_iload_n hx hb dX9_send_0 rfl (lv_at hl 1 rfl) ?_
  refine lv_iconst (v := nI 0) hx hb dX9_send_1 (by decide) ?_
  refine lv_iconst (v := nI 1) hx hb dX9_send_2 (by decide) ?_
  refine o_callS (wr := [bX K h ar ad ck bi lo F]) (rest := []) (As := [.int (nI d), .int (nI 0), .int (nI 1)]) C (c_M_in la D K d 0 1 (by first | omega | assumption | (simp only [List.length_append, List.length_cons, List.length_nil, List.length_modify, List.length_set, nb_len, rb_len, rbp_len, sl_len, slN_len, wh_len, wt_len, hd10_len, hdB_len, thr_len, ldp_len, ldB_len, tens_len, whz_len, majL_len, mf_len, tkL_len, ldY_len, fif_len, ldY_len]; omega) | decide) (by first | omega | assumption | (simp only [List.length_append, List.length_cons, List.length_nil, List.length_modify, List.length_set, nb_len, rb_len, rbp_len, sl_len, slN_len, wh_len, wt_len, hd10_len, hdB_len, thr_len, ldp_len, ldB_len, tens_len, whz_len, majL_len, mf_len, tkL_len, ldY_len, fif_len, ldY_len]; omega) | decide) (by first | omega | assumption | (simp only [List.length_append, List.length_cons, List.length_nil, List.length_modify, List.length_set, nb_len, rb_len, rbp_len, sl_len, slN_len, wh_len, wt_len, hd10_len, hdB_len, thr_len, ldp_len, ldB_len, tens_len, whz_len, majL_len, mf_len, tkL_len, ldY_len, fif_len, ldY_len]; omega) | decide)) kX9_99 vX9_in (by decide) rfl ho [0] 1 (by decide +kernel) rfl rfl hl.1 rfl (Nat.le_of_ble_eq_true rfl) dX9_send_3 0 0 rfl rfl (by decide) (fun v u_1 H locs hq ho => ?_)
  obtain rfl := hq
  have ho : ow D vwCl A s.heap H locs [bX K h ar ad ck bi lo F] := ho
  refine W.eq (g2 := F0 m 6 ls [.int (bI (decide (0 ≤ d ∧ d ≤ 1)))]) rfl ?_
  refine o_ifb_eq (tgt := 18) hx hb dX9_send_6 (by decide) (fun c_2 => ?_) (fun c_2 => ?_)
  · skip
    rw [decide_eq_true (by omega)] at c_2; exact absurd c_2 (by decide)
  · skip
    refine lv_aload_n hx hb dX9_send_9 rfl (lv_at hl 0 rfl) ?_
    refine o_get (v := .ref (ar 3)) C ho 0 0 rfl rfl rfl 7 fX9_19 rfl dX9_send_10 ?_
    refine lv_iload_n hx hb dX9_send_13 rfl (lv_at hl 1 rfl) ?_
    refine o_iald (v := nI wn) C ho 0 4 rfl rfl 0 rfl d rfl (by omega) (by omega) qw dX9_send_14 ?_
    refine o_if_ne (tgt := 20) hx hb dX9_send_15 (by decide) (by omega) (fun c_3 => ?_) (fun c_3 => ?_)
    · skip
      refine lv_aload_n hx hb dX9_send_20 rfl (lv_at hl 0 rfl) ?_
      refine o_get (v := .ref (ar 5)) C ho 0 0 rfl rfl rfl 9 fX9_25 rfl dX9_send_21 ?_
      refine lv_iload_n hx hb dX9_send_24 rfl (lv_at hl 1 rfl) ?_
      refine o_iald (v := nI 6) C ho 0 6 rfl rfl 0 rfl d rfl (by omega) (by omega) qs dX9_send_25 ?_
      refine lv_bipush (v := nI 6) hx hb dX9_send_26 (by decide) ?_
      refine o_icmp_ne (tgt := 34) hx hb dX9_send_28 (by decide) (by decide) (by decide) (fun c9 => absurd c9 (by decide)) (fun _ => ?_)
      refine lv_bipush (v := (-2)) hx hb dX9_send_31 (by decide) ?_
      exact o_iret hQ C rfl ho () rfl rfl (Nat.le_of_ble_eq_true rfl) (Nat.le_of_ble_eq_true rfl) dX9_send_33
    · skip
      exact absurd c_3 (by omega)

set_option maxHeartbeats 4000000 in
set_option maxRecDepth 100000 in
theorem c_M_send (la : Launch) (D : va_G) (K : Nat → ClassId) (h : Nat) (ar : Nat → Nat) (ad : Nat) (ck : Nat) (bi : Nat) (lo : Nat) (F : Nat → Nat → Int32) (d : Nat) (wn : Nat) (sn : Nat) (q2d : d < 2) (qw : F 3 d = nI wn) (qw1 : 0 < wn) (qw2 : wn ≤ 40) (qs : F 5 d = nI sn) (qs2 : sn < 6) : MT la D K yX9_send cX9_send 4 (some .int) (rmL 2 0 0) [.ref h, .int (nI d)] [bX K h ar ad ck bi lo F] Unit (fun v _ => v = some (.int (nI (sn + 1)))) (fun _ => [bX K h ar ad ck bi lo (va_up (va_up (va_up (va_up F 6 (upd (F 6) (6 * d + sn) (nI wn))) 7 (va_cpy (F 4) (F 7) (40 * d) (40 * (6 * d + sn)) wn)) 5 (upd (F 5) d (nI (sn + 1)))) 3 (upd (F 3) d (nI 0)))]) := by
  refine Mt.ofW [(0, .ref h), (1, .int (nI d))] (by decide) rfl (Nat.le_of_ble_eq_true rfl) ?_
  intro p e s m args below meth c A ls H locs Qz hQ C hin hl ho
  have hx := C.1.1
  have hb := C.1.2.1
  refine lv_iload_n hx hb dX9_send_0 rfl (lv_at hl 1 rfl) ?_
  refine lv_iconst (v := nI 0) hx hb dX9_send_1 (by decide) ?_
  refine lv_iconst (v := nI 1) hx hb dX9_send_2 (by decide) ?_
  refine o_callS (wr := [bX K h ar ad ck bi lo F]) (rest := []) (As := [.int (nI d), .int (nI 0), .int (nI 1)]) C (c_M_in la D K d 0 1 (by first | omega | assumption | (simp only [List.length_append, List.length_cons, List.length_nil, List.length_modify, List.length_set, nb_len, rb_len, rbp_len, sl_len, slN_len, wh_len, wt_len, hd10_len, hdB_len, thr_len, ldp_len, ldB_len, tens_len, whz_len, majL_len, mf_len, tkL_len, ldY_len, fif_len, ldY_len]; omega) | decide) (by first | omega | assumption | (simp only [List.length_append, List.length_cons, List.length_nil, List.length_modify, List.length_set, nb_len, rb_len, rbp_len, sl_len, slN_len, wh_len, wt_len, hd10_len, hdB_len, thr_len, ldp_len, ldB_len, tens_len, whz_len, majL_len, mf_len, tkL_len, ldY_len, fif_len, ldY_len]; omega) | decide) (by first | omega | assumption | (simp only [List.length_append, List.length_cons, List.length_nil, List.length_modify, List.length_set, nb_len, rb_len, rbp_len, sl_len, slN_len, wh_len, wt_len, hd10_len, hdB_len, thr_len, ldp_len, ldB_len, tens_len, whz_len, majL_len, mf_len, tkL_len, ldY_len, fif_len, ldY_len]; omega) | decide)) kX9_99 vX9_in (by decide) rfl ho [0] 1 (by decide +kernel) rfl rfl hl.1 rfl (Nat.le_of_ble_eq_true rfl) dX9_send_3 0 0 rfl rfl (by decide) (fun v u_1 H locs hq ho => ?_)
  obtain rfl := hq
  have ho : ow D vwCl A s.heap H locs [bX K h ar ad ck bi lo F] := ho
  refine W.eq (g2 := F0 m 6 ls [.int (bI (decide (0 ≤ d ∧ d ≤ 1)))]) rfl ?_
  refine o_ifb_eq (tgt := 18) hx hb dX9_send_6 (by decide) (fun c_2 => ?_) (fun c_2 => ?_)
  · skip
    rw [decide_eq_true (by omega)] at c_2; exact absurd c_2 (by decide)
  · skip
    refine lv_aload_n hx hb dX9_send_9 rfl (lv_at hl 0 rfl) ?_
    refine o_get (v := .ref (ar 3)) C ho 0 0 rfl rfl rfl 7 fX9_19 rfl dX9_send_10 ?_
    refine lv_iload_n hx hb dX9_send_13 rfl (lv_at hl 1 rfl) ?_
    refine o_iald (v := nI wn) C ho 0 4 rfl rfl 0 rfl d rfl (by omega) (by omega) qw dX9_send_14 ?_
    refine o_if_ne (tgt := 20) hx hb dX9_send_15 (by decide) (by omega) (fun c_3 => ?_) (fun c_3 => ?_)
    · skip
      refine lv_aload_n hx hb dX9_send_20 rfl (lv_at hl 0 rfl) ?_
      refine o_get (v := .ref (ar 5)) C ho 0 0 rfl rfl rfl 9 fX9_25 rfl dX9_send_21 ?_
      refine lv_iload_n hx hb dX9_send_24 rfl (lv_at hl 1 rfl) ?_
      refine o_iald (v := nI sn) C ho 0 6 rfl rfl 0 rfl d rfl (by omega) (by omega) qs dX9_send_25 ?_
      refine lv_bipush (v := nI 6) hx hb dX9_send_26 (by decide) ?_
      refine o_icmp_ne (tgt := 34) hx hb dX9_send_28 (by decide) (by first | omega | exact and1_lt _) (by first | omega | exact and1_lt _) (fun c_4 => ?_) (fun c_4 => ?_)
      · skip
        refine lv_bipush (v := nI 6) hx hb dX9_send_34 (by decide) ?_
        refine lv_iload_n hx hb dX9_send_36 rfl (lv_at hl 1 rfl) ?_
        refine o_mul hx hb dX9_send_37 ?_
        refine lv_aload_n hx hb dX9_send_38 rfl (lv_at hl 0 rfl) ?_
        refine o_get (v := .ref (ar 5)) C ho 0 0 rfl rfl rfl 9 fX9_25 rfl dX9_send_39 ?_
        refine lv_iload_n hx hb dX9_send_42 rfl (lv_at hl 1 rfl) ?_
        refine o_iald (v := nI sn) C ho 0 6 rfl rfl 0 rfl d rfl (by omega) (by omega) qs dX9_send_43 ?_
        refine o_add hx hb dX9_send_44 ?_
        refine lv_istore_n (lv' := [(2, .int (nI ((6 * d) + sn))), (0, .ref h), (1, .int (nI d))]) hx hb dX9_send_45 rfl hl (by decide) rfl (fun ls hl => ?_)
        refine lv_aload_n hx hb dX9_send_46 rfl (lv_at hl 1 rfl) ?_
        refine o_get (v := .ref (ar 6)) C ho 0 0 rfl rfl rfl 10 fX9_28 rfl dX9_send_47 ?_
        refine lv_iload_n hx hb dX9_send_50 rfl (lv_at hl 0 rfl) ?_
        refine lv_aload_n hx hb dX9_send_51 rfl (lv_at hl 1 rfl) ?_
        refine o_get (v := .ref (ar 3)) C ho 0 0 rfl rfl rfl 7 fX9_19 rfl dX9_send_52 ?_
        refine lv_iload_n hx hb dX9_send_55 rfl (lv_at hl 2 rfl) ?_
        refine o_iald (v := nI wn) C ho 0 4 rfl rfl 0 rfl d rfl (by omega) (by omega) qw dX9_send_56 ?_
        refine o_iast (bs' := [bX K h ar ad ck bi lo (va_up F 6 (upd (F 6) ((6 * d) + sn) (nI wn)))]) C ho 0 7 rfl rfl 0 rfl ((6 * d) + sn) rfl (by omega) (by decide) dX9_send_57 rfl (fun H locs ho => ?_)
        refine lv_iconst (v := nI 0) hx hb dX9_send_58 (by decide) ?_
        refine lv_istore_n (lv' := [(3, .int (nI 0)), (2, .int (nI ((6 * d) + sn))), (0, .ref h), (1, .int (nI d))]) hx hb dX9_send_59 rfl hl (by decide) rfl (fun ls hl => ?_)
        have e_5 : bX K h ar ad ck bi lo (va_up F 6 (upd (F 6) ((6 * d) + sn) (nI wn))) = bX K h ar ad ck bi lo (va_up (va_up F 6 (upd (F 6) (6 * d + sn) (nI wn))) 7 (va_cpy (F 4) (F 7) (40 * d) (40 * (6 * d + sn)) 0)) := by rw [cpy_0]; exact congrArg (bX K h ar ad ck bi lo) (up_7 _ _)
        have ho : ow D vwCl A s.heap H locs [bX K h ar ad ck bi lo (va_up (va_up F 6 (upd (F 6) (6 * d + sn) (nI wn))) 7 (va_cpy (F 4) (F 7) (40 * d) (40 * (6 * d + sn)) 0))] := by rw [← e_5]; exact ho
        have LP60 : ∀ (fuel : Nat) (i : Nat) (_ : wn - i < fuel) (_ : i ≤ wn) (H : Heap) (locs : List Loc) (ls : Array Slot) (_ : ow D vwCl A s.heap H locs [bX K h ar ad ck bi lo (va_up (va_up F 6 (upd (F 6) (6 * d + sn) (nI wn))) 7 (va_cpy (F 4) (F 7) (40 * d) (40 * (6 * d + sn)) i))]) (_ : lv_has ls 4 [(0, .ref h), (1, .int (nI d)), (2, .int (nI ((6 * d) + sn))), (3, .int (nI i))]), W p la e (rmL 2 0 0) s m args below meth c H locs 0 0 Qz (F0 m 60 ls []) := by
          intro fuel
          induction fuel with
          | zero => intro i h0; exact absurd h0 (Nat.not_lt_zero _)
          | succ fuel ih60 =>
            intro i hfu hi H locs ls ho hl
            refine lv_iload_n hx hb dX9_send_60 rfl (lv_at hl 3 rfl) ?_
            refine lv_aload_n hx hb dX9_send_61 rfl (lv_at hl 0 rfl) ?_
            refine o_get (v := .ref (ar 3)) C ho 0 0 rfl rfl rfl 7 fX9_19 rfl dX9_send_62 ?_
            refine lv_iload_n hx hb dX9_send_65 rfl (lv_at hl 1 rfl) ?_
            refine o_iald (v := nI wn) C ho 0 4 rfl rfl 0 rfl d rfl (by omega) (by omega) qw dX9_send_66 ?_
            refine o_icmp_ge (tgt := 98) hx hb dX9_send_67 (by decide) (by first | omega | exact and1_lt _) (by first | omega | exact and1_lt _) (fun c_6 => ?_) (fun c_6 => ?_)
            · skip
              have e_7 : bX K h ar ad ck bi lo (va_up (va_up F 6 (upd (F 6) (6 * d + sn) (nI wn))) 7 (va_cpy (F 4) (F 7) (40 * d) (40 * (6 * d + sn)) i)) = bX K h ar ad ck bi lo (va_up (va_up F 6 (upd (F 6) (6 * d + sn) (nI wn))) 7 (va_cpy (F 4) (F 7) (40 * d) (40 * (6 * d + sn)) wn)) := by rw [show i = wn by omega]
              have ho : ow D vwCl A s.heap H locs [bX K h ar ad ck bi lo (va_up (va_up F 6 (upd (F 6) (6 * d + sn) (nI wn))) 7 (va_cpy (F 4) (F 7) (40 * d) (40 * (6 * d + sn)) wn))] := by rw [← e_7]; exact ho
              refine lv_aload_n hx hb dX9_send_98 rfl (lv_at hl 0 rfl) ?_
              refine o_get (v := .ref (ar 5)) C ho 0 0 rfl rfl rfl 9 fX9_25 rfl dX9_send_99 ?_
              refine lv_iload_n hx hb dX9_send_102 rfl (lv_at hl 1 rfl) ?_
              refine lv_dup2_11 hx hb dX9_send_103 rfl rfl ?_
              refine o_iald (v := nI sn) C ho 0 6 rfl rfl 0 rfl d rfl (by omega) (by omega) qs dX9_send_104 ?_
              refine lv_iconst (v := nI 1) hx hb dX9_send_105 (by decide) ?_
              refine o_add hx hb dX9_send_106 ?_
              refine o_iast (bs' := [bX K h ar ad ck bi lo (va_up (va_up (va_up F 6 (upd (F 6) (6 * d + sn) (nI wn))) 7 (va_cpy (F 4) (F 7) (40 * d) (40 * (6 * d + sn)) wn)) 5 (upd (F 5) d (nI (sn + 1))))]) C ho 0 6 rfl rfl 0 rfl d rfl (by omega) (by decide) dX9_send_107 rfl (fun H locs ho => ?_)
              refine lv_aload_n hx hb dX9_send_108 rfl (lv_at hl 0 rfl) ?_
              refine o_get (v := .ref (ar 3)) C ho 0 0 rfl rfl rfl 7 fX9_19 rfl dX9_send_109 ?_
              refine lv_iload_n hx hb dX9_send_112 rfl (lv_at hl 1 rfl) ?_
              refine lv_iconst (v := nI 0) hx hb dX9_send_113 (by decide) ?_
              refine o_iast (bs' := [bX K h ar ad ck bi lo (va_up (va_up (va_up (va_up F 6 (upd (F 6) (6 * d + sn) (nI wn))) 7 (va_cpy (F 4) (F 7) (40 * d) (40 * (6 * d + sn)) wn)) 5 (upd (F 5) d (nI (sn + 1)))) 3 (upd (F 3) d (nI 0)))]) C ho 0 4 rfl rfl 0 rfl d rfl (by omega) (by decide) dX9_send_114 rfl (fun H locs ho => ?_)
              refine lv_aload_n hx hb dX9_send_115 rfl (lv_at hl 0 rfl) ?_
              refine o_get (v := .ref (ar 5)) C ho 0 0 rfl rfl rfl 9 fX9_25 rfl dX9_send_116 ?_
              refine lv_iload_n hx hb dX9_send_119 rfl (lv_at hl 1 rfl) ?_
              refine o_iald (v := nI (sn + 1)) C ho 0 6 rfl rfl 0 rfl d rfl (by omega) (by omega) pk_us dX9_send_120 ?_
              exact o_iret hQ C rfl ho () rfl rfl (Nat.le_of_ble_eq_true rfl) (Nat.le_of_ble_eq_true rfl) dX9_send_121
            · skip
              refine lv_aload_n hx hb dX9_send_70 rfl (lv_at hl 0 rfl) ?_
              refine o_get (v := .ref (ar 7)) C ho 0 0 rfl rfl rfl 11 fX9_31 rfl dX9_send_71 ?_
              refine lv_bipush (v := nI 40) hx hb dX9_send_74 (by decide) ?_
              refine lv_iload_n hx hb dX9_send_76 rfl (lv_at hl 2 rfl) ?_
              refine o_mul hx hb dX9_send_77 ?_
              refine lv_iload_n hx hb dX9_send_78 rfl (lv_at hl 3 rfl) ?_
              refine o_add hx hb dX9_send_79 ?_
              refine lv_aload_n hx hb dX9_send_80 rfl (lv_at hl 0 rfl) ?_
              refine o_get (v := .ref (ar 4)) C ho 0 0 rfl rfl rfl 8 fX9_22 rfl dX9_send_81 ?_
              refine lv_bipush (v := nI 40) hx hb dX9_send_84 (by decide) ?_
              refine lv_iload_n hx hb dX9_send_86 rfl (lv_at hl 1 rfl) ?_
              refine o_mul hx hb dX9_send_87 ?_
              refine lv_iload_n hx hb dX9_send_88 rfl (lv_at hl 3 rfl) ?_
              refine o_add hx hb dX9_send_89 ?_
              refine o_iald (v := F 4 ((40 * d) + i)) C ho 0 5 rfl rfl 0 rfl ((40 * d) + i) rfl (by omega) (by omega) rfl dX9_send_90 ?_
              refine o_iast (bs' := [bX K h ar ad ck bi lo (va_up (va_up (va_up F 6 (upd (F 6) (6 * d + sn) (nI wn))) 7 (va_cpy (F 4) (F 7) (40 * d) (40 * (6 * d + sn)) i)) 7 (upd (va_cpy (F 4) (F 7) (40 * d) (40 * (6 * d + sn)) i) ((40 * ((6 * d) + sn)) + i) (F 4 ((40 * d) + i))))]) C ho 0 8 rfl rfl 0 rfl ((40 * ((6 * d) + sn)) + i) rfl (by omega) (by decide) dX9_send_91 rfl (fun H locs ho => ?_)
              have e_8 : bX K h ar ad ck bi lo (va_up (va_up (va_up F 6 (upd (F 6) (6 * d + sn) (nI wn))) 7 (va_cpy (F 4) (F 7) (40 * d) (40 * (6 * d + sn)) i)) 7 (upd (va_cpy (F 4) (F 7) (40 * d) (40 * (6 * d + sn)) i) ((40 * ((6 * d) + sn)) + i) (F 4 ((40 * d) + i)))) = bX K h ar ad ck bi lo (va_up (va_up F 6 (upd (F 6) (6 * d + sn) (nI wn))) 7 (va_cpy (F 4) (F 7) (40 * d) (40 * (6 * d + sn)) (i + 1))) := by rw [bx_uu, cpy_succ]
              have ho : ow D vwCl A s.heap H locs [bX K h ar ad ck bi lo (va_up (va_up F 6 (upd (F 6) (6 * d + sn) (nI wn))) 7 (va_cpy (F 4) (F 7) (40 * d) (40 * (6 * d + sn)) (i + 1)))] := by rw [← e_8]; exact ho
              refine lv_iinc (v := nI (i + 1)) (lv' := [(3, .int (nI (i + 1))), (0, .ref h), (1, .int (nI d)), (2, .int (nI ((6 * d) + sn)))]) hx hb dX9_send_92 hl (k := 3) rfl (iincN _ _) (by decide) rfl (fun ls hl => ?_)
              refine lv_goto (tgt := 60) hx hb dX9_send_95 (by decide) ?_
              exact ih60 (i + 1) (by omega) (by omega) _ _ _ ho (lv_sub hl [1, 2, 3, 0] rfl)
        exact LP60 (wn - 0 + 1) 0 (Nat.lt_succ_self _) (by omega) _ _ _ ho (lv_sub hl [2, 3, 1, 0] rfl)
      · skip
        exact absurd c_4 (by omega)
    · skip
      exact absurd c_3 (by omega)
