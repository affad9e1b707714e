set_option maxHeartbeats 4000000 in
set_option maxRecDepth 100000 in
theorem c_M_airX (la : Launch) (D : va_G) (K : Nat → ClassId) (h : Nat) (ar : Nat → Nat) (ad : Nat) (ck : Nat) (bi : Nat) (lo : Nat) (F : Nat → Nat → Int32) (x : Int32) (qx : hasI bi x = false) (qb : bi ≤ 256) : MT la D K yX9_air cX9_air 2 (some .int) (rmL 1 0 0) [.ref h, .int x] [bX K h ar ad ck bi lo F] Unit (fun v _ => v = some (.int (-1))) (fun _ => [bX K h ar ad ck bi lo F]) := by
  refine Mt.ofW [(0, .ref h), (1, .int x)] (by decide) rfl (Nat.le_of_ble_eq_true rfl) ?_
  intro p e s m args below meth c A ls H locs Qz hQ C hin hl ho
  have hx := C.1.1
  have hb := C.1.2.1
  refine lv_iload_n hx hb dX9_air_0 rfl (lv_at hl 1 rfl) ?_
  refine lv_if_lt (tgt := 12) hx hb dX9_air_1 (by decide) (fun c_1 => ?_) (fun c_1 => ?_)
  · skip
    refine lv_iconst (v := (-1)) hx hb dX9_air_12 (by decide) ?_
    refine lv_goto (tgt := 22) hx hb dX9_air_13 (by decide) ?_
    exact o_iret hQ C rfl ho () rfl rfl (Nat.le_of_ble_eq_true rfl) (Nat.le_of_ble_eq_true rfl) dX9_air_22
  · skip
    refine lv_iload_n hx hb dX9_air_4 rfl (lv_at hl 1 rfl) ?_
    refine lv_aload_n hx hb dX9_air_5 rfl (lv_at hl 0 rfl) ?_
    refine o_get (v := .int (nI bi)) C ho 0 0 rfl rfl rfl 2 fX9_122 rfl dX9_air_6 ?_
    refine lv_icmp_lt (tgt := 16) hx hb dX9_air_9 (by decide) (fun c_2 => ?_) (fun c_2 => ?_)
    · skip
      exact absurd (qx.symm.trans (hasI_in c_1 (by rw [Int32.not_le]; exact c_2))) (by decide)
    · skip
      refine lv_iconst (v := (-1)) hx hb dX9_air_12 (by decide) ?_
      refine lv_goto (tgt := 22) hx hb dX9_air_13 (by decide) ?_
      exact o_iret hQ C rfl ho () rfl rfl (Nat.le_of_ble_eq_true rfl) (Nat.le_of_ble_eq_true rfl) dX9_air_22

set_option maxHeartbeats 4000000 in
set_option maxRecDepth 100000 in
theorem c_M_air (la : Launch) (D : va_G) (K : Nat → ClassId) (h : Nat) (ar : Nat → Nat) (ad : Nat) (ck : Nat) (bi : Nat) (lo : Nat) (F : Nat → Nat → Int32) (j : Nat) (y : Bool) (qj : j < bi) (qb : bi ≤ 256) (qy : F 0 j = bI y) : MT la D K yX9_air cX9_air 2 (some .int) (rmL 1 0 0) [.ref h, .int (nI j)] [bX K h ar ad ck bi lo F] Unit (fun v _ => v = some (.int (bI y))) (fun _ => [bX K h ar ad ck bi lo F]) := by
  refine Mt.ofW [(0, .ref h), (1, .int (nI j))] (by decide) rfl (Nat.le_of_ble_eq_true rfl) ?_
  intro p e s m args below meth c A ls H locs Qz hQ C hin hl ho
  have hx := C.1.1
  have hb := C.1.2.1
  refine lv_iload_n hx hb dX9_air_0 rfl (lv_at hl 1 rfl) ?_
  refine o_if_lt (tgt := 12) hx hb dX9_air_1 (by decide) (by omega) ?_
  refine lv_iload_n hx hb dX9_air_4 rfl (lv_at hl 1 rfl) ?_
  refine lv_aload_n hx hb dX9_air_5 rfl (lv_at hl 0 rfl) ?_
  refine o_get (v := .int (nI bi)) C ho 0 0 rfl rfl rfl 2 fX9_122 rfl dX9_air_6 ?_
  refine o_icmp_lt (tgt := 16) hx hb dX9_air_9 (by decide) (by first | omega | exact and1_lt _) (by first | omega | exact and1_lt _) (fun c_1 => ?_) (fun c_1 => ?_)
  · skip
    refine lv_aload_n hx hb dX9_air_16 rfl (lv_at hl 0 rfl) ?_
    refine o_get (v := .ref (ar 0)) C ho 0 0 rfl rfl rfl 3 fX9_7 rfl dX9_air_17 ?_
    refine lv_iload_n hx hb dX9_air_20 rfl (lv_at hl 1 rfl) ?_
    refine o_iald (v := bI y) C ho 0 1 rfl rfl 0 rfl j rfl (by omega) (by omega) qy dX9_air_21 ?_
    exact o_iret hQ C rfl ho () rfl rfl (Nat.le_of_ble_eq_true rfl) (Nat.le_of_ble_eq_true rfl) dX9_air_22
  · skip
    exact absurd c_1 (by omega)

set_option maxHeartbeats 4000000 in
set_option maxRecDepth 100000 in
theorem c_M_flipX (la : Launch) (D : va_G) (K : Nat → ClassId) (h : Nat) (ar : Nat → Nat) (ad : Nat) (ck : Nat) (bi : Nat) (lo : Nat) (F : Nat → Nat → Int32) (x : Int32) (qx : hasI bi x = false) (qb : bi ≤ 256) : MT la D K yX9_flip cX9_flip 2 (some .int) (rmL 1 0 0) [.ref h, .int x] [bX K h ar ad ck bi lo F] Unit (fun v _ => v = some (.int (-1))) (fun _ => [bX K h ar ad ck bi lo F]) := by
  refine Mt.ofW [(0, .ref h), (1, .int x)] (by decide) rfl (Nat.le_of_ble_eq_true rfl) ?_
  intro p e s m args below meth c A ls H locs Qz hQ C hin hl ho
  have hx := C.1.1
  have hb := C.1.2.1
  refine lv_iload_n hx hb dX9_flip_0 rfl (lv_at hl 1 rfl) ?_
  refine lv_if_lt (tgt := 12) hx hb dX9_flip_1 (by decide) (fun c_1 => ?_) (fun c_1 => ?_)
  · skip
    refine lv_iconst (v := (-1)) hx hb dX9_flip_12 (by decide) ?_
    exact o_iret hQ C rfl ho () rfl rfl (Nat.le_of_ble_eq_true rfl) (Nat.le_of_ble_eq_true rfl) dX9_flip_13
  · skip
    refine lv_iload_n hx hb dX9_flip_4 rfl (lv_at hl 1 rfl) ?_
    refine lv_aload_n hx hb dX9_flip_5 rfl (lv_at hl 0 rfl) ?_
    refine o_get (v := .int (nI bi)) C ho 0 0 rfl rfl rfl 2 fX9_122 rfl dX9_flip_6 ?_
    refine lv_icmp_lt (tgt := 14) hx hb dX9_flip_9 (by decide) (fun c_2 => ?_) (fun c_2 => ?_)
    · skip
      exact absurd (qx.symm.trans (hasI_in c_1 (by rw [Int32.not_le]; exact c_2))) (by decide)
    · skip
      refine lv_iconst (v := (-1)) hx hb dX9_flip_12 (by decide) ?_
      exact o_iret hQ C rfl ho () rfl rfl (Nat.le_of_ble_eq_true rfl) (Nat.le_of_ble_eq_true rfl) dX9_flip_13

set_option maxHeartbeats 4000000 in
set_option maxRecDepth 100000 in
theorem c_M_flip (la : Launch) (D : va_G) (K : Nat → ClassId) (h : Nat) (ar : Nat → Nat) (ad : Nat) (ck : Nat) (bi : Nat) (lo : Nat) (F : Nat → Nat → Int32) (j : Nat) (y : Bool) (qj : j < bi) (qb : bi ≤ 256) (qy : F 0 j = bI y) : MT la D K yX9_flip cX9_flip 2 (some .int) (rmL 1 0 0) [.ref h, .int (nI j)] [bX K h ar ad ck bi lo F] Unit (fun v _ => v = some (.int (nI 0))) (fun _ => [bX K h ar ad ck bi lo (va_up F 0 (upd (F 0) j (bI (!y))))]) := by
  refine Mt.ofW [(0, .ref h), (1, .int (nI j))] (by decide) rfl (Nat.le_of_ble_eq_true rfl) ?_
  intro p e s m args below meth c A ls H locs Qz hQ C hin hl ho
  have hx := C.1.1
  have hb := C.1.2.1
  refine lv_iload_n hx hb dX9_flip_0 rfl (lv_at hl 1 rfl) ?_
  refine o_if_lt (tgt := 12) hx hb dX9_flip_1 (by decide) (by omega) ?_
  refine lv_iload_n hx hb dX9_flip_4 rfl (lv_at hl 1 rfl) ?_
  refine lv_aload_n hx hb dX9_flip_5 rfl (lv_at hl 0 rfl) ?_
  refine o_get (v := .int (nI bi)) C ho 0 0 rfl rfl rfl 2 fX9_122 rfl dX9_flip_6 ?_
  refine o_icmp_lt (tgt := 14) hx hb dX9_flip_9 (by decide) (by first | omega | exact and1_lt _) (by first | omega | exact and1_lt _) (fun c_1 => ?_) (fun c_1 => ?_)
  · skip
    refine lv_aload_n hx hb dX9_flip_14 rfl (lv_at hl 0 rfl) ?_
    refine o_get (v := .ref (ar 0)) C ho 0 0 rfl rfl rfl 3 fX9_7 rfl dX9_flip_15 ?_
    refine lv_iload_n hx hb dX9_flip_18 rfl (lv_at hl 1 rfl) ?_
    refine lv_iconst (v := nI 1) hx hb dX9_flip_19 (by decide) ?_
    refine lv_aload_n hx hb dX9_flip_20 rfl (lv_at hl 0 rfl) ?_
    refine o_get (v := .ref (ar 0)) C ho 0 0 rfl rfl rfl 3 fX9_7 rfl dX9_flip_21 ?_
    refine lv_iload_n hx hb dX9_flip_24 rfl (lv_at hl 1 rfl) ?_
    refine o_iald (v := bI y) C ho 0 1 rfl rfl 0 rfl j rfl (by omega) (by omega) qy dX9_flip_25 ?_
    refine lv_isub hx hb dX9_flip_26 ?_
    refine o_top (y := bI (!y)) (bI_sub y) ?_
    refine o_iast (bs' := [bX K h ar ad ck bi lo (va_up F 0 (upd (F 0) j (bI (!y))))]) C ho 0 1 rfl rfl 0 rfl j rfl (by omega) (by decide) dX9_flip_27 rfl (fun H locs ho => ?_)
    refine lv_iconst (v := nI 0) hx hb dX9_flip_28 (by decide) ?_
    exact o_iret hQ C rfl ho () rfl rfl (Nat.le_of_ble_eq_true rfl) (Nat.le_of_ble_eq_true rfl) dX9_flip_29
  · skip
    exact absurd c_1 (by omega)

set_option maxHeartbeats 4000000 in
set_option maxRecDepth 100000 in
theorem c_M_readX (la : Launch) (D : va_G) (K : Nat → ClassId) (h : Nat) (ar : Nat → Nat) (ad : Nat) (ck : Nat) (bi : Nat) (lo : Nat) (F : Nat → Nat → Int32) (x : Int32) (i : Int32) (qx : x < nI 0 ∨ nI 1 < x) : MT la D K yX9_read cX9_read 3 (some .int) (rmL 2 0 0) [.ref h, .int x, .int i] [bX K h ar ad ck bi lo F] Unit (fun v _ => v = some (.int (-1))) (fun _ => [bX K h ar ad ck bi lo F]) := by
  refine Mt.ofW [(0, .ref h), (1, .int x), (2, .int i)] (by decide) rfl (Nat.le_of_ble_eq_true rfl) ?_
  intro p e s m args below meth c A ls H locs Qz hQ C hin hl ho
  have hx := C.1.1
  have hb := C.1.2.1
  refine lv_iload_n hx hb dX9_read_0 rfl (lv_at hl 1 rfl) ?_
  refine lv_iconst (v := nI 0) hx hb dX9_read_1 (by decide) ?_
  refine lv_iconst (v := nI 1) hx hb dX9_read_2 (by decide) ?_
  refine o_callS (wr := [bX K h ar ad ck bi lo F]) (rest := []) (As := [.int x, .int (nI 0), .int (nI 1)]) C (c_M_inN la D K x 0 1 (by first | omega | assumption | (simp only [List.length_append, List.length_cons, List.length_nil, List.length_modify, List.length_set, nb_len, rb_len, rbp_len, sl_len, slN_len, wh_len, wt_len, hd10_len, hdB_len, thr_len, ldp_len, ldB_len, tens_len, whz_len, majL_len, mf_len, tkL_len, ldY_len, fif_len, ldY_len]; omega) | decide)) kX9_99 vX9_in (by decide) rfl ho [0] 1 (by decide +kernel) rfl rfl hl.1 rfl (Nat.le_of_ble_eq_true rfl) dX9_read_3 0 0 rfl rfl (by decide) (fun v u_1 H locs hq ho => ?_)
  obtain rfl := hq
  have ho : ow D vwCl A s.heap H locs [bX K h ar ad ck bi lo F] := ho
  refine W.eq (g2 := F0 m 6 ls [.int (bI false)]) rfl ?_
  refine o_ifb_eq (tgt := 35) hx hb dX9_read_6 (by decide) (fun _ => ?_) (fun c9 => absurd c9 (by decide))
  refine lv_iconst (v := (-1)) hx hb dX9_read_35 (by decide) ?_
  exact o_iret hQ C rfl ho () rfl rfl (Nat.le_of_ble_eq_true rfl) (Nat.le_of_ble_eq_true rfl) dX9_read_36

set_option maxHeartbeats 4000000 in
set_option maxRecDepth 100000 in
theorem c_M_read0 (la : Launch) (D : va_G) (K : Nat → ClassId) (h : Nat) (ar : Nat → Nat) (ad : Nat) (ck : Nat) (bi : Nat) (lo : Nat) (F : Nat → Nat → Int32) (d : Nat) (i : Int32) (q2d : d < 2) (q0 : F 15 d = nI 0) : MT la D K yX9_read cX9_read 3 (some .int) (rmL 2 0 0) [.ref h, .int (nI d), .int i] [bX K h ar ad ck bi lo F] Unit (fun v _ => v = some (.int (-1))) (fun _ => [bX K h ar ad ck bi lo F]) := by
  refine Mt.ofW [(0, .ref h), (1, .int (nI d)), (2, .int i)] (by decide) rfl (Nat.le_of_ble_eq_true rfl) ?_
  intro p e s m args below meth c A ls H locs Qz hQ C hin hl ho
  have hx := C.1.1
  have hb := C.1.2.1
  refine lv_iload_n hx hb dX9_read_0 rfl (lv_at hl 1 rfl) ?_
  refine lv_iconst (v := nI 0) hx hb dX9_read_1 (by decide) ?_
  refine lv_iconst (v := nI 1) hx hb dX9_read_2 (by decide) ?_
  refine o_callS (wr := [bX K h ar ad ck bi lo F]) (rest := []) (As := [.int (nI d), .int (nI 0), .int (nI 1)]) C (c_M_in la D K d 0 1 (by first | omega | assumption | (simp only [List.length_append, List.length_cons, List.length_nil, List.length_modify, List.length_set, nb_len, rb_len, rbp_len, sl_len, slN_len, wh_len, wt_len, hd10_len, hdB_len, thr_len, ldp_len, ldB_len, tens_len, whz_len, majL_len, mf_len, tkL_len, ldY_len, fif_len, ldY_len]; omega) | decide) (by first | omega | assumption | (simp only [List.length_append, List.length_cons, List.length_nil, List.length_modify, List.length_set, nb_len, rb_len, rbp_len, sl_len, slN_len, wh_len, wt_len, hd10_len, hdB_len, thr_len, ldp_len, ldB_len, tens_len, whz_len, majL_len, mf_len, tkL_len, ldY_len, fif_len, ldY_len]; omega) | decide) (by first | omega | assumption | (simp only [List.length_append, List.length_cons, List.length_nil, List.length_modify, List.length_set, nb_len, rb_len, rbp_len, sl_len, slN_len, wh_len, wt_len, hd10_len, hdB_len, thr_len, ldp_len, ldB_len, tens_len, whz_len, majL_len, mf_len, tkL_len, ldY_len, fif_len, ldY_len]; omega) | decide)) kX9_99 vX9_in (by decide) rfl ho [0] 1 (by decide +kernel) rfl rfl hl.1 rfl (Nat.le_of_ble_eq_true rfl) dX9_read_3 0 0 rfl rfl (by decide) (fun v u_1 H locs hq ho => ?_)
  obtain rfl := hq
  have ho : ow D vwCl A s.heap H locs [bX K h ar ad ck bi lo F] := ho
  refine W.eq (g2 := F0 m 6 ls [.int (bI (decide (0 ≤ d ∧ d ≤ 1)))]) rfl ?_
  refine o_ifb_eq (tgt := 35) hx hb dX9_read_6 (by decide) (fun c_2 => ?_) (fun c_2 => ?_)
  · skip
    rw [decide_eq_true (by omega)] at c_2; exact absurd c_2 (by decide)
  · skip
    refine lv_aload_n hx hb dX9_read_9 rfl (lv_at hl 0 rfl) ?_
    refine o_get (v := .ref (ar 15)) C ho 0 0 rfl rfl rfl 19 fX9_56 rfl dX9_read_10 ?_
    refine lv_iload_n hx hb dX9_read_13 rfl (lv_at hl 1 rfl) ?_
    refine o_iald (v := nI 0) C ho 0 16 rfl rfl 0 rfl d rfl (by omega) (by omega) q0 dX9_read_14 ?_
    refine o_if_eq (tgt := 35) hx hb dX9_read_15 (by decide) (by decide) (fun _ => ?_) (fun c9 => absurd c9 (by decide))
    refine lv_iconst (v := (-1)) hx hb dX9_read_35 (by decide) ?_
    exact o_iret hQ C rfl ho () rfl rfl (Nat.le_of_ble_eq_true rfl) (Nat.le_of_ble_eq_true rfl) dX9_read_36

set_option maxHeartbeats 4000000 in
set_option maxRecDepth 100000 in
theorem c_M_readO (la : Launch) (D : va_G) (K : Nat → ClassId) (h : Nat) (ar : Nat → Nat) (ad : Nat) (ck : Nat) (bi : Nat) (lo : Nat) (F : Nat → Nat → Int32) (d : Nat) (i : Int32) (tn : Nat) (ln : Nat) (q2d : d < 2) (q0 : F 15 d = nI tn) (qt : 0 < tn) (qt2 : tn ≤ 6) (ql : F 16 (6 * d) = nI ln) (qi : hasI ln i = false) : MT la D K yX9_read cX9_read 3 (some .int) (rmL 2 0 0) [.ref h, .int (nI d), .int i] [bX K h ar ad ck bi lo F] Unit (fun v _ => v = some (.int (-1))) (fun _ => [bX K h ar ad ck bi lo F]) := by
  refine Mt.ofW [(0, .ref h), (1, .int (nI d)), (2, .int i)] (by decide) rfl (Nat.le_of_ble_eq_true rfl) ?_
  intro p e s m args below meth c A ls H locs Qz hQ C hin hl ho
  have hx := C.1.1
  have hb := C.1.2.1
  refine lv_iload_n hx hb dX9_read_0 rfl (lv_at hl 1 rfl) ?_
  refine lv_iconst (v := nI 0) hx hb dX9_read_1 (by decide) ?_
  refine lv_iconst (v := nI 1) hx hb dX9_read_2 (by decide) ?_
  refine o_callS (wr := [bX K h ar ad ck bi lo F]) (rest := []) (As := [.int (nI d), .int (nI 0), .int (nI 1)]) C (c_M_in la D K d 0 1 (by first | omega | assumption | (simp only [List.length_append, List.length_cons, List.length_nil, List.length_modify, List.length_set, nb_len, rb_len, rbp_len, sl_len, slN_len, wh_len, wt_len, hd10_len, hdB_len, thr_len, ldp_len, ldB_len, tens_len, whz_len, majL_len, mf_len, tkL_len, ldY_len, fif_len, ldY_len]; omega) | decide) (by first | omega | assumption | (simp only [List.length_append, List.length_cons, List.length_nil, List.length_modify, List.length_set, nb_len, rb_len, rbp_len, sl_len, slN_len, wh_len, wt_len, hd10_len, hdB_len, thr_len, ldp_len, ldB_len, tens_len, whz_len, majL_len, mf_len, tkL_len, ldY_len, fif_len, ldY_len]; omega) | decide) (by first | omega | assumption | (simp only [List.length_append, List.length_cons, List.length_nil, List.length_modify, List.length_set, nb_len, rb_len, rbp_len, sl_len, slN_len, wh_len, wt_len, hd10_len, hdB_len, thr_len, ldp_len, ldB_len, tens_len, whz_len, majL_len, mf_len, tkL_len, ldY_len, fif_len, ldY_len]; omega) | decide)) kX9_99 vX9_in (by decide) rfl ho [0] 1 (by decide +kernel) rfl rfl hl.1 rfl (Nat.le_of_ble_eq_true rfl) dX9_read_3 0 0 rfl rfl (by decide) (fun v u_1 H locs hq ho => ?_)
  obtain rfl := hq
  have ho : ow D vwCl A s.heap H locs [bX K h ar ad ck bi lo F] := ho
  refine W.eq (g2 := F0 m 6 ls [.int (bI (decide (0 ≤ d ∧ d ≤ 1)))]) rfl ?_
  refine o_ifb_eq (tgt := 35) hx hb dX9_read_6 (by decide) (fun c_2 => ?_) (fun c_2 => ?_)
  · skip
    rw [decide_eq_true (by omega)] at c_2; exact absurd c_2 (by decide)
  · skip
    refine lv_aload_n hx hb dX9_read_9 rfl (lv_at hl 0 rfl) ?_
    refine o_get (v := .ref (ar 15)) C ho 0 0 rfl rfl rfl 19 fX9_56 rfl dX9_read_10 ?_
    refine lv_iload_n hx hb dX9_read_13 rfl (lv_at hl 1 rfl) ?_
    refine o_iald (v := nI tn) C ho 0 16 rfl rfl 0 rfl d rfl (by omega) (by omega) q0 dX9_read_14 ?_
    refine o_if_eq (tgt := 35) hx hb dX9_read_15 (by decide) (by omega) (fun c_3 => ?_) (fun c_3 => ?_)
    · skip
      exact absurd c_3 (by omega)
    · skip
      refine lv_iload_n hx hb dX9_read_18 rfl (lv_at hl 2 rfl) ?_
      refine lv_if_lt (tgt := 35) hx hb dX9_read_19 (by decide) (fun c_4 => ?_) (fun c_4 => ?_)
      · skip
        refine lv_iconst (v := (-1)) hx hb dX9_read_35 (by decide) ?_
        exact o_iret hQ C rfl ho () rfl rfl (Nat.le_of_ble_eq_true rfl) (Nat.le_of_ble_eq_true rfl) dX9_read_36
      · skip
        refine lv_iload_n hx hb dX9_read_22 rfl (lv_at hl 2 rfl) ?_
        refine lv_aload_n hx hb dX9_read_23 rfl (lv_at hl 0 rfl) ?_
        refine o_get (v := .ref (ar 16)) C ho 0 0 rfl rfl rfl 20 fX9_59 rfl dX9_read_24 ?_
        refine lv_bipush (v := nI 6) hx hb dX9_read_27 (by decide) ?_
        refine lv_iload_n hx hb dX9_read_29 rfl (lv_at hl 1 rfl) ?_
        refine o_mul hx hb dX9_read_30 ?_
        refine o_iald (v := nI ln) C ho 0 17 rfl rfl 0 rfl (6 * d) rfl (by omega) (by omega) ql dX9_read_31 ?_
        refine lv_icmp_lt (tgt := 37) hx hb dX9_read_32 (by decide) (fun c_5 => ?_) (fun c_5 => ?_)
        · skip
          exact absurd (qi.symm.trans (hasI_in c_4 (by rw [Int32.not_le]; exact c_5))) (by decide)
        · skip
          refine lv_iconst (v := (-1)) hx hb dX9_read_35 (by decide) ?_
          exact o_iret hQ C rfl ho () rfl rfl (Nat.le_of_ble_eq_true rfl) (Nat.le_of_ble_eq_true rfl) dX9_read_36

set_option maxHeartbeats 4000000 in
set_option maxRecDepth 100000 in
theorem c_M_read (la : Launch) (D : va_G) (K : Nat → ClassId) (h : Nat) (ar : Nat → Nat) (ad : Nat) (ck : Nat) (bi : Nat) (lo : Nat) (F : Nat → Nat → Int32) (d : Nat) (j : Nat) (tn : Nat) (ln : Nat) (y : Nat) (q2d : d < 2) (q0 : F 15 d = nI tn) (qt : 0 < tn) (qt2 : tn ≤ 6) (ql : F 16 (6 * d) = nI ln) (qj : j < ln) (qln : ln ≤ 255) (qy : F 17 (1530 * d + j) = nI y) : MT la D K yX9_read cX9_read 3 (some .int) (rmL 2 0 0) [.ref h, .int (nI d), .int (nI j)] [bX K h ar ad ck bi lo F] Unit (fun v _ => v = some (.int (nI y))) (fun _ => [bX K h ar ad ck bi lo F]) := by
  refine Mt.ofW [(0, .ref h), (1, .int (nI d)), (2, .int (nI j))] (by decide) rfl (Nat.le_of_ble_eq_true rfl) ?_
  intro p e s m args below meth c A ls H locs Qz hQ C hin hl ho
  have hx := C.1.1
  have hb := C.1.2.1
  refine lv_iload_n hx hb dX9_read_0 rfl (lv_at hl 1 rfl) ?_
  refine lv_iconst (v := nI 0) hx hb dX9_read_1 (by decide) ?_
  refine lv_iconst (v := nI 1) hx hb dX9_read_2 (by decide) ?_
  refine o_callS (wr := [bX K h ar ad ck bi lo F]) (rest := []) (As := [.int (nI d), .int (nI 0), .int (nI 1)]) C (c_M_in la D K d 0 1 (by first | omega | assumption | (simp only [List.length_append, List.length_cons, List.length_nil, List.length_modify, List.length_set, nb_len, rb_len, rbp_len, sl_len, slN_len, wh_len, wt_len, hd10_len, hdB_len, thr_len, ldp_len, ldB_len, tens_len, whz_len, majL_len, mf_len, tkL_len, ldY_len, fif_len, ldY_len]; omega) | decide) (by first | omega | assumption | (simp only [List.length_append, List.length_cons, List.length_nil, List.length_modify, List.length_set, nb_len, rb_len, rbp_len, sl_len, slN_len, wh_len, wt_len, hd10_len, hdB_len, thr_len, ldp_len, ldB_len, tens_len, whz_len, majL_len, mf_len, tkL_len, ldY_len, fif_len, ldY_len]; omega) | decide) (by first | omega | assumption | (simp only [List.length_append, List.length_cons, List.length_nil, List.length_modify, List.length_set, nb_len, rb_len, rbp_len, sl_len, slN_len, wh_len, wt_len, hd10_len, hdB_len, thr_len, ldp_len, ldB_len, tens_len, whz_len, majL_len, mf_len, tkL_len, ldY_len, fif_len, ldY_len]; omega) | decide)) kX9_99 vX9_in (by decide) rfl ho [0] 1 (by decide +kernel) rfl rfl hl.1 rfl (Nat.le_of_ble_eq_true rfl) dX9_read_3 0 0 rfl rfl (by decide) (fun v u_1 H locs hq ho => ?_)
  obtain rfl := hq
  have ho : ow D vwCl A s.heap H locs [bX K h ar ad ck bi lo F] := ho
  refine W.eq (g2 := F0 m 6 ls [.int (bI (decide (0 ≤ d ∧ d ≤ 1)))]) rfl ?_
  refine o_ifb_eq (tgt := 35) hx hb dX9_read_6 (by decide) (fun c_2 => ?_) (fun c_2 => ?_)
  · skip
    rw [decide_eq_true (by omega)] at c_2; exact absurd c_2 (by decide)
  · skip
    refine lv_aload_n hx hb dX9_read_9 rfl (lv_at hl 0 rfl) ?_
    refine o_get (v := .ref (ar 15)) C ho 0 0 rfl rfl rfl 19 fX9_56 rfl dX9_read_10 ?_
    refine lv_iload_n hx hb dX9_read_13 rfl (lv_at hl 1 rfl) ?_
    refine o_iald (v := nI tn) C ho 0 16 rfl rfl 0 rfl d rfl (by omega) (by omega) q0 dX9_read_14 ?_
    refine o_if_eq (tgt := 35) hx hb dX9_read_15 (by decide) (by omega) (fun c_3 => ?_) (fun c_3 => ?_)
    · skip
      exact absurd c_3 (by omega)
    · skip
      refine lv_iload_n hx hb dX9_read_18 rfl (lv_at hl 2 rfl) ?_
      refine o_if_lt (tgt := 35) hx hb dX9_read_19 (by decide) (by omega) ?_
      refine lv_iload_n hx hb dX9_read_22 rfl (lv_at hl 2 rfl) ?_
      refine lv_aload_n hx hb dX9_read_23 rfl (lv_at hl 0 rfl) ?_
      refine o_get (v := .ref (ar 16)) C ho 0 0 rfl rfl rfl 20 fX9_59 rfl dX9_read_24 ?_
      refine lv_bipush (v := nI 6) hx hb dX9_read_27 (by decide) ?_
      refine lv_iload_n hx hb dX9_read_29 rfl (lv_at hl 1 rfl) ?_
      refine o_mul hx hb dX9_read_30 ?_
      refine o_iald (v := nI ln) C ho 0 17 rfl rfl 0 rfl (6 * d) rfl (by omega) (by omega) ql dX9_read_31 ?_
      refine o_icmp_lt (tgt := 37) hx hb dX9_read_32 (by decide) (by first | omega | exact and1_lt _) (by first | omega | exact and1_lt _) (fun c_4 => ?_) (fun c_4 => ?_)
      · skip
        refine lv_aload_n hx hb dX9_read_37 rfl (lv_at hl 0 rfl) ?_
        refine o_get (v := .ref (ar 17)) C ho 0 0 rfl rfl rfl 21 fX9_62 rfl dX9_read_38 ?_
        refine lv_sipush (v := nI 1530) hx hb dX9_read_41 (by decide) ?_
        refine lv_iload_n hx hb dX9_read_44 rfl (lv_at hl 1 rfl) ?_
        refine o_mul hx hb dX9_read_45 ?_
        refine lv_iload_n hx hb dX9_read_46 rfl (lv_at hl 2 rfl) ?_
        refine o_add hx hb dX9_read_47 ?_
        refine o_iald (v := nI y) C ho 0 18 rfl rfl 0 rfl ((1530 * d) + j) rfl (by omega) (by omega) qy dX9_read_48 ?_
        exact o_iret hQ C rfl ho () rfl rfl (Nat.le_of_ble_eq_true rfl) (Nat.le_of_ble_eq_true rfl) dX9_read_49
      · skip
        exact absurd c_4 (by omega)

set_option maxHeartbeats 4000000 in
set_option maxRecDepth 100000 in
theorem c_M_count0 (la : Launch) (D : va_G) (K : Nat → ClassId) (h : Nat) (ar : Nat → Nat) (ad : Nat) (ck : Nat) (bi : Nat) (lo : Nat) (F : Nat → Nat → Int32)  : MT la D K yX9_count cX9_count 2 (some .int) (rmL 2 0 0) [.ref h, .int (nI 0)] [bX K h ar ad ck bi lo F] Unit (fun v _ => v = some (.int (nI ck))) (fun _ => [bX K h ar ad ck bi lo F]) := by
  refine Mt.ofW [(0, .ref h), (1, .int (nI 0))] (by decide) rfl (Nat.le_of_ble_eq_true rfl) ?_
  intro p e s m args below meth c A ls H locs Qz hQ C hin hl ho
  have hx := C.1.1
  have hb := C.1.2.1
  refine lv_iload_n hx hb dX9_count_0 rfl (lv_at hl 1 rfl) ?_
  refine lv_iconst (v := nI 0) hx hb dX9_count_1 (by decide) ?_
  refine lv_iconst (v := nI 1) hx hb dX9_count_2 (by decide) ?_
  refine o_callS (wr := [bX K h ar ad ck bi lo F]) (rest := []) (As := [.int (nI 0), .int (nI 0), .int (nI 1)]) C (c_M_in la D K 0 0 1 (by first | omega | assumption | (simp only [List.length_append, List.length_cons, List.length_nil, List.length_modify, List.length_set, nb_len, rb_len, rbp_len, sl_len, slN_len, wh_len, wt_len, hd10_len, hdB_len, thr_len, ldp_len, ldB_len, tens_len, whz_len, majL_len, mf_len, tkL_len, ldY_len, fif_len, ldY_len]; omega) | decide) (by first | omega | assumption | (simp only [List.length_append, List.length_cons, List.length_nil, List.length_modify, List.length_set, nb_len, rb_len, rbp_len, sl_len, slN_len, wh_len, wt_len, hd10_len, hdB_len, thr_len, ldp_len, ldB_len, tens_len, whz_len, majL_len, mf_len, tkL_len, ldY_len, fif_len, ldY_len]; omega) | decide) (by first | omega | assumption | (simp only [List.length_append, List.length_cons, List.length_nil, List.length_modify, List.length_set, nb_len, rb_len, rbp_len, sl_len, slN_len, wh_len, wt_len, hd10_len, hdB_len, thr_len, ldp_len, ldB_len, tens_len, whz_len, majL_len, mf_len, tkL_len, ldY_len, fif_len, ldY_len]; omega) | decide)) kX9_99 vX9_in (by decide) rfl ho [0] 1 (by decide +kernel) rfl rfl hl.1 rfl (Nat.le_of_ble_eq_true rfl) dX9_count_3 0 0 rfl rfl (by decide) (fun v u_1 H locs hq ho => ?_)
  obtain rfl := hq
  have ho : ow D vwCl A s.heap H locs [bX K h ar ad ck bi lo F] := ho
  refine W.eq (g2 := F0 m 6 ls [.int (bI (decide (0 ≤ 0 ∧ 0 ≤ 1)))]) rfl ?_
  refine o_ifb_eq (tgt := 25) hx hb dX9_count_6 (by decide) (fun c_2 => ?_) (fun c_2 => ?_)
  · skip
    rw [decide_eq_true (by omega)] at c_2; exact absurd c_2 (by decide)
  · skip
    refine lv_iload_n hx hb dX9_count_9 rfl (lv_at hl 1 rfl) ?_
    refine o_if_ne (tgt := 20) hx hb dX9_count_10 (by decide) (by decide) (fun c9 => absurd c9 (by decide)) (fun _ => ?_)
    refine lv_aload_n hx hb dX9_count_13 rfl (lv_at hl 0 rfl) ?_
    refine o_get (v := .int (nI ck)) C ho 0 0 rfl rfl rfl 1 fX9_131 rfl dX9_count_14 ?_
    refine lv_goto (tgt := 24) hx hb dX9_count_17 (by decide) ?_
    exact o_iret hQ C rfl ho () rfl rfl (Nat.le_of_ble_eq_true rfl) (Nat.le_of_ble_eq_true rfl) dX9_count_24

set_option maxHeartbeats 4000000 in
set_option maxRecDepth 100000 in
theorem c_M_count1 (la : Launch) (D : va_G) (K : Nat → ClassId) (h : Nat) (ar : Nat → Nat) (ad : Nat) (ck : Nat) (bi : Nat) (lo : Nat) (F : Nat → Nat → Int32)  : MT la D K yX9_count cX9_count 2 (some .int) (rmL 2 0 0) [.ref h, .int (nI 1)] [bX K h ar ad ck bi lo F] Unit (fun v _ => v = some (.int (nI bi))) (fun _ => [bX K h ar ad ck bi lo F]) := by
  refine Mt.ofW [(0, .ref h), (1, .int (nI 1))] (by decide) rfl (Nat.le_of_ble_eq_true rfl) ?_
  intro p e s m args below meth c A ls H locs Qz hQ C hin hl ho
  have hx := C.1.1
  have hb := C.1.2.1
  refine lv_iload_n hx hb dX9_count_0 rfl (lv_at hl 1 rfl) ?_
  refine lv_iconst (v := nI 0) hx hb dX9_count_1 (by decide) ?_
  refine lv_iconst (v := nI 1) hx hb dX9_count_2 (by decide) ?_
  refine o_callS (wr := [bX K h ar ad ck bi lo F]) (rest := []) (As := [.int (nI 1), .int (nI 0), .int (nI 1)]) C (c_M_in la D K 1 0 1 (by first | omega | assumption | (simp only [List.length_append, List.length_cons, List.length_nil, List.length_modify, List.length_set, nb_len, rb_len, rbp_len, sl_len, slN_len, wh_len, wt_len, hd10_len, hdB_len, thr_len, ldp_len, ldB_len, tens_len, whz_len, majL_len, mf_len, tkL_len, ldY_len, fif_len, ldY_len]; omega) | decide) (by first | omega | assumption | (simp only [List.length_append, List.length_cons, List.length_nil, List.length_modify, List.length_set, nb_len, rb_len, rbp_len, sl_len, slN_len, wh_len, wt_len, hd10_len, hdB_len, thr_len, ldp_len, ldB_len, tens_len, whz_len, majL_len, mf_len, tkL_len, ldY_len, fif_len, ldY_len]; omega) | decide) (by first | omega | assumption | (simp only [List.length_append, List.length_cons, List.length_nil, List.length_modify, List.length_set, nb_len, rb_len, rbp_len, sl_len, slN_len, wh_len, wt_len, hd10_len, hdB_len, thr_len, ldp_len, ldB_len, tens_len, whz_len, majL_len, mf_len, tkL_len, ldY_len, fif_len, ldY_len]; omega) | decide)) kX9_99 vX9_in (by decide) rfl ho [0] 1 (by decide +kernel) rfl rfl hl.1 rfl (Nat.le_of_ble_eq_true rfl) dX9_count_3 0 0 rfl rfl (by decide) (fun v u_1 H locs hq ho => ?_)
  obtain rfl := hq
  have ho : ow D vwCl A s.heap H locs [bX K h ar ad ck bi lo F] := ho
  refine W.eq (g2 := F0 m 6 ls [.int (bI (decide (0 ≤ 1 ∧ 1 ≤ 1)))]) rfl ?_
  refine o_ifb_eq (tgt := 25) hx hb dX9_count_6 (by decide) (fun c_2 => ?_) (fun c_2 => ?_)
  · skip
    rw [decide_eq_true (by omega)] at c_2; exact absurd c_2 (by decide)
  · skip
    refine lv_iload_n hx hb dX9_count_9 rfl (lv_at hl 1 rfl) ?_
    refine o_if_ne (tgt := 20) hx hb dX9_count_10 (by decide) (by decide) (fun _ => ?_) (fun c9 => absurd c9 (by decide))
    refine lv_aload_n hx hb dX9_count_20 rfl (lv_at hl 0 rfl) ?_
    refine o_get (v := .int (nI bi)) C ho 0 0 rfl rfl rfl 2 fX9_122 rfl dX9_count_21 ?_
    exact o_iret hQ C rfl ho () rfl rfl (Nat.le_of_ble_eq_true rfl) (Nat.le_of_ble_eq_true rfl) dX9_count_24

set_option maxHeartbeats 4000000 in
set_option maxRecDepth 100000 in
theorem c_M_count2 (la : Launch) (D : va_G) (K : Nat → ClassId) (h : Nat) (ar : Nat → Nat) (ad : Nat) (ck : Nat) (bi : Nat) (lo : Nat) (F : Nat → Nat → Int32) (wn : Nat) (qw : F 3 0 = nI wn) : MT la D K yX9_count cX9_count 2 (some .int) (rmL 2 0 0) [.ref h, .int (nI 2)] [bX K h ar ad ck bi lo F] Unit (fun v _ => v = some (.int (nI wn))) (fun _ => [bX K h ar ad ck bi lo F]) := by
  refine Mt.ofW [(0, .ref h), (1, .int (nI 2))] (by decide) rfl (Nat.le_of_ble_eq_true rfl) ?_
  intro p e s m args below meth c A ls H locs Qz hQ C hin hl ho
  have hx := C.1.1
  have hb := C.1.2.1
  refine lv_iload_n hx hb dX9_count_0 rfl (lv_at hl 1 rfl) ?_
  refine lv_iconst (v := nI 0) hx hb dX9_count_1 (by decide) ?_
  refine lv_iconst (v := nI 1) hx hb dX9_count_2 (by decide) ?_
  refine o_callS (wr := [bX K h ar ad ck bi lo F]) (rest := []) (As := [.int (nI 2), .int (nI 0), .int (nI 1)]) C (c_M_in la D K 2 0 1 (by first | omega | assumption | (simp only [List.length_append, List.length_cons, List.length_nil, List.length_modify, List.length_set, nb_len, rb_len, rbp_len, sl_len, slN_len, wh_len, wt_len, hd10_len, hdB_len, thr_len, ldp_len, ldB_len, tens_len, whz_len, majL_len, mf_len, tkL_len, ldY_len, fif_len, ldY_len]; omega) | decide) (by first | omega | assumption | (simp only [List.length_append, List.length_cons, List.length_nil, List.length_modify, List.length_set, nb_len, rb_len, rbp_len, sl_len, slN_len, wh_len, wt_len, hd10_len, hdB_len, thr_len, ldp_len, ldB_len, tens_len, whz_len, majL_len, mf_len, tkL_len, ldY_len, fif_len, ldY_len]; omega) | decide) (by first | omega | assumption | (simp only [List.length_append, List.length_cons, List.length_nil, List.length_modify, List.length_set, nb_len, rb_len, rbp_len, sl_len, slN_len, wh_len, wt_len, hd10_len, hdB_len, thr_len, ldp_len, ldB_len, tens_len, whz_len, majL_len, mf_len, tkL_len, ldY_len, fif_len, ldY_len]; omega) | decide)) kX9_99 vX9_in (by decide) rfl ho [0] 1 (by decide +kernel) rfl rfl hl.1 rfl (Nat.le_of_ble_eq_true rfl) dX9_count_3 0 0 rfl rfl (by decide) (fun v u_1 H locs hq ho => ?_)
  obtain rfl := hq
  have ho : ow D vwCl A s.heap H locs [bX K h ar ad ck bi lo F] := ho
  refine W.eq (g2 := F0 m 6 ls [.int (bI (decide (0 ≤ 2 ∧ 2 ≤ 1)))]) rfl ?_
  refine o_ifb_eq (tgt := 25) hx hb dX9_count_6 (by decide) (fun c_2 => ?_) (fun c_2 => ?_)
  · skip
    refine lv_iload_n hx hb dX9_count_25 rfl (lv_at hl 1 rfl) ?_
    refine lv_iconst (v := nI 2) hx hb dX9_count_26 (by decide) ?_
    refine lv_iconst (v := nI 3) hx hb dX9_count_27 (by decide) ?_
    refine o_callS (wr := [bX K h ar ad ck bi lo F]) (rest := []) (As := [.int (nI 2), .int (nI 2), .int (nI 3)]) C (c_M_in la D K 2 2 3 (by first | omega | assumption | (simp only [List.length_append, List.length_cons, List.length_nil, List.length_modify, List.length_set, nb_len, rb_len, rbp_len, sl_len, slN_len, wh_len, wt_len, hd10_len, hdB_len, thr_len, ldp_len, ldB_len, tens_len, whz_len, majL_len, mf_len, tkL_len, ldY_len, fif_len, ldY_len]; omega) | decide) (by first | omega | assumption | (simp only [List.length_append, List.length_cons, List.length_nil, List.length_modify, List.length_set, nb_len, rb_len, rbp_len, sl_len, slN_len, wh_len, wt_len, hd10_len, hdB_len, thr_len, ldp_len, ldB_len, tens_len, whz_len, majL_len, mf_len, tkL_len, ldY_len, fif_len, ldY_len]; omega) | decide) (by first | omega | assumption | (simp only [List.length_append, List.length_cons, List.length_nil, List.length_modify, List.length_set, nb_len, rb_len, rbp_len, sl_len, slN_len, wh_len, wt_len, hd10_len, hdB_len, thr_len, ldp_len, ldB_len, tens_len, whz_len, majL_len, mf_len, tkL_len, ldY_len, fif_len, ldY_len]; omega) | decide)) kX9_99 vX9_in (by decide) rfl ho [0] 1 (by decide +kernel) rfl rfl hl.1 rfl (Nat.le_of_ble_eq_true rfl) dX9_count_28 0 0 rfl rfl (by decide) (fun v u_3 H locs hq ho => ?_)
    obtain rfl := hq
    have ho : ow D vwCl A s.heap H locs [bX K h ar ad ck bi lo F] := ho
    refine W.eq (g2 := F0 m 31 ls [.int (bI (decide (2 ≤ 2 ∧ 2 ≤ 3)))]) rfl ?_
    refine o_ifb_eq (tgt := 45) hx hb dX9_count_31 (by decide) (fun c_4 => ?_) (fun c_4 => ?_)
    · skip
      rw [decide_eq_true (by omega)] at c_4; exact absurd c_4 (by decide)
    · skip
      refine lv_aload_n hx hb dX9_count_34 rfl (lv_at hl 0 rfl) ?_
      refine o_get (v := .ref (ar 3)) C ho 0 0 rfl rfl rfl 7 fX9_19 rfl dX9_count_35 ?_
      refine lv_iload_n hx hb dX9_count_38 rfl (lv_at hl 1 rfl) ?_
      refine lv_iconst (v := nI 2) hx hb dX9_count_39 (by decide) ?_
      refine o_sub hx hb dX9_count_40 (by omega) ?_
      refine o_iald (v := nI wn) C ho 0 4 rfl rfl 0 rfl (2 - 2) rfl (by omega) (by omega) qw dX9_count_41 ?_
      refine lv_goto (tgt := 46) hx hb dX9_count_42 (by decide) ?_
      exact o_iret hQ C rfl ho () rfl rfl (Nat.le_of_ble_eq_true rfl) (Nat.le_of_ble_eq_true rfl) dX9_count_46
  · skip
    rw [decide_eq_false (by omega)] at c_2; exact absurd c_2 (by decide)

set_option maxHeartbeats 4000000 in
set_option maxRecDepth 100000 in
theorem c_M_count3 (la : Launch) (D : va_G) (K : Nat → ClassId) (h : Nat) (ar : Nat → Nat) (ad : Nat) (ck : Nat) (bi : Nat) (lo : Nat) (F : Nat → Nat → Int32) (wn : Nat) (qw : F 3 1 = nI wn) : MT la D K yX9_count cX9_count 2 (some .int) (rmL 2 0 0) [.ref h, .int (nI 3)] [bX K h ar ad ck bi lo F] Unit (fun v _ => v = some (.int (nI wn))) (fun _ => [bX K h ar ad ck bi lo F]) := by
  refine Mt.ofW [(0, .ref h), (1, .int (nI 3))] (by decide) rfl (Nat.le_of_ble_eq_true rfl) ?_
  intro p e s m args below meth c A ls H locs Qz hQ C hin hl ho
  have hx := C.1.1
  have hb := C.1.2.1
  refine lv_iload_n hx hb dX9_count_0 rfl (lv_at hl 1 rfl) ?_
  refine lv_iconst (v := nI 0) hx hb dX9_count_1 (by decide) ?_
  refine lv_iconst (v := nI 1) hx hb dX9_count_2 (by decide) ?_
  refine o_callS (wr := [bX K h ar ad ck bi lo F]) (rest := []) (As := [.int (nI 3), .int (nI 0), .int (nI 1)]) C (c_M_in la D K 3 0 1 (by first | omega | assumption | (simp only [List.length_append, List.length_cons, List.length_nil, List.length_modify, List.length_set, nb_len, rb_len, rbp_len, sl_len, slN_len, wh_len, wt_len, hd10_len, hdB_len, thr_len, ldp_len, ldB_len, tens_len, whz_len, majL_len, mf_len, tkL_len, ldY_len, fif_len, ldY_len]; omega) | decide) (by first | omega | assumption | (simp only [List.length_append, List.length_cons, List.length_nil, List.length_modify, List.length_set, nb_len, rb_len, rbp_len, sl_len, slN_len, wh_len, wt_len, hd10_len, hdB_len, thr_len, ldp_len, ldB_len, tens_len, whz_len, majL_len, mf_len, tkL_len, ldY_len, fif_len, ldY_len]; omega) | decide) (by first | omega | assumption | (simp only [List.length_append, List.length_cons, List.length_nil, List.length_modify, List.length_set, nb_len, rb_len, rbp_len, sl_len, slN_len, wh_len, wt_len, hd10_len, hdB_len, thr_len, ldp_len, ldB_len, tens_len, whz_len, majL_len, mf_len, tkL_len, ldY_len, fif_len, ldY_len]; omega) | decide)) kX9_99 vX9_in (by decide) rfl ho [0] 1 (by decide +kernel) rfl rfl hl.1 rfl (Nat.le_of_ble_eq_true rfl) dX9_count_3 0 0 rfl rfl (by decide) (fun v u_1 H locs hq ho => ?_)
  obtain rfl := hq
  have ho : ow D vwCl A s.heap H locs [bX K h ar ad ck bi lo F] := ho
  refine W.eq (g2 := F0 m 6 ls [.int (bI (decide (0 ≤ 3 ∧ 3 ≤ 1)))]) rfl ?_
  refine o_ifb_eq (tgt := 25) hx hb dX9_count_6 (by decide) (fun c_2 => ?_) (fun c_2 => ?_)
  · skip
    refine lv_iload_n hx hb dX9_count_25 rfl (lv_at hl 1 rfl) ?_
    refine lv_iconst (v := nI 2) hx hb dX9_count_26 (by decide) ?_
    refine lv_iconst (v := nI 3) hx hb dX9_count_27 (by decide) ?_
    refine o_callS (wr := [bX K h ar ad ck bi lo F]) (rest := []) (As := [.int (nI 3), .int (nI 2), .int (nI 3)]) C (c_M_in la D K 3 2 3 (by first | omega | assumption | (simp only [List.length_append, List.length_cons, List.length_nil, List.length_modify, List.length_set, nb_len, rb_len, rbp_len, sl_len, slN_len, wh_len, wt_len, hd10_len, hdB_len, thr_len, ldp_len, ldB_len, tens_len, whz_len, majL_len, mf_len, tkL_len, ldY_len, fif_len, ldY_len]; omega) | decide) (by first | omega | assumption | (simp only [List.length_append, List.length_cons, List.length_nil, List.length_modify, List.length_set, nb_len, rb_len, rbp_len, sl_len, slN_len, wh_len, wt_len, hd10_len, hdB_len, thr_len, ldp_len, ldB_len, tens_len, whz_len, majL_len, mf_len, tkL_len, ldY_len, fif_len, ldY_len]; omega) | decide) (by first | omega | assumption | (simp only [List.length_append, List.length_cons, List.length_nil, List.length_modify, List.length_set, nb_len, rb_len, rbp_len, sl_len, slN_len, wh_len, wt_len, hd10_len, hdB_len, thr_len, ldp_len, ldB_len, tens_len, whz_len, majL_len, mf_len, tkL_len, ldY_len, fif_len, ldY_len]; omega) | decide)) kX9_99 vX9_in (by decide) rfl ho [0] 1 (by decide +kernel) rfl rfl hl.1 rfl (Nat.le_of_ble_eq_true rfl) dX9_count_28 0 0 rfl rfl (by decide) (fun v u_3 H locs hq ho => ?_)
    obtain rfl := hq
    have ho : ow D vwCl A s.heap H locs [bX K h ar ad ck bi lo F] := ho
    refine W.eq (g2 := F0 m 31 ls [.int (bI (decide (2 ≤ 3 ∧ 3 ≤ 3)))]) rfl ?_
    refine o_ifb_eq (tgt := 45) hx hb dX9_count_31 (by decide) (fun c_4 => ?_) (fun c_4 => ?_)
    · skip
      rw [decide_eq_true (by omega)] at c_4; exact absurd c_4 (by decide)
    · skip
      refine lv_aload_n hx hb dX9_count_34 rfl (lv_at hl 0 rfl) ?_
      refine o_get (v := .ref (ar 3)) C ho 0 0 rfl rfl rfl 7 fX9_19 rfl dX9_count_35 ?_
      refine lv_iload_n hx hb dX9_count_38 rfl (lv_at hl 1 rfl) ?_
      refine lv_iconst (v := nI 2) hx hb dX9_count_39 (by decide) ?_
      refine o_sub hx hb dX9_count_40 (by omega) ?_
      refine o_iald (v := nI wn) C ho 0 4 rfl rfl 0 rfl (3 - 2) rfl (by omega) (by omega) qw dX9_count_41 ?_
      refine lv_goto (tgt := 46) hx hb dX9_count_42 (by decide) ?_
      exact o_iret hQ C rfl ho () rfl rfl (Nat.le_of_ble_eq_true rfl) (Nat.le_of_ble_eq_true rfl) dX9_count_46
  · skip
    rw [decide_eq_false (by omega)] at c_2; exact absurd c_2 (by decide)

set_option maxHeartbeats 4000000 in
set_option maxRecDepth 100000 in
theorem c_M_countX (la : Launch) (D : va_G) (K : Nat → ClassId) (h : Nat) (ar : Nat → Nat) (ad : Nat) (ck : Nat) (bi : Nat) (lo : Nat) (F : Nat → Nat → Int32) (x : Int32) (qx : x < nI 0 ∨ nI 3 < x) : MT la D K yX9_count cX9_count 2 (some .int) (rmL 2 0 0) [.ref h, .int x] [bX K h ar ad ck bi lo F] Unit (fun v _ => v = some (.int (-1))) (fun _ => [bX K h ar ad ck bi lo F]) := by
  refine Mt.ofW [(0, .ref h), (1, .int x)] (by decide) rfl (Nat.le_of_ble_eq_true rfl) ?_
  intro p e s m args below meth c A ls H locs Qz hQ C hin hl ho
  have hx := C.1.1
  have hb := C.1.2.1
  refine lv_iload_n hx hb dX9_count_0 rfl (lv_at hl 1 rfl) ?_
  refine lv_iconst (v := nI 0) hx hb dX9_count_1 (by decide) ?_
  refine lv_iconst (v := nI 1) hx hb dX9_count_2 (by decide) ?_
  refine o_callS (wr := [bX K h ar ad ck bi lo F]) (rest := []) (As := [.int x, .int (nI 0), .int (nI 1)]) C (c_M_inN la D K x 0 1 (cx_1 qx)) kX9_99 vX9_in (by decide) rfl ho [0] 1 (by decide +kernel) rfl rfl hl.1 rfl (Nat.le_of_ble_eq_true rfl) dX9_count_3 0 0 rfl rfl (by decide) (fun v u_1 H locs hq ho => ?_)
  obtain rfl := hq
  have ho : ow D vwCl A s.heap H locs [bX K h ar ad ck bi lo F] := ho
  refine W.eq (g2 := F0 m 6 ls [.int (bI false)]) rfl ?_
  refine o_ifb_eq (tgt := 25) hx hb dX9_count_6 (by decide) (fun _ => ?_) (fun c9 => absurd c9 (by decide))
  refine lv_iload_n hx hb dX9_count_25 rfl (lv_at hl 1 rfl) ?_
  refine lv_iconst (v := nI 2) hx hb dX9_count_26 (by decide) ?_
  refine lv_iconst (v := nI 3) hx hb dX9_count_27 (by decide) ?_
  refine o_callS (wr := [bX K h ar ad ck bi lo F]) (rest := []) (As := [.int x, .int (nI 2), .int (nI 3)]) C (c_M_inN la D K x 2 3 (cx_2 qx)) kX9_99 vX9_in (by decide) rfl ho [0] 1 (by decide +kernel) rfl rfl hl.1 rfl (Nat.le_of_ble_eq_true rfl) dX9_count_28 0 0 rfl rfl (by decide) (fun v u_2 H locs hq ho => ?_)
  obtain rfl := hq
  have ho : ow D vwCl A s.heap H locs [bX K h ar ad ck bi lo F] := ho
  refine W.eq (g2 := F0 m 31 ls [.int (bI false)]) rfl ?_
  refine o_ifb_eq (tgt := 45) hx hb dX9_count_31 (by decide) (fun _ => ?_) (fun c9 => absurd c9 (by decide))
  refine lv_iconst (v := (-1)) hx hb dX9_count_45 (by decide) ?_
  exact o_iret hQ C rfl ho () rfl rfl (Nat.le_of_ble_eq_true rfl) (Nat.le_of_ble_eq_true rfl) dX9_count_46

set_option maxHeartbeats 4000000 in
set_option maxRecDepth 100000 in
theorem c_M_stateX (la : Launch) (D : va_G) (K : Nat → ClassId) (h : Nat) (ar : Nat → Nat) (ad : Nat) (ck : Nat) (bi : Nat) (lo : Nat) (F : Nat → Nat → Int32) (x : Int32) (v_ : Int32) (qx : x < nI 0 ∨ nI 1 < x) : MT la D K yX9_state cX9_state 3 (some .int) (rmL 2 0 0) [.ref h, .int x, .int v_] [bX K h ar ad ck bi lo F] Unit (fun v _ => v = some (.int (-1))) (fun _ => [bX K h ar ad ck bi lo F]) := by
  refine Mt.ofW [(0, .ref h), (1, .int x), (2, .int v_)] (by decide) rfl (Nat.le_of_ble_eq_true rfl) ?_
  intro p e s m args below meth c A ls H locs Qz hQ C hin hl ho
  have hx := C.1.1
  have hb := C.1.2.1
  refine lv_iload_n hx hb dX9_state_0 rfl (lv_at hl 1 rfl) ?_
  refine lv_iconst (v := nI 0) hx hb dX9_state_1 (by decide) ?_
  refine lv_iconst (v := nI 1) hx hb dX9_state_2 (by decide) ?_
  refine o_callS (wr := [bX K h ar ad ck bi lo F]) (rest := []) (As := [.int x, .int (nI 0), .int (nI 1)]) C (c_M_inN la D K x 0 1 (by first | omega | assumption | (simp only [List.length_append, List.length_cons, List.length_nil, List.length_modify, List.length_set, nb_len, rb_len, rbp_len, sl_len, slN_len, wh_len, wt_len, hd10_len, hdB_len, thr_len, ldp_len, ldB_len, tens_len, whz_len, majL_len, mf_len, tkL_len, ldY_len, fif_len, ldY_len]; omega) | decide)) kX9_99 vX9_in (by decide) rfl ho [0] 1 (by decide +kernel) rfl rfl hl.1 rfl (Nat.le_of_ble_eq_true rfl) dX9_state_3 0 0 rfl rfl (by decide) (fun v u_1 H locs hq ho => ?_)
  obtain rfl := hq
  have ho : ow D vwCl A s.heap H locs [bX K h ar ad ck bi lo F] := ho
  refine W.eq (g2 := F0 m 6 ls [.int (bI false)]) rfl ?_
  refine o_ifb_ne (tgt := 11) hx hb dX9_state_6 (by decide) (fun c9 => absurd c9 (by decide)) (fun _ => ?_)
  refine lv_iconst (v := (-1)) hx hb dX9_state_9 (by decide) ?_
  exact o_iret hQ C rfl ho () rfl rfl (Nat.le_of_ble_eq_true rfl) (Nat.le_of_ble_eq_true rfl) dX9_state_10

set_option maxHeartbeats 4000000 in
set_option maxRecDepth 100000 in
theorem c_M_stateV (la : Launch) (D : va_G) (K : Nat → ClassId) (h : Nat) (ar : Nat → Nat) (ad : Nat) (ck : Nat) (bi : Nat) (lo : Nat) (F : Nat → Nat → Int32) (d : Nat) (x : Int32) (q2d : d < 2) (qx : x.toInt < 0 ∨ 9 < x.toInt) : MT la D K yX9_state cX9_state 3 (some .int) (rmL 2 0 0) [.ref h, .int (nI d), .int x] [bX K h ar ad ck bi lo F] Unit (fun v _ => v = some (.int (-1))) (fun _ => [bX K h ar ad ck bi lo F]) := by
  refine Mt.ofW [(0, .ref h), (1, .int (nI d)), (2, .int x)] (by decide) rfl (Nat.le_of_ble_eq_true rfl) ?_
  intro p e s m args below meth c A ls H locs Qz hQ C hin hl ho
  have hx := C.1.1
  have hb := C.1.2.1
  refine lv_iload_n hx hb dX9_state_0 rfl (lv_at hl 1 rfl) ?_
  refine lv_iconst (v := nI 0) hx hb dX9_state_1 (by decide) ?_
  refine lv_iconst (v := nI 1) hx hb dX9_state_2 (by decide) ?_
  refine o_callS (wr := [bX K h ar ad ck bi lo F]) (rest := []) (As := [.int (nI d), .int (nI 0), .int (nI 1)]) C (c_M_in la D K d 0 1 (by first | omega | assumption | (simp only [List.length_append, List.length_cons, List.length_nil, List.length_modify, List.length_set, nb_len, rb_len, rbp_len, sl_len, slN_len, wh_len, wt_len, hd10_len, hdB_len, thr_len, ldp_len, ldB_len, tens_len, whz_len, majL_len, mf_len, tkL_len, ldY_len, fif_len, ldY_len]; omega) | decide) (by first | omega | assumption | (simp only [List.length_append, List.length_cons, List.length_nil, List.length_modify, List.length_set, nb_len, rb_len, rbp_len, sl_len, slN_len, wh_len, wt_len, hd10_len, hdB_len, thr_len, ldp_len, ldB_len, tens_len, whz_len, majL_len, mf_len, tkL_len, ldY_len, fif_len, ldY_len]; omega) | decide) (by first | omega | assumption | (simp only [List.length_append, List.length_cons, List.length_nil, List.length_modify, List.length_set, nb_len, rb_len, rbp_len, sl_len, slN_len, wh_len, wt_len, hd10_len, hdB_len, thr_len, ldp_len, ldB_len, tens_len, whz_len, majL_len, mf_len, tkL_len, ldY_len, fif_len, ldY_len]; omega) | decide)) kX9_99 vX9_in (by decide) rfl ho [0] 1 (by decide +kernel) rfl rfl hl.1 rfl (Nat.le_of_ble_eq_true rfl) dX9_state_3 0 0 rfl rfl (by decide) (fun v u_1 H locs hq ho => ?_)
  obtain rfl := hq
  have ho : ow D vwCl A s.heap H locs [bX K h ar ad ck bi lo F] := ho
  refine W.eq (g2 := F0 m 6 ls [.int (bI (decide (0 ≤ d ∧ d ≤ 1)))]) rfl ?_
  refine o_ifb_ne (tgt := 11) hx hb dX9_state_6 (by decide) (fun c_2 => ?_) (fun c_2 => ?_)
  · skip
    refine lv_iload_n hx hb dX9_state_11 rfl (lv_at hl 2 rfl) ?_
    refine lv_tableOut (tgt := 174) hx hb dX9_state_12 qx (by decide) ?_
    refine lv_iconst (v := (-1)) hx hb dX9_state_174 (by decide) ?_
    exact o_iret hQ C rfl ho () rfl rfl (Nat.le_of_ble_eq_true rfl) (Nat.le_of_ble_eq_true rfl) dX9_state_175
  · skip
    rw [decide_eq_true (by omega)] at c_2; exact absurd c_2 (by decide)

set_option maxHeartbeats 4000000 in
set_option maxRecDepth 100000 in
theorem c_M_state0 (la : Launch) (D : va_G) (K : Nat → ClassId) (h : Nat) (ar : Nat → Nat) (ad : Nat) (ck : Nat) (bi : Nat) (lo : Nat) (F : Nat → Nat → Int32) (d : Nat) (y : Nat) (q2d : d < 2) (qy : F 5 d = nI y) : MT la D K yX9_state cX9_state 3 (some .int) (rmL 2 0 0) [.ref h, .int (nI d), .int (nI 0)] [bX K h ar ad ck bi lo F] Unit (fun v _ => v = some (.int (nI y))) (fun _ => [bX K h ar ad ck bi lo F]) := by
  refine Mt.ofW [(0, .ref h), (1, .int (nI d)), (2, .int (nI 0))] (by decide) rfl (Nat.le_of_ble_eq_true rfl) ?_
  intro p e s m args below meth c A ls H locs Qz hQ C hin hl ho
  have hx := C.1.1
  have hb := C.1.2.1
  refine lv_iload_n hx hb dX9_state_0 rfl (lv_at hl 1 rfl) ?_
  refine lv_iconst (v := nI 0) hx hb dX9_state_1 (by decide) ?_
  refine lv_iconst (v := nI 1) hx hb dX9_state_2 (by decide) ?_
  refine o_callS (wr := [bX K h ar ad ck bi lo F]) (rest := []) (As := [.int (nI d), .int (nI 0), .int (nI 1)]) C (c_M_in la D K d 0 1 (by first | omega | assumption | (simp only [List.length_append, List.length_cons, List.length_nil, List.length_modify, List.length_set, nb_len, rb_len, rbp_len, sl_len, slN_len, wh_len, wt_len, hd10_len, hdB_len, thr_len, ldp_len, ldB_len, tens_len, whz_len, majL_len, mf_len, tkL_len, ldY_len, fif_len, ldY_len]; omega) | decide) (by first | omega | assumption | (simp only [List.length_append, List.length_cons, List.length_nil, List.length_modify, List.length_set, nb_len, rb_len, rbp_len, sl_len, slN_len, wh_len, wt_len, hd10_len, hdB_len, thr_len, ldp_len, ldB_len, tens_len, whz_len, majL_len, mf_len, tkL_len, ldY_len, fif_len, ldY_len]; omega) | decide) (by first | omega | assumption | (simp only [List.length_append, List.length_cons, List.length_nil, List.length_modify, List.length_set, nb_len, rb_len, rbp_len, sl_len, slN_len, wh_len, wt_len, hd10_len, hdB_len, thr_len, ldp_len, ldB_len, tens_len, whz_len, majL_len, mf_len, tkL_len, ldY_len, fif_len, ldY_len]; omega) | decide)) kX9_99 vX9_in (by decide) rfl ho [0] 1 (by decide +kernel) rfl rfl hl.1 rfl (Nat.le_of_ble_eq_true rfl) dX9_state_3 0 0 rfl rfl (by decide) (fun v u_1 H locs hq ho => ?_)
  obtain rfl := hq
  have ho : ow D vwCl A s.heap H locs [bX K h ar ad ck bi lo F] := ho
  refine W.eq (g2 := F0 m 6 ls [.int (bI (decide (0 ≤ d ∧ d ≤ 1)))]) rfl ?_
  refine o_ifb_ne (tgt := 11) hx hb dX9_state_6 (by decide) (fun c_2 => ?_) (fun c_2 => ?_)
  · skip
    refine lv_iload_n hx hb dX9_state_11 rfl (lv_at hl 2 rfl) ?_
    refine lv_tableIn (off := 56) (tgt := 68) hx hb dX9_state_12 (by decide) (by decide) rfl (by decide) ?_
    refine lv_aload_n hx hb dX9_state_68 rfl (lv_at hl 0 rfl) ?_
    refine o_get (v := .ref (ar 5)) C ho 0 0 rfl rfl rfl 9 fX9_25 rfl dX9_state_69 ?_
    refine lv_iload_n hx hb dX9_state_72 rfl (lv_at hl 1 rfl) ?_
    refine o_iald (v := nI y) C ho 0 6 rfl rfl 0 rfl d rfl (by omega) (by omega) qy dX9_state_73 ?_
    exact o_iret hQ C rfl ho () rfl rfl (Nat.le_of_ble_eq_true rfl) (Nat.le_of_ble_eq_true rfl) dX9_state_74
  · skip
    rw [decide_eq_true (by omega)] at c_2; exact absurd c_2 (by decide)

set_option maxHeartbeats 4000000 in
set_option maxRecDepth 100000 in
theorem c_M_state1 (la : Launch) (D : va_G) (K : Nat → ClassId) (h : Nat) (ar : Nat → Nat) (ad : Nat) (ck : Nat) (bi : Nat) (lo : Nat) (F : Nat → Nat → Int32) (d : Nat) (y : Nat) (q2d : d < 2) (qy : F 15 d = nI y) : MT la D K yX9_state cX9_state 3 (some .int) (rmL 2 0 0) [.ref h, .int (nI d), .int (nI 1)] [bX K h ar ad ck bi lo F] Unit (fun v _ => v = some (.int (nI y))) (fun _ => [bX K h ar ad ck bi lo F]) := by
  refine Mt.ofW [(0, .ref h), (1, .int (nI d)), (2, .int (nI 1))] (by decide) rfl (Nat.le_of_ble_eq_true rfl) ?_
  intro p e s m args below meth c A ls H locs Qz hQ C hin hl ho
  have hx := C.1.1
  have hb := C.1.2.1
  refine lv_iload_n hx hb dX9_state_0 rfl (lv_at hl 1 rfl) ?_
  refine lv_iconst (v := nI 0) hx hb dX9_state_1 (by decide) ?_
  refine lv_iconst (v := nI 1) hx hb dX9_state_2 (by decide) ?_
  refine o_callS (wr := [bX K h ar ad ck bi lo F]) (rest := []) (As := [.int (nI d), .int (nI 0), .int (nI 1)]) C (c_M_in la D K d 0 1 (by first | omega | assumption | (simp only [List.length_append, List.length_cons, List.length_nil, List.length_modify, List.length_set, nb_len, rb_len, rbp_len, sl_len, slN_len, wh_len, wt_len, hd10_len, hdB_len, thr_len, ldp_len, ldB_len, tens_len, whz_len, majL_len, mf_len, tkL_len, ldY_len, fif_len, ldY_len]; omega) | decide) (by first | omega | assumption | (simp only [List.length_append, List.length_cons, List.length_nil, List.length_modify, List.length_set, nb_len, rb_len, rbp_len, sl_len, slN_len, wh_len, wt_len, hd10_len, hdB_len, thr_len, ldp_len, ldB_len, tens_len, whz_len, majL_len, mf_len, tkL_len, ldY_len, fif_len, ldY_len]; omega) | decide) (by first | omega | assumption | (simp only [List.length_append, List.length_cons, List.length_nil, List.length_modify, List.length_set, nb_len, rb_len, rbp_len, sl_len, slN_len, wh_len, wt_len, hd10_len, hdB_len, thr_len, ldp_len, ldB_len, tens_len, whz_len, majL_len, mf_len, tkL_len, ldY_len, fif_len, ldY_len]; omega) | decide)) kX9_99 vX9_in (by decide) rfl ho [0] 1 (by decide +kernel) rfl rfl hl.1 rfl (Nat.le_of_ble_eq_true rfl) dX9_state_3 0 0 rfl rfl (by decide) (fun v u_1 H locs hq ho => ?_)
  obtain rfl := hq
  have ho : ow D vwCl A s.heap H locs [bX K h ar ad ck bi lo F] := ho
  refine W.eq (g2 := F0 m 6 ls [.int (bI (decide (0 ≤ d ∧ d ≤ 1)))]) rfl ?_
  refine o_ifb_ne (tgt := 11) hx hb dX9_state_6 (by decide) (fun c_2 => ?_) (fun c_2 => ?_)
  · skip
    refine lv_iload_n hx hb dX9_state_11 rfl (lv_at hl 2 rfl) ?_
    refine lv_tableIn (off := 63) (tgt := 75) hx hb dX9_state_12 (by decide) (by decide) rfl (by decide) ?_
    refine lv_aload_n hx hb dX9_state_75 rfl (lv_at hl 0 rfl) ?_
    refine o_get (v := .ref (ar 15)) C ho 0 0 rfl rfl rfl 19 fX9_56 rfl dX9_state_76 ?_
    refine lv_iload_n hx hb dX9_state_79 rfl (lv_at hl 1 rfl) ?_
    refine o_iald (v := nI y) C ho 0 16 rfl rfl 0 rfl d rfl (by omega) (by omega) qy dX9_state_80 ?_
    exact o_iret hQ C rfl ho () rfl rfl (Nat.le_of_ble_eq_true rfl) (Nat.le_of_ble_eq_true rfl) dX9_state_81
  · skip
    rw [decide_eq_true (by omega)] at c_2; exact absurd c_2 (by decide)

set_option maxHeartbeats 4000000 in
set_option maxRecDepth 100000 in
theorem c_M_state3 (la : Launch) (D : va_G) (K : Nat → ClassId) (h : Nat) (ar : Nat → Nat) (ad : Nat) (ck : Nat) (bi : Nat) (lo : Nat) (F : Nat → Nat → Int32) (d : Nat) (y : Nat) (q2d : d < 2) (qy : F 11 d = nI y) : MT la D K yX9_state cX9_state 3 (some .int) (rmL 2 0 0) [.ref h, .int (nI d), .int (nI 3)] [bX K h ar ad ck bi lo F] Unit (fun v _ => v = some (.int (nI y))) (fun _ => [bX K h ar ad ck bi lo F]) := by
  refine Mt.ofW [(0, .ref h), (1, .int (nI d)), (2, .int (nI 3))] (by decide) rfl (Nat.le_of_ble_eq_true rfl) ?_
  intro p e s m args below meth c A ls H locs Qz hQ C hin hl ho
  have hx := C.1.1
  have hb := C.1.2.1
  refine lv_iload_n hx hb dX9_state_0 rfl (lv_at hl 1 rfl) ?_
  refine lv_iconst (v := nI 0) hx hb dX9_state_1 (by decide) ?_
  refine lv_iconst (v := nI 1) hx hb dX9_state_2 (by decide) ?_
  refine o_callS (wr := [bX K h ar ad ck bi lo F]) (rest := []) (As := [.int (nI d), .int (nI 0), .int (nI 1)]) C (c_M_in la D K d 0 1 (by first | omega | assumption | (simp only [List.length_append, List.length_cons, List.length_nil, List.length_modify, List.length_set, nb_len, rb_len, rbp_len, sl_len, slN_len, wh_len, wt_len, hd10_len, hdB_len, thr_len, ldp_len, ldB_len, tens_len, whz_len, majL_len, mf_len, tkL_len, ldY_len, fif_len, ldY_len]; omega) | decide) (by first | omega | assumption | (simp only [List.length_append, List.length_cons, List.length_nil, List.length_modify, List.length_set, nb_len, rb_len, rbp_len, sl_len, slN_len, wh_len, wt_len, hd10_len, hdB_len, thr_len, ldp_len, ldB_len, tens_len, whz_len, majL_len, mf_len, tkL_len, ldY_len, fif_len, ldY_len]; omega) | decide) (by first | omega | assumption | (simp only [List.length_append, List.length_cons, List.length_nil, List.length_modify, List.length_set, nb_len, rb_len, rbp_len, sl_len, slN_len, wh_len, wt_len, hd10_len, hdB_len, thr_len, ldp_len, ldB_len, tens_len, whz_len, majL_len, mf_len, tkL_len, ldY_len, fif_len, ldY_len]; omega) | decide)) kX9_99 vX9_in (by decide) rfl ho [0] 1 (by decide +kernel) rfl rfl hl.1 rfl (Nat.le_of_ble_eq_true rfl) dX9_state_3 0 0 rfl rfl (by decide) (fun v u_1 H locs hq ho => ?_)
  obtain rfl := hq
  have ho : ow D vwCl A s.heap H locs [bX K h ar ad ck bi lo F] := ho
  refine W.eq (g2 := F0 m 6 ls [.int (bI (decide (0 ≤ d ∧ d ≤ 1)))]) rfl ?_
  refine o_ifb_ne (tgt := 11) hx hb dX9_state_6 (by decide) (fun c_2 => ?_) (fun c_2 => ?_)
  · skip
    refine lv_iload_n hx hb dX9_state_11 rfl (lv_at hl 2 rfl) ?_
    refine lv_tableIn (off := 84) (tgt := 96) hx hb dX9_state_12 (by decide) (by decide) rfl (by decide) ?_
    refine lv_aload_n hx hb dX9_state_96 rfl (lv_at hl 0 rfl) ?_
    refine o_get (v := .ref (ar 11)) C ho 0 0 rfl rfl rfl 15 fX9_43 rfl dX9_state_97 ?_
    refine lv_iload_n hx hb dX9_state_100 rfl (lv_at hl 1 rfl) ?_
    refine o_iald (v := nI y) C ho 0 12 rfl rfl 0 rfl d rfl (by omega) (by omega) qy dX9_state_101 ?_
    exact o_iret hQ C rfl ho () rfl rfl (Nat.le_of_ble_eq_true rfl) (Nat.le_of_ble_eq_true rfl) dX9_state_102
  · skip
    rw [decide_eq_true (by omega)] at c_2; exact absurd c_2 (by decide)

set_option maxHeartbeats 4000000 in
set_option maxRecDepth 100000 in
theorem c_M_state5 (la : Launch) (D : va_G) (K : Nat → ClassId) (h : Nat) (ar : Nat → Nat) (ad : Nat) (ck : Nat) (bi : Nat) (lo : Nat) (F : Nat → Nat → Int32) (d : Nat) (y : Nat) (q2d : d < 2) (qy : F 26 d = nI y) : MT la D K yX9_state cX9_state 3 (some .int) (rmL 2 0 0) [.ref h, .int (nI d), .int (nI 5)] [bX K h ar ad ck bi lo F] Unit (fun v _ => v = some (.int (nI y))) (fun _ => [bX K h ar ad ck bi lo F]) := by
  refine Mt.ofW [(0, .ref h), (1, .int (nI d)), (2, .int (nI 5))] (by decide) rfl (Nat.le_of_ble_eq_true rfl) ?_
  intro p e s m args below meth c A ls H locs Qz hQ C hin hl ho
  have hx := C.1.1
  have hb := C.1.2.1
  refine lv_iload_n hx hb dX9_state_0 rfl (lv_at hl 1 rfl) ?_
  refine lv_iconst (v := nI 0) hx hb dX9_state_1 (by decide) ?_
  refine lv_iconst (v := nI 1) hx hb dX9_state_2 (by decide) ?_
  refine o_callS (wr := [bX K h ar ad ck bi lo F]) (rest := []) (As := [.int (nI d), .int (nI 0), .int (nI 1)]) C (c_M_in la D K d 0 1 (by first | omega | assumption | (simp only [List.length_append, List.length_cons, List.length_nil, List.length_modify, List.length_set, nb_len, rb_len, rbp_len, sl_len, slN_len, wh_len, wt_len, hd10_len, hdB_len, thr_len, ldp_len, ldB_len, tens_len, whz_len, majL_len, mf_len, tkL_len, ldY_len, fif_len, ldY_len]; omega) | decide) (by first | omega | assumption | (simp only [List.length_append, List.length_cons, List.length_nil, List.length_modify, List.length_set, nb_len, rb_len, rbp_len, sl_len, slN_len, wh_len, wt_len, hd10_len, hdB_len, thr_len, ldp_len, ldB_len, tens_len, whz_len, majL_len, mf_len, tkL_len, ldY_len, fif_len, ldY_len]; omega) | decide) (by first | omega | assumption | (simp only [List.length_append, List.length_cons, List.length_nil, List.length_modify, List.length_set, nb_len, rb_len, rbp_len, sl_len, slN_len, wh_len, wt_len, hd10_len, hdB_len, thr_len, ldp_len, ldB_len, tens_len, whz_len, majL_len, mf_len, tkL_len, ldY_len, fif_len, ldY_len]; omega) | decide)) kX9_99 vX9_in (by decide) rfl ho [0] 1 (by decide +kernel) rfl rfl hl.1 rfl (Nat.le_of_ble_eq_true rfl) dX9_state_3 0 0 rfl rfl (by decide) (fun v u_1 H locs hq ho => ?_)
  obtain rfl := hq
  have ho : ow D vwCl A s.heap H locs [bX K h ar ad ck bi lo F] := ho
  refine W.eq (g2 := F0 m 6 ls [.int (bI (decide (0 ≤ d ∧ d ≤ 1)))]) rfl ?_
  refine o_ifb_ne (tgt := 11) hx hb dX9_state_6 (by decide) (fun c_2 => ?_) (fun c_2 => ?_)
  · skip
    refine lv_iload_n hx hb dX9_state_11 rfl (lv_at hl 2 rfl) ?_
    refine lv_tableIn (off := 111) (tgt := 123) hx hb dX9_state_12 (by decide) (by decide) rfl (by decide) ?_
    refine lv_aload_n hx hb dX9_state_123 rfl (lv_at hl 0 rfl) ?_
    refine o_get (v := .ref (ar 26)) C ho 0 0 rfl rfl rfl 30 fX9_89 rfl dX9_state_124 ?_
    refine lv_iload_n hx hb dX9_state_127 rfl (lv_at hl 1 rfl) ?_
    refine o_iald (v := nI y) C ho 0 27 rfl rfl 0 rfl d rfl (by omega) (by omega) qy dX9_state_128 ?_
    exact o_iret hQ C rfl ho () rfl rfl (Nat.le_of_ble_eq_true rfl) (Nat.le_of_ble_eq_true rfl) dX9_state_129
  · skip
    rw [decide_eq_true (by omega)] at c_2; exact absurd c_2 (by decide)

set_option maxHeartbeats 4000000 in
set_option maxRecDepth 100000 in
theorem c_M_state6 (la : Launch) (D : va_G) (K : Nat → ClassId) (h : Nat) (ar : Nat → Nat) (ad : Nat) (ck : Nat) (bi : Nat) (lo : Nat) (F : Nat → Nat → Int32) (d : Nat) (y : Nat) (q2d : d < 2) (qy : F 27 d = nI y) : MT la D K yX9_state cX9_state 3 (some .int) (rmL 2 0 0) [.ref h, .int (nI d), .int (nI 6)] [bX K h ar ad ck bi lo F] Unit (fun v _ => v = some (.int (nI y))) (fun _ => [bX K h ar ad ck bi lo F]) := by
  refine Mt.ofW [(0, .ref h), (1, .int (nI d)), (2, .int (nI 6))] (by decide) rfl (Nat.le_of_ble_eq_true rfl) ?_
  intro p e s m args below meth c A ls H locs Qz hQ C hin hl ho
  have hx := C.1.1
  have hb := C.1.2.1
  refine lv_iload_n hx hb dX9_state_0 rfl (lv_at hl 1 rfl) ?_
  refine lv_iconst (v := nI 0) hx hb dX9_state_1 (by decide) ?_
  refine lv_iconst (v := nI 1) hx hb dX9_state_2 (by decide) ?_
  refine o_callS (wr := [bX K h ar ad ck bi lo F]) (rest := []) (As := [.int (nI d), .int (nI 0), .int (nI 1)]) C (c_M_in la D K d 0 1 (by first | omega | assumption | (simp only [List.length_append, List.length_cons, List.length_nil, List.length_modify, List.length_set, nb_len, rb_len, rbp_len, sl_len, slN_len, wh_len, wt_len, hd10_len, hdB_len, thr_len, ldp_len, ldB_len, tens_len, whz_len, majL_len, mf_len, tkL_len, ldY_len, fif_len, ldY_len]; omega) | decide) (by first | omega | assumption | (simp only [List.length_append, List.length_cons, List.length_nil, List.length_modify, List.length_set, nb_len, rb_len, rbp_len, sl_len, slN_len, wh_len, wt_len, hd10_len, hdB_len, thr_len, ldp_len, ldB_len, tens_len, whz_len, majL_len, mf_len, tkL_len, ldY_len, fif_len, ldY_len]; omega) | decide) (by first | omega | assumption | (simp only [List.length_append, List.length_cons, List.length_nil, List.length_modify, List.length_set, nb_len, rb_len, rbp_len, sl_len, slN_len, wh_len, wt_len, hd10_len, hdB_len, thr_len, ldp_len, ldB_len, tens_len, whz_len, majL_len, mf_len, tkL_len, ldY_len, fif_len, ldY_len]; omega) | decide)) kX9_99 vX9_in (by decide) rfl ho [0] 1 (by decide +kernel) rfl rfl hl.1 rfl (Nat.le_of_ble_eq_true rfl) dX9_state_3 0 0 rfl rfl (by decide) (fun v u_1 H locs hq ho => ?_)
  obtain rfl := hq
  have ho : ow D vwCl A s.heap H locs [bX K h ar ad ck bi lo F] := ho
  refine W.eq (g2 := F0 m 6 ls [.int (bI (decide (0 ≤ d ∧ d ≤ 1)))]) rfl ?_
  refine o_ifb_ne (tgt := 11) hx hb dX9_state_6 (by decide) (fun c_2 => ?_) (fun c_2 => ?_)
  · skip
    refine lv_iload_n hx hb dX9_state_11 rfl (lv_at hl 2 rfl) ?_
    refine lv_tableIn (off := 118) (tgt := 130) hx hb dX9_state_12 (by decide) (by decide) rfl (by decide) ?_
    refine lv_aload_n hx hb dX9_state_130 rfl (lv_at hl 0 rfl) ?_
    refine o_get (v := .ref (ar 27)) C ho 0 0 rfl rfl rfl 31 fX9_92 rfl dX9_state_131 ?_
    refine lv_iload_n hx hb dX9_state_134 rfl (lv_at hl 1 rfl) ?_
    refine o_iald (v := nI y) C ho 0 28 rfl rfl 0 rfl d rfl (by omega) (by omega) qy dX9_state_135 ?_
    exact o_iret hQ C rfl ho () rfl rfl (Nat.le_of_ble_eq_true rfl) (Nat.le_of_ble_eq_true rfl) dX9_state_136
  · skip
    rw [decide_eq_true (by omega)] at c_2; exact absurd c_2 (by decide)

set_option maxHeartbeats 4000000 in
set_option maxRecDepth 100000 in
theorem c_M_state2 (la : Launch) (D : va_G) (K : Nat → ClassId) (h : Nat) (ar : Nat → Nat) (ad : Nat) (ck : Nat) (bi : Nat) (lo : Nat) (F : Nat → Nat → Int32) (d : Nat) (y : Nat) (z : Nat) (q2d : d < 2) (qy : F 8 d = nI y) (qz : F 9 d = nI z) (qyz : z ≤ y) : MT la D K yX9_state cX9_state 3 (some .int) (rmL 2 0 0) [.ref h, .int (nI d), .int (nI 2)] [bX K h ar ad ck bi lo F] Unit (fun v _ => v = some (.int (nI (y - z)))) (fun _ => [bX K h ar ad ck bi lo F]) := by
  refine Mt.ofW [(0, .ref h), (1, .int (nI d)), (2, .int (nI 2))] (by decide) rfl (Nat.le_of_ble_eq_true rfl) ?_
  intro p e s m args below meth c A ls H locs Qz hQ C hin hl ho
  have hx := C.1.1
  have hb := C.1.2.1
  refine lv_iload_n hx hb dX9_state_0 rfl (lv_at hl 1 rfl) ?_
  refine lv_iconst (v := nI 0) hx hb dX9_state_1 (by decide) ?_
  refine lv_iconst (v := nI 1) hx hb dX9_state_2 (by decide) ?_
  refine o_callS (wr := [bX K h ar ad ck bi lo F]) (rest := []) (As := [.int (nI d), .int (nI 0), .int (nI 1)]) C (c_M_in la D K d 0 1 (by first | omega | assumption | (simp only [List.length_append, List.length_cons, List.length_nil, List.length_modify, List.length_set, nb_len, rb_len, rbp_len, sl_len, slN_len, wh_len, wt_len, hd10_len, hdB_len, thr_len, ldp_len, ldB_len, tens_len, whz_len, majL_len, mf_len, tkL_len, ldY_len, fif_len, ldY_len]; omega) | decide) (by first | omega | assumption | (simp only [List.length_append, List.length_cons, List.length_nil, List.length_modify, List.length_set, nb_len, rb_len, rbp_len, sl_len, slN_len, wh_len, wt_len, hd10_len, hdB_len, thr_len, ldp_len, ldB_len, tens_len, whz_len, majL_len, mf_len, tkL_len, ldY_len, fif_len, ldY_len]; omega) | decide) (by first | omega | assumption | (simp only [List.length_append, List.length_cons, List.length_nil, List.length_modify, List.length_set, nb_len, rb_len, rbp_len, sl_len, slN_len, wh_len, wt_len, hd10_len, hdB_len, thr_len, ldp_len, ldB_len, tens_len, whz_len, majL_len, mf_len, tkL_len, ldY_len, fif_len, ldY_len]; omega) | decide)) kX9_99 vX9_in (by decide) rfl ho [0] 1 (by decide +kernel) rfl rfl hl.1 rfl (Nat.le_of_ble_eq_true rfl) dX9_state_3 0 0 rfl rfl (by decide) (fun v u_1 H locs hq ho => ?_)
  obtain rfl := hq
  have ho : ow D vwCl A s.heap H locs [bX K h ar ad ck bi lo F] := ho
  refine W.eq (g2 := F0 m 6 ls [.int (bI (decide (0 ≤ d ∧ d ≤ 1)))]) rfl ?_
  refine o_ifb_ne (tgt := 11) hx hb dX9_state_6 (by decide) (fun c_2 => ?_) (fun c_2 => ?_)
  · skip
    refine lv_iload_n hx hb dX9_state_11 rfl (lv_at hl 2 rfl) ?_
    refine lv_tableIn (off := 70) (tgt := 82) hx hb dX9_state_12 (by decide) (by decide) rfl (by decide) ?_
    refine lv_aload_n hx hb dX9_state_82 rfl (lv_at hl 0 rfl) ?_
    refine o_get (v := .ref (ar 8)) C ho 0 0 rfl rfl rfl 12 fX9_34 rfl dX9_state_83 ?_
    refine lv_iload_n hx hb dX9_state_86 rfl (lv_at hl 1 rfl) ?_
    refine o_iald (v := nI y) C ho 0 9 rfl rfl 0 rfl d rfl (by omega) (by omega) qy dX9_state_87 ?_
    refine lv_aload_n hx hb dX9_state_88 rfl (lv_at hl 0 rfl) ?_
    refine o_get (v := .ref (ar 9)) C ho 0 0 rfl rfl rfl 13 fX9_37 rfl dX9_state_89 ?_
    refine lv_iload_n hx hb dX9_state_92 rfl (lv_at hl 1 rfl) ?_
    refine o_iald (v := nI z) C ho 0 10 rfl rfl 0 rfl d rfl (by omega) (by omega) qz dX9_state_93 ?_
    refine o_sub hx hb dX9_state_94 (by omega) ?_
    exact o_iret hQ C rfl ho () rfl rfl (Nat.le_of_ble_eq_true rfl) (Nat.le_of_ble_eq_true rfl) dX9_state_95
  · skip
    rw [decide_eq_true (by omega)] at c_2; exact absurd c_2 (by decide)

set_option maxHeartbeats 4000000 in
set_option maxRecDepth 100000 in
theorem c_M_state4 (la : Launch) (D : va_G) (K : Nat → ClassId) (h : Nat) (ar : Nat → Nat) (ad : Nat) (ck : Nat) (bi : Nat) (lo : Nat) (F : Nat → Nat → Int32) (d : Nat) (y : Nat) (z : Nat) (q2d : d < 2) (qz : F 18 d = nI z) (qz2 : z < 1000) (qy : F 19 d = nI y) : MT la D K yX9_state cX9_state 3 (some .int) (rmL 2 0 0) [.ref h, .int (nI d), .int (nI 4)] [bX K h ar ad ck bi lo F] Unit (fun v _ => v = some (.int (nI y))) (fun _ => [bX K h ar ad ck bi lo F]) := by
  refine Mt.ofW [(0, .ref h), (1, .int (nI d)), (2, .int (nI 4))] (by decide) rfl (Nat.le_of_ble_eq_true rfl) ?_
  intro p e s m args below meth c A ls H locs Qz hQ C hin hl ho
  have hx := C.1.1
  have hb := C.1.2.1
  refine lv_iload_n hx hb dX9_state_0 rfl (lv_at hl 1 rfl) ?_
  refine lv_iconst (v := nI 0) hx hb dX9_state_1 (by decide) ?_
  refine lv_iconst (v := nI 1) hx hb dX9_state_2 (by decide) ?_
  refine o_callS (wr := [bX K h ar ad ck bi lo F]) (rest := []) (As := [.int (nI d), .int (nI 0), .int (nI 1)]) C (c_M_in la D K d 0 1 (by first | omega | assumption | (simp only [List.length_append, List.length_cons, List.length_nil, List.length_modify, List.length_set, nb_len, rb_len, rbp_len, sl_len, slN_len, wh_len, wt_len, hd10_len, hdB_len, thr_len, ldp_len, ldB_len, tens_len, whz_len, majL_len, mf_len, tkL_len, ldY_len, fif_len, ldY_len]; omega) | decide) (by first | omega | assumption | (simp only [List.length_append, List.length_cons, List.length_nil, List.length_modify, List.length_set, nb_len, rb_len, rbp_len, sl_len, slN_len, wh_len, wt_len, hd10_len, hdB_len, thr_len, ldp_len, ldB_len, tens_len, whz_len, majL_len, mf_len, tkL_len, ldY_len, fif_len, ldY_len]; omega) | decide) (by first | omega | assumption | (simp only [List.length_append, List.length_cons, List.length_nil, List.length_modify, List.length_set, nb_len, rb_len, rbp_len, sl_len, slN_len, wh_len, wt_len, hd10_len, hdB_len, thr_len, ldp_len, ldB_len, tens_len, whz_len, majL_len, mf_len, tkL_len, ldY_len, fif_len, ldY_len]; omega) | decide)) kX9_99 vX9_in (by decide) rfl ho [0] 1 (by decide +kernel) rfl rfl hl.1 rfl (Nat.le_of_ble_eq_true rfl) dX9_state_3 0 0 rfl rfl (by decide) (fun v u_1 H locs hq ho => ?_)
  obtain rfl := hq
  have ho : ow D vwCl A s.heap H locs [bX K h ar ad ck bi lo F] := ho
  refine W.eq (g2 := F0 m 6 ls [.int (bI (decide (0 ≤ d ∧ d ≤ 1)))]) rfl ?_
  refine o_ifb_ne (tgt := 11) hx hb dX9_state_6 (by decide) (fun c_2 => ?_) (fun c_2 => ?_)
  · skip
    refine lv_iload_n hx hb dX9_state_11 rfl (lv_at hl 2 rfl) ?_
    refine lv_tableIn (off := 91) (tgt := 103) hx hb dX9_state_12 (by decide) (by decide) rfl (by decide) ?_
    refine lv_aload_n hx hb dX9_state_103 rfl (lv_at hl 0 rfl) ?_
    refine o_get (v := .ref (ar 18)) C ho 0 0 rfl rfl rfl 22 fX9_65 rfl dX9_state_104 ?_
    refine lv_iload_n hx hb dX9_state_107 rfl (lv_at hl 1 rfl) ?_
    refine o_iald (v := nI z) C ho 0 19 rfl rfl 0 rfl d rfl (by omega) (by omega) qz dX9_state_108 ?_
    refine o_if_ge (tgt := 116) hx hb dX9_state_109 (by decide) (by omega) ?_
    refine lv_aload_n hx hb dX9_state_116 rfl (lv_at hl 0 rfl) ?_
    refine o_get (v := .ref (ar 19)) C ho 0 0 rfl rfl rfl 23 fX9_68 rfl dX9_state_117 ?_
    refine lv_iload_n hx hb dX9_state_120 rfl (lv_at hl 1 rfl) ?_
    refine o_iald (v := nI y) C ho 0 20 rfl rfl 0 rfl d rfl (by omega) (by omega) qy dX9_state_121 ?_
    exact o_iret hQ C rfl ho () rfl rfl (Nat.le_of_ble_eq_true rfl) (Nat.le_of_ble_eq_true rfl) dX9_state_122
  · skip
    rw [decide_eq_true (by omega)] at c_2; exact absurd c_2 (by decide)

set_option maxHeartbeats 4000000 in
set_option maxRecDepth 100000 in
theorem c_M_state4N (la : Launch) (D : va_G) (K : Nat → ClassId) (h : Nat) (ar : Nat → Nat) (ad : Nat) (ck : Nat) (bi : Nat) (lo : Nat) (F : Nat → Nat → Int32) (d : Nat) (q2d : d < 2) (qz : F 18 d = -1) : MT la D K yX9_state cX9_state 3 (some .int) (rmL 2 0 0) [.ref h, .int (nI d), .int (nI 4)] [bX K h ar ad ck bi lo F] Unit (fun v _ => v = some (.int (nI 0))) (fun _ => [bX K h ar ad ck bi lo F]) := by
  refine Mt.ofW [(0, .ref h), (1, .int (nI d)), (2, .int (nI 4))] (by decide) rfl (Nat.le_of_ble_eq_true rfl) ?_
  intro p e s m args below meth c A ls H locs Qz hQ C hin hl ho
  have hx := C.1.1
  have hb := C.1.2.1
  refine lv_iload_n hx hb dX9_state_0 rfl (lv_at hl 1 rfl) ?_
  refine lv_iconst (v := nI 0) hx hb dX9_state_1 (by decide) ?_
  refine lv_iconst (v := nI 1) hx hb dX9_state_2 (by decide) ?_
  refine o_callS (wr := [bX K h ar ad ck bi lo F]) (rest := []) (As := [.int (nI d), .int (nI 0), .int (nI 1)]) C (c_M_in la D K d 0 1 (by first | omega | assumption | (simp only [List.length_append, List.length_cons, List.length_nil, List.length_modify, List.length_set, nb_len, rb_len, rbp_len, sl_len, slN_len, wh_len, wt_len, hd10_len, hdB_len, thr_len, ldp_len, ldB_len, tens_len, whz_len, majL_len, mf_len, tkL_len, ldY_len, fif_len, ldY_len]; omega) | decide) (by first | omega | assumption | (simp only [List.length_append, List.length_cons, List.length_nil, List.length_modify, List.length_set, nb_len, rb_len, rbp_len, sl_len, slN_len, wh_len, wt_len, hd10_len, hdB_len, thr_len, ldp_len, ldB_len, tens_len, whz_len, majL_len, mf_len, tkL_len, ldY_len, fif_len, ldY_len]; omega) | decide) (by first | omega | assumption | (simp only [List.length_append, List.length_cons, List.length_nil, List.length_modify, List.length_set, nb_len, rb_len, rbp_len, sl_len, slN_len, wh_len, wt_len, hd10_len, hdB_len, thr_len, ldp_len, ldB_len, tens_len, whz_len, majL_len, mf_len, tkL_len, ldY_len, fif_len, ldY_len]; omega) | decide)) kX9_99 vX9_in (by decide) rfl ho [0] 1 (by decide +kernel) rfl rfl hl.1 rfl (Nat.le_of_ble_eq_true rfl) dX9_state_3 0 0 rfl rfl (by decide) (fun v u_1 H locs hq ho => ?_)
  obtain rfl := hq
  have ho : ow D vwCl A s.heap H locs [bX K h ar ad ck bi lo F] := ho
  refine W.eq (g2 := F0 m 6 ls [.int (bI (decide (0 ≤ d ∧ d ≤ 1)))]) rfl ?_
  refine o_ifb_ne (tgt := 11) hx hb dX9_state_6 (by decide) (fun c_2 => ?_) (fun c_2 => ?_)
  · skip
    refine lv_iload_n hx hb dX9_state_11 rfl (lv_at hl 2 rfl) ?_
    refine lv_tableIn (off := 91) (tgt := 103) hx hb dX9_state_12 (by decide) (by decide) rfl (by decide) ?_
    refine lv_aload_n hx hb dX9_state_103 rfl (lv_at hl 0 rfl) ?_
    refine o_get (v := .ref (ar 18)) C ho 0 0 rfl rfl rfl 22 fX9_65 rfl dX9_state_104 ?_
    refine lv_iload_n hx hb dX9_state_107 rfl (lv_at hl 1 rfl) ?_
    refine o_iald (v := (-1)) C ho 0 19 rfl rfl 0 rfl d rfl (by omega) (by omega) qz dX9_state_108 ?_
    refine lv_if_ge (tgt := 116) hx hb dX9_state_109 (by decide) (fun c_3 => ?_) (fun c_3 => ?_)
    · skip
      exact absurd c_3 (by decide)
    · skip
      refine lv_iconst (v := nI 0) hx hb dX9_state_112 (by decide) ?_
      refine lv_goto (tgt := 122) hx hb dX9_state_113 (by decide) ?_
      exact o_iret hQ C rfl ho () rfl rfl (Nat.le_of_ble_eq_true rfl) (Nat.le_of_ble_eq_true rfl) dX9_state_122
  · skip
    rw [decide_eq_true (by omega)] at c_2; exact absurd c_2 (by decide)

set_option maxHeartbeats 4000000 in
set_option maxRecDepth 100000 in
theorem c_M_state7 (la : Launch) (D : va_G) (K : Nat → ClassId) (h : Nat) (ar : Nat → Nat) (ad : Nat) (ck : Nat) (bi : Nat) (lo : Nat) (F : Nat → Nat → Int32) (d : Nat) (y : Bool) (q2d : d < 2) (qy : F 22 d = bI y) : MT la D K yX9_state cX9_state 3 (some .int) (rmL 2 0 0) [.ref h, .int (nI d), .int (nI 7)] [bX K h ar ad ck bi lo F] Unit (fun v _ => v = some (.int (bI y))) (fun _ => [bX K h ar ad ck bi lo F]) := by
  refine Mt.ofW [(0, .ref h), (1, .int (nI d)), (2, .int (nI 7))] (by decide) rfl (Nat.le_of_ble_eq_true rfl) ?_
  intro p e s m args below meth c A ls H locs Qz hQ C hin hl ho
  have hx := C.1.1
  have hb := C.1.2.1
  refine lv_iload_n hx hb dX9_state_0 rfl (lv_at hl 1 rfl) ?_
  refine lv_iconst (v := nI 0) hx hb dX9_state_1 (by decide) ?_
  refine lv_iconst (v := nI 1) hx hb dX9_state_2 (by decide) ?_
  refine o_callS (wr := [bX K h ar ad ck bi lo F]) (rest := []) (As := [.int (nI d), .int (nI 0), .int (nI 1)]) C (c_M_in la D K d 0 1 (by first | omega | assumption | (simp only [List.length_append, List.length_cons, List.length_nil, List.length_modify, List.length_set, nb_len, rb_len, rbp_len, sl_len, slN_len, wh_len, wt_len, hd10_len, hdB_len, thr_len, ldp_len, ldB_len, tens_len, whz_len, majL_len, mf_len, tkL_len, ldY_len, fif_len, ldY_len]; omega) | decide) (by first | omega | assumption | (simp only [List.length_append, List.length_cons, List.length_nil, List.length_modify, List.length_set, nb_len, rb_len, rbp_len, sl_len, slN_len, wh_len, wt_len, hd10_len, hdB_len, thr_len, ldp_len, ldB_len, tens_len, whz_len, majL_len, mf_len, tkL_len, ldY_len, fif_len, ldY_len]; omega) | decide) (by first | omega | assumption | (simp only [List.length_append, List.length_cons, List.length_nil, List.length_modify, List.length_set, nb_len, rb_len, rbp_len, sl_len, slN_len, wh_len, wt_len, hd10_len, hdB_len, thr_len, ldp_len, ldB_len, tens_len, whz_len, majL_len, mf_len, tkL_len, ldY_len, fif_len, ldY_len]; omega) | decide)) kX9_99 vX9_in (by decide) rfl ho [0] 1 (by decide +kernel) rfl rfl hl.1 rfl (Nat.le_of_ble_eq_true rfl) dX9_state_3 0 0 rfl rfl (by decide) (fun v u_1 H locs hq ho => ?_)
  obtain rfl := hq
  have ho : ow D vwCl A s.heap H locs [bX K h ar ad ck bi lo F] := ho
  refine W.eq (g2 := F0 m 6 ls [.int (bI (decide (0 ≤ d ∧ d ≤ 1)))]) rfl ?_
  refine o_ifb_ne (tgt := 11) hx hb dX9_state_6 (by decide) (fun c_2 => ?_) (fun c_2 => ?_)
  · skip
    refine lv_iload_n hx hb dX9_state_11 rfl (lv_at hl 2 rfl) ?_
    refine lv_tableIn (off := 125) (tgt := 137) hx hb dX9_state_12 (by decide) (by decide) rfl (by decide) ?_
    refine lv_aload_n hx hb dX9_state_137 rfl (lv_at hl 0 rfl) ?_
    refine o_get (v := .ref (ar 22)) C ho 0 0 rfl rfl rfl 26 fX9_77 rfl dX9_state_138 ?_
    refine lv_iload_n hx hb dX9_state_141 rfl (lv_at hl 1 rfl) ?_
    refine o_iald (v := bI y) C ho 0 23 rfl rfl 0 rfl d rfl (by omega) (by omega) qy dX9_state_142 ?_
    exact o_iret hQ C rfl ho () rfl rfl (Nat.le_of_ble_eq_true rfl) (Nat.le_of_ble_eq_true rfl) dX9_state_143
  · skip
    rw [decide_eq_true (by omega)] at c_2; exact absurd c_2 (by decide)

set_option maxHeartbeats 4000000 in
set_option maxRecDepth 100000 in
theorem c_M_state8 (la : Launch) (D : va_G) (K : Nat → ClassId) (h : Nat) (ar : Nat → Nat) (ad : Nat) (ck : Nat) (bi : Nat) (lo : Nat) (F : Nat → Nat → Int32) (d : Nat) (y : Bool) (q2d : d < 2) (qy : F 24 d = bI y) : MT la D K yX9_state cX9_state 3 (some .int) (rmL 2 0 0) [.ref h, .int (nI d), .int (nI 8)] [bX K h ar ad ck bi lo F] Unit (fun v _ => v = some (.int (bI y))) (fun _ => [bX K h ar ad ck bi lo F]) := by
  refine Mt.ofW [(0, .ref h), (1, .int (nI d)), (2, .int (nI 8))] (by decide) rfl (Nat.le_of_ble_eq_true rfl) ?_
  intro p e s m args below meth c A ls H locs Qz hQ C hin hl ho
  have hx := C.1.1
  have hb := C.1.2.1
  refine lv_iload_n hx hb dX9_state_0 rfl (lv_at hl 1 rfl) ?_
  refine lv_iconst (v := nI 0) hx hb dX9_state_1 (by decide) ?_
  refine lv_iconst (v := nI 1) hx hb dX9_state_2 (by decide) ?_
  refine o_callS (wr := [bX K h ar ad ck bi lo F]) (rest := []) (As := [.int (nI d), .int (nI 0), .int (nI 1)]) C (c_M_in la D K d 0 1 (by first | omega | assumption | (simp only [List.length_append, List.length_cons, List.length_nil, List.length_modify, List.length_set, nb_len, rb_len, rbp_len, sl_len, slN_len, wh_len, wt_len, hd10_len, hdB_len, thr_len, ldp_len, ldB_len, tens_len, whz_len, majL_len, mf_len, tkL_len, ldY_len, fif_len, ldY_len]; omega) | decide) (by first | omega | assumption | (simp only [List.length_append, List.length_cons, List.length_nil, List.length_modify, List.length_set, nb_len, rb_len, rbp_len, sl_len, slN_len, wh_len, wt_len, hd10_len, hdB_len, thr_len, ldp_len, ldB_len, tens_len, whz_len, majL_len, mf_len, tkL_len, ldY_len, fif_len, ldY_len]; omega) | decide) (by first | omega | assumption | (simp only [List.length_append, List.length_cons, List.length_nil, List.length_modify, List.length_set, nb_len, rb_len, rbp_len, sl_len, slN_len, wh_len, wt_len, hd10_len, hdB_len, thr_len, ldp_len, ldB_len, tens_len, whz_len, majL_len, mf_len, tkL_len, ldY_len, fif_len, ldY_len]; omega) | decide)) kX9_99 vX9_in (by decide) rfl ho [0] 1 (by decide +kernel) rfl rfl hl.1 rfl (Nat.le_of_ble_eq_true rfl) dX9_state_3 0 0 rfl rfl (by decide) (fun v u_1 H locs hq ho => ?_)
  obtain rfl := hq
  have ho : ow D vwCl A s.heap H locs [bX K h ar ad ck bi lo F] := ho
  refine W.eq (g2 := F0 m 6 ls [.int (bI (decide (0 ≤ d ∧ d ≤ 1)))]) rfl ?_
  refine o_ifb_ne (tgt := 11) hx hb dX9_state_6 (by decide) (fun c_2 => ?_) (fun c_2 => ?_)
  · skip
    refine lv_iload_n hx hb dX9_state_11 rfl (lv_at hl 2 rfl) ?_
    refine lv_tableIn (off := 132) (tgt := 144) hx hb dX9_state_12 (by decide) (by decide) rfl (by decide) ?_
    refine lv_aload_n hx hb dX9_state_144 rfl (lv_at hl 0 rfl) ?_
    refine o_get (v := .ref (ar 24)) C ho 0 0 rfl rfl rfl 28 fX9_83 rfl dX9_state_145 ?_
    refine lv_iload_n hx hb dX9_state_148 rfl (lv_at hl 1 rfl) ?_
    refine o_zald (v := bI y) C ho 0 25 rfl rfl 3 rfl d rfl (by omega) (by decide) qy dX9_state_149 ?_
    refine o_ifb_eq (tgt := 157) hx hb dX9_state_150 (by decide) (fun c_3 => ?_) (fun c_3 => ?_)
    · skip
      refine lv_iconst (v := nI 0) hx hb dX9_state_157 (by decide) ?_
      exact o_iret hQ C rfl ho () (by rw [c_3]; rfl) rfl (Nat.le_of_ble_eq_true rfl) (Nat.le_of_ble_eq_true rfl) dX9_state_158
    · skip
      refine lv_iconst (v := nI 1) hx hb dX9_state_153 (by decide) ?_
      refine lv_goto (tgt := 158) hx hb dX9_state_154 (by decide) ?_
      exact o_iret hQ C rfl ho () (by rw [c_3]; rfl) rfl (Nat.le_of_ble_eq_true rfl) (Nat.le_of_ble_eq_true rfl) dX9_state_158
  · skip
    rw [decide_eq_true (by omega)] at c_2; exact absurd c_2 (by decide)

set_option maxHeartbeats 4000000 in
set_option maxRecDepth 100000 in
theorem c_M_state9 (la : Launch) (D : va_G) (K : Nat → ClassId) (h : Nat) (ar : Nat → Nat) (ad : Nat) (ck : Nat) (bi : Nat) (lo : Nat) (F : Nat → Nat → Int32) (d : Nat) (y : Bool) (q2d : d < 2) (qy : F 25 d = bI y) : MT la D K yX9_state cX9_state 3 (some .int) (rmL 2 0 0) [.ref h, .int (nI d), .int (nI 9)] [bX K h ar ad ck bi lo F] Unit (fun v _ => v = some (.int (bI y))) (fun _ => [bX K h ar ad ck bi lo F]) := by
  refine Mt.ofW [(0, .ref h), (1, .int (nI d)), (2, .int (nI 9))] (by decide) rfl (Nat.le_of_ble_eq_true rfl) ?_
  intro p e s m args below meth c A ls H locs Qz hQ C hin hl ho
  have hx := C.1.1
  have hb := C.1.2.1
  refine lv_iload_n hx hb dX9_state_0 rfl (lv_at hl 1 rfl) ?_
  refine lv_iconst (v := nI 0) hx hb dX9_state_1 (by decide) ?_
  refine lv_iconst (v := nI 1) hx hb dX9_state_2 (by decide) ?_
  refine o_callS (wr := [bX K h ar ad ck bi lo F]) (rest := []) (As := [.int (nI d), .int (nI 0), .int (nI 1)]) C (c_M_in la D K d 0 1 (by first | omega | assumption | (simp only [List.length_append, List.length_cons, List.length_nil, List.length_modify, List.length_set, nb_len, rb_len, rbp_len, sl_len, slN_len, wh_len, wt_len, hd10_len, hdB_len, thr_len, ldp_len, ldB_len, tens_len, whz_len, majL_len, mf_len, tkL_len, ldY_len, fif_len, ldY_len]; omega) | decide) (by first | omega | assumption | (simp only [List.length_append, List.length_cons, List.length_nil, List.length_modify, List.length_set, nb_len, rb_len, rbp_len, sl_len, slN_len, wh_len, wt_len, hd10_len, hdB_len, thr_len, ldp_len, ldB_len, tens_len, whz_len, majL_len, mf_len, tkL_len, ldY_len, fif_len, ldY_len]; omega) | decide) (by first | omega | assumption | (simp only [List.length_append, List.length_cons, List.length_nil, List.length_modify, List.length_set, nb_len, rb_len, rbp_len, sl_len, slN_len, wh_len, wt_len, hd10_len, hdB_len, thr_len, ldp_len, ldB_len, tens_len, whz_len, majL_len, mf_len, tkL_len, ldY_len, fif_len, ldY_len]; omega) | decide)) kX9_99 vX9_in (by decide) rfl ho [0] 1 (by decide +kernel) rfl rfl hl.1 rfl (Nat.le_of_ble_eq_true rfl) dX9_state_3 0 0 rfl rfl (by decide) (fun v u_1 H locs hq ho => ?_)
  obtain rfl := hq
  have ho : ow D vwCl A s.heap H locs [bX K h ar ad ck bi lo F] := ho
  refine W.eq (g2 := F0 m 6 ls [.int (bI (decide (0 ≤ d ∧ d ≤ 1)))]) rfl ?_
  refine o_ifb_ne (tgt := 11) hx hb dX9_state_6 (by decide) (fun c_2 => ?_) (fun c_2 => ?_)
  · skip
    refine lv_iload_n hx hb dX9_state_11 rfl (lv_at hl 2 rfl) ?_
    refine lv_tableIn (off := 147) (tgt := 159) hx hb dX9_state_12 (by decide) (by decide) rfl (by decide) ?_
    refine lv_aload_n hx hb dX9_state_159 rfl (lv_at hl 0 rfl) ?_
    refine o_get (v := .ref (ar 25)) C ho 0 0 rfl rfl rfl 29 fX9_86 rfl dX9_state_160 ?_
    refine lv_iload_n hx hb dX9_state_163 rfl (lv_at hl 1 rfl) ?_
    refine o_zald (v := bI y) C ho 0 26 rfl rfl 3 rfl d rfl (by omega) (by decide) qy dX9_state_164 ?_
    refine o_ifb_eq (tgt := 172) hx hb dX9_state_165 (by decide) (fun c_3 => ?_) (fun c_3 => ?_)
    · skip
      refine lv_iconst (v := nI 0) hx hb dX9_state_172 (by decide) ?_
      exact o_iret hQ C rfl ho () (by rw [c_3]; rfl) rfl (Nat.le_of_ble_eq_true rfl) (Nat.le_of_ble_eq_true rfl) dX9_state_173
    · skip
      refine lv_iconst (v := nI 1) hx hb dX9_state_168 (by decide) ?_
      refine lv_goto (tgt := 173) hx hb dX9_state_169 (by decide) ?_
      exact o_iret hQ C rfl ho () (by rw [c_3]; rfl) rfl (Nat.le_of_ble_eq_true rfl) (Nat.le_of_ble_eq_true rfl) dX9_state_173
  · skip
    rw [decide_eq_true (by omega)] at c_2; exact absurd c_2 (by decide)
