set_option maxHeartbeats 4000000 in
set_option maxRecDepth 100000 in
theorem c_M_nextX (la : Launch) (D : va_G) (K : Nat → ClassId) (h : Nat) (ar : Nat → Nat) (ad : Nat) (ck : Nat) (bi : Nat) (lo : Nat) (F : Nat → Nat → Int32) (x : Int32) (qx : x < nI 0 ∨ nI 1 < x) : MT la D K yX9_next cX9_next 5 (some .int) (rmL 2 0 0) [.ref h, .int x] [bX K h ar ad ck bi lo F] Unit (fun v _ => v = some (.int (-1))) (fun _ => [bX K h ar ad ck bi lo F]) := by
  refine Mt.ofW [(0, .ref h), (1, .int x)] (by decide) rfl (Nat.le_of_ble_eq_true rfl) ?_
  intro p e s m args below meth c A ls H locs Qz hQ C hin hl ho
  have hx := C.1.1
  have hb := C.1.2.1
  refine lv_iload_n hx hb dX9_next_0 rfl (lv_at hl 1 rfl) ?_
  refine lv_iconst (v := nI 0) hx hb dX9_next_1 (by decide) ?_
  refine lv_iconst (v := nI 1) hx hb dX9_next_2 (by decide) ?_
  refine o_callS (wr := [bX K h ar ad ck bi lo F]) (rest := []) (As := [.int x, .int (nI 0), .int (nI 1)]) C (c_M_inN la D K x 0 1 (by first | omega | assumption | (simp only [List.length_append, List.length_cons, List.length_nil, List.length_modify, List.length_set, nb_len, rb_len, rbp_len, sl_len, slN_len, wh_len, wt_len, hd10_len, hdB_len, thr_len, ldp_len, ldB_len, tens_len, whz_len, majL_len, mf_len, tkL_len, ldY_len, fif_len, ldY_len]; omega) | decide)) kX9_99 vX9_in (by decide) rfl ho [0] 1 (by decide +kernel) rfl rfl hl.1 rfl (Nat.le_of_ble_eq_true rfl) dX9_next_3 0 0 rfl rfl (by decide) (fun v u_1 H locs hq ho => ?_)
  obtain rfl := hq
  have ho : ow D vwCl A s.heap H locs [bX K h ar ad ck bi lo F] := ho
  refine W.eq (g2 := F0 m 6 ls [.int (bI false)]) rfl ?_
  refine o_ifb_eq (tgt := 18) hx hb dX9_next_6 (by decide) (fun _ => ?_) (fun c9 => absurd c9 (by decide))
  refine lv_iconst (v := (-1)) hx hb dX9_next_18 (by decide) ?_
  exact o_iret hQ C rfl ho () rfl rfl (Nat.le_of_ble_eq_true rfl) (Nat.le_of_ble_eq_true rfl) dX9_next_19

set_option maxHeartbeats 4000000 in
set_option maxRecDepth 100000 in
theorem c_M_next0 (la : Launch) (D : va_G) (K : Nat → ClassId) (h : Nat) (ar : Nat → Nat) (ad : Nat) (ck : Nat) (bi : Nat) (lo : Nat) (F : Nat → Nat → Int32) (d : Nat) (q2d : d < 2) (q0 : F 15 d = nI 0) : MT la D K yX9_next cX9_next 5 (some .int) (rmL 2 0 0) [.ref h, .int (nI d)] [bX K h ar ad ck bi lo F] Unit (fun v _ => v = some (.int (-1))) (fun _ => [bX K h ar ad ck bi lo F]) := by
  refine Mt.ofW [(0, .ref h), (1, .int (nI d))] (by decide) rfl (Nat.le_of_ble_eq_true rfl) ?_
  intro p e s m args below meth c A ls H locs Qz hQ C hin hl ho
  have hx := C.1.1
  have hb := C.1.2.1
  refine lv_iload_n hx hb dX9_next_0 rfl (lv_at hl 1 rfl) ?_
  refine lv_iconst (v := nI 0) hx hb dX9_next_1 (by decide) ?_
  refine lv_iconst (v := nI 1) hx hb dX9_next_2 (by decide) ?_
  refine o_callS (wr := [bX K h ar ad ck bi lo F]) (rest := []) (As := [.int (nI d), .int (nI 0), .int (nI 1)]) C (c_M_in la D K d 0 1 (by first | omega | assumption | (simp only [List.length_append, List.length_cons, List.length_nil, List.length_modify, List.length_set, nb_len, rb_len, rbp_len, sl_len, slN_len, wh_len, wt_len, hd10_len, hdB_len, thr_len, ldp_len, ldB_len, tens_len, whz_len, majL_len, mf_len, tkL_len, ldY_len, fif_len, ldY_len]; omega) | decide) (by first | omega | assumption | (simp only [List.length_append, List.length_cons, List.length_nil, List.length_modify, List.length_set, nb_len, rb_len, rbp_len, sl_len, slN_len, wh_len, wt_len, hd10_len, hdB_len, thr_len, ldp_len, ldB_len, tens_len, whz_len, majL_len, mf_len, tkL_len, ldY_len, fif_len, ldY_len]; omega) | decide) (by first | omega | assumption | (simp only [List.length_append, List.length_cons, List.length_nil, List.length_modify, List.length_set, nb_len, rb_len, rbp_len, sl_len, slN_len, wh_len, wt_len, hd10_len, hdB_len, thr_len, ldp_len, ldB_len, tens_len, whz_len, majL_len, mf_len, tkL_len, ldY_len, fif_len, ldY_len]; omega) | decide)) kX9_99 vX9_in (by decide) rfl ho [0] 1 (by decide +kernel) rfl rfl hl.1 rfl (Nat.le_of_ble_eq_true rfl) dX9_next_3 0 0 rfl rfl (by decide) (fun v u_1 H locs hq ho => ?_)
  obtain rfl := hq
  have ho : ow D vwCl A s.heap H locs [bX K h ar ad ck bi lo F] := ho
  refine W.eq (g2 := F0 m 6 ls [.int (bI (decide (0 ≤ d ∧ d ≤ 1)))]) rfl ?_
  refine o_ifb_eq (tgt := 18) hx hb dX9_next_6 (by decide) (fun c_2 => ?_) (fun c_2 => ?_)
  · skip
    rw [decide_eq_true (by omega)] at c_2; exact absurd c_2 (by decide)
  · skip
    refine lv_aload_n hx hb dX9_next_9 rfl (lv_at hl 0 rfl) ?_
    refine o_get (v := .ref (ar 15)) C ho 0 0 rfl rfl rfl 19 fX9_56 rfl dX9_next_10 ?_
    refine lv_iload_n hx hb dX9_next_13 rfl (lv_at hl 1 rfl) ?_
    refine o_iald (v := nI 0) C ho 0 16 rfl rfl 0 rfl d rfl (by omega) (by omega) q0 dX9_next_14 ?_
    refine o_if_ne (tgt := 20) hx hb dX9_next_15 (by decide) (by decide) (fun c9 => absurd c9 (by decide)) (fun _ => ?_)
    refine lv_iconst (v := (-1)) hx hb dX9_next_18 (by decide) ?_
    exact o_iret hQ C rfl ho () rfl rfl (Nat.le_of_ble_eq_true rfl) (Nat.le_of_ble_eq_true rfl) dX9_next_19

set_option maxHeartbeats 4000000 in
set_option maxRecDepth 100000 in
theorem c_M_next (la : Launch) (D : va_G) (K : Nat → ClassId) (h : Nat) (ar : Nat → Nat) (ad : Nat) (ck : Nat) (bi : Nat) (lo : Nat) (F : Nat → Nat → Int32) (d : Nat) (tn : Nat) (ln : Nat) (q2d : d < 2) (q0 : F 15 d = nI tn) (qt : 0 < tn) (qt2 : tn ≤ 6) (ql : F 16 (6 * d) = nI ln) (qln : ln ≤ 255) : MT la D K yX9_next cX9_next 5 (some .int) (rmL 2 0 0) [.ref h, .int (nI d)] [bX K h ar ad ck bi lo F] Unit (fun v _ => v = some (.int (nI ln))) (fun _ => [bX K h ar ad ck bi lo (va_up (va_up (va_up F 15 (upd (F 15) d (nI (tn - 1)))) 16 (va_cpy (F 16) (F 16) (6 * d + 1) (6 * d) (tn - 1))) 17 (va_cpy (F 17) (F 17) (255 * (6 * d) + 255) (255 * (6 * d)) (255 * (tn - 1))))]) := by
  refine Mt.ofW [(0, .ref h), (1, .int (nI d))] (by decide) rfl (Nat.le_of_ble_eq_true rfl) ?_
  intro p e s m args below meth c A ls H locs Qz hQ C hin hl ho
  have hx := C.1.1
  have hb := C.1.2.1
  refine lv_iload_n hx hb dX9_next_0 rfl (lv_at hl 1 rfl) ?_
  refine lv_iconst (v := nI 0) hx hb dX9_next_1 (by decide) ?_
  refine lv_iconst (v := nI 1) hx hb dX9_next_2 (by decide) ?_
  refine o_callS (wr := [bX K h ar ad ck bi lo F]) (rest := []) (As := [.int (nI d), .int (nI 0), .int (nI 1)]) C (c_M_in la D K d 0 1 (by first | omega | assumption | (simp only [List.length_append, List.length_cons, List.length_nil, List.length_modify, List.length_set, nb_len, rb_len, rbp_len, sl_len, slN_len, wh_len, wt_len, hd10_len, hdB_len, thr_len, ldp_len, ldB_len, tens_len, whz_len, majL_len, mf_len, tkL_len, ldY_len, fif_len, ldY_len]; omega) | decide) (by first | omega | assumption | (simp only [List.length_append, List.length_cons, List.length_nil, List.length_modify, List.length_set, nb_len, rb_len, rbp_len, sl_len, slN_len, wh_len, wt_len, hd10_len, hdB_len, thr_len, ldp_len, ldB_len, tens_len, whz_len, majL_len, mf_len, tkL_len, ldY_len, fif_len, ldY_len]; omega) | decide) (by first | omega | assumption | (simp only [List.length_append, List.length_cons, List.length_nil, List.length_modify, List.length_set, nb_len, rb_len, rbp_len, sl_len, slN_len, wh_len, wt_len, hd10_len, hdB_len, thr_len, ldp_len, ldB_len, tens_len, whz_len, majL_len, mf_len, tkL_len, ldY_len, fif_len, ldY_len]; omega) | decide)) kX9_99 vX9_in (by decide) rfl ho [0] 1 (by decide +kernel) rfl rfl hl.1 rfl (Nat.le_of_ble_eq_true rfl) dX9_next_3 0 0 rfl rfl (by decide) (fun v u_1 H locs hq ho => ?_)
  obtain rfl := hq
  have ho : ow D vwCl A s.heap H locs [bX K h ar ad ck bi lo F] := ho
  refine W.eq (g2 := F0 m 6 ls [.int (bI (decide (0 ≤ d ∧ d ≤ 1)))]) rfl ?_
  refine o_ifb_eq (tgt := 18) hx hb dX9_next_6 (by decide) (fun c_2 => ?_) (fun c_2 => ?_)
  · skip
    rw [decide_eq_true (by omega)] at c_2; exact absurd c_2 (by decide)
  · skip
    refine lv_aload_n hx hb dX9_next_9 rfl (lv_at hl 0 rfl) ?_
    refine o_get (v := .ref (ar 15)) C ho 0 0 rfl rfl rfl 19 fX9_56 rfl dX9_next_10 ?_
    refine lv_iload_n hx hb dX9_next_13 rfl (lv_at hl 1 rfl) ?_
    refine o_iald (v := nI tn) C ho 0 16 rfl rfl 0 rfl d rfl (by omega) (by omega) q0 dX9_next_14 ?_
    refine o_if_ne (tgt := 20) hx hb dX9_next_15 (by decide) (by omega) (fun c_3 => ?_) (fun c_3 => ?_)
    · skip
      refine lv_aload_n hx hb dX9_next_20 rfl (lv_at hl 0 rfl) ?_
      refine o_get (v := .ref (ar 16)) C ho 0 0 rfl rfl rfl 20 fX9_59 rfl dX9_next_21 ?_
      refine lv_bipush (v := nI 6) hx hb dX9_next_24 (by decide) ?_
      refine lv_iload_n hx hb dX9_next_26 rfl (lv_at hl 1 rfl) ?_
      refine o_mul hx hb dX9_next_27 ?_
      refine o_iald (v := nI ln) C ho 0 17 rfl rfl 0 rfl (6 * d) rfl (by omega) (by omega) ql dX9_next_28 ?_
      refine lv_istore_n (lv' := [(2, .int (nI ln)), (0, .ref h), (1, .int (nI d))]) hx hb dX9_next_29 rfl hl (by decide) rfl (fun ls hl => ?_)
      refine lv_aload_n hx hb dX9_next_30 rfl (lv_at hl 1 rfl) ?_
      refine o_get (v := .ref (ar 15)) C ho 0 0 rfl rfl rfl 19 fX9_56 rfl dX9_next_31 ?_
      refine lv_iload_n hx hb dX9_next_34 rfl (lv_at hl 2 rfl) ?_
      refine lv_dup2_11 hx hb dX9_next_35 rfl rfl ?_
      refine o_iald (v := nI tn) C ho 0 16 rfl rfl 0 rfl d rfl (by omega) (by omega) q0 dX9_next_36 ?_
      refine lv_iconst (v := nI 1) hx hb dX9_next_37 (by decide) ?_
      refine o_sub hx hb dX9_next_38 (by omega) ?_
      refine o_iast (bs' := [bX K h ar ad ck bi lo (va_up F 15 (upd (F 15) d (nI (tn - 1))))]) C ho 0 16 rfl rfl 0 rfl d rfl (by omega) (by decide) dX9_next_39 rfl (fun H locs ho => ?_)
      refine lv_bipush (v := nI 6) hx hb dX9_next_40 (by decide) ?_
      refine lv_iload_n hx hb dX9_next_42 rfl (lv_at hl 2 rfl) ?_
      refine o_mul hx hb dX9_next_43 ?_
      refine lv_istore_n (lv' := [(3, .int (nI (6 * d))), (2, .int (nI ln)), (0, .ref h), (1, .int (nI d))]) hx hb dX9_next_44 rfl hl (by decide) rfl (fun ls hl => ?_)
      have e_4 : (.int (nI (6 * d)) : Value) = .int (nI (6 * d + 0)) := rfl
      have hl : lv_has ls 5 [(3, .int (nI (6 * d + 0))), (2, .int (nI ln)), (0, .ref h), (1, .int (nI d))] := by rw [← e_4]; exact hl
      have e_5 : bX K h ar ad ck bi lo (va_up F 15 (upd (F 15) d (nI (tn - 1)))) = bX K h ar ad ck bi lo (va_up (va_up (va_up F 15 (upd (F 15) d (nI (tn - 1)))) 16 (va_cpy (F 16) (F 16) (6 * d + 1) (6 * d) 0)) 17 (va_cpy (F 17) (F 17) (255 * (6 * d) + 255) (255 * (6 * d)) (255 * 0))) := by rw [Nat.mul_zero, cpy_0, cpy_0]; exact congrArg (bX K h ar ad ck bi lo) (up_1617 _ _)
      have ho : ow D vwCl A s.heap H locs [bX K h ar ad ck bi lo (va_up (va_up (va_up F 15 (upd (F 15) d (nI (tn - 1)))) 16 (va_cpy (F 16) (F 16) (6 * d + 1) (6 * d) 0)) 17 (va_cpy (F 17) (F 17) (255 * (6 * d) + 255) (255 * (6 * d)) (255 * 0)))] := by rw [← e_5]; exact ho
      have LP45 : ∀ (fuel : Nat) (k : Nat) (_ : tn - 1 - k < fuel) (_ : k ≤ tn - 1) (H : Heap) (locs : List Loc) (ls : Array Slot) (_ : ow D vwCl A s.heap H locs [bX K h ar ad ck bi lo (va_up (va_up (va_up F 15 (upd (F 15) d (nI (tn - 1)))) 16 (va_cpy (F 16) (F 16) (6 * d + 1) (6 * d) k)) 17 (va_cpy (F 17) (F 17) (255 * (6 * d) + 255) (255 * (6 * d)) (255 * k)))]) (_ : lv_has ls 5 [(0, .ref h), (1, .int (nI d)), (2, .int (nI ln)), (3, .int (nI (6 * d + k)))]), W p la e (rmL 2 0 0) s m args below meth c H locs 0 0 Qz (F0 m 45 ls []) := by
        intro fuel
        induction fuel with
        | zero => intro k h0; exact absurd h0 (Nat.not_lt_zero _)
        | succ fuel ih45 =>
          intro k hfu hk H locs ls ho hl
          refine lv_iload_n hx hb dX9_next_45 rfl (lv_at hl 3 rfl) ?_
          refine lv_bipush (v := nI 6) hx hb dX9_next_46 (by decide) ?_
          refine lv_iload_n hx hb dX9_next_48 rfl (lv_at hl 1 rfl) ?_
          refine o_mul hx hb dX9_next_49 ?_
          refine lv_aload_n hx hb dX9_next_50 rfl (lv_at hl 0 rfl) ?_
          refine o_get (v := .ref (ar 15)) C ho 0 0 rfl rfl rfl 19 fX9_56 rfl dX9_next_51 ?_
          refine lv_iload_n hx hb dX9_next_54 rfl (lv_at hl 1 rfl) ?_
          refine o_iald (v := nI (tn - 1)) C ho 0 16 rfl rfl 0 rfl d rfl (by omega) (by omega) pk_us dX9_next_55 ?_
          refine o_add hx hb dX9_next_56 ?_
          refine o_icmp_ge (tgt := 127) hx hb dX9_next_57 (by decide) (by first | omega | exact and1_lt _) (by first | omega | exact and1_lt _) (fun c_6 => ?_) (fun c_6 => ?_)
          · skip
            refine lv_iload_n hx hb dX9_next_127 rfl (lv_at hl 2 rfl) ?_
            exact o_iret hQ C rfl ho () rfl (by rw [show tn - 1 = k by omega]) (Nat.le_of_ble_eq_true rfl) (Nat.le_of_ble_eq_true rfl) dX9_next_128
          · skip
            refine lv_aload_n hx hb dX9_next_60 rfl (lv_at hl 0 rfl) ?_
            refine o_get (v := .ref (ar 16)) C ho 0 0 rfl rfl rfl 20 fX9_59 rfl dX9_next_61 ?_
            refine lv_iload_n hx hb dX9_next_64 rfl (lv_at hl 3 rfl) ?_
            refine lv_aload_n hx hb dX9_next_65 rfl (lv_at hl 0 rfl) ?_
            refine o_get (v := .ref (ar 16)) C ho 0 0 rfl rfl rfl 20 fX9_59 rfl dX9_next_66 ?_
            refine lv_iload_n hx hb dX9_next_69 rfl (lv_at hl 3 rfl) ?_
            refine lv_iconst (v := nI 1) hx hb dX9_next_70 (by decide) ?_
            refine o_add hx hb dX9_next_71 ?_
            refine o_iald (v := va_cpy (F 16) (F 16) (6 * d + 1) (6 * d) k ((6 * d + k) + 1)) C ho 0 17 rfl rfl 0 rfl ((6 * d + k) + 1) rfl (by omega) (by omega) rfl dX9_next_72 ?_
            refine o_top (y := F 16 ((6 * d + 1) + k)) (by rw [pk_cpy_out (by omega)]; exact congrArg (F 16) (by omega)) ?_
            refine o_iast (bs' := [bX K h ar ad ck bi lo (va_up (va_up (va_up (va_up F 15 (upd (F 15) d (nI (tn - 1)))) 16 (va_cpy (F 16) (F 16) (6 * d + 1) (6 * d) k)) 17 (va_cpy (F 17) (F 17) (255 * (6 * d) + 255) (255 * (6 * d)) (255 * k))) 16 (upd (va_cpy (F 16) (F 16) (6 * d + 1) (6 * d) k) (6 * d + k) (F 16 ((6 * d + 1) + k))))]) C ho 0 17 rfl rfl 0 rfl (6 * d + k) rfl (by omega) (by decide) dX9_next_73 rfl (fun H locs ho => ?_)
            have e_7 : bX K h ar ad ck bi lo (va_up (va_up (va_up (va_up F 15 (upd (F 15) d (nI (tn - 1)))) 16 (va_cpy (F 16) (F 16) (6 * d + 1) (6 * d) k)) 17 (va_cpy (F 17) (F 17) (255 * (6 * d) + 255) (255 * (6 * d)) (255 * k))) 16 (upd (va_cpy (F 16) (F 16) (6 * d + 1) (6 * d) k) (6 * d + k) (F 16 ((6 * d + 1) + k)))) = bX K h ar ad ck bi lo (va_up (va_up (va_up F 15 (upd (F 15) d (nI (tn - 1)))) 16 (va_cpy (F 16) (F 16) (6 * d + 1) (6 * d) (k + 1))) 17 (va_cpy (F 17) (F 17) (255 * (6 * d) + 255) (255 * (6 * d)) (255 * k))) := by rw [up_c1617, show (6 * d + k : Nat) = 6 * d + k from rfl, cpy_succ]
            have ho : ow D vwCl A s.heap H locs [bX K h ar ad ck bi lo (va_up (va_up (va_up F 15 (upd (F 15) d (nI (tn - 1)))) 16 (va_cpy (F 16) (F 16) (6 * d + 1) (6 * d) (k + 1))) 17 (va_cpy (F 17) (F 17) (255 * (6 * d) + 255) (255 * (6 * d)) (255 * k)))] := by rw [← e_7]; exact ho
            refine lv_iconst (v := nI 0) hx hb dX9_next_74 (by decide) ?_
            refine lv_istore (lv' := [(4, .int (nI 0)), (0, .ref h), (1, .int (nI d)), (2, .int (nI ln)), (3, .int (nI (6 * d + k)))]) hx hb dX9_next_75 hl (by decide) rfl (fun ls hl => ?_)
            have e_8 : bX K h ar ad ck bi lo (va_up (va_up (va_up F 15 (upd (F 15) d (nI (tn - 1)))) 16 (va_cpy (F 16) (F 16) (6 * d + 1) (6 * d) (k + 1))) 17 (va_cpy (F 17) (F 17) (255 * (6 * d) + 255) (255 * (6 * d)) (255 * k))) = bX K h ar ad ck bi lo (va_up (va_up (va_up F 15 (upd (F 15) d (nI (tn - 1)))) 16 (va_cpy (F 16) (F 16) (6 * d + 1) (6 * d) (k + 1))) 17 (va_cpy (F 17) (F 17) (255 * (6 * d) + 255) (255 * (6 * d)) (255 * k + 0))) := rfl
            have ho : ow D vwCl A s.heap H locs [bX K h ar ad ck bi lo (va_up (va_up (va_up F 15 (upd (F 15) d (nI (tn - 1)))) 16 (va_cpy (F 16) (F 16) (6 * d + 1) (6 * d) (k + 1))) 17 (va_cpy (F 17) (F 17) (255 * (6 * d) + 255) (255 * (6 * d)) (255 * k + 0)))] := by rw [← e_8]; exact ho
            have LP77 : ∀ (fuel : Nat) (i : Nat) (_ : 255 - i < fuel) (_ : i ≤ 255) (H : Heap) (locs : List Loc) (ls : Array Slot) (_ : ow D vwCl A s.heap H locs [bX K h ar ad ck bi lo (va_up (va_up (va_up F 15 (upd (F 15) d (nI (tn - 1)))) 16 (va_cpy (F 16) (F 16) (6 * d + 1) (6 * d) (k + 1))) 17 (va_cpy (F 17) (F 17) (255 * (6 * d) + 255) (255 * (6 * d)) (255 * k + i)))]) (_ : lv_has ls 5 [(0, .ref h), (1, .int (nI d)), (2, .int (nI ln)), (3, .int (nI (6 * d + k))), (4, .int (nI i))]), W p la e (rmL 2 0 0) s m args below meth c H locs 0 0 Qz (F0 m 77 ls []) := by
              intro fuel
              induction fuel with
              | zero => intro i h0; exact absurd h0 (Nat.not_lt_zero _)
              | succ fuel ih77 =>
                intro i hfu hi H locs ls ho hl
                refine lv_iload hx hb dX9_next_77 (lv_at hl 4 rfl) ?_
                refine lv_sipush (v := nI 255) hx hb dX9_next_79 (by decide) ?_
                refine o_icmp_ge (tgt := 121) hx hb dX9_next_82 (by decide) (by first | omega | exact and1_lt _) (by first | omega | exact and1_lt _) (fun c_9 => ?_) (fun c_9 => ?_)
                · skip
                  have e_10 : bX K h ar ad ck bi lo (va_up (va_up (va_up F 15 (upd (F 15) d (nI (tn - 1)))) 16 (va_cpy (F 16) (F 16) (6 * d + 1) (6 * d) (k + 1))) 17 (va_cpy (F 17) (F 17) (255 * (6 * d) + 255) (255 * (6 * d)) (255 * k + i))) = bX K h ar ad ck bi lo (va_up (va_up (va_up F 15 (upd (F 15) d (nI (tn - 1)))) 16 (va_cpy (F 16) (F 16) (6 * d + 1) (6 * d) (k + 1))) 17 (va_cpy (F 17) (F 17) (255 * (6 * d) + 255) (255 * (6 * d)) (255 * (k + 1)))) := by rw [show 255 * k + i = 255 * (k + 1) by omega]
                  have ho : ow D vwCl A s.heap H locs [bX K h ar ad ck bi lo (va_up (va_up (va_up F 15 (upd (F 15) d (nI (tn - 1)))) 16 (va_cpy (F 16) (F 16) (6 * d + 1) (6 * d) (k + 1))) 17 (va_cpy (F 17) (F 17) (255 * (6 * d) + 255) (255 * (6 * d)) (255 * (k + 1))))] := by rw [← e_10]; exact ho
                  refine lv_iinc (v := nI (6 * d + k + 1)) (lv' := [(3, .int (nI (6 * d + k + 1))), (0, .ref h), (1, .int (nI d)), (2, .int (nI ln)), (4, .int (nI i))]) hx hb dX9_next_121 hl (k := 3) rfl (iincN _ _) (by decide) rfl (fun ls hl => ?_)
                  have e_11 : (.int (nI (6 * d + k + 1)) : Value) = .int (nI (6 * d + (k + 1))) := rfl
                  have hl : lv_has ls 5 [(3, .int (nI (6 * d + (k + 1)))), (0, .ref h), (1, .int (nI d)), (2, .int (nI ln)), (4, .int (nI i))] := by rw [← e_11]; exact hl
                  refine lv_goto (tgt := 45) hx hb dX9_next_124 (by decide) ?_
                  exact ih45 (k + 1) (by omega) (by omega) _ _ _ ho (lv_sub hl [1, 2, 3, 0] rfl)
                · skip
                  refine lv_aload_n hx hb dX9_next_85 rfl (lv_at hl 0 rfl) ?_
                  refine o_get (v := .ref (ar 17)) C ho 0 0 rfl rfl rfl 21 fX9_62 rfl dX9_next_86 ?_
                  refine lv_sipush (v := nI 255) hx hb dX9_next_89 (by decide) ?_
                  refine lv_iload_n hx hb dX9_next_92 rfl (lv_at hl 3 rfl) ?_
                  refine o_mul hx hb dX9_next_93 ?_
                  refine lv_iload hx hb dX9_next_94 (lv_at hl 4 rfl) ?_
                  refine o_add hx hb dX9_next_96 ?_
                  refine lv_aload_n hx hb dX9_next_97 rfl (lv_at hl 0 rfl) ?_
                  refine o_get (v := .ref (ar 17)) C ho 0 0 rfl rfl rfl 21 fX9_62 rfl dX9_next_98 ?_
                  refine lv_sipush (v := nI 255) hx hb dX9_next_101 (by decide) ?_
                  refine lv_iload_n hx hb dX9_next_104 rfl (lv_at hl 3 rfl) ?_
                  refine o_mul hx hb dX9_next_105 ?_
                  refine lv_sipush (v := nI 255) hx hb dX9_next_106 (by decide) ?_
                  refine o_add hx hb dX9_next_109 ?_
                  refine lv_iload hx hb dX9_next_110 (lv_at hl 4 rfl) ?_
                  refine o_add hx hb dX9_next_112 ?_
                  refine o_iald (v := va_cpy (F 17) (F 17) (255 * (6 * d) + 255) (255 * (6 * d)) (255 * k + i) (((255 * (6 * d + k)) + 255) + i)) C ho 0 18 rfl rfl 0 rfl (((255 * (6 * d + k)) + 255) + i) rfl (by omega) (by omega) rfl dX9_next_113 ?_
                  refine o_top (y := F 17 ((255 * (6 * d) + 255) + (255 * k + i))) (by rw [pk_cpy_out (by omega)]; exact congrArg (F 17) (by omega)) ?_
                  refine o_iast (bs' := [bX K h ar ad ck bi lo (va_up (va_up (va_up (va_up F 15 (upd (F 15) d (nI (tn - 1)))) 16 (va_cpy (F 16) (F 16) (6 * d + 1) (6 * d) (k + 1))) 17 (va_cpy (F 17) (F 17) (255 * (6 * d) + 255) (255 * (6 * d)) (255 * k + i))) 17 (upd (va_cpy (F 17) (F 17) (255 * (6 * d) + 255) (255 * (6 * d)) (255 * k + i)) ((255 * (6 * d + k)) + i) (F 17 ((255 * (6 * d) + 255) + (255 * k + i)))))]) C ho 0 18 rfl rfl 0 rfl ((255 * (6 * d + k)) + i) rfl (by omega) (by decide) dX9_next_114 rfl (fun H locs ho => ?_)
                  have e_12 : bX K h ar ad ck bi lo (va_up (va_up (va_up (va_up F 15 (upd (F 15) d (nI (tn - 1)))) 16 (va_cpy (F 16) (F 16) (6 * d + 1) (6 * d) (k + 1))) 17 (va_cpy (F 17) (F 17) (255 * (6 * d) + 255) (255 * (6 * d)) (255 * k + i))) 17 (upd (va_cpy (F 17) (F 17) (255 * (6 * d) + 255) (255 * (6 * d)) (255 * k + i)) ((255 * (6 * d + k)) + i) (F 17 ((255 * (6 * d) + 255) + (255 * k + i))))) = bX K h ar ad ck bi lo (va_up (va_up (va_up F 15 (upd (F 15) d (nI (tn - 1)))) 16 (va_cpy (F 16) (F 16) (6 * d + 1) (6 * d) (k + 1))) 17 (va_cpy (F 17) (F 17) (255 * (6 * d) + 255) (255 * (6 * d)) (255 * k + (i + 1)))) := by rw [bx_uu, show 255 * (6 * d + k) + i = 255 * (6 * d) + (255 * k + i) by omega, cpy_succ, Nat.add_assoc]
                  have ho : ow D vwCl A s.heap H locs [bX K h ar ad ck bi lo (va_up (va_up (va_up F 15 (upd (F 15) d (nI (tn - 1)))) 16 (va_cpy (F 16) (F 16) (6 * d + 1) (6 * d) (k + 1))) 17 (va_cpy (F 17) (F 17) (255 * (6 * d) + 255) (255 * (6 * d)) (255 * k + (i + 1))))] := by rw [← e_12]; exact ho
                  refine lv_iinc (v := nI (i + 1)) (lv' := [(4, .int (nI (i + 1))), (0, .ref h), (1, .int (nI d)), (2, .int (nI ln)), (3, .int (nI (6 * d + k)))]) hx hb dX9_next_115 hl (k := 4) rfl (iincN _ _) (by decide) rfl (fun ls hl => ?_)
                  refine lv_goto (tgt := 77) hx hb dX9_next_118 (by decide) ?_
                  exact ih77 (i + 1) (by omega) (by omega) _ _ _ ho (lv_sub hl [1, 2, 3, 4, 0] rfl)
            exact LP77 (255 - 0 + 1) 0 (Nat.lt_succ_self _) (by omega) _ _ _ ho (lv_sub hl [1, 2, 3, 4, 0] rfl)
      exact LP45 (tn - 1 - 0 + 1) 0 (Nat.lt_succ_self _) (by omega) _ _ _ ho (lv_sub hl [2, 3, 1, 0] rfl)
    · skip
      exact absurd c_3 (by omega)

set_option maxHeartbeats 4000000 in
set_option maxRecDepth 100000 in
theorem c_M_startSending (la : Launch) (D : va_G) (K : Nat → ClassId) (h : Nat) (ar : Nat → Nat) (ad : Nat) (ck : Nat) (bi : Nat) (lo : Nat) (F : Nat → Nat → Int32) (d : Nat) (sn : Nat) (ln : Nat) (q2d : d < 2) (q0 : F 5 d = nI sn) (qt : 0 < sn) (qt2 : sn ≤ 6) (ql : F 6 (6 * d) = nI ln) (qln : ln ≤ 40) : MT la D K yX9_startSending cX9_startSending 5 none (rmL 1 0 0) [.ref h, .int (nI d)] [bX K h ar ad ck bi lo F] Unit (fun v _ => v = none) (fun _ => [bX K h ar ad ck bi lo (va_up (va_up (va_up (va_up (va_up (va_up F 10 (va_cpy (F 7) (upd (F 10) (41 * d) (nI ln)) (40 * (6 * d)) (41 * d + 1) ln)) 8 (upd (F 8) d (nI (ln + 1)))) 9 (upd (F 9) d (nI 0))) 5 (upd (F 5) d (nI (sn - 1)))) 6 (va_cpy (F 6) (F 6) (6 * d + 1) (6 * d) (sn - 1))) 7 (va_cpy (F 7) (F 7) (40 * (6 * d) + 40) (40 * (6 * d)) (40 * (sn - 1))))]) := by
  refine Mt.ofW [(0, .ref h), (1, .int (nI d))] (by decide) rfl (Nat.le_of_ble_eq_true rfl) ?_
  intro p e s m args below meth c A ls H locs Qz hQ C hin hl ho
  have hx := C.1.1
  have hb := C.1.2.1
  refine lv_bipush (v := nI 6) hx hb dX9_startSending_0 (by decide) ?_
  refine lv_iload_n hx hb dX9_startSending_2 rfl (lv_at hl 1 rfl) ?_
  refine o_mul hx hb dX9_startSending_3 ?_
  refine lv_istore_n (lv' := [(2, .int (nI (6 * d))), (0, .ref h), (1, .int (nI d))]) hx hb dX9_startSending_4 rfl hl (by decide) rfl (fun ls hl => ?_)
  refine lv_aload_n hx hb dX9_startSending_5 rfl (lv_at hl 1 rfl) ?_
  refine o_get (v := .ref (ar 10)) C ho 0 0 rfl rfl rfl 14 fX9_40 rfl dX9_startSending_6 ?_
  refine lv_bipush (v := nI 41) hx hb dX9_startSending_9 (by decide) ?_
  refine lv_iload_n hx hb dX9_startSending_11 rfl (lv_at hl 2 rfl) ?_
  refine o_mul hx hb dX9_startSending_12 ?_
  refine lv_aload_n hx hb dX9_startSending_13 rfl (lv_at hl 1 rfl) ?_
  refine o_get (v := .ref (ar 6)) C ho 0 0 rfl rfl rfl 10 fX9_28 rfl dX9_startSending_14 ?_
  refine lv_iload_n hx hb dX9_startSending_17 rfl (lv_at hl 0 rfl) ?_
  refine o_iald (v := nI ln) C ho 0 7 rfl rfl 0 rfl (6 * d) rfl (by omega) (by omega) ql dX9_startSending_18 ?_
  refine o_iast (bs' := [bX K h ar ad ck bi lo (va_up F 10 (upd (F 10) (41 * d) (nI ln)))]) C ho 0 11 rfl rfl 0 rfl (41 * d) rfl (by omega) (by decide) dX9_startSending_19 rfl (fun H locs ho => ?_)
  refine lv_iconst (v := nI 0) hx hb dX9_startSending_20 (by decide) ?_
  refine lv_istore_n (lv' := [(3, .int (nI 0)), (2, .int (nI (6 * d))), (0, .ref h), (1, .int (nI d))]) hx hb dX9_startSending_21 rfl hl (by decide) rfl (fun ls hl => ?_)
  have e_1 : bX K h ar ad ck bi lo (va_up F 10 (upd (F 10) (41 * d) (nI ln))) = bX K h ar ad ck bi lo (va_up F 10 (va_cpy (F 7) (upd (F 10) (41 * d) (nI ln)) (40 * (6 * d)) (41 * d + 1) 0)) := by rw [cpy_0]
  have ho : ow D vwCl A s.heap H locs [bX K h ar ad ck bi lo (va_up F 10 (va_cpy (F 7) (upd (F 10) (41 * d) (nI ln)) (40 * (6 * d)) (41 * d + 1) 0))] := by rw [← e_1]; exact ho
  have LP22 : ∀ (fuel : Nat) (i : Nat) (_ : ln - i < fuel) (_ : i ≤ ln) (H : Heap) (locs : List Loc) (ls : Array Slot) (_ : ow D vwCl A s.heap H locs [bX K h ar ad ck bi lo (va_up F 10 (va_cpy (F 7) (upd (F 10) (41 * d) (nI ln)) (40 * (6 * d)) (41 * d + 1) i))]) (_ : lv_has ls 5 [(0, .ref h), (1, .int (nI d)), (2, .int (nI (6 * d))), (3, .int (nI i))]), W p la e (rmL 1 0 0) s m args below meth c H locs 0 0 Qz (F0 m 22 ls []) := by
    intro fuel
    induction fuel with
    | zero => intro i h0; exact absurd h0 (Nat.not_lt_zero _)
    | succ fuel ih22 =>
      intro i hfu hi H locs ls ho hl
      refine lv_iload_n hx hb dX9_startSending_22 rfl (lv_at hl 3 rfl) ?_
      refine lv_aload_n hx hb dX9_startSending_23 rfl (lv_at hl 0 rfl) ?_
      refine o_get (v := .ref (ar 6)) C ho 0 0 rfl rfl rfl 10 fX9_28 rfl dX9_startSending_24 ?_
      refine lv_iload_n hx hb dX9_startSending_27 rfl (lv_at hl 2 rfl) ?_
      refine o_iald (v := nI ln) C ho 0 7 rfl rfl 0 rfl (6 * d) rfl (by omega) (by omega) ql dX9_startSending_28 ?_
      refine o_icmp_ge (tgt := 62) hx hb dX9_startSending_29 (by decide) (by first | omega | exact and1_lt _) (by first | omega | exact and1_lt _) (fun c_2 => ?_) (fun c_2 => ?_)
      · skip
        have e_3 : bX K h ar ad ck bi lo (va_up F 10 (va_cpy (F 7) (upd (F 10) (41 * d) (nI ln)) (40 * (6 * d)) (41 * d + 1) i)) = bX K h ar ad ck bi lo (va_up F 10 (va_cpy (F 7) (upd (F 10) (41 * d) (nI ln)) (40 * (6 * d)) (41 * d + 1) ln)) := by rw [show i = ln by omega]
        have ho : ow D vwCl A s.heap H locs [bX K h ar ad ck bi lo (va_up F 10 (va_cpy (F 7) (upd (F 10) (41 * d) (nI ln)) (40 * (6 * d)) (41 * d + 1) ln))] := by rw [← e_3]; exact ho
        refine lv_aload_n hx hb dX9_startSending_62 rfl (lv_at hl 0 rfl) ?_
        refine o_get (v := .ref (ar 8)) C ho 0 0 rfl rfl rfl 12 fX9_34 rfl dX9_startSending_63 ?_
        refine lv_iload_n hx hb dX9_startSending_66 rfl (lv_at hl 1 rfl) ?_
        refine lv_aload_n hx hb dX9_startSending_67 rfl (lv_at hl 0 rfl) ?_
        refine o_get (v := .ref (ar 6)) C ho 0 0 rfl rfl rfl 10 fX9_28 rfl dX9_startSending_68 ?_
        refine lv_iload_n hx hb dX9_startSending_71 rfl (lv_at hl 2 rfl) ?_
        refine o_iald (v := nI ln) C ho 0 7 rfl rfl 0 rfl (6 * d) rfl (by omega) (by omega) ql dX9_startSending_72 ?_
        refine lv_iconst (v := nI 1) hx hb dX9_startSending_73 (by decide) ?_
        refine o_add hx hb dX9_startSending_74 ?_
        refine o_iast (bs' := [bX K h ar ad ck bi lo (va_up (va_up F 10 (va_cpy (F 7) (upd (F 10) (41 * d) (nI ln)) (40 * (6 * d)) (41 * d + 1) ln)) 8 (upd (F 8) d (nI (ln + 1))))]) C ho 0 9 rfl rfl 0 rfl d rfl (by omega) (by decide) dX9_startSending_75 rfl (fun H locs ho => ?_)
        refine lv_aload_n hx hb dX9_startSending_76 rfl (lv_at hl 0 rfl) ?_
        refine o_get (v := .ref (ar 9)) C ho 0 0 rfl rfl rfl 13 fX9_37 rfl dX9_startSending_77 ?_
        refine lv_iload_n hx hb dX9_startSending_80 rfl (lv_at hl 1 rfl) ?_
        refine lv_iconst (v := nI 0) hx hb dX9_startSending_81 (by decide) ?_
        refine o_iast (bs' := [bX K h ar ad ck bi lo (va_up (va_up (va_up F 10 (va_cpy (F 7) (upd (F 10) (41 * d) (nI ln)) (40 * (6 * d)) (41 * d + 1) ln)) 8 (upd (F 8) d (nI (ln + 1)))) 9 (upd (F 9) d (nI 0)))]) C ho 0 10 rfl rfl 0 rfl d rfl (by omega) (by decide) dX9_startSending_82 rfl (fun H locs ho => ?_)
        refine lv_aload_n hx hb dX9_startSending_83 rfl (lv_at hl 0 rfl) ?_
        refine o_get (v := .ref (ar 5)) C ho 0 0 rfl rfl rfl 9 fX9_25 rfl dX9_startSending_84 ?_
        refine lv_iload_n hx hb dX9_startSending_87 rfl (lv_at hl 1 rfl) ?_
        refine lv_dup2_11 hx hb dX9_startSending_88 rfl rfl ?_
        refine o_iald (v := nI sn) C ho 0 6 rfl rfl 0 rfl d rfl (by omega) (by omega) q0 dX9_startSending_89 ?_
        refine lv_iconst (v := nI 1) hx hb dX9_startSending_90 (by decide) ?_
        refine o_sub hx hb dX9_startSending_91 (by omega) ?_
        refine o_iast (bs' := [bX K h ar ad ck bi lo (va_up (va_up (va_up (va_up F 10 (va_cpy (F 7) (upd (F 10) (41 * d) (nI ln)) (40 * (6 * d)) (41 * d + 1) ln)) 8 (upd (F 8) d (nI (ln + 1)))) 9 (upd (F 9) d (nI 0))) 5 (upd (F 5) d (nI (sn - 1))))]) C ho 0 6 rfl rfl 0 rfl d rfl (by omega) (by decide) dX9_startSending_92 rfl (fun H locs ho => ?_)
        refine lv_iload_n hx hb dX9_startSending_93 rfl (lv_at hl 2 rfl) ?_
        refine lv_istore_n (lv' := [(3, .int (nI (6 * d))), (0, .ref h), (1, .int (nI d)), (2, .int (nI (6 * d)))]) hx hb dX9_startSending_94 rfl hl (by decide) rfl (fun ls hl => ?_)
        have e_4 : (.int (nI (6 * d)) : Value) = .int (nI (6 * d + 0)) := rfl
        have hl : lv_has ls 5 [(3, .int (nI (6 * d + 0))), (0, .ref h), (1, .int (nI d)), (2, .int (nI (6 * d)))] := by rw [← e_4]; exact hl
        have e_5 : bX K h ar ad ck bi lo (va_up (va_up (va_up (va_up F 10 (va_cpy (F 7) (upd (F 10) (41 * d) (nI ln)) (40 * (6 * d)) (41 * d + 1) ln)) 8 (upd (F 8) d (nI (ln + 1)))) 9 (upd (F 9) d (nI 0))) 5 (upd (F 5) d (nI (sn - 1)))) = bX K h ar ad ck bi lo (va_up (va_up (va_up (va_up (va_up (va_up F 10 (va_cpy (F 7) (upd (F 10) (41 * d) (nI ln)) (40 * (6 * d)) (41 * d + 1) ln)) 8 (upd (F 8) d (nI (ln + 1)))) 9 (upd (F 9) d (nI 0))) 5 (upd (F 5) d (nI (sn - 1)))) 6 (va_cpy (F 6) (F 6) (6 * d + 1) (6 * d) 0)) 7 (va_cpy (F 7) (F 7) (40 * (6 * d) + 40) (40 * (6 * d)) (40 * 0))) := by rw [Nat.mul_zero, cpy_0, cpy_0]; exact congrArg (bX K h ar ad ck bi lo) (up_67 rfl rfl)
        have ho : ow D vwCl A s.heap H locs [bX K h ar ad ck bi lo (va_up (va_up (va_up (va_up (va_up (va_up F 10 (va_cpy (F 7) (upd (F 10) (41 * d) (nI ln)) (40 * (6 * d)) (41 * d + 1) ln)) 8 (upd (F 8) d (nI (ln + 1)))) 9 (upd (F 9) d (nI 0))) 5 (upd (F 5) d (nI (sn - 1)))) 6 (va_cpy (F 6) (F 6) (6 * d + 1) (6 * d) 0)) 7 (va_cpy (F 7) (F 7) (40 * (6 * d) + 40) (40 * (6 * d)) (40 * 0)))] := by rw [← e_5]; exact ho
        have LP95 : ∀ (fuel : Nat) (k : Nat) (_ : sn - 1 - k < fuel) (_ : k ≤ sn - 1) (H : Heap) (locs : List Loc) (ls : Array Slot) (_ : ow D vwCl A s.heap H locs [bX K h ar ad ck bi lo (va_up (va_up (va_up (va_up (va_up (va_up F 10 (va_cpy (F 7) (upd (F 10) (41 * d) (nI ln)) (40 * (6 * d)) (41 * d + 1) ln)) 8 (upd (F 8) d (nI (ln + 1)))) 9 (upd (F 9) d (nI 0))) 5 (upd (F 5) d (nI (sn - 1)))) 6 (va_cpy (F 6) (F 6) (6 * d + 1) (6 * d) k)) 7 (va_cpy (F 7) (F 7) (40 * (6 * d) + 40) (40 * (6 * d)) (40 * k)))]) (_ : lv_has ls 5 [(0, .ref h), (1, .int (nI d)), (2, .int (nI (6 * d))), (3, .int (nI (6 * d + k)))]), W p la e (rmL 1 0 0) s m args below meth c H locs 0 0 Qz (F0 m 95 ls []) := by
          intro fuel
          induction fuel with
          | zero => intro k h0; exact absurd h0 (Nat.not_lt_zero _)
          | succ fuel ih95 =>
            intro k hfu hk H locs ls ho hl
            refine lv_iload_n hx hb dX9_startSending_95 rfl (lv_at hl 3 rfl) ?_
            refine lv_iload_n hx hb dX9_startSending_96 rfl (lv_at hl 2 rfl) ?_
            refine lv_aload_n hx hb dX9_startSending_97 rfl (lv_at hl 0 rfl) ?_
            refine o_get (v := .ref (ar 5)) C ho 0 0 rfl rfl rfl 9 fX9_25 rfl dX9_startSending_98 ?_
            refine lv_iload_n hx hb dX9_startSending_101 rfl (lv_at hl 1 rfl) ?_
            refine o_iald (v := nI (sn - 1)) C ho 0 6 rfl rfl 0 rfl d rfl (by omega) (by omega) pk_us dX9_startSending_102 ?_
            refine o_add hx hb dX9_startSending_103 ?_
            refine o_icmp_ge (tgt := 170) hx hb dX9_startSending_104 (by decide) (by first | omega | exact and1_lt _) (by first | omega | exact and1_lt _) (fun c_6 => ?_) (fun c_6 => ?_)
            · skip
              exact o_vret hQ C ho () rfl (by rw [show sn - 1 = k by omega]) (Nat.le_of_ble_eq_true rfl) (Nat.le_of_ble_eq_true rfl) dX9_startSending_170
            · skip
              refine lv_aload_n hx hb dX9_startSending_107 rfl (lv_at hl 0 rfl) ?_
              refine o_get (v := .ref (ar 6)) C ho 0 0 rfl rfl rfl 10 fX9_28 rfl dX9_startSending_108 ?_
              refine lv_iload_n hx hb dX9_startSending_111 rfl (lv_at hl 3 rfl) ?_
              refine lv_aload_n hx hb dX9_startSending_112 rfl (lv_at hl 0 rfl) ?_
              refine o_get (v := .ref (ar 6)) C ho 0 0 rfl rfl rfl 10 fX9_28 rfl dX9_startSending_113 ?_
              refine lv_iload_n hx hb dX9_startSending_116 rfl (lv_at hl 3 rfl) ?_
              refine lv_iconst (v := nI 1) hx hb dX9_startSending_117 (by decide) ?_
              refine o_add hx hb dX9_startSending_118 ?_
              refine o_iald (v := va_cpy (F 6) (F 6) (6 * d + 1) (6 * d) k ((6 * d + k) + 1)) C ho 0 7 rfl rfl 0 rfl ((6 * d + k) + 1) rfl (by omega) (by omega) rfl dX9_startSending_119 ?_
              refine o_top (y := F 6 ((6 * d + 1) + k)) (by rw [pk_cpy_out (by omega)]; exact congrArg (F 6) (by omega)) ?_
              refine o_iast (bs' := [bX K h ar ad ck bi lo (va_up (va_up (va_up (va_up (va_up (va_up (va_up F 10 (va_cpy (F 7) (upd (F 10) (41 * d) (nI ln)) (40 * (6 * d)) (41 * d + 1) ln)) 8 (upd (F 8) d (nI (ln + 1)))) 9 (upd (F 9) d (nI 0))) 5 (upd (F 5) d (nI (sn - 1)))) 6 (va_cpy (F 6) (F 6) (6 * d + 1) (6 * d) k)) 7 (va_cpy (F 7) (F 7) (40 * (6 * d) + 40) (40 * (6 * d)) (40 * k))) 6 (upd (va_cpy (F 6) (F 6) (6 * d + 1) (6 * d) k) (6 * d + k) (F 6 ((6 * d + 1) + k))))]) C ho 0 7 rfl rfl 0 rfl (6 * d + k) rfl (by omega) (by decide) dX9_startSending_120 rfl (fun H locs ho => ?_)
              have e_7 : bX K h ar ad ck bi lo (va_up (va_up (va_up (va_up (va_up (va_up (va_up F 10 (va_cpy (F 7) (upd (F 10) (41 * d) (nI ln)) (40 * (6 * d)) (41 * d + 1) ln)) 8 (upd (F 8) d (nI (ln + 1)))) 9 (upd (F 9) d (nI 0))) 5 (upd (F 5) d (nI (sn - 1)))) 6 (va_cpy (F 6) (F 6) (6 * d + 1) (6 * d) k)) 7 (va_cpy (F 7) (F 7) (40 * (6 * d) + 40) (40 * (6 * d)) (40 * k))) 6 (upd (va_cpy (F 6) (F 6) (6 * d + 1) (6 * d) k) (6 * d + k) (F 6 ((6 * d + 1) + k)))) = bX K h ar ad ck bi lo (va_up (va_up (va_up (va_up (va_up (va_up F 10 (va_cpy (F 7) (upd (F 10) (41 * d) (nI ln)) (40 * (6 * d)) (41 * d + 1) ln)) 8 (upd (F 8) d (nI (ln + 1)))) 9 (upd (F 9) d (nI 0))) 5 (upd (F 5) d (nI (sn - 1)))) 6 (va_cpy (F 6) (F 6) (6 * d + 1) (6 * d) (k + 1))) 7 (va_cpy (F 7) (F 7) (40 * (6 * d) + 40) (40 * (6 * d)) (40 * k))) := by rw [up_c67, cpy_succ]
              have ho : ow D vwCl A s.heap H locs [bX K h ar ad ck bi lo (va_up (va_up (va_up (va_up (va_up (va_up F 10 (va_cpy (F 7) (upd (F 10) (41 * d) (nI ln)) (40 * (6 * d)) (41 * d + 1) ln)) 8 (upd (F 8) d (nI (ln + 1)))) 9 (upd (F 9) d (nI 0))) 5 (upd (F 5) d (nI (sn - 1)))) 6 (va_cpy (F 6) (F 6) (6 * d + 1) (6 * d) (k + 1))) 7 (va_cpy (F 7) (F 7) (40 * (6 * d) + 40) (40 * (6 * d)) (40 * k)))] := by rw [← e_7]; exact ho
              refine lv_iconst (v := nI 0) hx hb dX9_startSending_121 (by decide) ?_
              refine lv_istore (lv' := [(4, .int (nI 0)), (0, .ref h), (1, .int (nI d)), (2, .int (nI (6 * d))), (3, .int (nI (6 * d + k)))]) hx hb dX9_startSending_122 hl (by decide) rfl (fun ls hl => ?_)
              have e_8 : bX K h ar ad ck bi lo (va_up (va_up (va_up (va_up (va_up (va_up F 10 (va_cpy (F 7) (upd (F 10) (41 * d) (nI ln)) (40 * (6 * d)) (41 * d + 1) ln)) 8 (upd (F 8) d (nI (ln + 1)))) 9 (upd (F 9) d (nI 0))) 5 (upd (F 5) d (nI (sn - 1)))) 6 (va_cpy (F 6) (F 6) (6 * d + 1) (6 * d) (k + 1))) 7 (va_cpy (F 7) (F 7) (40 * (6 * d) + 40) (40 * (6 * d)) (40 * k))) = bX K h ar ad ck bi lo (va_up (va_up (va_up (va_up (va_up (va_up F 10 (va_cpy (F 7) (upd (F 10) (41 * d) (nI ln)) (40 * (6 * d)) (41 * d + 1) ln)) 8 (upd (F 8) d (nI (ln + 1)))) 9 (upd (F 9) d (nI 0))) 5 (upd (F 5) d (nI (sn - 1)))) 6 (va_cpy (F 6) (F 6) (6 * d + 1) (6 * d) (k + 1))) 7 (va_cpy (F 7) (F 7) (40 * (6 * d) + 40) (40 * (6 * d)) (40 * k + 0))) := rfl
              have ho : ow D vwCl A s.heap H locs [bX K h ar ad ck bi lo (va_up (va_up (va_up (va_up (va_up (va_up F 10 (va_cpy (F 7) (upd (F 10) (41 * d) (nI ln)) (40 * (6 * d)) (41 * d + 1) ln)) 8 (upd (F 8) d (nI (ln + 1)))) 9 (upd (F 9) d (nI 0))) 5 (upd (F 5) d (nI (sn - 1)))) 6 (va_cpy (F 6) (F 6) (6 * d + 1) (6 * d) (k + 1))) 7 (va_cpy (F 7) (F 7) (40 * (6 * d) + 40) (40 * (6 * d)) (40 * k + 0)))] := by rw [← e_8]; exact ho
              have LP124 : ∀ (fuel : Nat) (i : Nat) (_ : 40 - i < fuel) (_ : i ≤ 40) (H : Heap) (locs : List Loc) (ls : Array Slot) (_ : ow D vwCl A s.heap H locs [bX K h ar ad ck bi lo (va_up (va_up (va_up (va_up (va_up (va_up F 10 (va_cpy (F 7) (upd (F 10) (41 * d) (nI ln)) (40 * (6 * d)) (41 * d + 1) ln)) 8 (upd (F 8) d (nI (ln + 1)))) 9 (upd (F 9) d (nI 0))) 5 (upd (F 5) d (nI (sn - 1)))) 6 (va_cpy (F 6) (F 6) (6 * d + 1) (6 * d) (k + 1))) 7 (va_cpy (F 7) (F 7) (40 * (6 * d) + 40) (40 * (6 * d)) (40 * k + i)))]) (_ : lv_has ls 5 [(0, .ref h), (1, .int (nI d)), (2, .int (nI (6 * d))), (3, .int (nI (6 * d + k))), (4, .int (nI i))]), W p la e (rmL 1 0 0) s m args below meth c H locs 0 0 Qz (F0 m 124 ls []) := by
                intro fuel
                induction fuel with
                | zero => intro i h0; exact absurd h0 (Nat.not_lt_zero _)
                | succ fuel ih124 =>
                  intro i hfu hi H locs ls ho hl
                  refine lv_iload hx hb dX9_startSending_124 (lv_at hl 4 rfl) ?_
                  refine lv_bipush (v := nI 40) hx hb dX9_startSending_126 (by decide) ?_
                  refine o_icmp_ge (tgt := 164) hx hb dX9_startSending_128 (by decide) (by first | omega | exact and1_lt _) (by first | omega | exact and1_lt _) (fun c_9 => ?_) (fun c_9 => ?_)
                  · skip
                    have e_10 : bX K h ar ad ck bi lo (va_up (va_up (va_up (va_up (va_up (va_up F 10 (va_cpy (F 7) (upd (F 10) (41 * d) (nI ln)) (40 * (6 * d)) (41 * d + 1) ln)) 8 (upd (F 8) d (nI (ln + 1)))) 9 (upd (F 9) d (nI 0))) 5 (upd (F 5) d (nI (sn - 1)))) 6 (va_cpy (F 6) (F 6) (6 * d + 1) (6 * d) (k + 1))) 7 (va_cpy (F 7) (F 7) (40 * (6 * d) + 40) (40 * (6 * d)) (40 * k + i))) = bX K h ar ad ck bi lo (va_up (va_up (va_up (va_up (va_up (va_up F 10 (va_cpy (F 7) (upd (F 10) (41 * d) (nI ln)) (40 * (6 * d)) (41 * d + 1) ln)) 8 (upd (F 8) d (nI (ln + 1)))) 9 (upd (F 9) d (nI 0))) 5 (upd (F 5) d (nI (sn - 1)))) 6 (va_cpy (F 6) (F 6) (6 * d + 1) (6 * d) (k + 1))) 7 (va_cpy (F 7) (F 7) (40 * (6 * d) + 40) (40 * (6 * d)) (40 * (k + 1)))) := by rw [show 40 * k + i = 40 * (k + 1) by omega]
                    have ho : ow D vwCl A s.heap H locs [bX K h ar ad ck bi lo (va_up (va_up (va_up (va_up (va_up (va_up F 10 (va_cpy (F 7) (upd (F 10) (41 * d) (nI ln)) (40 * (6 * d)) (41 * d + 1) ln)) 8 (upd (F 8) d (nI (ln + 1)))) 9 (upd (F 9) d (nI 0))) 5 (upd (F 5) d (nI (sn - 1)))) 6 (va_cpy (F 6) (F 6) (6 * d + 1) (6 * d) (k + 1))) 7 (va_cpy (F 7) (F 7) (40 * (6 * d) + 40) (40 * (6 * d)) (40 * (k + 1))))] := by rw [← e_10]; exact ho
                    refine lv_iinc (v := nI (6 * d + k + 1)) (lv' := [(3, .int (nI (6 * d + k + 1))), (0, .ref h), (1, .int (nI d)), (2, .int (nI (6 * d))), (4, .int (nI i))]) hx hb dX9_startSending_164 hl (k := 3) rfl (iincN _ _) (by decide) rfl (fun ls hl => ?_)
                    have e_11 : (.int (nI (6 * d + k + 1)) : Value) = .int (nI (6 * d + (k + 1))) := rfl
                    have hl : lv_has ls 5 [(3, .int (nI (6 * d + (k + 1)))), (0, .ref h), (1, .int (nI d)), (2, .int (nI (6 * d))), (4, .int (nI i))] := by rw [← e_11]; exact hl
                    refine lv_goto (tgt := 95) hx hb dX9_startSending_167 (by decide) ?_
                    exact ih95 (k + 1) (by omega) (by omega) _ _ _ ho (lv_sub hl [1, 2, 3, 0] rfl)
                  · skip
                    refine lv_aload_n hx hb dX9_startSending_131 rfl (lv_at hl 0 rfl) ?_
                    refine o_get (v := .ref (ar 7)) C ho 0 0 rfl rfl rfl 11 fX9_31 rfl dX9_startSending_132 ?_
                    refine lv_bipush (v := nI 40) hx hb dX9_startSending_135 (by decide) ?_
                    refine lv_iload_n hx hb dX9_startSending_137 rfl (lv_at hl 3 rfl) ?_
                    refine o_mul hx hb dX9_startSending_138 ?_
                    refine lv_iload hx hb dX9_startSending_139 (lv_at hl 4 rfl) ?_
                    refine o_add hx hb dX9_startSending_141 ?_
                    refine lv_aload_n hx hb dX9_startSending_142 rfl (lv_at hl 0 rfl) ?_
                    refine o_get (v := .ref (ar 7)) C ho 0 0 rfl rfl rfl 11 fX9_31 rfl dX9_startSending_143 ?_
                    refine lv_bipush (v := nI 40) hx hb dX9_startSending_146 (by decide) ?_
                    refine lv_iload_n hx hb dX9_startSending_148 rfl (lv_at hl 3 rfl) ?_
                    refine o_mul hx hb dX9_startSending_149 ?_
                    refine lv_bipush (v := nI 40) hx hb dX9_startSending_150 (by decide) ?_
                    refine o_add hx hb dX9_startSending_152 ?_
                    refine lv_iload hx hb dX9_startSending_153 (lv_at hl 4 rfl) ?_
                    refine o_add hx hb dX9_startSending_155 ?_
                    refine o_iald (v := va_cpy (F 7) (F 7) (40 * (6 * d) + 40) (40 * (6 * d)) (40 * k + i) (((40 * (6 * d + k)) + 40) + i)) C ho 0 8 rfl rfl 0 rfl (((40 * (6 * d + k)) + 40) + i) rfl (by omega) (by omega) rfl dX9_startSending_156 ?_
                    refine o_top (y := F 7 ((40 * (6 * d) + 40) + (40 * k + i))) (by rw [pk_cpy_out (by omega)]; exact congrArg (F 7) (by omega)) ?_
                    refine o_iast (bs' := [bX K h ar ad ck bi lo (va_up (va_up (va_up (va_up (va_up (va_up (va_up F 10 (va_cpy (F 7) (upd (F 10) (41 * d) (nI ln)) (40 * (6 * d)) (41 * d + 1) ln)) 8 (upd (F 8) d (nI (ln + 1)))) 9 (upd (F 9) d (nI 0))) 5 (upd (F 5) d (nI (sn - 1)))) 6 (va_cpy (F 6) (F 6) (6 * d + 1) (6 * d) (k + 1))) 7 (va_cpy (F 7) (F 7) (40 * (6 * d) + 40) (40 * (6 * d)) (40 * k + i))) 7 (upd (va_cpy (F 7) (F 7) (40 * (6 * d) + 40) (40 * (6 * d)) (40 * k + i)) ((40 * (6 * d + k)) + i) (F 7 ((40 * (6 * d) + 40) + (40 * k + i)))))]) C ho 0 8 rfl rfl 0 rfl ((40 * (6 * d + k)) + i) rfl (by omega) (by decide) dX9_startSending_157 rfl (fun H locs ho => ?_)
                    have e_12 : bX K h ar ad ck bi lo (va_up (va_up (va_up (va_up (va_up (va_up (va_up F 10 (va_cpy (F 7) (upd (F 10) (41 * d) (nI ln)) (40 * (6 * d)) (41 * d + 1) ln)) 8 (upd (F 8) d (nI (ln + 1)))) 9 (upd (F 9) d (nI 0))) 5 (upd (F 5) d (nI (sn - 1)))) 6 (va_cpy (F 6) (F 6) (6 * d + 1) (6 * d) (k + 1))) 7 (va_cpy (F 7) (F 7) (40 * (6 * d) + 40) (40 * (6 * d)) (40 * k + i))) 7 (upd (va_cpy (F 7) (F 7) (40 * (6 * d) + 40) (40 * (6 * d)) (40 * k + i)) ((40 * (6 * d + k)) + i) (F 7 ((40 * (6 * d) + 40) + (40 * k + i))))) = bX K h ar ad ck bi lo (va_up (va_up (va_up (va_up (va_up (va_up F 10 (va_cpy (F 7) (upd (F 10) (41 * d) (nI ln)) (40 * (6 * d)) (41 * d + 1) ln)) 8 (upd (F 8) d (nI (ln + 1)))) 9 (upd (F 9) d (nI 0))) 5 (upd (F 5) d (nI (sn - 1)))) 6 (va_cpy (F 6) (F 6) (6 * d + 1) (6 * d) (k + 1))) 7 (va_cpy (F 7) (F 7) (40 * (6 * d) + 40) (40 * (6 * d)) (40 * k + (i + 1)))) := by rw [bx_uu, show 40 * (6 * d + k) + i = 40 * (6 * d) + (40 * k + i) by omega, cpy_succ, Nat.add_assoc]
                    have ho : ow D vwCl A s.heap H locs [bX K h ar ad ck bi lo (va_up (va_up (va_up (va_up (va_up (va_up F 10 (va_cpy (F 7) (upd (F 10) (41 * d) (nI ln)) (40 * (6 * d)) (41 * d + 1) ln)) 8 (upd (F 8) d (nI (ln + 1)))) 9 (upd (F 9) d (nI 0))) 5 (upd (F 5) d (nI (sn - 1)))) 6 (va_cpy (F 6) (F 6) (6 * d + 1) (6 * d) (k + 1))) 7 (va_cpy (F 7) (F 7) (40 * (6 * d) + 40) (40 * (6 * d)) (40 * k + (i + 1))))] := by rw [← e_12]; exact ho
                    refine lv_iinc (v := nI (i + 1)) (lv' := [(4, .int (nI (i + 1))), (0, .ref h), (1, .int (nI d)), (2, .int (nI (6 * d))), (3, .int (nI (6 * d + k)))]) hx hb dX9_startSending_158 hl (k := 4) rfl (iincN _ _) (by decide) rfl (fun ls hl => ?_)
                    refine lv_goto (tgt := 124) hx hb dX9_startSending_161 (by decide) ?_
                    exact ih124 (i + 1) (by omega) (by omega) _ _ _ ho (lv_sub hl [1, 2, 3, 4, 0] rfl)
              exact LP124 (40 - 0 + 1) 0 (Nat.lt_succ_self _) (by omega) _ _ _ ho (lv_sub hl [1, 2, 3, 4, 0] rfl)
        exact LP95 (sn - 1 - 0 + 1) 0 (Nat.lt_succ_self _) (by omega) _ _ _ ho (lv_sub hl [1, 2, 3, 0] rfl)
      · skip
        refine lv_aload_n hx hb dX9_startSending_32 rfl (lv_at hl 0 rfl) ?_
        refine o_get (v := .ref (ar 10)) C ho 0 0 rfl rfl rfl 14 fX9_40 rfl dX9_startSending_33 ?_
        refine lv_bipush (v := nI 41) hx hb dX9_startSending_36 (by decide) ?_
        refine lv_iload_n hx hb dX9_startSending_38 rfl (lv_at hl 1 rfl) ?_
        refine o_mul hx hb dX9_startSending_39 ?_
        refine lv_iconst (v := nI 1) hx hb dX9_startSending_40 (by decide) ?_
        refine o_add hx hb dX9_startSending_41 ?_
        refine lv_iload_n hx hb dX9_startSending_42 rfl (lv_at hl 3 rfl) ?_
        refine o_add hx hb dX9_startSending_43 ?_
        refine lv_aload_n hx hb dX9_startSending_44 rfl (lv_at hl 0 rfl) ?_
        refine o_get (v := .ref (ar 7)) C ho 0 0 rfl rfl rfl 11 fX9_31 rfl dX9_startSending_45 ?_
        refine lv_bipush (v := nI 40) hx hb dX9_startSending_48 (by decide) ?_
        refine lv_iload_n hx hb dX9_startSending_50 rfl (lv_at hl 2 rfl) ?_
        refine o_mul hx hb dX9_startSending_51 ?_
        refine lv_iload_n hx hb dX9_startSending_52 rfl (lv_at hl 3 rfl) ?_
        refine o_add hx hb dX9_startSending_53 ?_
        refine o_iald (v := F 7 ((40 * (6 * d)) + i)) C ho 0 8 rfl rfl 0 rfl ((40 * (6 * d)) + i) rfl (by omega) (by omega) rfl dX9_startSending_54 ?_
        refine o_iast (bs' := [bX K h ar ad ck bi lo (va_up (va_up F 10 (va_cpy (F 7) (upd (F 10) (41 * d) (nI ln)) (40 * (6 * d)) (41 * d + 1) i)) 10 (upd (va_cpy (F 7) (upd (F 10) (41 * d) (nI ln)) (40 * (6 * d)) (41 * d + 1) i) (((41 * d) + 1) + i) (F 7 ((40 * (6 * d)) + i))))]) C ho 0 11 rfl rfl 0 rfl (((41 * d) + 1) + i) rfl (by omega) (by decide) dX9_startSending_55 rfl (fun H locs ho => ?_)
        have e_13 : bX K h ar ad ck bi lo (va_up (va_up F 10 (va_cpy (F 7) (upd (F 10) (41 * d) (nI ln)) (40 * (6 * d)) (41 * d + 1) i)) 10 (upd (va_cpy (F 7) (upd (F 10) (41 * d) (nI ln)) (40 * (6 * d)) (41 * d + 1) i) (((41 * d) + 1) + i) (F 7 ((40 * (6 * d)) + i)))) = bX K h ar ad ck bi lo (va_up F 10 (va_cpy (F 7) (upd (F 10) (41 * d) (nI ln)) (40 * (6 * d)) (41 * d + 1) (i + 1))) := by rw [bx_uu, cpy_succ]
        have ho : ow D vwCl A s.heap H locs [bX K h ar ad ck bi lo (va_up F 10 (va_cpy (F 7) (upd (F 10) (41 * d) (nI ln)) (40 * (6 * d)) (41 * d + 1) (i + 1)))] := by rw [← e_13]; exact ho
        refine lv_iinc (v := nI (i + 1)) (lv' := [(3, .int (nI (i + 1))), (0, .ref h), (1, .int (nI d)), (2, .int (nI (6 * d)))]) hx hb dX9_startSending_56 hl (k := 3) rfl (iincN _ _) (by decide) rfl (fun ls hl => ?_)
        refine lv_goto (tgt := 22) hx hb dX9_startSending_59 (by decide) ?_
        exact ih22 (i + 1) (by omega) (by omega) _ _ _ ho (lv_sub hl [1, 2, 3, 0] rfl)
  exact LP22 (ln - 0 + 1) 0 (Nat.lt_succ_self _) (by omega) _ _ _ ho (lv_sub hl [2, 3, 1, 0] rfl)
