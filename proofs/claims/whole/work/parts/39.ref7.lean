set_option maxHeartbeats 4000000 in
set_option maxRecDepth 100000 in
theorem c_M_speakW (la : Launch) (D : va_G) (K : Nat → ClassId) (h : Nat) (ar : Nat → Nat) (ad : Nat) (ck : Nat) (bi : Nat) (lo : Nat) (F : Nat → Nat → Int32) (d : Nat) (pp : Bool) (be : Bool) (tu : Bool) (gd : Bool) (by_ : List Nat) (q2d : d < 2) (qad : ad < 8) (qck : ck < 2 ^ 29) (q11 : F 11 d = nI by_.length) (q12 : F 12 d = nI (cond pp 4 3)) (q13 : F 13 d = bI be) (q14 : ∀ i, i < by_.length → F 14 (13 * d + i) = nI (by_.getD i 0)) (q22 : F 22 d = bI tu) (q24 : F 24 d = bI gd) (qn0 : 0 < by_.length) (qn9 : by_.length ≤ cond pp 13 9) (qb : ∀ j, by_.getD j 0 < 256) : MT la D K yX9_speak cX9_speak 5 (some .int) (rmL 4 0 0) [.ref h, .int (nI d)] [bX K h ar ad ck bi lo F] (Nat → Int32) (fun v _ => v = some (.int (nI (cond pp 4 3)))) (fun u => [bX K h ar ad ck ((airW ck ad (cond pp 4 3) gd tu (cond be 2 1) by_).length) ((18 + (8 + 8 * by_.length)) + 16) (va_up (va_up (va_up (va_up (va_up F 1 (whP ck (F 1) 400)) 0 (wrL (F 0) 0 (airW ck ad (cond pp 4 3) gd tu (cond be 2 1) by_))) 2 (u)) 24 (upd (F 24) d (bI false))) 25 (upd (F 25) d (bI false)))]) := by
  refine Mt.ofW [(0, .ref h), (1, .int (nI d))] (by decide) rfl (Nat.le_of_ble_eq_true rfl) ?_
  intro p e s m args below meth c A ls H locs Qz hQ C hin hl ho
  have hx := C.1.1
  have hb := C.1.2.1
  have hbe : cond be 2 1 ≤ 2 := by cases be <;> decide
  cases pp
  · skip
    have qn13 : by_.length ≤ 9 := qn9
    have J29 : ∀ (mo : Bool), W p la e (rmL 4 0 0) s m args below meth c H locs 0 0 Qz (F0 m 29 ls [.int (bI mo)]) := by
      intro mo
      refine lv_istore_n (lv' := [(2, .int (bI mo)), (0, .ref h), (1, .int (nI d))]) hx hb dX9_speak_29 rfl hl (by decide) rfl (fun ls hl => ?_)
      refine lv_aload_n hx hb dX9_speak_30 rfl (lv_at hl 1 rfl) ?_
      refine o_get (v := .ref (ar 11)) C ho 0 0 rfl rfl rfl 15 fX9_43 rfl dX9_speak_31 ?_
      refine lv_iload_n hx hb dX9_speak_34 rfl (lv_at hl 2 rfl) ?_
      refine o_iald (v := nI by_.length) C ho 0 12 rfl rfl 0 rfl d rfl (by omega) (by omega) q11 dX9_speak_35 ?_
      refine o_if_ne (tgt := 48) hx hb dX9_speak_36 (by decide) (by omega) (fun c_1 => ?_) (fun c_1 => ?_)
      · skip
        refine lv_aload_n hx hb dX9_speak_48 rfl (lv_at hl 1 rfl) ?_
        refine o_get (v := .ref (ar 11)) C ho 0 0 rfl rfl rfl 15 fX9_43 rfl dX9_speak_49 ?_
        refine lv_iload_n hx hb dX9_speak_52 rfl (lv_at hl 2 rfl) ?_
        refine o_iald (v := nI by_.length) C ho 0 12 rfl rfl 0 rfl d rfl (by omega) (by omega) q11 dX9_speak_53 ?_
        refine o_if_le (tgt := 66) hx hb dX9_speak_54 (by decide) (by omega) (fun c_2 => ?_) (fun c_2 => ?_)
        · skip
          exact absurd c_2 (by omega)
        · skip
          refine lv_aload_n hx hb dX9_speak_57 rfl (lv_at hl 1 rfl) ?_
          refine o_get (v := .ref (ar 12)) C ho 0 0 rfl rfl rfl 16 fX9_46 rfl dX9_speak_58 ?_
          refine lv_iload_n hx hb dX9_speak_61 rfl (lv_at hl 2 rfl) ?_
          refine o_iald (v := nI 3) C ho 0 13 rfl rfl 0 rfl d rfl (by omega) (by omega) q12 dX9_speak_62 ?_
          refine lv_goto (tgt := 69) hx hb dX9_speak_63 (by decide) ?_
          refine lv_istore_n (lv' := [(3, .int (nI 3)), (2, .int (bI mo)), (0, .ref h), (1, .int (nI d))]) hx hb dX9_speak_69 rfl hl (by decide) rfl (fun ls hl => ?_)
          refine lv_aload_n hx hb dX9_speak_70 rfl (lv_at hl 2 rfl) ?_
          refine lv_aload_n hx hb dX9_speak_71 rfl (lv_at hl 2 rfl) ?_
          refine o_get (v := .int (nI ck)) C ho 0 0 rfl rfl rfl 1 fX9_131 rfl dX9_speak_72 ?_
          refine o_callV (wr := []) (rest := []) (As := [.int (nI ck)]) C (c_M_whiten la D K h ar ad ck bi lo F ck (by first | omega | assumption | (simp only [List.length_append, List.length_cons, List.length_nil, List.length_modify, List.length_set, nb_len, rb_len, rbp_len, sl_len, slN_len, wh_len, wt_len, hd10_len, hdB_len, thr_len, ldp_len, ldB_len, tens_len, whz_len, majL_len, mf_len, tkL_len, ldY_len, fif_len, ldY_len]; omega) | decide)) kX9_134 vX9_whiten (by decide) rfl ho [0] 1 (by decide +kernel) rfl rfl rfl rfl rfl hl.1 rfl (Nat.le_of_ble_eq_true rfl) dX9_speak_75 0 0 rfl rfl (by decide) (fun v u_3 H locs hq ho => ?_)
          obtain rfl := hq
          have ho : ow D vwCl A s.heap H locs [bX K h ar ad ck bi lo (va_up F 1 (whP ck (F 1) 400))] := ho
          refine W.eq (g2 := F0 m 78 ls []) rfl ?_
          refine lv_aload_n hx hb dX9_speak_78 rfl (lv_at hl 2 rfl) ?_
          refine lv_iconst (v := nI 0) hx hb dX9_speak_79 (by decide) ?_
          refine o_put (v := .int (nI 0)) (bs' := [bX K h ar ad ck bi 0 (va_up F 1 (whP ck (F 1) 400))]) C ho 0 0 rfl rfl rfl 5 fX9_103 pX9_5 rfl rfl (Nat.le_of_ble_eq_true rfl) dX9_speak_80 rfl (fun H locs ho => ?_)
          refine lv_aload_n hx hb dX9_speak_83 rfl (lv_at hl 2 rfl) ?_
          refine lv_aload_n hx hb dX9_speak_84 rfl (lv_at hl 2 rfl) ?_
          refine o_get (v := .int (nI ad)) C ho 0 0 rfl rfl rfl 0 fX9_95 rfl dX9_speak_85 ?_
          refine lv_iconst (v := nI 3) hx hb dX9_speak_88 (by decide) ?_
          refine o_callV (wr := []) (rest := []) (As := [.int (nI ad), .int (nI 3)]) C (c_M_put la D K h ar ad ck bi 0 (va_up F 1 (whP ck (F 1) 400)) ad 3 (by first | omega | assumption | (simp only [List.length_append, List.length_cons, List.length_nil, List.length_modify, List.length_set, nb_len, rb_len, rbp_len, sl_len, slN_len, wh_len, wt_len, hd10_len, hdB_len, thr_len, ldp_len, ldB_len, tens_len, whz_len, majL_len, mf_len, tkL_len, ldY_len, fif_len, ldY_len]; omega) | decide) (by first | omega | assumption | (simp only [List.length_append, List.length_cons, List.length_nil, List.length_modify, List.length_set, nb_len, rb_len, rbp_len, sl_len, slN_len, wh_len, wt_len, hd10_len, hdB_len, thr_len, ldp_len, ldB_len, tens_len, whz_len, majL_len, mf_len, tkL_len, ldY_len, fif_len, ldY_len]; omega) | decide) (by first | omega | assumption | (simp only [List.length_append, List.length_cons, List.length_nil, List.length_modify, List.length_set, nb_len, rb_len, rbp_len, sl_len, slN_len, wh_len, wt_len, hd10_len, hdB_len, thr_len, ldp_len, ldB_len, tens_len, whz_len, majL_len, mf_len, tkL_len, ldY_len, fif_len, ldY_len]; omega) | decide)) kX9_114 vX9_put (by decide) rfl ho [0] 1 (by decide +kernel) rfl rfl rfl rfl rfl hl.1 rfl (Nat.le_of_ble_eq_true rfl) dX9_speak_89 0 0 rfl rfl (by decide) (fun v u_4 H locs hq ho => ?_)
          obtain rfl := hq
          have ho : ow D vwCl A s.heap H locs [bX K h ar ad ck bi (0 + 3) (va_up (va_up F 1 (whP ck (F 1) 400)) 2 (wrL (F 2) 0 (nb ad 3)))] := ho
          refine W.eq (g2 := F0 m 92 ls []) rfl ?_
          have e_5 : bX K h ar ad ck bi (0 + 3) (va_up (va_up F 1 (whP ck (F 1) 400)) 2 (wrL (F 2) 0 (nb ad 3))) = bX K h ar ad ck bi 3 (va_up (va_up F 1 (whP ck (F 1) 400)) 2 (wrL (F 2) 0 (([] : List Bool) ++ nb ad 3))) := rfl
          have ho : ow D vwCl A s.heap H locs [bX K h ar ad ck bi 3 (va_up (va_up F 1 (whP ck (F 1) 400)) 2 (wrL (F 2) 0 (([] : List Bool) ++ nb ad 3)))] := by rw [← e_5]; exact ho
          refine lv_aload_n hx hb dX9_speak_92 rfl (lv_at hl 2 rfl) ?_
          refine lv_iload_n hx hb dX9_speak_93 rfl (lv_at hl 0 rfl) ?_
          refine lv_iconst (v := nI 4) hx hb dX9_speak_94 (by decide) ?_
          refine o_callV (wr := []) (rest := []) (As := [.int (nI 3), .int (nI 4)]) C (c_M_put la D K h ar ad ck bi 3 (va_up (va_up F 1 (whP ck (F 1) 400)) 2 (wrL (F 2) 0 (([] : List Bool) ++ nb ad 3))) 3 4 (by first | omega | assumption | (simp only [List.length_append, List.length_cons, List.length_nil, List.length_modify, List.length_set, nb_len, rb_len, rbp_len, sl_len, slN_len, wh_len, wt_len, hd10_len, hdB_len, thr_len, ldp_len, ldB_len, tens_len, whz_len, majL_len, mf_len, tkL_len, ldY_len, fif_len, ldY_len]; omega) | decide) (by first | omega | assumption | (simp only [List.length_append, List.length_cons, List.length_nil, List.length_modify, List.length_set, nb_len, rb_len, rbp_len, sl_len, slN_len, wh_len, wt_len, hd10_len, hdB_len, thr_len, ldp_len, ldB_len, tens_len, whz_len, majL_len, mf_len, tkL_len, ldY_len, fif_len, ldY_len]; omega) | decide) (by first | omega | assumption | (simp only [List.length_append, List.length_cons, List.length_nil, List.length_modify, List.length_set, nb_len, rb_len, rbp_len, sl_len, slN_len, wh_len, wt_len, hd10_len, hdB_len, thr_len, ldp_len, ldB_len, tens_len, whz_len, majL_len, mf_len, tkL_len, ldY_len, fif_len, ldY_len]; omega) | decide)) kX9_114 vX9_put (by decide) rfl ho [0] 1 (by decide +kernel) rfl rfl rfl rfl rfl hl.1 rfl (Nat.le_of_ble_eq_true rfl) dX9_speak_95 0 0 rfl rfl (by decide) (fun v u_6 H locs hq ho => ?_)
          obtain rfl := hq
          have ho : ow D vwCl A s.heap H locs [bX K h ar ad ck bi (3 + 4) (va_up (va_up (va_up F 1 (whP ck (F 1) 400)) 2 (wrL (F 2) 0 (([] : List Bool) ++ nb ad 3))) 2 (wrL (wrL (F 2) 0 (([] : List Bool) ++ nb ad 3)) 3 (nb 3 4)))] := ho
          refine W.eq (g2 := F0 m 98 ls []) rfl ?_
          have e_7 : bX K h ar ad ck bi (3 + 4) (va_up (va_up (va_up F 1 (whP ck (F 1) 400)) 2 (wrL (F 2) 0 (([] : List Bool) ++ nb ad 3))) 2 (wrL (wrL (F 2) 0 (([] : List Bool) ++ nb ad 3)) 3 (nb 3 4))) = bX K h ar ad ck bi 7 (va_up (va_up F 1 (whP ck (F 1) 400)) 2 (wrL (F 2) 0 ((([] : List Bool) ++ nb ad 3) ++ nb 3 4))) := by rw [bx_uu, wrL_app (by simp [nb_len])]
          have ho : ow D vwCl A s.heap H locs [bX K h ar ad ck bi 7 (va_up (va_up F 1 (whP ck (F 1) 400)) 2 (wrL (F 2) 0 ((([] : List Bool) ++ nb ad 3) ++ nb 3 4)))] := by rw [← e_7]; exact ho
          refine lv_aload_n hx hb dX9_speak_98 rfl (lv_at hl 2 rfl) ?_
          refine lv_iconst (v := nI 1) hx hb dX9_speak_99 (by decide) ?_
          refine lv_iconst (v := nI 1) hx hb dX9_speak_100 (by decide) ?_
          refine o_callV (wr := []) (rest := []) (As := [.int (nI 1), .int (nI 1)]) C (c_M_put la D K h ar ad ck bi 7 (va_up (va_up F 1 (whP ck (F 1) 400)) 2 (wrL (F 2) 0 ((([] : List Bool) ++ nb ad 3) ++ nb 3 4))) 1 1 (by first | omega | assumption | (simp only [List.length_append, List.length_cons, List.length_nil, List.length_modify, List.length_set, nb_len, rb_len, rbp_len, sl_len, slN_len, wh_len, wt_len, hd10_len, hdB_len, thr_len, ldp_len, ldB_len, tens_len, whz_len, majL_len, mf_len, tkL_len, ldY_len, fif_len, ldY_len]; omega) | decide) (by first | omega | assumption | (simp only [List.length_append, List.length_cons, List.length_nil, List.length_modify, List.length_set, nb_len, rb_len, rbp_len, sl_len, slN_len, wh_len, wt_len, hd10_len, hdB_len, thr_len, ldp_len, ldB_len, tens_len, whz_len, majL_len, mf_len, tkL_len, ldY_len, fif_len, ldY_len]; omega) | decide) (by first | omega | assumption | (simp only [List.length_append, List.length_cons, List.length_nil, List.length_modify, List.length_set, nb_len, rb_len, rbp_len, sl_len, slN_len, wh_len, wt_len, hd10_len, hdB_len, thr_len, ldp_len, ldB_len, tens_len, whz_len, majL_len, mf_len, tkL_len, ldY_len, fif_len, ldY_len]; omega) | decide)) kX9_114 vX9_put (by decide) rfl ho [0] 1 (by decide +kernel) rfl rfl rfl rfl rfl hl.1 rfl (Nat.le_of_ble_eq_true rfl) dX9_speak_101 0 0 rfl rfl (by decide) (fun v u_8 H locs hq ho => ?_)
          obtain rfl := hq
          have ho : ow D vwCl A s.heap H locs [bX K h ar ad ck bi (7 + 1) (va_up (va_up (va_up F 1 (whP ck (F 1) 400)) 2 (wrL (F 2) 0 ((([] : List Bool) ++ nb ad 3) ++ nb 3 4))) 2 (wrL (wrL (F 2) 0 ((([] : List Bool) ++ nb ad 3) ++ nb 3 4)) 7 (nb 1 1)))] := ho
          refine W.eq (g2 := F0 m 104 ls []) rfl ?_
          have e_9 : bX K h ar ad ck bi (7 + 1) (va_up (va_up (va_up F 1 (whP ck (F 1) 400)) 2 (wrL (F 2) 0 ((([] : List Bool) ++ nb ad 3) ++ nb 3 4))) 2 (wrL (wrL (F 2) 0 ((([] : List Bool) ++ nb ad 3) ++ nb 3 4)) 7 (nb 1 1))) = bX K h ar ad ck bi 8 (va_up (va_up F 1 (whP ck (F 1) 400)) 2 (wrL (F 2) 0 (((([] : List Bool) ++ nb ad 3) ++ nb 3 4) ++ [true]))) := by rw [bx_uu, wrL_app (by simp [nb_len])] <;> rfl
          have ho : ow D vwCl A s.heap H locs [bX K h ar ad ck bi 8 (va_up (va_up F 1 (whP ck (F 1) 400)) 2 (wrL (F 2) 0 (((([] : List Bool) ++ nb ad 3) ++ nb 3 4) ++ [true])))] := by rw [← e_9]; exact ho
          refine lv_aload_n hx hb dX9_speak_104 rfl (lv_at hl 2 rfl) ?_
          refine lv_aload_n hx hb dX9_speak_105 rfl (lv_at hl 2 rfl) ?_
          refine o_get (v := .ref (ar 24)) C ho 0 0 rfl rfl rfl 28 fX9_83 rfl dX9_speak_106 ?_
          refine lv_iload_n hx hb dX9_speak_109 rfl (lv_at hl 3 rfl) ?_
          refine o_zald (v := bI gd) C ho 0 25 rfl rfl 3 rfl d rfl (by omega) (by decide) q24 dX9_speak_110 ?_
          have J119 : W p la e (rmL 4 0 0) s m args below meth c H locs 0 0 Qz (F0 m 119 ls [.int (nI gd.toNat), .ref h]) := by
            refine lv_iconst (v := nI 1) hx hb dX9_speak_119 (by decide) ?_
            refine o_callV (wr := []) (rest := []) (As := [.int (nI gd.toNat), .int (nI 1)]) C (c_M_put la D K h ar ad ck bi 8 (va_up (va_up F 1 (whP ck (F 1) 400)) 2 (wrL (F 2) 0 (((([] : List Bool) ++ nb ad 3) ++ nb 3 4) ++ [true]))) gd.toNat 1 (tN_lt _) (by first | omega | assumption | (simp only [List.length_append, List.length_cons, List.length_nil, List.length_modify, List.length_set, nb_len, rb_len, rbp_len, sl_len, slN_len, wh_len, wt_len, hd10_len, hdB_len, thr_len, ldp_len, ldB_len, tens_len, whz_len, majL_len, mf_len, tkL_len, ldY_len, fif_len, ldY_len]; omega) | decide) (by first | omega | assumption | (simp only [List.length_append, List.length_cons, List.length_nil, List.length_modify, List.length_set, nb_len, rb_len, rbp_len, sl_len, slN_len, wh_len, wt_len, hd10_len, hdB_len, thr_len, ldp_len, ldB_len, tens_len, whz_len, majL_len, mf_len, tkL_len, ldY_len, fif_len, ldY_len]; omega) | decide)) kX9_114 vX9_put (by decide) rfl ho [0] 1 (by decide +kernel) rfl rfl rfl rfl rfl hl.1 rfl (Nat.le_of_ble_eq_true rfl) dX9_speak_120 0 0 rfl rfl (by decide) (fun v u_10 H locs hq ho => ?_)
            obtain rfl := hq
            have ho : ow D vwCl A s.heap H locs [bX K h ar ad ck bi (8 + 1) (va_up (va_up (va_up F 1 (whP ck (F 1) 400)) 2 (wrL (F 2) 0 (((([] : List Bool) ++ nb ad 3) ++ nb 3 4) ++ [true]))) 2 (wrL (wrL (F 2) 0 (((([] : List Bool) ++ nb ad 3) ++ nb 3 4) ++ [true])) 8 (nb gd.toNat 1)))] := ho
            refine W.eq (g2 := F0 m 123 ls []) rfl ?_
            have e_11 : bX K h ar ad ck bi (8 + 1) (va_up (va_up (va_up F 1 (whP ck (F 1) 400)) 2 (wrL (F 2) 0 (((([] : List Bool) ++ nb ad 3) ++ nb 3 4) ++ [true]))) 2 (wrL (wrL (F 2) 0 (((([] : List Bool) ++ nb ad 3) ++ nb 3 4) ++ [true])) 8 (nb gd.toNat 1))) = bX K h ar ad ck bi 9 (va_up (va_up F 1 (whP ck (F 1) 400)) 2 (wrL (F 2) 0 ((((([] : List Bool) ++ nb ad 3) ++ nb 3 4) ++ [true]) ++ [gd]))) := by rw [bx_uu, wrL_app (by simp [nb_len]), nb_b]
            have ho : ow D vwCl A s.heap H locs [bX K h ar ad ck bi 9 (va_up (va_up F 1 (whP ck (F 1) 400)) 2 (wrL (F 2) 0 ((((([] : List Bool) ++ nb ad 3) ++ nb 3 4) ++ [true]) ++ [gd])))] := by rw [← e_11]; exact ho
            refine lv_aload_n hx hb dX9_speak_123 rfl (lv_at hl 2 rfl) ?_
            refine lv_aload_n hx hb dX9_speak_124 rfl (lv_at hl 2 rfl) ?_
            refine o_get (v := .ref (ar 22)) C ho 0 0 rfl rfl rfl 26 fX9_77 rfl dX9_speak_125 ?_
            refine lv_iload_n hx hb dX9_speak_128 rfl (lv_at hl 3 rfl) ?_
            refine o_iald (v := nI tu.toNat) C ho 0 23 rfl rfl 0 rfl d rfl (by omega) (by omega) (q22.trans (bI_N _)) dX9_speak_129 ?_
            refine lv_iconst (v := nI 1) hx hb dX9_speak_130 (by decide) ?_
            refine o_callV (wr := []) (rest := []) (As := [.int (nI tu.toNat), .int (nI 1)]) C (c_M_put la D K h ar ad ck bi 9 (va_up (va_up F 1 (whP ck (F 1) 400)) 2 (wrL (F 2) 0 ((((([] : List Bool) ++ nb ad 3) ++ nb 3 4) ++ [true]) ++ [gd]))) tu.toNat 1 (tN_lt _) (by first | omega | assumption | (simp only [List.length_append, List.length_cons, List.length_nil, List.length_modify, List.length_set, nb_len, rb_len, rbp_len, sl_len, slN_len, wh_len, wt_len, hd10_len, hdB_len, thr_len, ldp_len, ldB_len, tens_len, whz_len, majL_len, mf_len, tkL_len, ldY_len, fif_len, ldY_len]; omega) | decide) (by first | omega | assumption | (simp only [List.length_append, List.length_cons, List.length_nil, List.length_modify, List.length_set, nb_len, rb_len, rbp_len, sl_len, slN_len, wh_len, wt_len, hd10_len, hdB_len, thr_len, ldp_len, ldB_len, tens_len, whz_len, majL_len, mf_len, tkL_len, ldY_len, fif_len, ldY_len]; omega) | decide)) kX9_114 vX9_put (by decide) rfl ho [0] 1 (by decide +kernel) rfl rfl rfl rfl rfl hl.1 rfl (Nat.le_of_ble_eq_true rfl) dX9_speak_131 0 0 rfl rfl (by decide) (fun v u_12 H locs hq ho => ?_)
            obtain rfl := hq
            have ho : ow D vwCl A s.heap H locs [bX K h ar ad ck bi (9 + 1) (va_up (va_up (va_up F 1 (whP ck (F 1) 400)) 2 (wrL (F 2) 0 ((((([] : List Bool) ++ nb ad 3) ++ nb 3 4) ++ [true]) ++ [gd]))) 2 (wrL (wrL (F 2) 0 ((((([] : List Bool) ++ nb ad 3) ++ nb 3 4) ++ [true]) ++ [gd])) 9 (nb tu.toNat 1)))] := ho
            refine W.eq (g2 := F0 m 134 ls []) rfl ?_
            have e_13 : bX K h ar ad ck bi (9 + 1) (va_up (va_up (va_up F 1 (whP ck (F 1) 400)) 2 (wrL (F 2) 0 ((((([] : List Bool) ++ nb ad 3) ++ nb 3 4) ++ [true]) ++ [gd]))) 2 (wrL (wrL (F 2) 0 ((((([] : List Bool) ++ nb ad 3) ++ nb 3 4) ++ [true]) ++ [gd])) 9 (nb tu.toNat 1))) = bX K h ar ad ck bi 10 (va_up (va_up F 1 (whP ck (F 1) 400)) 2 (wrL (F 2) 0 (hd10 ad 3 gd tu))) := by rw [bx_uu, wrL_app (by simp [nb_len]), nb_b] <;> rfl
            have ho : ow D vwCl A s.heap H locs [bX K h ar ad ck bi 10 (va_up (va_up F 1 (whP ck (F 1) 400)) 2 (wrL (F 2) 0 (hd10 ad 3 gd tu)))] := by rw [← e_13]; exact ho
            refine lv_aload_n hx hb dX9_speak_134 rfl (lv_at hl 2 rfl) ?_
            refine lv_iconst (v := nI 0) hx hb dX9_speak_135 (by decide) ?_
            refine lv_bipush (v := nI 10) hx hb dX9_speak_136 (by decide) ?_
            refine lv_sipush (v := nI 423) hx hb dX9_speak_138 (by decide) ?_
            refine lv_bipush (v := nI 8) hx hb dX9_speak_141 (by decide) ?_
            refine o_callV (wr := []) (rest := []) (As := [.int (nI 0), .int (nI 10), .int (nI 423), .int (nI 8)]) C (c_M_putRem la D K h ar ad ck bi 10 (va_up (va_up F 1 (whP ck (F 1) 400)) 2 (wrL (F 2) 0 (hd10 ad 3 gd tu))) 0 10 423 8 (hd10 ad 3 gd tu) (fun i hi => by rw [Nat.zero_add, va_up_self]; exact wrL_in0 hi) (by rw [hd10_len]) (by first | omega | assumption | (simp only [List.length_append, List.length_cons, List.length_nil, List.length_modify, List.length_set, nb_len, rb_len, rbp_len, sl_len, slN_len, wh_len, wt_len, hd10_len, hdB_len, thr_len, ldp_len, ldB_len, tens_len, whz_len, majL_len, mf_len, tkL_len, ldY_len, fif_len, ldY_len]; omega) | decide) (by first | omega | assumption | (simp only [List.length_append, List.length_cons, List.length_nil, List.length_modify, List.length_set, nb_len, rb_len, rbp_len, sl_len, slN_len, wh_len, wt_len, hd10_len, hdB_len, thr_len, ldp_len, ldB_len, tens_len, whz_len, majL_len, mf_len, tkL_len, ldY_len, fif_len, ldY_len]; omega) | decide) (by first | omega | assumption | (simp only [List.length_append, List.length_cons, List.length_nil, List.length_modify, List.length_set, nb_len, rb_len, rbp_len, sl_len, slN_len, wh_len, wt_len, hd10_len, hdB_len, thr_len, ldp_len, ldB_len, tens_len, whz_len, majL_len, mf_len, tkL_len, ldY_len, fif_len, ldY_len]; omega) | decide) (by first | omega | assumption | (simp only [List.length_append, List.length_cons, List.length_nil, List.length_modify, List.length_set, nb_len, rb_len, rbp_len, sl_len, slN_len, wh_len, wt_len, hd10_len, hdB_len, thr_len, ldp_len, ldB_len, tens_len, whz_len, majL_len, mf_len, tkL_len, ldY_len, fif_len, ldY_len]; omega) | decide) (by decide) (by decide) pw423 (by first | omega | assumption | (simp only [List.length_append, List.length_cons, List.length_nil, List.length_modify, List.length_set, nb_len, rb_len, rbp_len, sl_len, slN_len, wh_len, wt_len, hd10_len, hdB_len, thr_len, ldp_len, ldB_len, tens_len, whz_len, majL_len, mf_len, tkL_len, ldY_len, fif_len, ldY_len]; omega) | decide)) kX9_137 vX9_putRem (by decide) rfl ho [0] 1 (by decide +kernel) rfl rfl rfl rfl rfl hl.1 rfl (Nat.le_of_ble_eq_true rfl) dX9_speak_143 0 0 rfl rfl (by decide) (fun v u_14 H locs hq ho => ?_)
            obtain rfl := hq
            have ho : ow D vwCl A s.heap H locs [bX K h ar ad ck bi (10 + 8) (va_up (va_up (va_up F 1 (whP ck (F 1) 400)) 2 (wrL (F 2) 0 (hd10 ad 3 gd tu))) 2 (wrL (wrL (F 2) 0 (hd10 ad 3 gd tu)) 10 (rb (crc 423 8 (hd10 ad 3 gd tu)) 8)))] := ho
            refine W.eq (g2 := F0 m 146 ls []) rfl ?_
            have e_15 : bX K h ar ad ck bi (10 + 8) (va_up (va_up (va_up F 1 (whP ck (F 1) 400)) 2 (wrL (F 2) 0 (hd10 ad 3 gd tu))) 2 (wrL (wrL (F 2) 0 (hd10 ad 3 gd tu)) 10 (rb (crc 423 8 (hd10 ad 3 gd tu)) 8))) = bX K h ar ad ck bi 18 (va_up (va_up F 1 (whP ck (F 1) 400)) 2 (wrL (F 2) 0 (hdB ad 3 gd tu))) := by rw [bx_uu, wrL_app (by rw [hd10_len]), hdB_eq]
            have ho : ow D vwCl A s.heap H locs [bX K h ar ad ck bi 18 (va_up (va_up F 1 (whP ck (F 1) 400)) 2 (wrL (F 2) 0 (hdB ad 3 gd tu)))] := by rw [← e_15]; exact ho
            refine lv_iload_n hx hb dX9_speak_146 rfl (lv_at hl 0 rfl) ?_
            refine lv_iconst (v := nI 2) hx hb dX9_speak_147 (by decide) ?_
            refine o_icmp_le (tgt := 232) hx hb dX9_speak_148 (by decide) (by decide) (by decide) (fun c9 => absurd c9 (by decide)) (fun _ => ?_)
            refine lv_aload_n hx hb dX9_speak_151 rfl (lv_at hl 2 rfl) ?_
            refine lv_iconst (v := nI 4) hx hb dX9_speak_152 (by decide) ?_
            refine lv_aload_n hx hb dX9_speak_153 rfl (lv_at hl 2 rfl) ?_
            refine o_get (v := .ref (ar 11)) C ho 0 0 rfl rfl rfl 15 fX9_43 rfl dX9_speak_154 ?_
            refine lv_iload_n hx hb dX9_speak_157 rfl (lv_at hl 3 rfl) ?_
            refine o_iald (v := nI by_.length) C ho 0 12 rfl rfl 0 rfl d rfl (by omega) (by omega) q11 dX9_speak_158 ?_
            refine o_mul hx hb dX9_speak_159 ?_
            refine lv_aload_n hx hb dX9_speak_160 rfl (lv_at hl 2 rfl) ?_
            refine o_get (v := .ref (ar 13)) C ho 0 0 rfl rfl rfl 17 fX9_49 rfl dX9_speak_161 ?_
            refine lv_iload_n hx hb dX9_speak_164 rfl (lv_at hl 3 rfl) ?_
            refine o_zald (v := bI be) C ho 0 14 rfl rfl 3 rfl d rfl (by omega) (by decide) q13 dX9_speak_165 ?_
            have J174 : W p la e (rmL 4 0 0) s m args below meth c H locs 0 0 Qz (F0 m 174 ls [.int (nI (cond be 2 1)), .int (nI (4 * by_.length)), .ref h]) := by
              refine o_add hx hb dX9_speak_174 ?_
              refine lv_bipush (v := nI 8) hx hb dX9_speak_175 (by decide) ?_
              refine o_callV (wr := []) (rest := []) (As := [.int (nI ((4 * by_.length) + (cond be 2 1))), .int (nI 8)]) C (c_M_put la D K h ar ad ck bi 18 (va_up (va_up F 1 (whP ck (F 1) 400)) 2 (wrL (F 2) 0 (hdB ad 3 gd tu))) ((4 * by_.length) + (cond be 2 1)) 8 (by first | omega | assumption | (simp only [List.length_append, List.length_cons, List.length_nil, List.length_modify, List.length_set, nb_len, rb_len, rbp_len, sl_len, slN_len, wh_len, wt_len, hd10_len, hdB_len, thr_len, ldp_len, ldB_len, tens_len, whz_len, majL_len, mf_len, tkL_len, ldY_len, fif_len, ldY_len]; omega) | decide) (by first | omega | assumption | (simp only [List.length_append, List.length_cons, List.length_nil, List.length_modify, List.length_set, nb_len, rb_len, rbp_len, sl_len, slN_len, wh_len, wt_len, hd10_len, hdB_len, thr_len, ldp_len, ldB_len, tens_len, whz_len, majL_len, mf_len, tkL_len, ldY_len, fif_len, ldY_len]; omega) | decide) (by first | omega | assumption | (simp only [List.length_append, List.length_cons, List.length_nil, List.length_modify, List.length_set, nb_len, rb_len, rbp_len, sl_len, slN_len, wh_len, wt_len, hd10_len, hdB_len, thr_len, ldp_len, ldB_len, tens_len, whz_len, majL_len, mf_len, tkL_len, ldY_len, fif_len, ldY_len]; omega) | decide)) kX9_114 vX9_put (by decide) rfl ho [0] 1 (by decide +kernel) rfl rfl rfl rfl rfl hl.1 rfl (Nat.le_of_ble_eq_true rfl) dX9_speak_177 0 0 rfl rfl (by decide) (fun v u_16 H locs hq ho => ?_)
              obtain rfl := hq
              have ho : ow D vwCl A s.heap H locs [bX K h ar ad ck bi (18 + 8) (va_up (va_up (va_up F 1 (whP ck (F 1) 400)) 2 (wrL (F 2) 0 (hdB ad 3 gd tu))) 2 (wrL (wrL (F 2) 0 (hdB ad 3 gd tu)) 18 (nb ((4 * by_.length) + (cond be 2 1)) 8)))] := ho
              refine W.eq (g2 := F0 m 180 ls []) rfl ?_
              have e_17 : bX K h ar ad ck bi (18 + 8) (va_up (va_up (va_up F 1 (whP ck (F 1) 400)) 2 (wrL (F 2) 0 (hdB ad 3 gd tu))) 2 (wrL (wrL (F 2) 0 (hdB ad 3 gd tu)) 18 (nb ((4 * by_.length) + (cond be 2 1)) 8))) = bX K h ar ad ck bi (18 + (8 + 8 * 0)) (va_up (va_up F 1 (whP ck (F 1) 400)) 2 (wrL (F 2) 0 (hdB ad 3 gd tu ++ ldp (cond be 2 1) by_ 0))) := by rw [bx_uu, wrL_app (by rw [hdB_len]), ldp_0]
              have ho : ow D vwCl A s.heap H locs [bX K h ar ad ck bi (18 + (8 + 8 * 0)) (va_up (va_up F 1 (whP ck (F 1) 400)) 2 (wrL (F 2) 0 (hdB ad 3 gd tu ++ ldp (cond be 2 1) by_ 0)))] := by rw [← e_17]; exact ho
              refine lv_iconst (v := nI 0) hx hb dX9_speak_180 (by decide) ?_
              refine lv_istore (lv' := [(4, .int (nI 0)), (3, .int (nI 3)), (2, .int (bI mo)), (0, .ref h), (1, .int (nI d))]) hx hb dX9_speak_181 hl (by decide) rfl (fun ls hl => ?_)
              have LP183 : ∀ (fuel : Nat) (i : Nat) (_ : by_.length - i < fuel) (_ : i ≤ by_.length) (H : Heap) (locs : List Loc) (ls : Array Slot) (_ : ow D vwCl A s.heap H locs [bX K h ar ad ck bi (18 + (8 + 8 * i)) (va_up (va_up F 1 (whP ck (F 1) 400)) 2 (wrL (F 2) 0 (hdB ad 3 gd tu ++ ldp (cond be 2 1) by_ i)))]) (_ : lv_has ls 5 [(0, .ref h), (1, .int (nI d)), (3, .int (nI 3)), (4, .int (nI i))]), W p la e (rmL 4 0 0) s m args below meth c H locs 0 0 Qz (F0 m 183 ls []) := by
                intro fuel
                induction fuel with
                | zero => intro i h0; exact absurd h0 (Nat.not_lt_zero _)
                | succ fuel ih183 =>
                  intro i hfu hi H locs ls ho hl
                  refine lv_iload hx hb dX9_speak_183 (lv_at hl 3 rfl) ?_
                  refine lv_aload_n hx hb dX9_speak_185 rfl (lv_at hl 0 rfl) ?_
                  refine o_get (v := .ref (ar 11)) C ho 0 0 rfl rfl rfl 15 fX9_43 rfl dX9_speak_186 ?_
                  refine lv_iload_n hx hb dX9_speak_189 rfl (lv_at hl 1 rfl) ?_
                  refine o_iald (v := nI by_.length) C ho 0 12 rfl rfl 0 rfl d rfl (by omega) (by omega) q11 dX9_speak_190 ?_
                  refine o_icmp_ge (tgt := 218) hx hb dX9_speak_191 (by decide) (by first | omega | exact and1_lt _) (by first | omega | exact and1_lt _) (fun c_18 => ?_) (fun c_18 => ?_)
                  · skip
                    have e_19 : bX K h ar ad ck bi (18 + (8 + 8 * i)) (va_up (va_up F 1 (whP ck (F 1) 400)) 2 (wrL (F 2) 0 (hdB ad 3 gd tu ++ ldp (cond be 2 1) by_ i))) = bX K h ar ad ck bi (18 + (8 + 8 * by_.length)) (va_up (va_up F 1 (whP ck (F 1) 400)) 2 (wrL (F 2) 0 (hdB ad 3 gd tu ++ ldp (cond be 2 1) by_ by_.length))) := by rw [show i = by_.length by omega]
                    have ho : ow D vwCl A s.heap H locs [bX K h ar ad ck bi (18 + (8 + 8 * by_.length)) (va_up (va_up F 1 (whP ck (F 1) 400)) 2 (wrL (F 2) 0 (hdB ad 3 gd tu ++ ldp (cond be 2 1) by_ by_.length)))] := by rw [← e_19]; exact ho
                    refine lv_aload_n hx hb dX9_speak_218 rfl (lv_at hl 0 rfl) ?_
                    refine lv_bipush (v := nI 18) hx hb dX9_speak_219 (by decide) ?_
                    refine lv_aload_n hx hb dX9_speak_221 rfl (lv_at hl 0 rfl) ?_
                    refine o_get (v := .int (nI (18 + (8 + 8 * by_.length)))) C ho 0 0 rfl rfl rfl 5 fX9_103 rfl dX9_speak_222 ?_
                    refine lv_ldc (v := nI 69665) hx hb C.1.2.2.2.1 (C.1.2.2.2.2 _ mX9_k141) dX9_speak_225 ?_
                    refine lv_bipush (v := nI 16) hx hb dX9_speak_227 (by decide) ?_
                    refine o_callV (wr := []) (rest := []) (As := [.int (nI 18), .int (nI (18 + (8 + 8 * by_.length))), .int (nI 69665), .int (nI 16)]) C (c_M_putRem la D K h ar ad ck bi (18 + (8 + 8 * by_.length)) (va_up (va_up F 1 (whP ck (F 1) 400)) 2 (wrL (F 2) 0 (hdB ad 3 gd tu ++ ldp (cond be 2 1) by_ by_.length))) 18 (18 + (8 + 8 * by_.length)) 69665 16 (ldp (cond be 2 1) by_ by_.length) (fun i hi => by rw [va_up_self]; exact wrL_r (hdB_len _ _ _ _) hi) (by rw [ldp_len]) (by first | omega | assumption | (simp only [List.length_append, List.length_cons, List.length_nil, List.length_modify, List.length_set, nb_len, rb_len, rbp_len, sl_len, slN_len, wh_len, wt_len, hd10_len, hdB_len, thr_len, ldp_len, ldB_len, tens_len, whz_len, majL_len, mf_len, tkL_len, ldY_len, fif_len, ldY_len]; omega) | decide) (by first | omega | assumption | (simp only [List.length_append, List.length_cons, List.length_nil, List.length_modify, List.length_set, nb_len, rb_len, rbp_len, sl_len, slN_len, wh_len, wt_len, hd10_len, hdB_len, thr_len, ldp_len, ldB_len, tens_len, whz_len, majL_len, mf_len, tkL_len, ldY_len, fif_len, ldY_len]; omega) | decide) (by first | omega | assumption | (simp only [List.length_append, List.length_cons, List.length_nil, List.length_modify, List.length_set, nb_len, rb_len, rbp_len, sl_len, slN_len, wh_len, wt_len, hd10_len, hdB_len, thr_len, ldp_len, ldB_len, tens_len, whz_len, majL_len, mf_len, tkL_len, ldY_len, fif_len, ldY_len]; omega) | decide) (by first | omega | assumption | (simp only [List.length_append, List.length_cons, List.length_nil, List.length_modify, List.length_set, nb_len, rb_len, rbp_len, sl_len, slN_len, wh_len, wt_len, hd10_len, hdB_len, thr_len, ldp_len, ldB_len, tens_len, whz_len, majL_len, mf_len, tkL_len, ldY_len, fif_len, ldY_len]; omega) | decide) (by decide) (by decide) pw69665 (by first | omega | assumption | (simp only [List.length_append, List.length_cons, List.length_nil, List.length_modify, List.length_set, nb_len, rb_len, rbp_len, sl_len, slN_len, wh_len, wt_len, hd10_len, hdB_len, thr_len, ldp_len, ldB_len, tens_len, whz_len, majL_len, mf_len, tkL_len, ldY_len, fif_len, ldY_len]; omega) | decide)) kX9_137 vX9_putRem (by decide) rfl ho [0] 1 (by decide +kernel) rfl rfl rfl rfl rfl hl.1 rfl (Nat.le_of_ble_eq_true rfl) dX9_speak_229 0 0 rfl rfl (by decide) (fun v u_20 H locs hq ho => ?_)
                    obtain rfl := hq
                    have ho : ow D vwCl A s.heap H locs [bX K h ar ad ck bi ((18 + (8 + 8 * by_.length)) + 16) (va_up (va_up (va_up F 1 (whP ck (F 1) 400)) 2 (wrL (F 2) 0 (hdB ad 3 gd tu ++ ldp (cond be 2 1) by_ by_.length))) 2 (wrL (wrL (F 2) 0 (hdB ad 3 gd tu ++ ldp (cond be 2 1) by_ by_.length)) (18 + (8 + 8 * by_.length)) (rb (crc 69665 16 (ldp (cond be 2 1) by_ by_.length)) 16)))] := ho
                    refine W.eq (g2 := F0 m 232 ls []) rfl ?_
                    have e_21 : bX K h ar ad ck bi ((18 + (8 + 8 * by_.length)) + 16) (va_up (va_up (va_up F 1 (whP ck (F 1) 400)) 2 (wrL (F 2) 0 (hdB ad 3 gd tu ++ ldp (cond be 2 1) by_ by_.length))) 2 (wrL (wrL (F 2) 0 (hdB ad 3 gd tu ++ ldp (cond be 2 1) by_ by_.length)) (18 + (8 + 8 * by_.length)) (rb (crc 69665 16 (ldp (cond be 2 1) by_ by_.length)) 16))) = bX K h ar ad ck bi ((18 + (8 + 8 * by_.length)) + 16) (va_up (va_up F 1 (whP ck (F 1) 400)) 2 (wrL (F 2) 0 (hdB ad 3 gd tu ++ ldB (cond be 2 1) by_))) := by rw [bx_uu, wrL_app (by rw [List.length_append, hdB_len, ldp_len]; omega), ldB_eq, List.append_assoc]
                    have ho : ow D vwCl A s.heap H locs [bX K h ar ad ck bi ((18 + (8 + 8 * by_.length)) + 16) (va_up (va_up F 1 (whP ck (F 1) 400)) 2 (wrL (F 2) 0 (hdB ad 3 gd tu ++ ldB (cond be 2 1) by_)))] := by rw [← e_21]; exact ho
                    have hlB := ldB_len (cond be 2 1) by_
                    refine lv_aload_n hx hb dX9_speak_232 rfl (lv_at hl 0 rfl) ?_
                    refine lv_iload_n hx hb dX9_speak_233 rfl (lv_at hl 2 rfl) ?_
                    refine o_callV (wr := []) (rest := []) (As := [.int (nI 3)]) C (c_M_sendBits3 la D K h ar ad ck bi ((18 + (8 + 8 * by_.length)) + 16) (va_up (va_up F 1 (whP ck (F 1) 400)) 2 (wrL (F 2) 0 (hdB ad 3 gd tu ++ ldB (cond be 2 1) by_))) ck (hdB ad 3 gd tu) (ldB (cond be 2 1) by_) (fun i hi => whP_in hi) (fun i hi => wrL_l (hdB_len _ _ _ _) hi) (hdB_len _ _ _ _) (fun i hi => wrL_r (hdB_len _ _ _ _) hi) (by rw [ldB_len]; omega) (by rw [ldB_len]; omega)) kX9_142 vX9_sendBits (by decide) rfl ho [0] 1 (by decide +kernel) rfl rfl rfl rfl rfl hl.1 rfl (Nat.le_of_ble_eq_true rfl) dX9_speak_234 0 0 rfl rfl (by decide) (fun v u_22 H locs hq ho => ?_)
                    obtain rfl := hq
                    have ho : ow D vwCl A s.heap H locs [bX K h ar ad ck (54 + 15 * (((ldB (cond be 2 1) by_).length + 9) / 10)) ((18 + (8 + 8 * by_.length)) + 16) (va_up (va_up (va_up (va_up F 1 (whP ck (F 1) 400)) 2 (wrL (F 2) 0 (hdB ad 3 gd tu ++ ldB (cond be 2 1) by_))) 0 (wrL (F 0) 0 (thr (whz (hdB ad 3 gd tu) (wt ck) 0) 54 ++ tens (whz (ldB (cond be 2 1) by_) (wt ck) 18) (((ldB (cond be 2 1) by_).length + 9) / 10)))) 2 (u_22))] := ho
                    refine W.eq (g2 := F0 m 237 ls []) rfl ?_
                    have e_23 : bX K h ar ad ck (54 + 15 * (((ldB (cond be 2 1) by_).length + 9) / 10)) ((18 + (8 + 8 * by_.length)) + 16) (va_up (va_up (va_up (va_up F 1 (whP ck (F 1) 400)) 2 (wrL (F 2) 0 (hdB ad 3 gd tu ++ ldB (cond be 2 1) by_))) 0 (wrL (F 0) 0 (thr (whz (hdB ad 3 gd tu) (wt ck) 0) 54 ++ tens (whz (ldB (cond be 2 1) by_) (wt ck) 18) (((ldB (cond be 2 1) by_).length + 9) / 10)))) 2 (u_22)) = bX K h ar ad ck ((airW ck ad 3 gd tu (cond be 2 1) by_).length) ((18 + (8 + 8 * by_.length)) + 16) (va_up (va_up (va_up F 1 (whP ck (F 1) 400)) 0 (wrL (F 0) 0 (airW ck ad 3 gd tu (cond be 2 1) by_))) 2 (u_22)) := by rw [airW_l3 ck ad gd tu (cond be 2 1) by_, airW_3 ck ad gd tu (cond be 2 1) by_, up_c202]
                    have ho : ow D vwCl A s.heap H locs [bX K h ar ad ck ((airW ck ad 3 gd tu (cond be 2 1) by_).length) ((18 + (8 + 8 * by_.length)) + 16) (va_up (va_up (va_up F 1 (whP ck (F 1) 400)) 0 (wrL (F 0) 0 (airW ck ad 3 gd tu (cond be 2 1) by_))) 2 (u_22))] := by rw [← e_23]; exact ho
                    refine lv_aload_n hx hb dX9_speak_237 rfl (lv_at hl 0 rfl) ?_
                    refine o_get (v := .ref (ar 24)) C ho 0 0 rfl rfl rfl 28 fX9_83 rfl dX9_speak_238 ?_
                    refine lv_iload_n hx hb dX9_speak_241 rfl (lv_at hl 1 rfl) ?_
                    refine lv_iconst (v := nI 0) hx hb dX9_speak_242 (by decide) ?_
                    refine o_top (y := bI false) (rfl) ?_
                    refine o_zast (bs' := [bX K h ar ad ck ((airW ck ad 3 gd tu (cond be 2 1) by_).length) ((18 + (8 + 8 * by_.length)) + 16) (va_up (va_up (va_up (va_up F 1 (whP ck (F 1) 400)) 0 (wrL (F 0) 0 (airW ck ad 3 gd tu (cond be 2 1) by_))) 2 (u_22)) 24 (upd (F 24) d (bI false)))]) C ho 0 25 rfl rfl 3 rfl d rfl (by omega) (by decide) dX9_speak_243 rfl (fun H locs ho => ?_)
                    refine lv_aload_n hx hb dX9_speak_244 rfl (lv_at hl 0 rfl) ?_
                    refine o_get (v := .ref (ar 25)) C ho 0 0 rfl rfl rfl 29 fX9_86 rfl dX9_speak_245 ?_
                    refine lv_iload_n hx hb dX9_speak_248 rfl (lv_at hl 1 rfl) ?_
                    refine lv_iconst (v := nI 0) hx hb dX9_speak_249 (by decide) ?_
                    refine o_top (y := bI false) (rfl) ?_
                    refine o_zast (bs' := [bX K h ar ad ck ((airW ck ad 3 gd tu (cond be 2 1) by_).length) ((18 + (8 + 8 * by_.length)) + 16) (va_up (va_up (va_up (va_up (va_up F 1 (whP ck (F 1) 400)) 0 (wrL (F 0) 0 (airW ck ad 3 gd tu (cond be 2 1) by_))) 2 (u_22)) 24 (upd (F 24) d (bI false))) 25 (upd (F 25) d (bI false)))]) C ho 0 26 rfl rfl 3 rfl d rfl (by omega) (by decide) dX9_speak_250 rfl (fun H locs ho => ?_)
                    refine lv_iload_n hx hb dX9_speak_251 rfl (lv_at hl 2 rfl) ?_
                    exact o_iret hQ C rfl ho u_22 rfl rfl (Nat.le_of_ble_eq_true rfl) (Nat.le_of_ble_eq_true rfl) dX9_speak_252
                  · skip
                    refine lv_aload_n hx hb dX9_speak_194 rfl (lv_at hl 0 rfl) ?_
                    refine lv_aload_n hx hb dX9_speak_195 rfl (lv_at hl 0 rfl) ?_
                    refine o_get (v := .ref (ar 14)) C ho 0 0 rfl rfl rfl 18 fX9_53 rfl dX9_speak_196 ?_
                    refine lv_bipush (v := nI 13) hx hb dX9_speak_199 (by decide) ?_
                    refine lv_iload_n hx hb dX9_speak_201 rfl (lv_at hl 1 rfl) ?_
                    refine o_mul hx hb dX9_speak_202 ?_
                    refine lv_iload hx hb dX9_speak_203 (lv_at hl 3 rfl) ?_
                    refine o_add hx hb dX9_speak_205 ?_
                    refine o_iald (v := nI (by_.getD i 0)) C ho 0 15 rfl rfl 0 rfl ((13 * d) + i) rfl (by omega) (by omega) (q14 i (by omega)) dX9_speak_206 ?_
                    refine lv_bipush (v := nI 8) hx hb dX9_speak_207 (by decide) ?_
                    refine o_callV (wr := []) (rest := []) (As := [.int (nI (by_.getD i 0)), .int (nI 8)]) C (c_M_put la D K h ar ad ck bi (18 + (8 + 8 * i)) (va_up (va_up F 1 (whP ck (F 1) 400)) 2 (wrL (F 2) 0 (hdB ad 3 gd tu ++ ldp (cond be 2 1) by_ i))) (by_.getD i 0) 8 (Nat.lt_trans (qb _) (by decide)) (by first | omega | assumption | (simp only [List.length_append, List.length_cons, List.length_nil, List.length_modify, List.length_set, nb_len, rb_len, rbp_len, sl_len, slN_len, wh_len, wt_len, hd10_len, hdB_len, thr_len, ldp_len, ldB_len, tens_len, whz_len, majL_len, mf_len, tkL_len, ldY_len, fif_len, ldY_len]; omega) | decide) (by first | omega | assumption | (simp only [List.length_append, List.length_cons, List.length_nil, List.length_modify, List.length_set, nb_len, rb_len, rbp_len, sl_len, slN_len, wh_len, wt_len, hd10_len, hdB_len, thr_len, ldp_len, ldB_len, tens_len, whz_len, majL_len, mf_len, tkL_len, ldY_len, fif_len, ldY_len]; omega) | decide)) kX9_114 vX9_put (by decide) rfl ho [0] 1 (by decide +kernel) rfl rfl rfl rfl rfl hl.1 rfl (Nat.le_of_ble_eq_true rfl) dX9_speak_209 0 0 rfl rfl (by decide) (fun v u_24 H locs hq ho => ?_)
                    obtain rfl := hq
                    have ho : ow D vwCl A s.heap H locs [bX K h ar ad ck bi ((18 + (8 + 8 * i)) + 8) (va_up (va_up (va_up F 1 (whP ck (F 1) 400)) 2 (wrL (F 2) 0 (hdB ad 3 gd tu ++ ldp (cond be 2 1) by_ i))) 2 (wrL (wrL (F 2) 0 (hdB ad 3 gd tu ++ ldp (cond be 2 1) by_ i)) (18 + (8 + 8 * i)) (nb (by_.getD i 0) 8)))] := ho
                    refine W.eq (g2 := F0 m 212 ls []) rfl ?_
                    have e_25 : bX K h ar ad ck bi ((18 + (8 + 8 * i)) + 8) (va_up (va_up (va_up F 1 (whP ck (F 1) 400)) 2 (wrL (F 2) 0 (hdB ad 3 gd tu ++ ldp (cond be 2 1) by_ i))) 2 (wrL (wrL (F 2) 0 (hdB ad 3 gd tu ++ ldp (cond be 2 1) by_ i)) (18 + (8 + 8 * i)) (nb (by_.getD i 0) 8))) = bX K h ar ad ck bi (18 + (8 + 8 * (i + 1))) (va_up (va_up F 1 (whP ck (F 1) 400)) 2 (wrL (F 2) 0 (hdB ad 3 gd tu ++ ldp (cond be 2 1) by_ (i + 1)))) := by rw [bx_uu, wrL_app (by rw [List.length_append, hdB_len, ldp_len]; omega), ldp_succ, List.append_assoc] <;> rfl
                    have ho : ow D vwCl A s.heap H locs [bX K h ar ad ck bi (18 + (8 + 8 * (i + 1))) (va_up (va_up F 1 (whP ck (F 1) 400)) 2 (wrL (F 2) 0 (hdB ad 3 gd tu ++ ldp (cond be 2 1) by_ (i + 1))))] := by rw [← e_25]; exact ho
                    refine lv_iinc (v := nI (i + 1)) (lv' := [(4, .int (nI (i + 1))), (0, .ref h), (1, .int (nI d)), (3, .int (nI 3))]) hx hb dX9_speak_212 hl (k := 3) rfl (iincN _ _) (by decide) rfl (fun ls hl => ?_)
                    refine lv_goto (tgt := 183) hx hb dX9_speak_215 (by decide) ?_
                    exact ih183 (i + 1) (by omega) (by omega) _ _ _ ho (lv_sub hl [1, 2, 3, 0] rfl)
              exact LP183 (by_.length - 0 + 1) 0 (Nat.lt_succ_self _) (by omega) _ _ _ ho (lv_sub hl [3, 4, 1, 0] rfl)
            cases be
            · skip
              refine o_ifb_eq (tgt := 173) hx hb dX9_speak_166 (by decide) (fun _ => ?_) (fun c9 => absurd c9 (by decide))
              refine lv_iconst (v := nI 1) hx hb dX9_speak_173 (by decide) ?_
              exact J174
            · skip
              refine o_ifb_eq (tgt := 173) hx hb dX9_speak_166 (by decide) (fun c9 => absurd c9 (by decide)) (fun _ => ?_)
              refine lv_iconst (v := nI 2) hx hb dX9_speak_169 (by decide) ?_
              refine lv_goto (tgt := 174) hx hb dX9_speak_170 (by decide) ?_
              exact J174
          cases gd
          · skip
            refine o_ifb_eq (tgt := 118) hx hb dX9_speak_111 (by decide) (fun _ => ?_) (fun c9 => absurd c9 (by decide))
            refine lv_iconst (v := nI 0) hx hb dX9_speak_118 (by decide) ?_
            exact J119
          · skip
            refine o_ifb_eq (tgt := 118) hx hb dX9_speak_111 (by decide) (fun c9 => absurd c9 (by decide)) (fun _ => ?_)
            refine lv_iconst (v := nI 1) hx hb dX9_speak_114 (by decide) ?_
            refine lv_goto (tgt := 119) hx hb dX9_speak_115 (by decide) ?_
            exact J119
      · skip
        exact absurd c_1 (by omega)
    refine lv_aload_n hx hb dX9_speak_0 rfl (lv_at hl 0 rfl) ?_
    refine o_get (v := .ref (ar 5)) C ho 0 0 rfl rfl rfl 9 fX9_25 rfl dX9_speak_1 ?_
    refine lv_iload_n hx hb dX9_speak_4 rfl (lv_at hl 1 rfl) ?_
    refine o_iald (v := F 5 d) C ho 0 6 rfl rfl 0 rfl d rfl (by omega) (by omega) rfl dX9_speak_5 ?_
    refine lv_if_gt (tgt := 24) hx hb dX9_speak_6 (by decide) (fun c_26 => ?_) (fun c_26 => ?_)
    · skip
      refine lv_iconst (v := nI 1) hx hb dX9_speak_24 (by decide) ?_
      refine lv_goto (tgt := 29) hx hb dX9_speak_25 (by decide) ?_
      exact J29 true
    · skip
      refine lv_aload_n hx hb dX9_speak_9 rfl (lv_at hl 0 rfl) ?_
      refine o_get (v := .ref (ar 9)) C ho 0 0 rfl rfl rfl 13 fX9_37 rfl dX9_speak_10 ?_
      refine lv_iload_n hx hb dX9_speak_13 rfl (lv_at hl 1 rfl) ?_
      refine o_iald (v := F 9 d) C ho 0 10 rfl rfl 0 rfl d rfl (by omega) (by omega) rfl dX9_speak_14 ?_
      refine lv_aload_n hx hb dX9_speak_15 rfl (lv_at hl 0 rfl) ?_
      refine o_get (v := .ref (ar 8)) C ho 0 0 rfl rfl rfl 12 fX9_34 rfl dX9_speak_16 ?_
      refine lv_iload_n hx hb dX9_speak_19 rfl (lv_at hl 1 rfl) ?_
      refine o_iald (v := F 8 d) C ho 0 9 rfl rfl 0 rfl d rfl (by omega) (by omega) rfl dX9_speak_20 ?_
      refine lv_icmp_ge (tgt := 28) hx hb dX9_speak_21 (by decide) (fun c_27 => ?_) (fun c_27 => ?_)
      · skip
        refine lv_iconst (v := nI 0) hx hb dX9_speak_28 (by decide) ?_
        exact J29 false
      · skip
        refine lv_iconst (v := nI 1) hx hb dX9_speak_24 (by decide) ?_
        refine lv_goto (tgt := 29) hx hb dX9_speak_25 (by decide) ?_
        exact J29 true
  · skip
    have qn13 : by_.length ≤ 13 := qn9
    have J29 : ∀ (mo : Bool), W p la e (rmL 4 0 0) s m args below meth c H locs 0 0 Qz (F0 m 29 ls [.int (bI mo)]) := by
      intro mo
      refine lv_istore_n (lv' := [(2, .int (bI mo)), (0, .ref h), (1, .int (nI d))]) hx hb dX9_speak_29 rfl hl (by decide) rfl (fun ls hl => ?_)
      refine lv_aload_n hx hb dX9_speak_30 rfl (lv_at hl 1 rfl) ?_
      refine o_get (v := .ref (ar 11)) C ho 0 0 rfl rfl rfl 15 fX9_43 rfl dX9_speak_31 ?_
      refine lv_iload_n hx hb dX9_speak_34 rfl (lv_at hl 2 rfl) ?_
      refine o_iald (v := nI by_.length) C ho 0 12 rfl rfl 0 rfl d rfl (by omega) (by omega) q11 dX9_speak_35 ?_
      refine o_if_ne (tgt := 48) hx hb dX9_speak_36 (by decide) (by omega) (fun c_28 => ?_) (fun c_28 => ?_)
      · skip
        refine lv_aload_n hx hb dX9_speak_48 rfl (lv_at hl 1 rfl) ?_
        refine o_get (v := .ref (ar 11)) C ho 0 0 rfl rfl rfl 15 fX9_43 rfl dX9_speak_49 ?_
        refine lv_iload_n hx hb dX9_speak_52 rfl (lv_at hl 2 rfl) ?_
        refine o_iald (v := nI by_.length) C ho 0 12 rfl rfl 0 rfl d rfl (by omega) (by omega) q11 dX9_speak_53 ?_
        refine o_if_le (tgt := 66) hx hb dX9_speak_54 (by decide) (by omega) (fun c_29 => ?_) (fun c_29 => ?_)
        · skip
          exact absurd c_29 (by omega)
        · skip
          refine lv_aload_n hx hb dX9_speak_57 rfl (lv_at hl 1 rfl) ?_
          refine o_get (v := .ref (ar 12)) C ho 0 0 rfl rfl rfl 16 fX9_46 rfl dX9_speak_58 ?_
          refine lv_iload_n hx hb dX9_speak_61 rfl (lv_at hl 2 rfl) ?_
          refine o_iald (v := nI 4) C ho 0 13 rfl rfl 0 rfl d rfl (by omega) (by omega) q12 dX9_speak_62 ?_
          refine lv_goto (tgt := 69) hx hb dX9_speak_63 (by decide) ?_
          refine lv_istore_n (lv' := [(3, .int (nI 4)), (2, .int (bI mo)), (0, .ref h), (1, .int (nI d))]) hx hb dX9_speak_69 rfl hl (by decide) rfl (fun ls hl => ?_)
          refine lv_aload_n hx hb dX9_speak_70 rfl (lv_at hl 2 rfl) ?_
          refine lv_aload_n hx hb dX9_speak_71 rfl (lv_at hl 2 rfl) ?_
          refine o_get (v := .int (nI ck)) C ho 0 0 rfl rfl rfl 1 fX9_131 rfl dX9_speak_72 ?_
          refine o_callV (wr := []) (rest := []) (As := [.int (nI ck)]) C (c_M_whiten la D K h ar ad ck bi lo F ck (by first | omega | assumption | (simp only [List.length_append, List.length_cons, List.length_nil, List.length_modify, List.length_set, nb_len, rb_len, rbp_len, sl_len, slN_len, wh_len, wt_len, hd10_len, hdB_len, thr_len, ldp_len, ldB_len, tens_len, whz_len, majL_len, mf_len, tkL_len, ldY_len, fif_len, ldY_len]; omega) | decide)) kX9_134 vX9_whiten (by decide) rfl ho [0] 1 (by decide +kernel) rfl rfl rfl rfl rfl hl.1 rfl (Nat.le_of_ble_eq_true rfl) dX9_speak_75 0 0 rfl rfl (by decide) (fun v u_30 H locs hq ho => ?_)
          obtain rfl := hq
          have ho : ow D vwCl A s.heap H locs [bX K h ar ad ck bi lo (va_up F 1 (whP ck (F 1) 400))] := ho
          refine W.eq (g2 := F0 m 78 ls []) rfl ?_
          refine lv_aload_n hx hb dX9_speak_78 rfl (lv_at hl 2 rfl) ?_
          refine lv_iconst (v := nI 0) hx hb dX9_speak_79 (by decide) ?_
          refine o_put (v := .int (nI 0)) (bs' := [bX K h ar ad ck bi 0 (va_up F 1 (whP ck (F 1) 400))]) C ho 0 0 rfl rfl rfl 5 fX9_103 pX9_5 rfl rfl (Nat.le_of_ble_eq_true rfl) dX9_speak_80 rfl (fun H locs ho => ?_)
          refine lv_aload_n hx hb dX9_speak_83 rfl (lv_at hl 2 rfl) ?_
          refine lv_aload_n hx hb dX9_speak_84 rfl (lv_at hl 2 rfl) ?_
          refine o_get (v := .int (nI ad)) C ho 0 0 rfl rfl rfl 0 fX9_95 rfl dX9_speak_85 ?_
          refine lv_iconst (v := nI 3) hx hb dX9_speak_88 (by decide) ?_
          refine o_callV (wr := []) (rest := []) (As := [.int (nI ad), .int (nI 3)]) C (c_M_put la D K h ar ad ck bi 0 (va_up F 1 (whP ck (F 1) 400)) ad 3 (by first | omega | assumption | (simp only [List.length_append, List.length_cons, List.length_nil, List.length_modify, List.length_set, nb_len, rb_len, rbp_len, sl_len, slN_len, wh_len, wt_len, hd10_len, hdB_len, thr_len, ldp_len, ldB_len, tens_len, whz_len, majL_len, mf_len, tkL_len, ldY_len, fif_len, ldY_len]; omega) | decide) (by first | omega | assumption | (simp only [List.length_append, List.length_cons, List.length_nil, List.length_modify, List.length_set, nb_len, rb_len, rbp_len, sl_len, slN_len, wh_len, wt_len, hd10_len, hdB_len, thr_len, ldp_len, ldB_len, tens_len, whz_len, majL_len, mf_len, tkL_len, ldY_len, fif_len, ldY_len]; omega) | decide) (by first | omega | assumption | (simp only [List.length_append, List.length_cons, List.length_nil, List.length_modify, List.length_set, nb_len, rb_len, rbp_len, sl_len, slN_len, wh_len, wt_len, hd10_len, hdB_len, thr_len, ldp_len, ldB_len, tens_len, whz_len, majL_len, mf_len, tkL_len, ldY_len, fif_len, ldY_len]; omega) | decide)) kX9_114 vX9_put (by decide) rfl ho [0] 1 (by decide +kernel) rfl rfl rfl rfl rfl hl.1 rfl (Nat.le_of_ble_eq_true rfl) dX9_speak_89 0 0 rfl rfl (by decide) (fun v u_31 H locs hq ho => ?_)
          obtain rfl := hq
          have ho : ow D vwCl A s.heap H locs [bX K h ar ad ck bi (0 + 3) (va_up (va_up F 1 (whP ck (F 1) 400)) 2 (wrL (F 2) 0 (nb ad 3)))] := ho
          refine W.eq (g2 := F0 m 92 ls []) rfl ?_
          have e_32 : bX K h ar ad ck bi (0 + 3) (va_up (va_up F 1 (whP ck (F 1) 400)) 2 (wrL (F 2) 0 (nb ad 3))) = bX K h ar ad ck bi 3 (va_up (va_up F 1 (whP ck (F 1) 400)) 2 (wrL (F 2) 0 (([] : List Bool) ++ nb ad 3))) := rfl
          have ho : ow D vwCl A s.heap H locs [bX K h ar ad ck bi 3 (va_up (va_up F 1 (whP ck (F 1) 400)) 2 (wrL (F 2) 0 (([] : List Bool) ++ nb ad 3)))] := by rw [← e_32]; exact ho
          refine lv_aload_n hx hb dX9_speak_92 rfl (lv_at hl 2 rfl) ?_
          refine lv_iload_n hx hb dX9_speak_93 rfl (lv_at hl 0 rfl) ?_
          refine lv_iconst (v := nI 4) hx hb dX9_speak_94 (by decide) ?_
          refine o_callV (wr := []) (rest := []) (As := [.int (nI 4), .int (nI 4)]) C (c_M_put la D K h ar ad ck bi 3 (va_up (va_up F 1 (whP ck (F 1) 400)) 2 (wrL (F 2) 0 (([] : List Bool) ++ nb ad 3))) 4 4 (by first | omega | assumption | (simp only [List.length_append, List.length_cons, List.length_nil, List.length_modify, List.length_set, nb_len, rb_len, rbp_len, sl_len, slN_len, wh_len, wt_len, hd10_len, hdB_len, thr_len, ldp_len, ldB_len, tens_len, whz_len, majL_len, mf_len, tkL_len, ldY_len, fif_len, ldY_len]; omega) | decide) (by first | omega | assumption | (simp only [List.length_append, List.length_cons, List.length_nil, List.length_modify, List.length_set, nb_len, rb_len, rbp_len, sl_len, slN_len, wh_len, wt_len, hd10_len, hdB_len, thr_len, ldp_len, ldB_len, tens_len, whz_len, majL_len, mf_len, tkL_len, ldY_len, fif_len, ldY_len]; omega) | decide) (by first | omega | assumption | (simp only [List.length_append, List.length_cons, List.length_nil, List.length_modify, List.length_set, nb_len, rb_len, rbp_len, sl_len, slN_len, wh_len, wt_len, hd10_len, hdB_len, thr_len, ldp_len, ldB_len, tens_len, whz_len, majL_len, mf_len, tkL_len, ldY_len, fif_len, ldY_len]; omega) | decide)) kX9_114 vX9_put (by decide) rfl ho [0] 1 (by decide +kernel) rfl rfl rfl rfl rfl hl.1 rfl (Nat.le_of_ble_eq_true rfl) dX9_speak_95 0 0 rfl rfl (by decide) (fun v u_33 H locs hq ho => ?_)
          obtain rfl := hq
          have ho : ow D vwCl A s.heap H locs [bX K h ar ad ck bi (3 + 4) (va_up (va_up (va_up F 1 (whP ck (F 1) 400)) 2 (wrL (F 2) 0 (([] : List Bool) ++ nb ad 3))) 2 (wrL (wrL (F 2) 0 (([] : List Bool) ++ nb ad 3)) 3 (nb 4 4)))] := ho
          refine W.eq (g2 := F0 m 98 ls []) rfl ?_
          have e_34 : bX K h ar ad ck bi (3 + 4) (va_up (va_up (va_up F 1 (whP ck (F 1) 400)) 2 (wrL (F 2) 0 (([] : List Bool) ++ nb ad 3))) 2 (wrL (wrL (F 2) 0 (([] : List Bool) ++ nb ad 3)) 3 (nb 4 4))) = bX K h ar ad ck bi 7 (va_up (va_up F 1 (whP ck (F 1) 400)) 2 (wrL (F 2) 0 ((([] : List Bool) ++ nb ad 3) ++ nb 4 4))) := by rw [bx_uu, wrL_app (by simp [nb_len])]
          have ho : ow D vwCl A s.heap H locs [bX K h ar ad ck bi 7 (va_up (va_up F 1 (whP ck (F 1) 400)) 2 (wrL (F 2) 0 ((([] : List Bool) ++ nb ad 3) ++ nb 4 4)))] := by rw [← e_34]; exact ho
          refine lv_aload_n hx hb dX9_speak_98 rfl (lv_at hl 2 rfl) ?_
          refine lv_iconst (v := nI 1) hx hb dX9_speak_99 (by decide) ?_
          refine lv_iconst (v := nI 1) hx hb dX9_speak_100 (by decide) ?_
          refine o_callV (wr := []) (rest := []) (As := [.int (nI 1), .int (nI 1)]) C (c_M_put la D K h ar ad ck bi 7 (va_up (va_up F 1 (whP ck (F 1) 400)) 2 (wrL (F 2) 0 ((([] : List Bool) ++ nb ad 3) ++ nb 4 4))) 1 1 (by first | omega | assumption | (simp only [List.length_append, List.length_cons, List.length_nil, List.length_modify, List.length_set, nb_len, rb_len, rbp_len, sl_len, slN_len, wh_len, wt_len, hd10_len, hdB_len, thr_len, ldp_len, ldB_len, tens_len, whz_len, majL_len, mf_len, tkL_len, ldY_len, fif_len, ldY_len]; omega) | decide) (by first | omega | assumption | (simp only [List.length_append, List.length_cons, List.length_nil, List.length_modify, List.length_set, nb_len, rb_len, rbp_len, sl_len, slN_len, wh_len, wt_len, hd10_len, hdB_len, thr_len, ldp_len, ldB_len, tens_len, whz_len, majL_len, mf_len, tkL_len, ldY_len, fif_len, ldY_len]; omega) | decide) (by first | omega | assumption | (simp only [List.length_append, List.length_cons, List.length_nil, List.length_modify, List.length_set, nb_len, rb_len, rbp_len, sl_len, slN_len, wh_len, wt_len, hd10_len, hdB_len, thr_len, ldp_len, ldB_len, tens_len, whz_len, majL_len, mf_len, tkL_len, ldY_len, fif_len, ldY_len]; omega) | decide)) kX9_114 vX9_put (by decide) rfl ho [0] 1 (by decide +kernel) rfl rfl rfl rfl rfl hl.1 rfl (Nat.le_of_ble_eq_true rfl) dX9_speak_101 0 0 rfl rfl (by decide) (fun v u_35 H locs hq ho => ?_)
          obtain rfl := hq
          have ho : ow D vwCl A s.heap H locs [bX K h ar ad ck bi (7 + 1) (va_up (va_up (va_up F 1 (whP ck (F 1) 400)) 2 (wrL (F 2) 0 ((([] : List Bool) ++ nb ad 3) ++ nb 4 4))) 2 (wrL (wrL (F 2) 0 ((([] : List Bool) ++ nb ad 3) ++ nb 4 4)) 7 (nb 1 1)))] := ho
          refine W.eq (g2 := F0 m 104 ls []) rfl ?_
          have e_36 : bX K h ar ad ck bi (7 + 1) (va_up (va_up (va_up F 1 (whP ck (F 1) 400)) 2 (wrL (F 2) 0 ((([] : List Bool) ++ nb ad 3) ++ nb 4 4))) 2 (wrL (wrL (F 2) 0 ((([] : List Bool) ++ nb ad 3) ++ nb 4 4)) 7 (nb 1 1))) = bX K h ar ad ck bi 8 (va_up (va_up F 1 (whP ck (F 1) 400)) 2 (wrL (F 2) 0 (((([] : List Bool) ++ nb ad 3) ++ nb 4 4) ++ [true]))) := by rw [bx_uu, wrL_app (by simp [nb_len])] <;> rfl
          have ho : ow D vwCl A s.heap H locs [bX K h ar ad ck bi 8 (va_up (va_up F 1 (whP ck (F 1) 400)) 2 (wrL (F 2) 0 (((([] : List Bool) ++ nb ad 3) ++ nb 4 4) ++ [true])))] := by rw [← e_36]; exact ho
          refine lv_aload_n hx hb dX9_speak_104 rfl (lv_at hl 2 rfl) ?_
          refine lv_aload_n hx hb dX9_speak_105 rfl (lv_at hl 2 rfl) ?_
          refine o_get (v := .ref (ar 24)) C ho 0 0 rfl rfl rfl 28 fX9_83 rfl dX9_speak_106 ?_
          refine lv_iload_n hx hb dX9_speak_109 rfl (lv_at hl 3 rfl) ?_
          refine o_zald (v := bI gd) C ho 0 25 rfl rfl 3 rfl d rfl (by omega) (by decide) q24 dX9_speak_110 ?_
          have J119 : W p la e (rmL 4 0 0) s m args below meth c H locs 0 0 Qz (F0 m 119 ls [.int (nI gd.toNat), .ref h]) := by
            refine lv_iconst (v := nI 1) hx hb dX9_speak_119 (by decide) ?_
            refine o_callV (wr := []) (rest := []) (As := [.int (nI gd.toNat), .int (nI 1)]) C (c_M_put la D K h ar ad ck bi 8 (va_up (va_up F 1 (whP ck (F 1) 400)) 2 (wrL (F 2) 0 (((([] : List Bool) ++ nb ad 3) ++ nb 4 4) ++ [true]))) gd.toNat 1 (tN_lt _) (by first | omega | assumption | (simp only [List.length_append, List.length_cons, List.length_nil, List.length_modify, List.length_set, nb_len, rb_len, rbp_len, sl_len, slN_len, wh_len, wt_len, hd10_len, hdB_len, thr_len, ldp_len, ldB_len, tens_len, whz_len, majL_len, mf_len, tkL_len, ldY_len, fif_len, ldY_len]; omega) | decide) (by first | omega | assumption | (simp only [List.length_append, List.length_cons, List.length_nil, List.length_modify, List.length_set, nb_len, rb_len, rbp_len, sl_len, slN_len, wh_len, wt_len, hd10_len, hdB_len, thr_len, ldp_len, ldB_len, tens_len, whz_len, majL_len, mf_len, tkL_len, ldY_len, fif_len, ldY_len]; omega) | decide)) kX9_114 vX9_put (by decide) rfl ho [0] 1 (by decide +kernel) rfl rfl rfl rfl rfl hl.1 rfl (Nat.le_of_ble_eq_true rfl) dX9_speak_120 0 0 rfl rfl (by decide) (fun v u_37 H locs hq ho => ?_)
            obtain rfl := hq
            have ho : ow D vwCl A s.heap H locs [bX K h ar ad ck bi (8 + 1) (va_up (va_up (va_up F 1 (whP ck (F 1) 400)) 2 (wrL (F 2) 0 (((([] : List Bool) ++ nb ad 3) ++ nb 4 4) ++ [true]))) 2 (wrL (wrL (F 2) 0 (((([] : List Bool) ++ nb ad 3) ++ nb 4 4) ++ [true])) 8 (nb gd.toNat 1)))] := ho
            refine W.eq (g2 := F0 m 123 ls []) rfl ?_
            have e_38 : bX K h ar ad ck bi (8 + 1) (va_up (va_up (va_up F 1 (whP ck (F 1) 400)) 2 (wrL (F 2) 0 (((([] : List Bool) ++ nb ad 3) ++ nb 4 4) ++ [true]))) 2 (wrL (wrL (F 2) 0 (((([] : List Bool) ++ nb ad 3) ++ nb 4 4) ++ [true])) 8 (nb gd.toNat 1))) = bX K h ar ad ck bi 9 (va_up (va_up F 1 (whP ck (F 1) 400)) 2 (wrL (F 2) 0 ((((([] : List Bool) ++ nb ad 3) ++ nb 4 4) ++ [true]) ++ [gd]))) := by rw [bx_uu, wrL_app (by simp [nb_len]), nb_b]
            have ho : ow D vwCl A s.heap H locs [bX K h ar ad ck bi 9 (va_up (va_up F 1 (whP ck (F 1) 400)) 2 (wrL (F 2) 0 ((((([] : List Bool) ++ nb ad 3) ++ nb 4 4) ++ [true]) ++ [gd])))] := by rw [← e_38]; exact ho
            refine lv_aload_n hx hb dX9_speak_123 rfl (lv_at hl 2 rfl) ?_
            refine lv_aload_n hx hb dX9_speak_124 rfl (lv_at hl 2 rfl) ?_
            refine o_get (v := .ref (ar 22)) C ho 0 0 rfl rfl rfl 26 fX9_77 rfl dX9_speak_125 ?_
            refine lv_iload_n hx hb dX9_speak_128 rfl (lv_at hl 3 rfl) ?_
            refine o_iald (v := nI tu.toNat) C ho 0 23 rfl rfl 0 rfl d rfl (by omega) (by omega) (q22.trans (bI_N _)) dX9_speak_129 ?_
            refine lv_iconst (v := nI 1) hx hb dX9_speak_130 (by decide) ?_
            refine o_callV (wr := []) (rest := []) (As := [.int (nI tu.toNat), .int (nI 1)]) C (c_M_put la D K h ar ad ck bi 9 (va_up (va_up F 1 (whP ck (F 1) 400)) 2 (wrL (F 2) 0 ((((([] : List Bool) ++ nb ad 3) ++ nb 4 4) ++ [true]) ++ [gd]))) tu.toNat 1 (tN_lt _) (by first | omega | assumption | (simp only [List.length_append, List.length_cons, List.length_nil, List.length_modify, List.length_set, nb_len, rb_len, rbp_len, sl_len, slN_len, wh_len, wt_len, hd10_len, hdB_len, thr_len, ldp_len, ldB_len, tens_len, whz_len, majL_len, mf_len, tkL_len, ldY_len, fif_len, ldY_len]; omega) | decide) (by first | omega | assumption | (simp only [List.length_append, List.length_cons, List.length_nil, List.length_modify, List.length_set, nb_len, rb_len, rbp_len, sl_len, slN_len, wh_len, wt_len, hd10_len, hdB_len, thr_len, ldp_len, ldB_len, tens_len, whz_len, majL_len, mf_len, tkL_len, ldY_len, fif_len, ldY_len]; omega) | decide)) kX9_114 vX9_put (by decide) rfl ho [0] 1 (by decide +kernel) rfl rfl rfl rfl rfl hl.1 rfl (Nat.le_of_ble_eq_true rfl) dX9_speak_131 0 0 rfl rfl (by decide) (fun v u_39 H locs hq ho => ?_)
            obtain rfl := hq
            have ho : ow D vwCl A s.heap H locs [bX K h ar ad ck bi (9 + 1) (va_up (va_up (va_up F 1 (whP ck (F 1) 400)) 2 (wrL (F 2) 0 ((((([] : List Bool) ++ nb ad 3) ++ nb 4 4) ++ [true]) ++ [gd]))) 2 (wrL (wrL (F 2) 0 ((((([] : List Bool) ++ nb ad 3) ++ nb 4 4) ++ [true]) ++ [gd])) 9 (nb tu.toNat 1)))] := ho
            refine W.eq (g2 := F0 m 134 ls []) rfl ?_
            have e_40 : bX K h ar ad ck bi (9 + 1) (va_up (va_up (va_up F 1 (whP ck (F 1) 400)) 2 (wrL (F 2) 0 ((((([] : List Bool) ++ nb ad 3) ++ nb 4 4) ++ [true]) ++ [gd]))) 2 (wrL (wrL (F 2) 0 ((((([] : List Bool) ++ nb ad 3) ++ nb 4 4) ++ [true]) ++ [gd])) 9 (nb tu.toNat 1))) = bX K h ar ad ck bi 10 (va_up (va_up F 1 (whP ck (F 1) 400)) 2 (wrL (F 2) 0 (hd10 ad 4 gd tu))) := by rw [bx_uu, wrL_app (by simp [nb_len]), nb_b] <;> rfl
            have ho : ow D vwCl A s.heap H locs [bX K h ar ad ck bi 10 (va_up (va_up F 1 (whP ck (F 1) 400)) 2 (wrL (F 2) 0 (hd10 ad 4 gd tu)))] := by rw [← e_40]; exact ho
            refine lv_aload_n hx hb dX9_speak_134 rfl (lv_at hl 2 rfl) ?_
            refine lv_iconst (v := nI 0) hx hb dX9_speak_135 (by decide) ?_
            refine lv_bipush (v := nI 10) hx hb dX9_speak_136 (by decide) ?_
            refine lv_sipush (v := nI 423) hx hb dX9_speak_138 (by decide) ?_
            refine lv_bipush (v := nI 8) hx hb dX9_speak_141 (by decide) ?_
            refine o_callV (wr := []) (rest := []) (As := [.int (nI 0), .int (nI 10), .int (nI 423), .int (nI 8)]) C (c_M_putRem la D K h ar ad ck bi 10 (va_up (va_up F 1 (whP ck (F 1) 400)) 2 (wrL (F 2) 0 (hd10 ad 4 gd tu))) 0 10 423 8 (hd10 ad 4 gd tu) (fun i hi => by rw [Nat.zero_add, va_up_self]; exact wrL_in0 hi) (by rw [hd10_len]) (by first | omega | assumption | (simp only [List.length_append, List.length_cons, List.length_nil, List.length_modify, List.length_set, nb_len, rb_len, rbp_len, sl_len, slN_len, wh_len, wt_len, hd10_len, hdB_len, thr_len, ldp_len, ldB_len, tens_len, whz_len, majL_len, mf_len, tkL_len, ldY_len, fif_len, ldY_len]; omega) | decide) (by first | omega | assumption | (simp only [List.length_append, List.length_cons, List.length_nil, List.length_modify, List.length_set, nb_len, rb_len, rbp_len, sl_len, slN_len, wh_len, wt_len, hd10_len, hdB_len, thr_len, ldp_len, ldB_len, tens_len, whz_len, majL_len, mf_len, tkL_len, ldY_len, fif_len, ldY_len]; omega) | decide) (by first | omega | assumption | (simp only [List.length_append, List.length_cons, List.length_nil, List.length_modify, List.length_set, nb_len, rb_len, rbp_len, sl_len, slN_len, wh_len, wt_len, hd10_len, hdB_len, thr_len, ldp_len, ldB_len, tens_len, whz_len, majL_len, mf_len, tkL_len, ldY_len, fif_len, ldY_len]; omega) | decide) (by first | omega | assumption | (simp only [List.length_append, List.length_cons, List.length_nil, List.length_modify, List.length_set, nb_len, rb_len, rbp_len, sl_len, slN_len, wh_len, wt_len, hd10_len, hdB_len, thr_len, ldp_len, ldB_len, tens_len, whz_len, majL_len, mf_len, tkL_len, ldY_len, fif_len, ldY_len]; omega) | decide) (by decide) (by decide) pw423 (by first | omega | assumption | (simp only [List.length_append, List.length_cons, List.length_nil, List.length_modify, List.length_set, nb_len, rb_len, rbp_len, sl_len, slN_len, wh_len, wt_len, hd10_len, hdB_len, thr_len, ldp_len, ldB_len, tens_len, whz_len, majL_len, mf_len, tkL_len, ldY_len, fif_len, ldY_len]; omega) | decide)) kX9_137 vX9_putRem (by decide) rfl ho [0] 1 (by decide +kernel) rfl rfl rfl rfl rfl hl.1 rfl (Nat.le_of_ble_eq_true rfl) dX9_speak_143 0 0 rfl rfl (by decide) (fun v u_41 H locs hq ho => ?_)
            obtain rfl := hq
            have ho : ow D vwCl A s.heap H locs [bX K h ar ad ck bi (10 + 8) (va_up (va_up (va_up F 1 (whP ck (F 1) 400)) 2 (wrL (F 2) 0 (hd10 ad 4 gd tu))) 2 (wrL (wrL (F 2) 0 (hd10 ad 4 gd tu)) 10 (rb (crc 423 8 (hd10 ad 4 gd tu)) 8)))] := ho
            refine W.eq (g2 := F0 m 146 ls []) rfl ?_
            have e_42 : bX K h ar ad ck bi (10 + 8) (va_up (va_up (va_up F 1 (whP ck (F 1) 400)) 2 (wrL (F 2) 0 (hd10 ad 4 gd tu))) 2 (wrL (wrL (F 2) 0 (hd10 ad 4 gd tu)) 10 (rb (crc 423 8 (hd10 ad 4 gd tu)) 8))) = bX K h ar ad ck bi 18 (va_up (va_up F 1 (whP ck (F 1) 400)) 2 (wrL (F 2) 0 (hdB ad 4 gd tu))) := by rw [bx_uu, wrL_app (by rw [hd10_len]), hdB_eq]
            have ho : ow D vwCl A s.heap H locs [bX K h ar ad ck bi 18 (va_up (va_up F 1 (whP ck (F 1) 400)) 2 (wrL (F 2) 0 (hdB ad 4 gd tu)))] := by rw [← e_42]; exact ho
            refine lv_iload_n hx hb dX9_speak_146 rfl (lv_at hl 0 rfl) ?_
            refine lv_iconst (v := nI 2) hx hb dX9_speak_147 (by decide) ?_
            refine o_icmp_le (tgt := 232) hx hb dX9_speak_148 (by decide) (by decide) (by decide) (fun c9 => absurd c9 (by decide)) (fun _ => ?_)
            refine lv_aload_n hx hb dX9_speak_151 rfl (lv_at hl 2 rfl) ?_
            refine lv_iconst (v := nI 4) hx hb dX9_speak_152 (by decide) ?_
            refine lv_aload_n hx hb dX9_speak_153 rfl (lv_at hl 2 rfl) ?_
            refine o_get (v := .ref (ar 11)) C ho 0 0 rfl rfl rfl 15 fX9_43 rfl dX9_speak_154 ?_
            refine lv_iload_n hx hb dX9_speak_157 rfl (lv_at hl 3 rfl) ?_
            refine o_iald (v := nI by_.length) C ho 0 12 rfl rfl 0 rfl d rfl (by omega) (by omega) q11 dX9_speak_158 ?_
            refine o_mul hx hb dX9_speak_159 ?_
            refine lv_aload_n hx hb dX9_speak_160 rfl (lv_at hl 2 rfl) ?_
            refine o_get (v := .ref (ar 13)) C ho 0 0 rfl rfl rfl 17 fX9_49 rfl dX9_speak_161 ?_
            refine lv_iload_n hx hb dX9_speak_164 rfl (lv_at hl 3 rfl) ?_
            refine o_zald (v := bI be) C ho 0 14 rfl rfl 3 rfl d rfl (by omega) (by decide) q13 dX9_speak_165 ?_
            have J174 : W p la e (rmL 4 0 0) s m args below meth c H locs 0 0 Qz (F0 m 174 ls [.int (nI (cond be 2 1)), .int (nI (4 * by_.length)), .ref h]) := by
              refine o_add hx hb dX9_speak_174 ?_
              refine lv_bipush (v := nI 8) hx hb dX9_speak_175 (by decide) ?_
              refine o_callV (wr := []) (rest := []) (As := [.int (nI ((4 * by_.length) + (cond be 2 1))), .int (nI 8)]) C (c_M_put la D K h ar ad ck bi 18 (va_up (va_up F 1 (whP ck (F 1) 400)) 2 (wrL (F 2) 0 (hdB ad 4 gd tu))) ((4 * by_.length) + (cond be 2 1)) 8 (by first | omega | assumption | (simp only [List.length_append, List.length_cons, List.length_nil, List.length_modify, List.length_set, nb_len, rb_len, rbp_len, sl_len, slN_len, wh_len, wt_len, hd10_len, hdB_len, thr_len, ldp_len, ldB_len, tens_len, whz_len, majL_len, mf_len, tkL_len, ldY_len, fif_len, ldY_len]; omega) | decide) (by first | omega | assumption | (simp only [List.length_append, List.length_cons, List.length_nil, List.length_modify, List.length_set, nb_len, rb_len, rbp_len, sl_len, slN_len, wh_len, wt_len, hd10_len, hdB_len, thr_len, ldp_len, ldB_len, tens_len, whz_len, majL_len, mf_len, tkL_len, ldY_len, fif_len, ldY_len]; omega) | decide) (by first | omega | assumption | (simp only [List.length_append, List.length_cons, List.length_nil, List.length_modify, List.length_set, nb_len, rb_len, rbp_len, sl_len, slN_len, wh_len, wt_len, hd10_len, hdB_len, thr_len, ldp_len, ldB_len, tens_len, whz_len, majL_len, mf_len, tkL_len, ldY_len, fif_len, ldY_len]; omega) | decide)) kX9_114 vX9_put (by decide) rfl ho [0] 1 (by decide +kernel) rfl rfl rfl rfl rfl hl.1 rfl (Nat.le_of_ble_eq_true rfl) dX9_speak_177 0 0 rfl rfl (by decide) (fun v u_43 H locs hq ho => ?_)
              obtain rfl := hq
              have ho : ow D vwCl A s.heap H locs [bX K h ar ad ck bi (18 + 8) (va_up (va_up (va_up F 1 (whP ck (F 1) 400)) 2 (wrL (F 2) 0 (hdB ad 4 gd tu))) 2 (wrL (wrL (F 2) 0 (hdB ad 4 gd tu)) 18 (nb ((4 * by_.length) + (cond be 2 1)) 8)))] := ho
              refine W.eq (g2 := F0 m 180 ls []) rfl ?_
              have e_44 : bX K h ar ad ck bi (18 + 8) (va_up (va_up (va_up F 1 (whP ck (F 1) 400)) 2 (wrL (F 2) 0 (hdB ad 4 gd tu))) 2 (wrL (wrL (F 2) 0 (hdB ad 4 gd tu)) 18 (nb ((4 * by_.length) + (cond be 2 1)) 8))) = bX K h ar ad ck bi (18 + (8 + 8 * 0)) (va_up (va_up F 1 (whP ck (F 1) 400)) 2 (wrL (F 2) 0 (hdB ad 4 gd tu ++ ldp (cond be 2 1) by_ 0))) := by rw [bx_uu, wrL_app (by rw [hdB_len]), ldp_0]
              have ho : ow D vwCl A s.heap H locs [bX K h ar ad ck bi (18 + (8 + 8 * 0)) (va_up (va_up F 1 (whP ck (F 1) 400)) 2 (wrL (F 2) 0 (hdB ad 4 gd tu ++ ldp (cond be 2 1) by_ 0)))] := by rw [← e_44]; exact ho
              refine lv_iconst (v := nI 0) hx hb dX9_speak_180 (by decide) ?_
              refine lv_istore (lv' := [(4, .int (nI 0)), (3, .int (nI 4)), (2, .int (bI mo)), (0, .ref h), (1, .int (nI d))]) hx hb dX9_speak_181 hl (by decide) rfl (fun ls hl => ?_)
              have LP183 : ∀ (fuel : Nat) (i : Nat) (_ : by_.length - i < fuel) (_ : i ≤ by_.length) (H : Heap) (locs : List Loc) (ls : Array Slot) (_ : ow D vwCl A s.heap H locs [bX K h ar ad ck bi (18 + (8 + 8 * i)) (va_up (va_up F 1 (whP ck (F 1) 400)) 2 (wrL (F 2) 0 (hdB ad 4 gd tu ++ ldp (cond be 2 1) by_ i)))]) (_ : lv_has ls 5 [(0, .ref h), (1, .int (nI d)), (3, .int (nI 4)), (4, .int (nI i))]), W p la e (rmL 4 0 0) s m args below meth c H locs 0 0 Qz (F0 m 183 ls []) := by
                intro fuel
                induction fuel with
                | zero => intro i h0; exact absurd h0 (Nat.not_lt_zero _)
                | succ fuel ih183 =>
                  intro i hfu hi H locs ls ho hl
                  refine lv_iload hx hb dX9_speak_183 (lv_at hl 3 rfl) ?_
                  refine lv_aload_n hx hb dX9_speak_185 rfl (lv_at hl 0 rfl) ?_
                  refine o_get (v := .ref (ar 11)) C ho 0 0 rfl rfl rfl 15 fX9_43 rfl dX9_speak_186 ?_
                  refine lv_iload_n hx hb dX9_speak_189 rfl (lv_at hl 1 rfl) ?_
                  refine o_iald (v := nI by_.length) C ho 0 12 rfl rfl 0 rfl d rfl (by omega) (by omega) q11 dX9_speak_190 ?_
                  refine o_icmp_ge (tgt := 218) hx hb dX9_speak_191 (by decide) (by first | omega | exact and1_lt _) (by first | omega | exact and1_lt _) (fun c_45 => ?_) (fun c_45 => ?_)
                  · skip
                    have e_46 : bX K h ar ad ck bi (18 + (8 + 8 * i)) (va_up (va_up F 1 (whP ck (F 1) 400)) 2 (wrL (F 2) 0 (hdB ad 4 gd tu ++ ldp (cond be 2 1) by_ i))) = bX K h ar ad ck bi (18 + (8 + 8 * by_.length)) (va_up (va_up F 1 (whP ck (F 1) 400)) 2 (wrL (F 2) 0 (hdB ad 4 gd tu ++ ldp (cond be 2 1) by_ by_.length))) := by rw [show i = by_.length by omega]
                    have ho : ow D vwCl A s.heap H locs [bX K h ar ad ck bi (18 + (8 + 8 * by_.length)) (va_up (va_up F 1 (whP ck (F 1) 400)) 2 (wrL (F 2) 0 (hdB ad 4 gd tu ++ ldp (cond be 2 1) by_ by_.length)))] := by rw [← e_46]; exact ho
                    refine lv_aload_n hx hb dX9_speak_218 rfl (lv_at hl 0 rfl) ?_
                    refine lv_bipush (v := nI 18) hx hb dX9_speak_219 (by decide) ?_
                    refine lv_aload_n hx hb dX9_speak_221 rfl (lv_at hl 0 rfl) ?_
                    refine o_get (v := .int (nI (18 + (8 + 8 * by_.length)))) C ho 0 0 rfl rfl rfl 5 fX9_103 rfl dX9_speak_222 ?_
                    refine lv_ldc (v := nI 69665) hx hb C.1.2.2.2.1 (C.1.2.2.2.2 _ mX9_k141) dX9_speak_225 ?_
                    refine lv_bipush (v := nI 16) hx hb dX9_speak_227 (by decide) ?_
                    refine o_callV (wr := []) (rest := []) (As := [.int (nI 18), .int (nI (18 + (8 + 8 * by_.length))), .int (nI 69665), .int (nI 16)]) C (c_M_putRem la D K h ar ad ck bi (18 + (8 + 8 * by_.length)) (va_up (va_up F 1 (whP ck (F 1) 400)) 2 (wrL (F 2) 0 (hdB ad 4 gd tu ++ ldp (cond be 2 1) by_ by_.length))) 18 (18 + (8 + 8 * by_.length)) 69665 16 (ldp (cond be 2 1) by_ by_.length) (fun i hi => by rw [va_up_self]; exact wrL_r (hdB_len _ _ _ _) hi) (by rw [ldp_len]) (by first | omega | assumption | (simp only [List.length_append, List.length_cons, List.length_nil, List.length_modify, List.length_set, nb_len, rb_len, rbp_len, sl_len, slN_len, wh_len, wt_len, hd10_len, hdB_len, thr_len, ldp_len, ldB_len, tens_len, whz_len, majL_len, mf_len, tkL_len, ldY_len, fif_len, ldY_len]; omega) | decide) (by first | omega | assumption | (simp only [List.length_append, List.length_cons, List.length_nil, List.length_modify, List.length_set, nb_len, rb_len, rbp_len, sl_len, slN_len, wh_len, wt_len, hd10_len, hdB_len, thr_len, ldp_len, ldB_len, tens_len, whz_len, majL_len, mf_len, tkL_len, ldY_len, fif_len, ldY_len]; omega) | decide) (by first | omega | assumption | (simp only [List.length_append, List.length_cons, List.length_nil, List.length_modify, List.length_set, nb_len, rb_len, rbp_len, sl_len, slN_len, wh_len, wt_len, hd10_len, hdB_len, thr_len, ldp_len, ldB_len, tens_len, whz_len, majL_len, mf_len, tkL_len, ldY_len, fif_len, ldY_len]; omega) | decide) (by first | omega | assumption | (simp only [List.length_append, List.length_cons, List.length_nil, List.length_modify, List.length_set, nb_len, rb_len, rbp_len, sl_len, slN_len, wh_len, wt_len, hd10_len, hdB_len, thr_len, ldp_len, ldB_len, tens_len, whz_len, majL_len, mf_len, tkL_len, ldY_len, fif_len, ldY_len]; omega) | decide) (by decide) (by decide) pw69665 (by first | omega | assumption | (simp only [List.length_append, List.length_cons, List.length_nil, List.length_modify, List.length_set, nb_len, rb_len, rbp_len, sl_len, slN_len, wh_len, wt_len, hd10_len, hdB_len, thr_len, ldp_len, ldB_len, tens_len, whz_len, majL_len, mf_len, tkL_len, ldY_len, fif_len, ldY_len]; omega) | decide)) kX9_137 vX9_putRem (by decide) rfl ho [0] 1 (by decide +kernel) rfl rfl rfl rfl rfl hl.1 rfl (Nat.le_of_ble_eq_true rfl) dX9_speak_229 0 0 rfl rfl (by decide) (fun v u_47 H locs hq ho => ?_)
                    obtain rfl := hq
                    have ho : ow D vwCl A s.heap H locs [bX K h ar ad ck bi ((18 + (8 + 8 * by_.length)) + 16) (va_up (va_up (va_up F 1 (whP ck (F 1) 400)) 2 (wrL (F 2) 0 (hdB ad 4 gd tu ++ ldp (cond be 2 1) by_ by_.length))) 2 (wrL (wrL (F 2) 0 (hdB ad 4 gd tu ++ ldp (cond be 2 1) by_ by_.length)) (18 + (8 + 8 * by_.length)) (rb (crc 69665 16 (ldp (cond be 2 1) by_ by_.length)) 16)))] := ho
                    refine W.eq (g2 := F0 m 232 ls []) rfl ?_
                    have e_48 : bX K h ar ad ck bi ((18 + (8 + 8 * by_.length)) + 16) (va_up (va_up (va_up F 1 (whP ck (F 1) 400)) 2 (wrL (F 2) 0 (hdB ad 4 gd tu ++ ldp (cond be 2 1) by_ by_.length))) 2 (wrL (wrL (F 2) 0 (hdB ad 4 gd tu ++ ldp (cond be 2 1) by_ by_.length)) (18 + (8 + 8 * by_.length)) (rb (crc 69665 16 (ldp (cond be 2 1) by_ by_.length)) 16))) = bX K h ar ad ck bi ((18 + (8 + 8 * by_.length)) + 16) (va_up (va_up F 1 (whP ck (F 1) 400)) 2 (wrL (F 2) 0 (hdB ad 4 gd tu ++ ldB (cond be 2 1) by_))) := by rw [bx_uu, wrL_app (by rw [List.length_append, hdB_len, ldp_len]; omega), ldB_eq, List.append_assoc]
                    have ho : ow D vwCl A s.heap H locs [bX K h ar ad ck bi ((18 + (8 + 8 * by_.length)) + 16) (va_up (va_up F 1 (whP ck (F 1) 400)) 2 (wrL (F 2) 0 (hdB ad 4 gd tu ++ ldB (cond be 2 1) by_)))] := by rw [← e_48]; exact ho
                    have hlB := ldB_len (cond be 2 1) by_
                    refine lv_aload_n hx hb dX9_speak_232 rfl (lv_at hl 0 rfl) ?_
                    refine lv_iload_n hx hb dX9_speak_233 rfl (lv_at hl 2 rfl) ?_
                    refine o_callV (wr := []) (rest := []) (As := [.int (nI 4)]) C (c_M_sendBits4 la D K h ar ad ck bi ((18 + (8 + 8 * by_.length)) + 16) (va_up (va_up F 1 (whP ck (F 1) 400)) 2 (wrL (F 2) 0 (hdB ad 4 gd tu ++ ldB (cond be 2 1) by_))) ck (hdB ad 4 gd tu) (ldB (cond be 2 1) by_) (fun i hi => whP_in hi) (fun i hi => wrL_l (hdB_len _ _ _ _) hi) (hdB_len _ _ _ _) (fun i hi => wrL_r (hdB_len _ _ _ _) hi) (by rw [ldB_len]; omega) (by rw [ldB_len]; omega)) kX9_142 vX9_sendBits (by decide) rfl ho [0] 1 (by decide +kernel) rfl rfl rfl rfl rfl hl.1 rfl (Nat.le_of_ble_eq_true rfl) dX9_speak_234 0 0 rfl rfl (by decide) (fun v u_49 H locs hq ho => ?_)
                    obtain rfl := hq
                    have ho : ow D vwCl A s.heap H locs [bX K h ar ad ck (54 + (ldB (cond be 2 1) by_).length) ((18 + (8 + 8 * by_.length)) + 16) (va_up (va_up (va_up (va_up F 1 (whP ck (F 1) 400)) 2 (wrL (F 2) 0 (hdB ad 4 gd tu ++ ldB (cond be 2 1) by_))) 0 (wrL (F 0) 0 (thr (whz (hdB ad 4 gd tu) (wt ck) 0) 54 ++ sl (whz (ldB (cond be 2 1) by_) (wt ck) 18) 0 (ldB (cond be 2 1) by_).length))) 2 (u_49))] := ho
                    refine W.eq (g2 := F0 m 237 ls []) rfl ?_
                    have e_50 : bX K h ar ad ck (54 + (ldB (cond be 2 1) by_).length) ((18 + (8 + 8 * by_.length)) + 16) (va_up (va_up (va_up (va_up F 1 (whP ck (F 1) 400)) 2 (wrL (F 2) 0 (hdB ad 4 gd tu ++ ldB (cond be 2 1) by_))) 0 (wrL (F 0) 0 (thr (whz (hdB ad 4 gd tu) (wt ck) 0) 54 ++ sl (whz (ldB (cond be 2 1) by_) (wt ck) 18) 0 (ldB (cond be 2 1) by_).length))) 2 (u_49)) = bX K h ar ad ck ((airW ck ad 4 gd tu (cond be 2 1) by_).length) ((18 + (8 + 8 * by_.length)) + 16) (va_up (va_up (va_up F 1 (whP ck (F 1) 400)) 0 (wrL (F 0) 0 (airW ck ad 4 gd tu (cond be 2 1) by_))) 2 (u_49)) := by rw [airW_l4 ck ad gd tu (cond be 2 1) by_, airW_4 ck ad gd tu (cond be 2 1) by_, up_c202]
                    have ho : ow D vwCl A s.heap H locs [bX K h ar ad ck ((airW ck ad 4 gd tu (cond be 2 1) by_).length) ((18 + (8 + 8 * by_.length)) + 16) (va_up (va_up (va_up F 1 (whP ck (F 1) 400)) 0 (wrL (F 0) 0 (airW ck ad 4 gd tu (cond be 2 1) by_))) 2 (u_49))] := by rw [← e_50]; exact ho
                    refine lv_aload_n hx hb dX9_speak_237 rfl (lv_at hl 0 rfl) ?_
                    refine o_get (v := .ref (ar 24)) C ho 0 0 rfl rfl rfl 28 fX9_83 rfl dX9_speak_238 ?_
                    refine lv_iload_n hx hb dX9_speak_241 rfl (lv_at hl 1 rfl) ?_
                    refine lv_iconst (v := nI 0) hx hb dX9_speak_242 (by decide) ?_
                    refine o_top (y := bI false) (rfl) ?_
                    refine o_zast (bs' := [bX K h ar ad ck ((airW ck ad 4 gd tu (cond be 2 1) by_).length) ((18 + (8 + 8 * by_.length)) + 16) (va_up (va_up (va_up (va_up F 1 (whP ck (F 1) 400)) 0 (wrL (F 0) 0 (airW ck ad 4 gd tu (cond be 2 1) by_))) 2 (u_49)) 24 (upd (F 24) d (bI false)))]) C ho 0 25 rfl rfl 3 rfl d rfl (by omega) (by decide) dX9_speak_243 rfl (fun H locs ho => ?_)
                    refine lv_aload_n hx hb dX9_speak_244 rfl (lv_at hl 0 rfl) ?_
                    refine o_get (v := .ref (ar 25)) C ho 0 0 rfl rfl rfl 29 fX9_86 rfl dX9_speak_245 ?_
                    refine lv_iload_n hx hb dX9_speak_248 rfl (lv_at hl 1 rfl) ?_
                    refine lv_iconst (v := nI 0) hx hb dX9_speak_249 (by decide) ?_
                    refine o_top (y := bI false) (rfl) ?_
                    refine o_zast (bs' := [bX K h ar ad ck ((airW ck ad 4 gd tu (cond be 2 1) by_).length) ((18 + (8 + 8 * by_.length)) + 16) (va_up (va_up (va_up (va_up (va_up F 1 (whP ck (F 1) 400)) 0 (wrL (F 0) 0 (airW ck ad 4 gd tu (cond be 2 1) by_))) 2 (u_49)) 24 (upd (F 24) d (bI false))) 25 (upd (F 25) d (bI false)))]) C ho 0 26 rfl rfl 3 rfl d rfl (by omega) (by decide) dX9_speak_250 rfl (fun H locs ho => ?_)
                    refine lv_iload_n hx hb dX9_speak_251 rfl (lv_at hl 2 rfl) ?_
                    exact o_iret hQ C rfl ho u_49 rfl rfl (Nat.le_of_ble_eq_true rfl) (Nat.le_of_ble_eq_true rfl) dX9_speak_252
                  · skip
                    refine lv_aload_n hx hb dX9_speak_194 rfl (lv_at hl 0 rfl) ?_
                    refine lv_aload_n hx hb dX9_speak_195 rfl (lv_at hl 0 rfl) ?_
                    refine o_get (v := .ref (ar 14)) C ho 0 0 rfl rfl rfl 18 fX9_53 rfl dX9_speak_196 ?_
                    refine lv_bipush (v := nI 13) hx hb dX9_speak_199 (by decide) ?_
                    refine lv_iload_n hx hb dX9_speak_201 rfl (lv_at hl 1 rfl) ?_
                    refine o_mul hx hb dX9_speak_202 ?_
                    refine lv_iload hx hb dX9_speak_203 (lv_at hl 3 rfl) ?_
                    refine o_add hx hb dX9_speak_205 ?_
                    refine o_iald (v := nI (by_.getD i 0)) C ho 0 15 rfl rfl 0 rfl ((13 * d) + i) rfl (by omega) (by omega) (q14 i (by omega)) dX9_speak_206 ?_
                    refine lv_bipush (v := nI 8) hx hb dX9_speak_207 (by decide) ?_
                    refine o_callV (wr := []) (rest := []) (As := [.int (nI (by_.getD i 0)), .int (nI 8)]) C (c_M_put la D K h ar ad ck bi (18 + (8 + 8 * i)) (va_up (va_up F 1 (whP ck (F 1) 400)) 2 (wrL (F 2) 0 (hdB ad 4 gd tu ++ ldp (cond be 2 1) by_ i))) (by_.getD i 0) 8 (Nat.lt_trans (qb _) (by decide)) (by first | omega | assumption | (simp only [List.length_append, List.length_cons, List.length_nil, List.length_modify, List.length_set, nb_len, rb_len, rbp_len, sl_len, slN_len, wh_len, wt_len, hd10_len, hdB_len, thr_len, ldp_len, ldB_len, tens_len, whz_len, majL_len, mf_len, tkL_len, ldY_len, fif_len, ldY_len]; omega) | decide) (by first | omega | assumption | (simp only [List.length_append, List.length_cons, List.length_nil, List.length_modify, List.length_set, nb_len, rb_len, rbp_len, sl_len, slN_len, wh_len, wt_len, hd10_len, hdB_len, thr_len, ldp_len, ldB_len, tens_len, whz_len, majL_len, mf_len, tkL_len, ldY_len, fif_len, ldY_len]; omega) | decide)) kX9_114 vX9_put (by decide) rfl ho [0] 1 (by decide +kernel) rfl rfl rfl rfl rfl hl.1 rfl (Nat.le_of_ble_eq_true rfl) dX9_speak_209 0 0 rfl rfl (by decide) (fun v u_51 H locs hq ho => ?_)
                    obtain rfl := hq
                    have ho : ow D vwCl A s.heap H locs [bX K h ar ad ck bi ((18 + (8 + 8 * i)) + 8) (va_up (va_up (va_up F 1 (whP ck (F 1) 400)) 2 (wrL (F 2) 0 (hdB ad 4 gd tu ++ ldp (cond be 2 1) by_ i))) 2 (wrL (wrL (F 2) 0 (hdB ad 4 gd tu ++ ldp (cond be 2 1) by_ i)) (18 + (8 + 8 * i)) (nb (by_.getD i 0) 8)))] := ho
                    refine W.eq (g2 := F0 m 212 ls []) rfl ?_
                    have e_52 : bX K h ar ad ck bi ((18 + (8 + 8 * i)) + 8) (va_up (va_up (va_up F 1 (whP ck (F 1) 400)) 2 (wrL (F 2) 0 (hdB ad 4 gd tu ++ ldp (cond be 2 1) by_ i))) 2 (wrL (wrL (F 2) 0 (hdB ad 4 gd tu ++ ldp (cond be 2 1) by_ i)) (18 + (8 + 8 * i)) (nb (by_.getD i 0) 8))) = bX K h ar ad ck bi (18 + (8 + 8 * (i + 1))) (va_up (va_up F 1 (whP ck (F 1) 400)) 2 (wrL (F 2) 0 (hdB ad 4 gd tu ++ ldp (cond be 2 1) by_ (i + 1)))) := by rw [bx_uu, wrL_app (by rw [List.length_append, hdB_len, ldp_len]; omega), ldp_succ, List.append_assoc] <;> rfl
                    have ho : ow D vwCl A s.heap H locs [bX K h ar ad ck bi (18 + (8 + 8 * (i + 1))) (va_up (va_up F 1 (whP ck (F 1) 400)) 2 (wrL (F 2) 0 (hdB ad 4 gd tu ++ ldp (cond be 2 1) by_ (i + 1))))] := by rw [← e_52]; exact ho
                    refine lv_iinc (v := nI (i + 1)) (lv' := [(4, .int (nI (i + 1))), (0, .ref h), (1, .int (nI d)), (3, .int (nI 4))]) hx hb dX9_speak_212 hl (k := 3) rfl (iincN _ _) (by decide) rfl (fun ls hl => ?_)
                    refine lv_goto (tgt := 183) hx hb dX9_speak_215 (by decide) ?_
                    exact ih183 (i + 1) (by omega) (by omega) _ _ _ ho (lv_sub hl [1, 2, 3, 0] rfl)
              exact LP183 (by_.length - 0 + 1) 0 (Nat.lt_succ_self _) (by omega) _ _ _ ho (lv_sub hl [3, 4, 1, 0] rfl)
            cases be
            · skip
              refine o_ifb_eq (tgt := 173) hx hb dX9_speak_166 (by decide) (fun _ => ?_) (fun c9 => absurd c9 (by decide))
              refine lv_iconst (v := nI 1) hx hb dX9_speak_173 (by decide) ?_
              exact J174
            · skip
              refine o_ifb_eq (tgt := 173) hx hb dX9_speak_166 (by decide) (fun c9 => absurd c9 (by decide)) (fun _ => ?_)
              refine lv_iconst (v := nI 2) hx hb dX9_speak_169 (by decide) ?_
              refine lv_goto (tgt := 174) hx hb dX9_speak_170 (by decide) ?_
              exact J174
          cases gd
          · skip
            refine o_ifb_eq (tgt := 118) hx hb dX9_speak_111 (by decide) (fun _ => ?_) (fun c9 => absurd c9 (by decide))
            refine lv_iconst (v := nI 0) hx hb dX9_speak_118 (by decide) ?_
            exact J119
          · skip
            refine o_ifb_eq (tgt := 118) hx hb dX9_speak_111 (by decide) (fun c9 => absurd c9 (by decide)) (fun _ => ?_)
            refine lv_iconst (v := nI 1) hx hb dX9_speak_114 (by decide) ?_
            refine lv_goto (tgt := 119) hx hb dX9_speak_115 (by decide) ?_
            exact J119
      · skip
        exact absurd c_28 (by omega)
    refine lv_aload_n hx hb dX9_speak_0 rfl (lv_at hl 0 rfl) ?_
    refine o_get (v := .ref (ar 5)) C ho 0 0 rfl rfl rfl 9 fX9_25 rfl dX9_speak_1 ?_
    refine lv_iload_n hx hb dX9_speak_4 rfl (lv_at hl 1 rfl) ?_
    refine o_iald (v := F 5 d) C ho 0 6 rfl rfl 0 rfl d rfl (by omega) (by omega) rfl dX9_speak_5 ?_
    refine lv_if_gt (tgt := 24) hx hb dX9_speak_6 (by decide) (fun c_53 => ?_) (fun c_53 => ?_)
    · skip
      refine lv_iconst (v := nI 1) hx hb dX9_speak_24 (by decide) ?_
      refine lv_goto (tgt := 29) hx hb dX9_speak_25 (by decide) ?_
      exact J29 true
    · skip
      refine lv_aload_n hx hb dX9_speak_9 rfl (lv_at hl 0 rfl) ?_
      refine o_get (v := .ref (ar 9)) C ho 0 0 rfl rfl rfl 13 fX9_37 rfl dX9_speak_10 ?_
      refine lv_iload_n hx hb dX9_speak_13 rfl (lv_at hl 1 rfl) ?_
      refine o_iald (v := F 9 d) C ho 0 10 rfl rfl 0 rfl d rfl (by omega) (by omega) rfl dX9_speak_14 ?_
      refine lv_aload_n hx hb dX9_speak_15 rfl (lv_at hl 0 rfl) ?_
      refine o_get (v := .ref (ar 8)) C ho 0 0 rfl rfl rfl 12 fX9_34 rfl dX9_speak_16 ?_
      refine lv_iload_n hx hb dX9_speak_19 rfl (lv_at hl 1 rfl) ?_
      refine o_iald (v := F 8 d) C ho 0 9 rfl rfl 0 rfl d rfl (by omega) (by omega) rfl dX9_speak_20 ?_
      refine lv_icmp_ge (tgt := 28) hx hb dX9_speak_21 (by decide) (fun c_54 => ?_) (fun c_54 => ?_)
      · skip
        refine lv_iconst (v := nI 0) hx hb dX9_speak_28 (by decide) ?_
        exact J29 false
      · skip
        refine lv_iconst (v := nI 1) hx hb dX9_speak_24 (by decide) ?_
        refine lv_goto (tgt := 29) hx hb dX9_speak_25 (by decide) ?_
        exact J29 true

set_option maxHeartbeats 4000000 in
set_option maxRecDepth 100000 in
theorem c_M_speakB (la : Launch) (D : va_G) (K : Nat → ClassId) (h : Nat) (ar : Nat → Nat) (ad : Nat) (ck : Nat) (bi : Nat) (lo : Nat) (F : Nat → Nat → Int32) (d : Nat) (pp : Bool) (be : Bool) (tu : Bool) (gd : Bool) (by_ : List Nat) (F1 : Nat → Nat → Int32) (at_ : Nat) (sl_ : Nat) (q2d : d < 2) (qad : ad < 8) (qck : ck < 2 ^ 29) (qa : F 9 d = nI at_) (qs : F 8 d = nI sl_) (qp : F 21 d = bI pp) (qt : F 22 d = bI (!tu)) (qal : at_ < sl_) (qsl : sl_ ≤ 41) (qz : F 11 d = nI 0) (qF : F1 = nfF F d pp at_ sl_ (!tu)) (q11 : F1 11 d = nI by_.length) (q12 : F1 12 d = nI (cond pp 4 3)) (q13 : F1 13 d = bI be) (q14 : ∀ i, i < by_.length → F1 14 (13 * d + i) = nI (by_.getD i 0)) (q22 : F1 22 d = bI tu) (q24 : F1 24 d = bI gd) (qn0 : 0 < by_.length) (qn9 : by_.length ≤ cond pp 13 9) (qb : ∀ j, by_.getD j 0 < 256) : MT la D K yX9_speak cX9_speak 5 (some .int) (rmL 4 0 0) [.ref h, .int (nI d)] [bX K h ar ad ck bi lo F] (Nat → Int32) (fun v _ => v = some (.int (nI (cond pp 4 3)))) (fun u => [bX K h ar ad ck ((airW ck ad (cond pp 4 3) gd tu (cond be 2 1) by_).length) ((18 + (8 + 8 * by_.length)) + 16) (va_up (va_up (va_up (va_up (va_up F1 1 (whP ck (F1 1) 400)) 0 (wrL (F1 0) 0 (airW ck ad (cond pp 4 3) gd tu (cond be 2 1) by_))) 2 (u)) 24 (upd (F1 24) d (bI false))) 25 (upd (F1 25) d (bI false)))]) := by
  refine Mt.ofW [(0, .ref h), (1, .int (nI d))] (by decide) rfl (Nat.le_of_ble_eq_true rfl) ?_
  intro p e s m args below meth c A ls H locs Qz hQ C hin hl ho
  have hx := C.1.1
  have hb := C.1.2.1
  have hbe : cond be 2 1 ≤ 2 := by cases be <;> decide
  cases pp
  · skip
    have qn13 : by_.length ≤ 9 := qn9
    have J24 : W p la e (rmL 4 0 0) s m args below meth c H locs 0 0 Qz (F0 m 24 ls []) := by
      refine lv_iconst (v := nI 1) hx hb dX9_speak_24 (by decide) ?_
      refine lv_goto (tgt := 29) hx hb dX9_speak_25 (by decide) ?_
      refine lv_istore_n (lv' := [(2, .int (nI 1)), (0, .ref h), (1, .int (nI d))]) hx hb dX9_speak_29 rfl hl (by decide) rfl (fun ls hl => ?_)
      refine lv_aload_n hx hb dX9_speak_30 rfl (lv_at hl 1 rfl) ?_
      refine o_get (v := .ref (ar 11)) C ho 0 0 rfl rfl rfl 15 fX9_43 rfl dX9_speak_31 ?_
      refine lv_iload_n hx hb dX9_speak_34 rfl (lv_at hl 2 rfl) ?_
      refine o_iald (v := nI 0) C ho 0 12 rfl rfl 0 rfl d rfl (by omega) (by omega) qz dX9_speak_35 ?_
      refine o_if_ne (tgt := 48) hx hb dX9_speak_36 (by decide) (by decide) (fun c9 => absurd c9 (by decide)) (fun _ => ?_)
      refine lv_iload_n hx hb dX9_speak_39 rfl (lv_at hl 0 rfl) ?_
      refine o_if_eq (tgt := 48) hx hb dX9_speak_40 (by decide) (by decide) (fun c9 => absurd c9 (by decide)) (fun _ => ?_)
      refine lv_aload_n hx hb dX9_speak_43 rfl (lv_at hl 1 rfl) ?_
      refine lv_iload_n hx hb dX9_speak_44 rfl (lv_at hl 2 rfl) ?_
      refine o_callV (wr := []) (rest := []) (As := [.int (nI d)]) C (c_M_newFrameB la D K h ar ad ck bi lo F d false at_ sl_ (!tu) (by first | omega | assumption | (simp only [List.length_append, List.length_cons, List.length_nil, List.length_modify, List.length_set, nb_len, rb_len, rbp_len, sl_len, slN_len, wh_len, wt_len, hd10_len, hdB_len, thr_len, ldp_len, ldB_len, tens_len, whz_len, majL_len, mf_len, tkL_len, ldY_len, fif_len, ldY_len]; omega) | decide) qa qs qp qt (by first | omega | assumption | (simp only [List.length_append, List.length_cons, List.length_nil, List.length_modify, List.length_set, nb_len, rb_len, rbp_len, sl_len, slN_len, wh_len, wt_len, hd10_len, hdB_len, thr_len, ldp_len, ldB_len, tens_len, whz_len, majL_len, mf_len, tkL_len, ldY_len, fif_len, ldY_len]; omega) | decide) (by first | omega | assumption | (simp only [List.length_append, List.length_cons, List.length_nil, List.length_modify, List.length_set, nb_len, rb_len, rbp_len, sl_len, slN_len, wh_len, wt_len, hd10_len, hdB_len, thr_len, ldp_len, ldB_len, tens_len, whz_len, majL_len, mf_len, tkL_len, ldY_len, fif_len, ldY_len]; omega) | decide)) kX9_128 vX9_newFrame (by decide) rfl ho [0] 1 (by decide +kernel) rfl rfl rfl rfl rfl hl.1 rfl (Nat.le_of_ble_eq_true rfl) dX9_speak_45 0 0 rfl rfl (by decide) (fun v u_1 H locs hq ho => ?_)
      obtain rfl := hq
      have ho : ow D vwCl A s.heap H locs [bX K h ar ad ck bi lo (nfF F d false at_ sl_ (!tu))] := ho
      refine W.eq (g2 := F0 m 48 ls []) rfl ?_
      have e_2 : bX K h ar ad ck bi lo (nfF F d false at_ sl_ (!tu)) = bX K h ar ad ck bi lo F1 := by rw [qF]
      have ho : ow D vwCl A s.heap H locs [bX K h ar ad ck bi lo F1] := by rw [← e_2]; exact ho
      refine lv_aload_n hx hb dX9_speak_48 rfl (lv_at hl 1 rfl) ?_
      refine o_get (v := .ref (ar 11)) C ho 0 0 rfl rfl rfl 15 fX9_43 rfl dX9_speak_49 ?_
      refine lv_iload_n hx hb dX9_speak_52 rfl (lv_at hl 2 rfl) ?_
      refine o_iald (v := nI by_.length) C ho 0 12 rfl rfl 0 rfl d rfl (by omega) (by omega) q11 dX9_speak_53 ?_
      refine o_if_le (tgt := 66) hx hb dX9_speak_54 (by decide) (by omega) (fun c_3 => ?_) (fun c_3 => ?_)
      · skip
        exact absurd c_3 (by omega)
      · skip
        refine lv_aload_n hx hb dX9_speak_57 rfl (lv_at hl 1 rfl) ?_
        refine o_get (v := .ref (ar 12)) C ho 0 0 rfl rfl rfl 16 fX9_46 rfl dX9_speak_58 ?_
        refine lv_iload_n hx hb dX9_speak_61 rfl (lv_at hl 2 rfl) ?_
        refine o_iald (v := nI 3) C ho 0 13 rfl rfl 0 rfl d rfl (by omega) (by omega) q12 dX9_speak_62 ?_
        refine lv_goto (tgt := 69) hx hb dX9_speak_63 (by decide) ?_
        refine lv_istore_n (lv' := [(3, .int (nI 3)), (2, .int (nI 1)), (0, .ref h), (1, .int (nI d))]) hx hb dX9_speak_69 rfl hl (by decide) rfl (fun ls hl => ?_)
        refine lv_aload_n hx hb dX9_speak_70 rfl (lv_at hl 2 rfl) ?_
        refine lv_aload_n hx hb dX9_speak_71 rfl (lv_at hl 2 rfl) ?_
        refine o_get (v := .int (nI ck)) C ho 0 0 rfl rfl rfl 1 fX9_131 rfl dX9_speak_72 ?_
        refine o_callV (wr := []) (rest := []) (As := [.int (nI ck)]) C (c_M_whiten la D K h ar ad ck bi lo F1 ck (by first | omega | assumption | (simp only [List.length_append, List.length_cons, List.length_nil, List.length_modify, List.length_set, nb_len, rb_len, rbp_len, sl_len, slN_len, wh_len, wt_len, hd10_len, hdB_len, thr_len, ldp_len, ldB_len, tens_len, whz_len, majL_len, mf_len, tkL_len, ldY_len, fif_len, ldY_len]; omega) | decide)) kX9_134 vX9_whiten (by decide) rfl ho [0] 1 (by decide +kernel) rfl rfl rfl rfl rfl hl.1 rfl (Nat.le_of_ble_eq_true rfl) dX9_speak_75 0 0 rfl rfl (by decide) (fun v u_4 H locs hq ho => ?_)
        obtain rfl := hq
        have ho : ow D vwCl A s.heap H locs [bX K h ar ad ck bi lo (va_up F1 1 (whP ck (F1 1) 400))] := ho
        refine W.eq (g2 := F0 m 78 ls []) rfl ?_
        refine lv_aload_n hx hb dX9_speak_78 rfl (lv_at hl 2 rfl) ?_
        refine lv_iconst (v := nI 0) hx hb dX9_speak_79 (by decide) ?_
        refine o_put (v := .int (nI 0)) (bs' := [bX K h ar ad ck bi 0 (va_up F1 1 (whP ck (F1 1) 400))]) C ho 0 0 rfl rfl rfl 5 fX9_103 pX9_5 rfl rfl (Nat.le_of_ble_eq_true rfl) dX9_speak_80 rfl (fun H locs ho => ?_)
        refine lv_aload_n hx hb dX9_speak_83 rfl (lv_at hl 2 rfl) ?_
        refine lv_aload_n hx hb dX9_speak_84 rfl (lv_at hl 2 rfl) ?_
        refine o_get (v := .int (nI ad)) C ho 0 0 rfl rfl rfl 0 fX9_95 rfl dX9_speak_85 ?_
        refine lv_iconst (v := nI 3) hx hb dX9_speak_88 (by decide) ?_
        refine o_callV (wr := []) (rest := []) (As := [.int (nI ad), .int (nI 3)]) C (c_M_put la D K h ar ad ck bi 0 (va_up F1 1 (whP ck (F1 1) 400)) ad 3 (by first | omega | assumption | (simp only [List.length_append, List.length_cons, List.length_nil, List.length_modify, List.length_set, nb_len, rb_len, rbp_len, sl_len, slN_len, wh_len, wt_len, hd10_len, hdB_len, thr_len, ldp_len, ldB_len, tens_len, whz_len, majL_len, mf_len, tkL_len, ldY_len, fif_len, ldY_len]; omega) | decide) (by first | omega | assumption | (simp only [List.length_append, List.length_cons, List.length_nil, List.length_modify, List.length_set, nb_len, rb_len, rbp_len, sl_len, slN_len, wh_len, wt_len, hd10_len, hdB_len, thr_len, ldp_len, ldB_len, tens_len, whz_len, majL_len, mf_len, tkL_len, ldY_len, fif_len, ldY_len]; omega) | decide) (by first | omega | assumption | (simp only [List.length_append, List.length_cons, List.length_nil, List.length_modify, List.length_set, nb_len, rb_len, rbp_len, sl_len, slN_len, wh_len, wt_len, hd10_len, hdB_len, thr_len, ldp_len, ldB_len, tens_len, whz_len, majL_len, mf_len, tkL_len, ldY_len, fif_len, ldY_len]; omega) | decide)) kX9_114 vX9_put (by decide) rfl ho [0] 1 (by decide +kernel) rfl rfl rfl rfl rfl hl.1 rfl (Nat.le_of_ble_eq_true rfl) dX9_speak_89 0 0 rfl rfl (by decide) (fun v u_5 H locs hq ho => ?_)
        obtain rfl := hq
        have ho : ow D vwCl A s.heap H locs [bX K h ar ad ck bi (0 + 3) (va_up (va_up F1 1 (whP ck (F1 1) 400)) 2 (wrL (F1 2) 0 (nb ad 3)))] := ho
        refine W.eq (g2 := F0 m 92 ls []) rfl ?_
        have e_6 : bX K h ar ad ck bi (0 + 3) (va_up (va_up F1 1 (whP ck (F1 1) 400)) 2 (wrL (F1 2) 0 (nb ad 3))) = bX K h ar ad ck bi 3 (va_up (va_up F1 1 (whP ck (F1 1) 400)) 2 (wrL (F1 2) 0 (([] : List Bool) ++ nb ad 3))) := rfl
        have ho : ow D vwCl A s.heap H locs [bX K h ar ad ck bi 3 (va_up (va_up F1 1 (whP ck (F1 1) 400)) 2 (wrL (F1 2) 0 (([] : List Bool) ++ nb ad 3)))] := by rw [← e_6]; exact ho
        refine lv_aload_n hx hb dX9_speak_92 rfl (lv_at hl 2 rfl) ?_
        refine lv_iload_n hx hb dX9_speak_93 rfl (lv_at hl 0 rfl) ?_
        refine lv_iconst (v := nI 4) hx hb dX9_speak_94 (by decide) ?_
        refine o_callV (wr := []) (rest := []) (As := [.int (nI 3), .int (nI 4)]) C (c_M_put la D K h ar ad ck bi 3 (va_up (va_up F1 1 (whP ck (F1 1) 400)) 2 (wrL (F1 2) 0 (([] : List Bool) ++ nb ad 3))) 3 4 (by first | omega | assumption | (simp only [List.length_append, List.length_cons, List.length_nil, List.length_modify, List.length_set, nb_len, rb_len, rbp_len, sl_len, slN_len, wh_len, wt_len, hd10_len, hdB_len, thr_len, ldp_len, ldB_len, tens_len, whz_len, majL_len, mf_len, tkL_len, ldY_len, fif_len, ldY_len]; omega) | decide) (by first | omega | assumption | (simp only [List.length_append, List.length_cons, List.length_nil, List.length_modify, List.length_set, nb_len, rb_len, rbp_len, sl_len, slN_len, wh_len, wt_len, hd10_len, hdB_len, thr_len, ldp_len, ldB_len, tens_len, whz_len, majL_len, mf_len, tkL_len, ldY_len, fif_len, ldY_len]; omega) | decide) (by first | omega | assumption | (simp only [List.length_append, List.length_cons, List.length_nil, List.length_modify, List.length_set, nb_len, rb_len, rbp_len, sl_len, slN_len, wh_len, wt_len, hd10_len, hdB_len, thr_len, ldp_len, ldB_len, tens_len, whz_len, majL_len, mf_len, tkL_len, ldY_len, fif_len, ldY_len]; omega) | decide)) kX9_114 vX9_put (by decide) rfl ho [0] 1 (by decide +kernel) rfl rfl rfl rfl rfl hl.1 rfl (Nat.le_of_ble_eq_true rfl) dX9_speak_95 0 0 rfl rfl (by decide) (fun v u_7 H locs hq ho => ?_)
        obtain rfl := hq
        have ho : ow D vwCl A s.heap H locs [bX K h ar ad ck bi (3 + 4) (va_up (va_up (va_up F1 1 (whP ck (F1 1) 400)) 2 (wrL (F1 2) 0 (([] : List Bool) ++ nb ad 3))) 2 (wrL (wrL (F1 2) 0 (([] : List Bool) ++ nb ad 3)) 3 (nb 3 4)))] := ho
        refine W.eq (g2 := F0 m 98 ls []) rfl ?_
        have e_8 : bX K h ar ad ck bi (3 + 4) (va_up (va_up (va_up F1 1 (whP ck (F1 1) 400)) 2 (wrL (F1 2) 0 (([] : List Bool) ++ nb ad 3))) 2 (wrL (wrL (F1 2) 0 (([] : List Bool) ++ nb ad 3)) 3 (nb 3 4))) = bX K h ar ad ck bi 7 (va_up (va_up F1 1 (whP ck (F1 1) 400)) 2 (wrL (F1 2) 0 ((([] : List Bool) ++ nb ad 3) ++ nb 3 4))) := by rw [bx_uu, wrL_app (by simp [nb_len])]
        have ho : ow D vwCl A s.heap H locs [bX K h ar ad ck bi 7 (va_up (va_up F1 1 (whP ck (F1 1) 400)) 2 (wrL (F1 2) 0 ((([] : List Bool) ++ nb ad 3) ++ nb 3 4)))] := by rw [← e_8]; exact ho
        refine lv_aload_n hx hb dX9_speak_98 rfl (lv_at hl 2 rfl) ?_
        refine lv_iconst (v := nI 1) hx hb dX9_speak_99 (by decide) ?_
        refine lv_iconst (v := nI 1) hx hb dX9_speak_100 (by decide) ?_
        refine o_callV (wr := []) (rest := []) (As := [.int (nI 1), .int (nI 1)]) C (c_M_put la D K h ar ad ck bi 7 (va_up (va_up F1 1 (whP ck (F1 1) 400)) 2 (wrL (F1 2) 0 ((([] : List Bool) ++ nb ad 3) ++ nb 3 4))) 1 1 (by first | omega | assumption | (simp only [List.length_append, List.length_cons, List.length_nil, List.length_modify, List.length_set, nb_len, rb_len, rbp_len, sl_len, slN_len, wh_len, wt_len, hd10_len, hdB_len, thr_len, ldp_len, ldB_len, tens_len, whz_len, majL_len, mf_len, tkL_len, ldY_len, fif_len, ldY_len]; omega) | decide) (by first | omega | assumption | (simp only [List.length_append, List.length_cons, List.length_nil, List.length_modify, List.length_set, nb_len, rb_len, rbp_len, sl_len, slN_len, wh_len, wt_len, hd10_len, hdB_len, thr_len, ldp_len, ldB_len, tens_len, whz_len, majL_len, mf_len, tkL_len, ldY_len, fif_len, ldY_len]; omega) | decide) (by first | omega | assumption | (simp only [List.length_append, List.length_cons, List.length_nil, List.length_modify, List.length_set, nb_len, rb_len, rbp_len, sl_len, slN_len, wh_len, wt_len, hd10_len, hdB_len, thr_len, ldp_len, ldB_len, tens_len, whz_len, majL_len, mf_len, tkL_len, ldY_len, fif_len, ldY_len]; omega) | decide)) kX9_114 vX9_put (by decide) rfl ho [0] 1 (by decide +kernel) rfl rfl rfl rfl rfl hl.1 rfl (Nat.le_of_ble_eq_true rfl) dX9_speak_101 0 0 rfl rfl (by decide) (fun v u_9 H locs hq ho => ?_)
        obtain rfl := hq
        have ho : ow D vwCl A s.heap H locs [bX K h ar ad ck bi (7 + 1) (va_up (va_up (va_up F1 1 (whP ck (F1 1) 400)) 2 (wrL (F1 2) 0 ((([] : List Bool) ++ nb ad 3) ++ nb 3 4))) 2 (wrL (wrL (F1 2) 0 ((([] : List Bool) ++ nb ad 3) ++ nb 3 4)) 7 (nb 1 1)))] := ho
        refine W.eq (g2 := F0 m 104 ls []) rfl ?_
        have e_10 : bX K h ar ad ck bi (7 + 1) (va_up (va_up (va_up F1 1 (whP ck (F1 1) 400)) 2 (wrL (F1 2) 0 ((([] : List Bool) ++ nb ad 3) ++ nb 3 4))) 2 (wrL (wrL (F1 2) 0 ((([] : List Bool) ++ nb ad 3) ++ nb 3 4)) 7 (nb 1 1))) = bX K h ar ad ck bi 8 (va_up (va_up F1 1 (whP ck (F1 1) 400)) 2 (wrL (F1 2) 0 (((([] : List Bool) ++ nb ad 3) ++ nb 3 4) ++ [true]))) := by rw [bx_uu, wrL_app (by simp [nb_len])] <;> rfl
        have ho : ow D vwCl A s.heap H locs [bX K h ar ad ck bi 8 (va_up (va_up F1 1 (whP ck (F1 1) 400)) 2 (wrL (F1 2) 0 (((([] : List Bool) ++ nb ad 3) ++ nb 3 4) ++ [true])))] := by rw [← e_10]; exact ho
        refine lv_aload_n hx hb dX9_speak_104 rfl (lv_at hl 2 rfl) ?_
        refine lv_aload_n hx hb dX9_speak_105 rfl (lv_at hl 2 rfl) ?_
        refine o_get (v := .ref (ar 24)) C ho 0 0 rfl rfl rfl 28 fX9_83 rfl dX9_speak_106 ?_
        refine lv_iload_n hx hb dX9_speak_109 rfl (lv_at hl 3 rfl) ?_
        refine o_zald (v := bI gd) C ho 0 25 rfl rfl 3 rfl d rfl (by omega) (by decide) q24 dX9_speak_110 ?_
        have J119 : W p la e (rmL 4 0 0) s m args below meth c H locs 0 0 Qz (F0 m 119 ls [.int (nI gd.toNat), .ref h]) := by
          refine lv_iconst (v := nI 1) hx hb dX9_speak_119 (by decide) ?_
          refine o_callV (wr := []) (rest := []) (As := [.int (nI gd.toNat), .int (nI 1)]) C (c_M_put la D K h ar ad ck bi 8 (va_up (va_up F1 1 (whP ck (F1 1) 400)) 2 (wrL (F1 2) 0 (((([] : List Bool) ++ nb ad 3) ++ nb 3 4) ++ [true]))) gd.toNat 1 (tN_lt _) (by first | omega | assumption | (simp only [List.length_append, List.length_cons, List.length_nil, List.length_modify, List.length_set, nb_len, rb_len, rbp_len, sl_len, slN_len, wh_len, wt_len, hd10_len, hdB_len, thr_len, ldp_len, ldB_len, tens_len, whz_len, majL_len, mf_len, tkL_len, ldY_len, fif_len, ldY_len]; omega) | decide) (by first | omega | assumption | (simp only [List.length_append, List.length_cons, List.length_nil, List.length_modify, List.length_set, nb_len, rb_len, rbp_len, sl_len, slN_len, wh_len, wt_len, hd10_len, hdB_len, thr_len, ldp_len, ldB_len, tens_len, whz_len, majL_len, mf_len, tkL_len, ldY_len, fif_len, ldY_len]; omega) | decide)) kX9_114 vX9_put (by decide) rfl ho [0] 1 (by decide +kernel) rfl rfl rfl rfl rfl hl.1 rfl (Nat.le_of_ble_eq_true rfl) dX9_speak_120 0 0 rfl rfl (by decide) (fun v u_11 H locs hq ho => ?_)
          obtain rfl := hq
          have ho : ow D vwCl A s.heap H locs [bX K h ar ad ck bi (8 + 1) (va_up (va_up (va_up F1 1 (whP ck (F1 1) 400)) 2 (wrL (F1 2) 0 (((([] : List Bool) ++ nb ad 3) ++ nb 3 4) ++ [true]))) 2 (wrL (wrL (F1 2) 0 (((([] : List Bool) ++ nb ad 3) ++ nb 3 4) ++ [true])) 8 (nb gd.toNat 1)))] := ho
          refine W.eq (g2 := F0 m 123 ls []) rfl ?_
          have e_12 : bX K h ar ad ck bi (8 + 1) (va_up (va_up (va_up F1 1 (whP ck (F1 1) 400)) 2 (wrL (F1 2) 0 (((([] : List Bool) ++ nb ad 3) ++ nb 3 4) ++ [true]))) 2 (wrL (wrL (F1 2) 0 (((([] : List Bool) ++ nb ad 3) ++ nb 3 4) ++ [true])) 8 (nb gd.toNat 1))) = bX K h ar ad ck bi 9 (va_up (va_up F1 1 (whP ck (F1 1) 400)) 2 (wrL (F1 2) 0 ((((([] : List Bool) ++ nb ad 3) ++ nb 3 4) ++ [true]) ++ [gd]))) := by rw [bx_uu, wrL_app (by simp [nb_len]), nb_b]
          have ho : ow D vwCl A s.heap H locs [bX K h ar ad ck bi 9 (va_up (va_up F1 1 (whP ck (F1 1) 400)) 2 (wrL (F1 2) 0 ((((([] : List Bool) ++ nb ad 3) ++ nb 3 4) ++ [true]) ++ [gd])))] := by rw [← e_12]; exact ho
          refine lv_aload_n hx hb dX9_speak_123 rfl (lv_at hl 2 rfl) ?_
          refine lv_aload_n hx hb dX9_speak_124 rfl (lv_at hl 2 rfl) ?_
          refine o_get (v := .ref (ar 22)) C ho 0 0 rfl rfl rfl 26 fX9_77 rfl dX9_speak_125 ?_
          refine lv_iload_n hx hb dX9_speak_128 rfl (lv_at hl 3 rfl) ?_
          refine o_iald (v := nI tu.toNat) C ho 0 23 rfl rfl 0 rfl d rfl (by omega) (by omega) (q22.trans (bI_N _)) dX9_speak_129 ?_
          refine lv_iconst (v := nI 1) hx hb dX9_speak_130 (by decide) ?_
          refine o_callV (wr := []) (rest := []) (As := [.int (nI tu.toNat), .int (nI 1)]) C (c_M_put la D K h ar ad ck bi 9 (va_up (va_up F1 1 (whP ck (F1 1) 400)) 2 (wrL (F1 2) 0 ((((([] : List Bool) ++ nb ad 3) ++ nb 3 4) ++ [true]) ++ [gd]))) tu.toNat 1 (tN_lt _) (by first | omega | assumption | (simp only [List.length_append, List.length_cons, List.length_nil, List.length_modify, List.length_set, nb_len, rb_len, rbp_len, sl_len, slN_len, wh_len, wt_len, hd10_len, hdB_len, thr_len, ldp_len, ldB_len, tens_len, whz_len, majL_len, mf_len, tkL_len, ldY_len, fif_len, ldY_len]; omega) | decide) (by first | omega | assumption | (simp only [List.length_append, List.length_cons, List.length_nil, List.length_modify, List.length_set, nb_len, rb_len, rbp_len, sl_len, slN_len, wh_len, wt_len, hd10_len, hdB_len, thr_len, ldp_len, ldB_len, tens_len, whz_len, majL_len, mf_len, tkL_len, ldY_len, fif_len, ldY_len]; omega) | decide)) kX9_114 vX9_put (by decide) rfl ho [0] 1 (by decide +kernel) rfl rfl rfl rfl rfl hl.1 rfl (Nat.le_of_ble_eq_true rfl) dX9_speak_131 0 0 rfl rfl (by decide) (fun v u_13 H locs hq ho => ?_)
          obtain rfl := hq
          have ho : ow D vwCl A s.heap H locs [bX K h ar ad ck bi (9 + 1) (va_up (va_up (va_up F1 1 (whP ck (F1 1) 400)) 2 (wrL (F1 2) 0 ((((([] : List Bool) ++ nb ad 3) ++ nb 3 4) ++ [true]) ++ [gd]))) 2 (wrL (wrL (F1 2) 0 ((((([] : List Bool) ++ nb ad 3) ++ nb 3 4) ++ [true]) ++ [gd])) 9 (nb tu.toNat 1)))] := ho
          refine W.eq (g2 := F0 m 134 ls []) rfl ?_
          have e_14 : bX K h ar ad ck bi (9 + 1) (va_up (va_up (va_up F1 1 (whP ck (F1 1) 400)) 2 (wrL (F1 2) 0 ((((([] : List Bool) ++ nb ad 3) ++ nb 3 4) ++ [true]) ++ [gd]))) 2 (wrL (wrL (F1 2) 0 ((((([] : List Bool) ++ nb ad 3) ++ nb 3 4) ++ [true]) ++ [gd])) 9 (nb tu.toNat 1))) = bX K h ar ad ck bi 10 (va_up (va_up F1 1 (whP ck (F1 1) 400)) 2 (wrL (F1 2) 0 (hd10 ad 3 gd tu))) := by rw [bx_uu, wrL_app (by simp [nb_len]), nb_b] <;> rfl
          have ho : ow D vwCl A s.heap H locs [bX K h ar ad ck bi 10 (va_up (va_up F1 1 (whP ck (F1 1) 400)) 2 (wrL (F1 2) 0 (hd10 ad 3 gd tu)))] := by rw [← e_14]; exact ho
          refine lv_aload_n hx hb dX9_speak_134 rfl (lv_at hl 2 rfl) ?_
          refine lv_iconst (v := nI 0) hx hb dX9_speak_135 (by decide) ?_
          refine lv_bipush (v := nI 10) hx hb dX9_speak_136 (by decide) ?_
          refine lv_sipush (v := nI 423) hx hb dX9_speak_138 (by decide) ?_
          refine lv_bipush (v := nI 8) hx hb dX9_speak_141 (by decide) ?_
          refine o_callV (wr := []) (rest := []) (As := [.int (nI 0), .int (nI 10), .int (nI 423), .int (nI 8)]) C (c_M_putRem la D K h ar ad ck bi 10 (va_up (va_up F1 1 (whP ck (F1 1) 400)) 2 (wrL (F1 2) 0 (hd10 ad 3 gd tu))) 0 10 423 8 (hd10 ad 3 gd tu) (fun i hi => by rw [Nat.zero_add, va_up_self]; exact wrL_in0 hi) (by rw [hd10_len]) (by first | omega | assumption | (simp only [List.length_append, List.length_cons, List.length_nil, List.length_modify, List.length_set, nb_len, rb_len, rbp_len, sl_len, slN_len, wh_len, wt_len, hd10_len, hdB_len, thr_len, ldp_len, ldB_len, tens_len, whz_len, majL_len, mf_len, tkL_len, ldY_len, fif_len, ldY_len]; omega) | decide) (by first | omega | assumption | (simp only [List.length_append, List.length_cons, List.length_nil, List.length_modify, List.length_set, nb_len, rb_len, rbp_len, sl_len, slN_len, wh_len, wt_len, hd10_len, hdB_len, thr_len, ldp_len, ldB_len, tens_len, whz_len, majL_len, mf_len, tkL_len, ldY_len, fif_len, ldY_len]; omega) | decide) (by first | omega | assumption | (simp only [List.length_append, List.length_cons, List.length_nil, List.length_modify, List.length_set, nb_len, rb_len, rbp_len, sl_len, slN_len, wh_len, wt_len, hd10_len, hdB_len, thr_len, ldp_len, ldB_len, tens_len, whz_len, majL_len, mf_len, tkL_len, ldY_len, fif_len, ldY_len]; omega) | decide) (by first | omega | assumption | (simp only [List.length_append, List.length_cons, List.length_nil, List.length_modify, List.length_set, nb_len, rb_len, rbp_len, sl_len, slN_len, wh_len, wt_len, hd10_len, hdB_len, thr_len, ldp_len, ldB_len, tens_len, whz_len, majL_len, mf_len, tkL_len, ldY_len, fif_len, ldY_len]; omega) | decide) (by decide) (by decide) pw423 (by first | omega | assumption | (simp only [List.length_append, List.length_cons, List.length_nil, List.length_modify, List.length_set, nb_len, rb_len, rbp_len, sl_len, slN_len, wh_len, wt_len, hd10_len, hdB_len, thr_len, ldp_len, ldB_len, tens_len, whz_len, majL_len, mf_len, tkL_len, ldY_len, fif_len, ldY_len]; omega) | decide)) kX9_137 vX9_putRem (by decide) rfl ho [0] 1 (by decide +kernel) rfl rfl rfl rfl rfl hl.1 rfl (Nat.le_of_ble_eq_true rfl) dX9_speak_143 0 0 rfl rfl (by decide) (fun v u_15 H locs hq ho => ?_)
          obtain rfl := hq
          have ho : ow D vwCl A s.heap H locs [bX K h ar ad ck bi (10 + 8) (va_up (va_up (va_up F1 1 (whP ck (F1 1) 400)) 2 (wrL (F1 2) 0 (hd10 ad 3 gd tu))) 2 (wrL (wrL (F1 2) 0 (hd10 ad 3 gd tu)) 10 (rb (crc 423 8 (hd10 ad 3 gd tu)) 8)))] := ho
          refine W.eq (g2 := F0 m 146 ls []) rfl ?_
          have e_16 : bX K h ar ad ck bi (10 + 8) (va_up (va_up (va_up F1 1 (whP ck (F1 1) 400)) 2 (wrL (F1 2) 0 (hd10 ad 3 gd tu))) 2 (wrL (wrL (F1 2) 0 (hd10 ad 3 gd tu)) 10 (rb (crc 423 8 (hd10 ad 3 gd tu)) 8))) = bX K h ar ad ck bi 18 (va_up (va_up F1 1 (whP ck (F1 1) 400)) 2 (wrL (F1 2) 0 (hdB ad 3 gd tu))) := by rw [bx_uu, wrL_app (by rw [hd10_len]), hdB_eq]
          have ho : ow D vwCl A s.heap H locs [bX K h ar ad ck bi 18 (va_up (va_up F1 1 (whP ck (F1 1) 400)) 2 (wrL (F1 2) 0 (hdB ad 3 gd tu)))] := by rw [← e_16]; exact ho
          refine lv_iload_n hx hb dX9_speak_146 rfl (lv_at hl 0 rfl) ?_
          refine lv_iconst (v := nI 2) hx hb dX9_speak_147 (by decide) ?_
          refine o_icmp_le (tgt := 232) hx hb dX9_speak_148 (by decide) (by decide) (by decide) (fun c9 => absurd c9 (by decide)) (fun _ => ?_)
          refine lv_aload_n hx hb dX9_speak_151 rfl (lv_at hl 2 rfl) ?_
          refine lv_iconst (v := nI 4) hx hb dX9_speak_152 (by decide) ?_
          refine lv_aload_n hx hb dX9_speak_153 rfl (lv_at hl 2 rfl) ?_
          refine o_get (v := .ref (ar 11)) C ho 0 0 rfl rfl rfl 15 fX9_43 rfl dX9_speak_154 ?_
          refine lv_iload_n hx hb dX9_speak_157 rfl (lv_at hl 3 rfl) ?_
          refine o_iald (v := nI by_.length) C ho 0 12 rfl rfl 0 rfl d rfl (by omega) (by omega) q11 dX9_speak_158 ?_
          refine o_mul hx hb dX9_speak_159 ?_
          refine lv_aload_n hx hb dX9_speak_160 rfl (lv_at hl 2 rfl) ?_
          refine o_get (v := .ref (ar 13)) C ho 0 0 rfl rfl rfl 17 fX9_49 rfl dX9_speak_161 ?_
          refine lv_iload_n hx hb dX9_speak_164 rfl (lv_at hl 3 rfl) ?_
          refine o_zald (v := bI be) C ho 0 14 rfl rfl 3 rfl d rfl (by omega) (by decide) q13 dX9_speak_165 ?_
          have J174 : W p la e (rmL 4 0 0) s m args below meth c H locs 0 0 Qz (F0 m 174 ls [.int (nI (cond be 2 1)), .int (nI (4 * by_.length)), .ref h]) := by
            refine o_add hx hb dX9_speak_174 ?_
            refine lv_bipush (v := nI 8) hx hb dX9_speak_175 (by decide) ?_
            refine o_callV (wr := []) (rest := []) (As := [.int (nI ((4 * by_.length) + (cond be 2 1))), .int (nI 8)]) C (c_M_put la D K h ar ad ck bi 18 (va_up (va_up F1 1 (whP ck (F1 1) 400)) 2 (wrL (F1 2) 0 (hdB ad 3 gd tu))) ((4 * by_.length) + (cond be 2 1)) 8 (by first | omega | assumption | (simp only [List.length_append, List.length_cons, List.length_nil, List.length_modify, List.length_set, nb_len, rb_len, rbp_len, sl_len, slN_len, wh_len, wt_len, hd10_len, hdB_len, thr_len, ldp_len, ldB_len, tens_len, whz_len, majL_len, mf_len, tkL_len, ldY_len, fif_len, ldY_len]; omega) | decide) (by first | omega | assumption | (simp only [List.length_append, List.length_cons, List.length_nil, List.length_modify, List.length_set, nb_len, rb_len, rbp_len, sl_len, slN_len, wh_len, wt_len, hd10_len, hdB_len, thr_len, ldp_len, ldB_len, tens_len, whz_len, majL_len, mf_len, tkL_len, ldY_len, fif_len, ldY_len]; omega) | decide) (by first | omega | assumption | (simp only [List.length_append, List.length_cons, List.length_nil, List.length_modify, List.length_set, nb_len, rb_len, rbp_len, sl_len, slN_len, wh_len, wt_len, hd10_len, hdB_len, thr_len, ldp_len, ldB_len, tens_len, whz_len, majL_len, mf_len, tkL_len, ldY_len, fif_len, ldY_len]; omega) | decide)) kX9_114 vX9_put (by decide) rfl ho [0] 1 (by decide +kernel) rfl rfl rfl rfl rfl hl.1 rfl (Nat.le_of_ble_eq_true rfl) dX9_speak_177 0 0 rfl rfl (by decide) (fun v u_17 H locs hq ho => ?_)
            obtain rfl := hq
            have ho : ow D vwCl A s.heap H locs [bX K h ar ad ck bi (18 + 8) (va_up (va_up (va_up F1 1 (whP ck (F1 1) 400)) 2 (wrL (F1 2) 0 (hdB ad 3 gd tu))) 2 (wrL (wrL (F1 2) 0 (hdB ad 3 gd tu)) 18 (nb ((4 * by_.length) + (cond be 2 1)) 8)))] := ho
            refine W.eq (g2 := F0 m 180 ls []) rfl ?_
            have e_18 : bX K h ar ad ck bi (18 + 8) (va_up (va_up (va_up F1 1 (whP ck (F1 1) 400)) 2 (wrL (F1 2) 0 (hdB ad 3 gd tu))) 2 (wrL (wrL (F1 2) 0 (hdB ad 3 gd tu)) 18 (nb ((4 * by_.length) + (cond be 2 1)) 8))) = bX K h ar ad ck bi (18 + (8 + 8 * 0)) (va_up (va_up F1 1 (whP ck (F1 1) 400)) 2 (wrL (F1 2) 0 (hdB ad 3 gd tu ++ ldp (cond be 2 1) by_ 0))) := by rw [bx_uu, wrL_app (by rw [hdB_len]), ldp_0]
            have ho : ow D vwCl A s.heap H locs [bX K h ar ad ck bi (18 + (8 + 8 * 0)) (va_up (va_up F1 1 (whP ck (F1 1) 400)) 2 (wrL (F1 2) 0 (hdB ad 3 gd tu ++ ldp (cond be 2 1) by_ 0)))] := by rw [← e_18]; exact ho
            refine lv_iconst (v := nI 0) hx hb dX9_speak_180 (by decide) ?_
            refine lv_istore (lv' := [(4, .int (nI 0)), (3, .int (nI 3)), (2, .int (nI 1)), (0, .ref h), (1, .int (nI d))]) hx hb dX9_speak_181 hl (by decide) rfl (fun ls hl => ?_)
            have LP183 : ∀ (fuel : Nat) (i : Nat) (_ : by_.length - i < fuel) (_ : i ≤ by_.length) (H : Heap) (locs : List Loc) (ls : Array Slot) (_ : ow D vwCl A s.heap H locs [bX K h ar ad ck bi (18 + (8 + 8 * i)) (va_up (va_up F1 1 (whP ck (F1 1) 400)) 2 (wrL (F1 2) 0 (hdB ad 3 gd tu ++ ldp (cond be 2 1) by_ i)))]) (_ : lv_has ls 5 [(0, .ref h), (1, .int (nI d)), (3, .int (nI 3)), (4, .int (nI i))]), W p la e (rmL 4 0 0) s m args below meth c H locs 0 0 Qz (F0 m 183 ls []) := by
              intro fuel
              induction fuel with
              | zero => intro i h0; exact absurd h0 (Nat.not_lt_zero _)
              | succ fuel ih183 =>
                intro i hfu hi H locs ls ho hl
                refine lv_iload hx hb dX9_speak_183 (lv_at hl 3 rfl) ?_
                refine lv_aload_n hx hb dX9_speak_185 rfl (lv_at hl 0 rfl) ?_
                refine o_get (v := .ref (ar 11)) C ho 0 0 rfl rfl rfl 15 fX9_43 rfl dX9_speak_186 ?_
                refine lv_iload_n hx hb dX9_speak_189 rfl (lv_at hl 1 rfl) ?_
                refine o_iald (v := nI by_.length) C ho 0 12 rfl rfl 0 rfl d rfl (by omega) (by omega) q11 dX9_speak_190 ?_
                refine o_icmp_ge (tgt := 218) hx hb dX9_speak_191 (by decide) (by first | omega | exact and1_lt _) (by first | omega | exact and1_lt _) (fun c_19 => ?_) (fun c_19 => ?_)
                · skip
                  have e_20 : bX K h ar ad ck bi (18 + (8 + 8 * i)) (va_up (va_up F1 1 (whP ck (F1 1) 400)) 2 (wrL (F1 2) 0 (hdB ad 3 gd tu ++ ldp (cond be 2 1) by_ i))) = bX K h ar ad ck bi (18 + (8 + 8 * by_.length)) (va_up (va_up F1 1 (whP ck (F1 1) 400)) 2 (wrL (F1 2) 0 (hdB ad 3 gd tu ++ ldp (cond be 2 1) by_ by_.length))) := by rw [show i = by_.length by omega]
                  have ho : ow D vwCl A s.heap H locs [bX K h ar ad ck bi (18 + (8 + 8 * by_.length)) (va_up (va_up F1 1 (whP ck (F1 1) 400)) 2 (wrL (F1 2) 0 (hdB ad 3 gd tu ++ ldp (cond be 2 1) by_ by_.length)))] := by rw [← e_20]; exact ho
                  refine lv_aload_n hx hb dX9_speak_218 rfl (lv_at hl 0 rfl) ?_
                  refine lv_bipush (v := nI 18) hx hb dX9_speak_219 (by decide) ?_
                  refine lv_aload_n hx hb dX9_speak_221 rfl (lv_at hl 0 rfl) ?_
                  refine o_get (v := .int (nI (18 + (8 + 8 * by_.length)))) C ho 0 0 rfl rfl rfl 5 fX9_103 rfl dX9_speak_222 ?_
                  refine lv_ldc (v := nI 69665) hx hb C.1.2.2.2.1 (C.1.2.2.2.2 _ mX9_k141) dX9_speak_225 ?_
                  refine lv_bipush (v := nI 16) hx hb dX9_speak_227 (by decide) ?_
                  refine o_callV (wr := []) (rest := []) (As := [.int (nI 18), .int (nI (18 + (8 + 8 * by_.length))), .int (nI 69665), .int (nI 16)]) C (c_M_putRem la D K h ar ad ck bi (18 + (8 + 8 * by_.length)) (va_up (va_up F1 1 (whP ck (F1 1) 400)) 2 (wrL (F1 2) 0 (hdB ad 3 gd tu ++ ldp (cond be 2 1) by_ by_.length))) 18 (18 + (8 + 8 * by_.length)) 69665 16 (ldp (cond be 2 1) by_ by_.length) (fun i hi => by rw [va_up_self]; exact wrL_r (hdB_len _ _ _ _) hi) (by rw [ldp_len]) (by first | omega | assumption | (simp only [List.length_append, List.length_cons, List.length_nil, List.length_modify, List.length_set, nb_len, rb_len, rbp_len, sl_len, slN_len, wh_len, wt_len, hd10_len, hdB_len, thr_len, ldp_len, ldB_len, tens_len, whz_len, majL_len, mf_len, tkL_len, ldY_len, fif_len, ldY_len]; omega) | decide) (by first | omega | assumption | (simp only [List.length_append, List.length_cons, List.length_nil, List.length_modify, List.length_set, nb_len, rb_len, rbp_len, sl_len, slN_len, wh_len, wt_len, hd10_len, hdB_len, thr_len, ldp_len, ldB_len, tens_len, whz_len, majL_len, mf_len, tkL_len, ldY_len, fif_len, ldY_len]; omega) | decide) (by first | omega | assumption | (simp only [List.length_append, List.length_cons, List.length_nil, List.length_modify, List.length_set, nb_len, rb_len, rbp_len, sl_len, slN_len, wh_len, wt_len, hd10_len, hdB_len, thr_len, ldp_len, ldB_len, tens_len, whz_len, majL_len, mf_len, tkL_len, ldY_len, fif_len, ldY_len]; omega) | decide) (by first | omega | assumption | (simp only [List.length_append, List.length_cons, List.length_nil, List.length_modify, List.length_set, nb_len, rb_len, rbp_len, sl_len, slN_len, wh_len, wt_len, hd10_len, hdB_len, thr_len, ldp_len, ldB_len, tens_len, whz_len, majL_len, mf_len, tkL_len, ldY_len, fif_len, ldY_len]; omega) | decide) (by decide) (by decide) pw69665 (by first | omega | assumption | (simp only [List.length_append, List.length_cons, List.length_nil, List.length_modify, List.length_set, nb_len, rb_len, rbp_len, sl_len, slN_len, wh_len, wt_len, hd10_len, hdB_len, thr_len, ldp_len, ldB_len, tens_len, whz_len, majL_len, mf_len, tkL_len, ldY_len, fif_len, ldY_len]; omega) | decide)) kX9_137 vX9_putRem (by decide) rfl ho [0] 1 (by decide +kernel) rfl rfl rfl rfl rfl hl.1 rfl (Nat.le_of_ble_eq_true rfl) dX9_speak_229 0 0 rfl rfl (by decide) (fun v u_21 H locs hq ho => ?_)
                  obtain rfl := hq
                  have ho : ow D vwCl A s.heap H locs [bX K h ar ad ck bi ((18 + (8 + 8 * by_.length)) + 16) (va_up (va_up (va_up F1 1 (whP ck (F1 1) 400)) 2 (wrL (F1 2) 0 (hdB ad 3 gd tu ++ ldp (cond be 2 1) by_ by_.length))) 2 (wrL (wrL (F1 2) 0 (hdB ad 3 gd tu ++ ldp (cond be 2 1) by_ by_.length)) (18 + (8 + 8 * by_.length)) (rb (crc 69665 16 (ldp (cond be 2 1) by_ by_.length)) 16)))] := ho
                  refine W.eq (g2 := F0 m 232 ls []) rfl ?_
                  have e_22 : bX K h ar ad ck bi ((18 + (8 + 8 * by_.length)) + 16) (va_up (va_up (va_up F1 1 (whP ck (F1 1) 400)) 2 (wrL (F1 2) 0 (hdB ad 3 gd tu ++ ldp (cond be 2 1) by_ by_.length))) 2 (wrL (wrL (F1 2) 0 (hdB ad 3 gd tu ++ ldp (cond be 2 1) by_ by_.length)) (18 + (8 + 8 * by_.length)) (rb (crc 69665 16 (ldp (cond be 2 1) by_ by_.length)) 16))) = bX K h ar ad ck bi ((18 + (8 + 8 * by_.length)) + 16) (va_up (va_up F1 1 (whP ck (F1 1) 400)) 2 (wrL (F1 2) 0 (hdB ad 3 gd tu ++ ldB (cond be 2 1) by_))) := by rw [bx_uu, wrL_app (by rw [List.length_append, hdB_len, ldp_len]; omega), ldB_eq, List.append_assoc]
                  have ho : ow D vwCl A s.heap H locs [bX K h ar ad ck bi ((18 + (8 + 8 * by_.length)) + 16) (va_up (va_up F1 1 (whP ck (F1 1) 400)) 2 (wrL (F1 2) 0 (hdB ad 3 gd tu ++ ldB (cond be 2 1) by_)))] := by rw [← e_22]; exact ho
                  have hlB := ldB_len (cond be 2 1) by_
                  refine lv_aload_n hx hb dX9_speak_232 rfl (lv_at hl 0 rfl) ?_
                  refine lv_iload_n hx hb dX9_speak_233 rfl (lv_at hl 2 rfl) ?_
                  refine o_callV (wr := []) (rest := []) (As := [.int (nI 3)]) C (c_M_sendBits3 la D K h ar ad ck bi ((18 + (8 + 8 * by_.length)) + 16) (va_up (va_up F1 1 (whP ck (F1 1) 400)) 2 (wrL (F1 2) 0 (hdB ad 3 gd tu ++ ldB (cond be 2 1) by_))) ck (hdB ad 3 gd tu) (ldB (cond be 2 1) by_) (fun i hi => whP_in hi) (fun i hi => wrL_l (hdB_len _ _ _ _) hi) (hdB_len _ _ _ _) (fun i hi => wrL_r (hdB_len _ _ _ _) hi) (by rw [ldB_len]; omega) (by rw [ldB_len]; omega)) kX9_142 vX9_sendBits (by decide) rfl ho [0] 1 (by decide +kernel) rfl rfl rfl rfl rfl hl.1 rfl (Nat.le_of_ble_eq_true rfl) dX9_speak_234 0 0 rfl rfl (by decide) (fun v u_23 H locs hq ho => ?_)
                  obtain rfl := hq
                  have ho : ow D vwCl A s.heap H locs [bX K h ar ad ck (54 + 15 * (((ldB (cond be 2 1) by_).length + 9) / 10)) ((18 + (8 + 8 * by_.length)) + 16) (va_up (va_up (va_up (va_up F1 1 (whP ck (F1 1) 400)) 2 (wrL (F1 2) 0 (hdB ad 3 gd tu ++ ldB (cond be 2 1) by_))) 0 (wrL (F1 0) 0 (thr (whz (hdB ad 3 gd tu) (wt ck) 0) 54 ++ tens (whz (ldB (cond be 2 1) by_) (wt ck) 18) (((ldB (cond be 2 1) by_).length + 9) / 10)))) 2 (u_23))] := ho
                  refine W.eq (g2 := F0 m 237 ls []) rfl ?_
                  have e_24 : bX K h ar ad ck (54 + 15 * (((ldB (cond be 2 1) by_).length + 9) / 10)) ((18 + (8 + 8 * by_.length)) + 16) (va_up (va_up (va_up (va_up F1 1 (whP ck (F1 1) 400)) 2 (wrL (F1 2) 0 (hdB ad 3 gd tu ++ ldB (cond be 2 1) by_))) 0 (wrL (F1 0) 0 (thr (whz (hdB ad 3 gd tu) (wt ck) 0) 54 ++ tens (whz (ldB (cond be 2 1) by_) (wt ck) 18) (((ldB (cond be 2 1) by_).length + 9) / 10)))) 2 (u_23)) = bX K h ar ad ck ((airW ck ad 3 gd tu (cond be 2 1) by_).length) ((18 + (8 + 8 * by_.length)) + 16) (va_up (va_up (va_up F1 1 (whP ck (F1 1) 400)) 0 (wrL (F1 0) 0 (airW ck ad 3 gd tu (cond be 2 1) by_))) 2 (u_23)) := by rw [airW_l3 ck ad gd tu (cond be 2 1) by_, airW_3 ck ad gd tu (cond be 2 1) by_, up_c202]
                  have ho : ow D vwCl A s.heap H locs [bX K h ar ad ck ((airW ck ad 3 gd tu (cond be 2 1) by_).length) ((18 + (8 + 8 * by_.length)) + 16) (va_up (va_up (va_up F1 1 (whP ck (F1 1) 400)) 0 (wrL (F1 0) 0 (airW ck ad 3 gd tu (cond be 2 1) by_))) 2 (u_23))] := by rw [← e_24]; exact ho
                  refine lv_aload_n hx hb dX9_speak_237 rfl (lv_at hl 0 rfl) ?_
                  refine o_get (v := .ref (ar 24)) C ho 0 0 rfl rfl rfl 28 fX9_83 rfl dX9_speak_238 ?_
                  refine lv_iload_n hx hb dX9_speak_241 rfl (lv_at hl 1 rfl) ?_
                  refine lv_iconst (v := nI 0) hx hb dX9_speak_242 (by decide) ?_
                  refine o_top (y := bI false) (rfl) ?_
                  refine o_zast (bs' := [bX K h ar ad ck ((airW ck ad 3 gd tu (cond be 2 1) by_).length) ((18 + (8 + 8 * by_.length)) + 16) (va_up (va_up (va_up (va_up F1 1 (whP ck (F1 1) 400)) 0 (wrL (F1 0) 0 (airW ck ad 3 gd tu (cond be 2 1) by_))) 2 (u_23)) 24 (upd (F1 24) d (bI false)))]) C ho 0 25 rfl rfl 3 rfl d rfl (by omega) (by decide) dX9_speak_243 rfl (fun H locs ho => ?_)
                  refine lv_aload_n hx hb dX9_speak_244 rfl (lv_at hl 0 rfl) ?_
                  refine o_get (v := .ref (ar 25)) C ho 0 0 rfl rfl rfl 29 fX9_86 rfl dX9_speak_245 ?_
                  refine lv_iload_n hx hb dX9_speak_248 rfl (lv_at hl 1 rfl) ?_
                  refine lv_iconst (v := nI 0) hx hb dX9_speak_249 (by decide) ?_
                  refine o_top (y := bI false) (rfl) ?_
                  refine o_zast (bs' := [bX K h ar ad ck ((airW ck ad 3 gd tu (cond be 2 1) by_).length) ((18 + (8 + 8 * by_.length)) + 16) (va_up (va_up (va_up (va_up (va_up F1 1 (whP ck (F1 1) 400)) 0 (wrL (F1 0) 0 (airW ck ad 3 gd tu (cond be 2 1) by_))) 2 (u_23)) 24 (upd (F1 24) d (bI false))) 25 (upd (F1 25) d (bI false)))]) C ho 0 26 rfl rfl 3 rfl d rfl (by omega) (by decide) dX9_speak_250 rfl (fun H locs ho => ?_)
                  refine lv_iload_n hx hb dX9_speak_251 rfl (lv_at hl 2 rfl) ?_
                  exact o_iret hQ C rfl ho u_23 rfl rfl (Nat.le_of_ble_eq_true rfl) (Nat.le_of_ble_eq_true rfl) dX9_speak_252
                · skip
                  refine lv_aload_n hx hb dX9_speak_194 rfl (lv_at hl 0 rfl) ?_
                  refine lv_aload_n hx hb dX9_speak_195 rfl (lv_at hl 0 rfl) ?_
                  refine o_get (v := .ref (ar 14)) C ho 0 0 rfl rfl rfl 18 fX9_53 rfl dX9_speak_196 ?_
                  refine lv_bipush (v := nI 13) hx hb dX9_speak_199 (by decide) ?_
                  refine lv_iload_n hx hb dX9_speak_201 rfl (lv_at hl 1 rfl) ?_
                  refine o_mul hx hb dX9_speak_202 ?_
                  refine lv_iload hx hb dX9_speak_203 (lv_at hl 3 rfl) ?_
                  refine o_add hx hb dX9_speak_205 ?_
                  refine o_iald (v := nI (by_.getD i 0)) C ho 0 15 rfl rfl 0 rfl ((13 * d) + i) rfl (by omega) (by omega) (q14 i (by omega)) dX9_speak_206 ?_
                  refine lv_bipush (v := nI 8) hx hb dX9_speak_207 (by decide) ?_
                  refine o_callV (wr := []) (rest := []) (As := [.int (nI (by_.getD i 0)), .int (nI 8)]) C (c_M_put la D K h ar ad ck bi (18 + (8 + 8 * i)) (va_up (va_up F1 1 (whP ck (F1 1) 400)) 2 (wrL (F1 2) 0 (hdB ad 3 gd tu ++ ldp (cond be 2 1) by_ i))) (by_.getD i 0) 8 (Nat.lt_trans (qb _) (by decide)) (by first | omega | assumption | (simp only [List.length_append, List.length_cons, List.length_nil, List.length_modify, List.length_set, nb_len, rb_len, rbp_len, sl_len, slN_len, wh_len, wt_len, hd10_len, hdB_len, thr_len, ldp_len, ldB_len, tens_len, whz_len, majL_len, mf_len, tkL_len, ldY_len, fif_len, ldY_len]; omega) | decide) (by first | omega | assumption | (simp only [List.length_append, List.length_cons, List.length_nil, List.length_modify, List.length_set, nb_len, rb_len, rbp_len, sl_len, slN_len, wh_len, wt_len, hd10_len, hdB_len, thr_len, ldp_len, ldB_len, tens_len, whz_len, majL_len, mf_len, tkL_len, ldY_len, fif_len, ldY_len]; omega) | decide)) kX9_114 vX9_put (by decide) rfl ho [0] 1 (by decide +kernel) rfl rfl rfl rfl rfl hl.1 rfl (Nat.le_of_ble_eq_true rfl) dX9_speak_209 0 0 rfl rfl (by decide) (fun v u_25 H locs hq ho => ?_)
                  obtain rfl := hq
                  have ho : ow D vwCl A s.heap H locs [bX K h ar ad ck bi ((18 + (8 + 8 * i)) + 8) (va_up (va_up (va_up F1 1 (whP ck (F1 1) 400)) 2 (wrL (F1 2) 0 (hdB ad 3 gd tu ++ ldp (cond be 2 1) by_ i))) 2 (wrL (wrL (F1 2) 0 (hdB ad 3 gd tu ++ ldp (cond be 2 1) by_ i)) (18 + (8 + 8 * i)) (nb (by_.getD i 0) 8)))] := ho
                  refine W.eq (g2 := F0 m 212 ls []) rfl ?_
                  have e_26 : bX K h ar ad ck bi ((18 + (8 + 8 * i)) + 8) (va_up (va_up (va_up F1 1 (whP ck (F1 1) 400)) 2 (wrL (F1 2) 0 (hdB ad 3 gd tu ++ ldp (cond be 2 1) by_ i))) 2 (wrL (wrL (F1 2) 0 (hdB ad 3 gd tu ++ ldp (cond be 2 1) by_ i)) (18 + (8 + 8 * i)) (nb (by_.getD i 0) 8))) = bX K h ar ad ck bi (18 + (8 + 8 * (i + 1))) (va_up (va_up F1 1 (whP ck (F1 1) 400)) 2 (wrL (F1 2) 0 (hdB ad 3 gd tu ++ ldp (cond be 2 1) by_ (i + 1)))) := by rw [bx_uu, wrL_app (by rw [List.length_append, hdB_len, ldp_len]; omega), ldp_succ, List.append_assoc] <;> rfl
                  have ho : ow D vwCl A s.heap H locs [bX K h ar ad ck bi (18 + (8 + 8 * (i + 1))) (va_up (va_up F1 1 (whP ck (F1 1) 400)) 2 (wrL (F1 2) 0 (hdB ad 3 gd tu ++ ldp (cond be 2 1) by_ (i + 1))))] := by rw [← e_26]; exact ho
                  refine lv_iinc (v := nI (i + 1)) (lv' := [(4, .int (nI (i + 1))), (0, .ref h), (1, .int (nI d)), (3, .int (nI 3))]) hx hb dX9_speak_212 hl (k := 3) rfl (iincN _ _) (by decide) rfl (fun ls hl => ?_)
                  refine lv_goto (tgt := 183) hx hb dX9_speak_215 (by decide) ?_
                  exact ih183 (i + 1) (by omega) (by omega) _ _ _ ho (lv_sub hl [1, 2, 3, 0] rfl)
            exact LP183 (by_.length - 0 + 1) 0 (Nat.lt_succ_self _) (by omega) _ _ _ ho (lv_sub hl [3, 4, 1, 0] rfl)
          cases be
          · skip
            refine o_ifb_eq (tgt := 173) hx hb dX9_speak_166 (by decide) (fun _ => ?_) (fun c9 => absurd c9 (by decide))
            refine lv_iconst (v := nI 1) hx hb dX9_speak_173 (by decide) ?_
            exact J174
          · skip
            refine o_ifb_eq (tgt := 173) hx hb dX9_speak_166 (by decide) (fun c9 => absurd c9 (by decide)) (fun _ => ?_)
            refine lv_iconst (v := nI 2) hx hb dX9_speak_169 (by decide) ?_
            refine lv_goto (tgt := 174) hx hb dX9_speak_170 (by decide) ?_
            exact J174
        cases gd
        · skip
          refine o_ifb_eq (tgt := 118) hx hb dX9_speak_111 (by decide) (fun _ => ?_) (fun c9 => absurd c9 (by decide))
          refine lv_iconst (v := nI 0) hx hb dX9_speak_118 (by decide) ?_
          exact J119
        · skip
          refine o_ifb_eq (tgt := 118) hx hb dX9_speak_111 (by decide) (fun c9 => absurd c9 (by decide)) (fun _ => ?_)
          refine lv_iconst (v := nI 1) hx hb dX9_speak_114 (by decide) ?_
          refine lv_goto (tgt := 119) hx hb dX9_speak_115 (by decide) ?_
          exact J119
    refine lv_aload_n hx hb dX9_speak_0 rfl (lv_at hl 0 rfl) ?_
    refine o_get (v := .ref (ar 5)) C ho 0 0 rfl rfl rfl 9 fX9_25 rfl dX9_speak_1 ?_
    refine lv_iload_n hx hb dX9_speak_4 rfl (lv_at hl 1 rfl) ?_
    refine o_iald (v := F 5 d) C ho 0 6 rfl rfl 0 rfl d rfl (by omega) (by omega) rfl dX9_speak_5 ?_
    refine lv_if_gt (tgt := 24) hx hb dX9_speak_6 (by decide) (fun c_27 => ?_) (fun c_27 => ?_)
    · skip
      exact J24
    · skip
      refine lv_aload_n hx hb dX9_speak_9 rfl (lv_at hl 0 rfl) ?_
      refine o_get (v := .ref (ar 9)) C ho 0 0 rfl rfl rfl 13 fX9_37 rfl dX9_speak_10 ?_
      refine lv_iload_n hx hb dX9_speak_13 rfl (lv_at hl 1 rfl) ?_
      refine o_iald (v := nI at_) C ho 0 10 rfl rfl 0 rfl d rfl (by omega) (by omega) qa dX9_speak_14 ?_
      refine lv_aload_n hx hb dX9_speak_15 rfl (lv_at hl 0 rfl) ?_
      refine o_get (v := .ref (ar 8)) C ho 0 0 rfl rfl rfl 12 fX9_34 rfl dX9_speak_16 ?_
      refine lv_iload_n hx hb dX9_speak_19 rfl (lv_at hl 1 rfl) ?_
      refine o_iald (v := nI sl_) C ho 0 9 rfl rfl 0 rfl d rfl (by omega) (by omega) qs dX9_speak_20 ?_
      refine o_icmp_ge (tgt := 28) hx hb dX9_speak_21 (by decide) (by first | omega | exact and1_lt _) (by first | omega | exact and1_lt _) (fun c_28 => ?_) (fun c_28 => ?_)
      · skip
        exact absurd c_28 (by omega)
      · skip
        exact J24
  · skip
    have qn13 : by_.length ≤ 13 := qn9
    have J24 : W p la e (rmL 4 0 0) s m args below meth c H locs 0 0 Qz (F0 m 24 ls []) := by
      refine lv_iconst (v := nI 1) hx hb dX9_speak_24 (by decide) ?_
      refine lv_goto (tgt := 29) hx hb dX9_speak_25 (by decide) ?_
      refine lv_istore_n (lv' := [(2, .int (nI 1)), (0, .ref h), (1, .int (nI d))]) hx hb dX9_speak_29 rfl hl (by decide) rfl (fun ls hl => ?_)
      refine lv_aload_n hx hb dX9_speak_30 rfl (lv_at hl 1 rfl) ?_
      refine o_get (v := .ref (ar 11)) C ho 0 0 rfl rfl rfl 15 fX9_43 rfl dX9_speak_31 ?_
      refine lv_iload_n hx hb dX9_speak_34 rfl (lv_at hl 2 rfl) ?_
      refine o_iald (v := nI 0) C ho 0 12 rfl rfl 0 rfl d rfl (by omega) (by omega) qz dX9_speak_35 ?_
      refine o_if_ne (tgt := 48) hx hb dX9_speak_36 (by decide) (by decide) (fun c9 => absurd c9 (by decide)) (fun _ => ?_)
      refine lv_iload_n hx hb dX9_speak_39 rfl (lv_at hl 0 rfl) ?_
      refine o_if_eq (tgt := 48) hx hb dX9_speak_40 (by decide) (by decide) (fun c9 => absurd c9 (by decide)) (fun _ => ?_)
      refine lv_aload_n hx hb dX9_speak_43 rfl (lv_at hl 1 rfl) ?_
      refine lv_iload_n hx hb dX9_speak_44 rfl (lv_at hl 2 rfl) ?_
      refine o_callV (wr := []) (rest := []) (As := [.int (nI d)]) C (c_M_newFrameB la D K h ar ad ck bi lo F d true at_ sl_ (!tu) (by first | omega | assumption | (simp only [List.length_append, List.length_cons, List.length_nil, List.length_modify, List.length_set, nb_len, rb_len, rbp_len, sl_len, slN_len, wh_len, wt_len, hd10_len, hdB_len, thr_len, ldp_len, ldB_len, tens_len, whz_len, majL_len, mf_len, tkL_len, ldY_len, fif_len, ldY_len]; omega) | decide) qa qs qp qt (by first | omega | assumption | (simp only [List.length_append, List.length_cons, List.length_nil, List.length_modify, List.length_set, nb_len, rb_len, rbp_len, sl_len, slN_len, wh_len, wt_len, hd10_len, hdB_len, thr_len, ldp_len, ldB_len, tens_len, whz_len, majL_len, mf_len, tkL_len, ldY_len, fif_len, ldY_len]; omega) | decide) (by first | omega | assumption | (simp only [List.length_append, List.length_cons, List.length_nil, List.length_modify, List.length_set, nb_len, rb_len, rbp_len, sl_len, slN_len, wh_len, wt_len, hd10_len, hdB_len, thr_len, ldp_len, ldB_len, tens_len, whz_len, majL_len, mf_len, tkL_len, ldY_len, fif_len, ldY_len]; omega) | decide)) kX9_128 vX9_newFrame (by decide) rfl ho [0] 1 (by decide +kernel) rfl rfl rfl rfl rfl hl.1 rfl (Nat.le_of_ble_eq_true rfl) dX9_speak_45 0 0 rfl rfl (by decide) (fun v u_29 H locs hq ho => ?_)
      obtain rfl := hq
      have ho : ow D vwCl A s.heap H locs [bX K h ar ad ck bi lo (nfF F d true at_ sl_ (!tu))] := ho
      refine W.eq (g2 := F0 m 48 ls []) rfl ?_
      have e_30 : bX K h ar ad ck bi lo (nfF F d true at_ sl_ (!tu)) = bX K h ar ad ck bi lo F1 := by rw [qF]
      have ho : ow D vwCl A s.heap H locs [bX K h ar ad ck bi lo F1] := by rw [← e_30]; exact ho
      refine lv_aload_n hx hb dX9_speak_48 rfl (lv_at hl 1 rfl) ?_
      refine o_get (v := .ref (ar 11)) C ho 0 0 rfl rfl rfl 15 fX9_43 rfl dX9_speak_49 ?_
      refine lv_iload_n hx hb dX9_speak_52 rfl (lv_at hl 2 rfl) ?_
      refine o_iald (v := nI by_.length) C ho 0 12 rfl rfl 0 rfl d rfl (by omega) (by omega) q11 dX9_speak_53 ?_
      refine o_if_le (tgt := 66) hx hb dX9_speak_54 (by decide) (by omega) (fun c_31 => ?_) (fun c_31 => ?_)
      · skip
        exact absurd c_31 (by omega)
      · skip
        refine lv_aload_n hx hb dX9_speak_57 rfl (lv_at hl 1 rfl) ?_
        refine o_get (v := .ref (ar 12)) C ho 0 0 rfl rfl rfl 16 fX9_46 rfl dX9_speak_58 ?_
        refine lv_iload_n hx hb dX9_speak_61 rfl (lv_at hl 2 rfl) ?_
        refine o_iald (v := nI 4) C ho 0 13 rfl rfl 0 rfl d rfl (by omega) (by omega) q12 dX9_speak_62 ?_
        refine lv_goto (tgt := 69) hx hb dX9_speak_63 (by decide) ?_
        refine lv_istore_n (lv' := [(3, .int (nI 4)), (2, .int (nI 1)), (0, .ref h), (1, .int (nI d))]) hx hb dX9_speak_69 rfl hl (by decide) rfl (fun ls hl => ?_)
        refine lv_aload_n hx hb dX9_speak_70 rfl (lv_at hl 2 rfl) ?_
        refine lv_aload_n hx hb dX9_speak_71 rfl (lv_at hl 2 rfl) ?_
        refine o_get (v := .int (nI ck)) C ho 0 0 rfl rfl rfl 1 fX9_131 rfl dX9_speak_72 ?_
        refine o_callV (wr := []) (rest := []) (As := [.int (nI ck)]) C (c_M_whiten la D K h ar ad ck bi lo F1 ck (by first | omega | assumption | (simp only [List.length_append, List.length_cons, List.length_nil, List.length_modify, List.length_set, nb_len, rb_len, rbp_len, sl_len, slN_len, wh_len, wt_len, hd10_len, hdB_len, thr_len, ldp_len, ldB_len, tens_len, whz_len, majL_len, mf_len, tkL_len, ldY_len, fif_len, ldY_len]; omega) | decide)) kX9_134 vX9_whiten (by decide) rfl ho [0] 1 (by decide +kernel) rfl rfl rfl rfl rfl hl.1 rfl (Nat.le_of_ble_eq_true rfl) dX9_speak_75 0 0 rfl rfl (by decide) (fun v u_32 H locs hq ho => ?_)
        obtain rfl := hq
        have ho : ow D vwCl A s.heap H locs [bX K h ar ad ck bi lo (va_up F1 1 (whP ck (F1 1) 400))] := ho
        refine W.eq (g2 := F0 m 78 ls []) rfl ?_
        refine lv_aload_n hx hb dX9_speak_78 rfl (lv_at hl 2 rfl) ?_
        refine lv_iconst (v := nI 0) hx hb dX9_speak_79 (by decide) ?_
        refine o_put (v := .int (nI 0)) (bs' := [bX K h ar ad ck bi 0 (va_up F1 1 (whP ck (F1 1) 400))]) C ho 0 0 rfl rfl rfl 5 fX9_103 pX9_5 rfl rfl (Nat.le_of_ble_eq_true rfl) dX9_speak_80 rfl (fun H locs ho => ?_)
        refine lv_aload_n hx hb dX9_speak_83 rfl (lv_at hl 2 rfl) ?_
        refine lv_aload_n hx hb dX9_speak_84 rfl (lv_at hl 2 rfl) ?_
        refine o_get (v := .int (nI ad)) C ho 0 0 rfl rfl rfl 0 fX9_95 rfl dX9_speak_85 ?_
        refine lv_iconst (v := nI 3) hx hb dX9_speak_88 (by decide) ?_
        refine o_callV (wr := []) (rest := []) (As := [.int (nI ad), .int (nI 3)]) C (c_M_put la D K h ar ad ck bi 0 (va_up F1 1 (whP ck (F1 1) 400)) ad 3 (by first | omega | assumption | (simp only [List.length_append, List.length_cons, List.length_nil, List.length_modify, List.length_set, nb_len, rb_len, rbp_len, sl_len, slN_len, wh_len, wt_len, hd10_len, hdB_len, thr_len, ldp_len, ldB_len, tens_len, whz_len, majL_len, mf_len, tkL_len, ldY_len, fif_len, ldY_len]; omega) | decide) (by first | omega | assumption | (simp only [List.length_append, List.length_cons, List.length_nil, List.length_modify, List.length_set, nb_len, rb_len, rbp_len, sl_len, slN_len, wh_len, wt_len, hd10_len, hdB_len, thr_len, ldp_len, ldB_len, tens_len, whz_len, majL_len, mf_len, tkL_len, ldY_len, fif_len, ldY_len]; omega) | decide) (by first | omega | assumption | (simp only [List.length_append, List.length_cons, List.length_nil, List.length_modify, List.length_set, nb_len, rb_len, rbp_len, sl_len, slN_len, wh_len, wt_len, hd10_len, hdB_len, thr_len, ldp_len, ldB_len, tens_len, whz_len, majL_len, mf_len, tkL_len, ldY_len, fif_len, ldY_len]; omega) | decide)) kX9_114 vX9_put (by decide) rfl ho [0] 1 (by decide +kernel) rfl rfl rfl rfl rfl hl.1 rfl (Nat.le_of_ble_eq_true rfl) dX9_speak_89 0 0 rfl rfl (by decide) (fun v u_33 H locs hq ho => ?_)
        obtain rfl := hq
        have ho : ow D vwCl A s.heap H locs [bX K h ar ad ck bi (0 + 3) (va_up (va_up F1 1 (whP ck (F1 1) 400)) 2 (wrL (F1 2) 0 (nb ad 3)))] := ho
        refine W.eq (g2 := F0 m 92 ls []) rfl ?_
        have e_34 : bX K h ar ad ck bi (0 + 3) (va_up (va_up F1 1 (whP ck (F1 1) 400)) 2 (wrL (F1 2) 0 (nb ad 3))) = bX K h ar ad ck bi 3 (va_up (va_up F1 1 (whP ck (F1 1) 400)) 2 (wrL (F1 2) 0 (([] : List Bool) ++ nb ad 3))) := rfl
        have ho : ow D vwCl A s.heap H locs [bX K h ar ad ck bi 3 (va_up (va_up F1 1 (whP ck (F1 1) 400)) 2 (wrL (F1 2) 0 (([] : List Bool) ++ nb ad 3)))] := by rw [← e_34]; exact ho
        refine lv_aload_n hx hb dX9_speak_92 rfl (lv_at hl 2 rfl) ?_
        refine lv_iload_n hx hb dX9_speak_93 rfl (lv_at hl 0 rfl) ?_
        refine lv_iconst (v := nI 4) hx hb dX9_speak_94 (by decide) ?_
        refine o_callV (wr := []) (rest := []) (As := [.int (nI 4), .int (nI 4)]) C (c_M_put la D K h ar ad ck bi 3 (va_up (va_up F1 1 (whP ck (F1 1) 400)) 2 (wrL (F1 2) 0 (([] : List Bool) ++ nb ad 3))) 4 4 (by first | omega | assumption | (simp only [List.length_append, List.length_cons, List.length_nil, List.length_modify, List.length_set, nb_len, rb_len, rbp_len, sl_len, slN_len, wh_len, wt_len, hd10_len, hdB_len, thr_len, ldp_len, ldB_len, tens_len, whz_len, majL_len, mf_len, tkL_len, ldY_len, fif_len, ldY_len]; omega) | decide) (by first | omega | assumption | (simp only [List.length_append, List.length_cons, List.length_nil, List.length_modify, List.length_set, nb_len, rb_len, rbp_len, sl_len, slN_len, wh_len, wt_len, hd10_len, hdB_len, thr_len, ldp_len, ldB_len, tens_len, whz_len, majL_len, mf_len, tkL_len, ldY_len, fif_len, ldY_len]; omega) | decide) (by first | omega | assumption | (simp only [List.length_append, List.length_cons, List.length_nil, List.length_modify, List.length_set, nb_len, rb_len, rbp_len, sl_len, slN_len, wh_len, wt_len, hd10_len, hdB_len, thr_len, ldp_len, ldB_len, tens_len, whz_len, majL_len, mf_len, tkL_len, ldY_len, fif_len, ldY_len]; omega) | decide)) kX9_114 vX9_put (by decide) rfl ho [0] 1 (by decide +kernel) rfl rfl rfl rfl rfl hl.1 rfl (Nat.le_of_ble_eq_true rfl) dX9_speak_95 0 0 rfl rfl (by decide) (fun v u_35 H locs hq ho => ?_)
        obtain rfl := hq
        have ho : ow D vwCl A s.heap H locs [bX K h ar ad ck bi (3 + 4) (va_up (va_up (va_up F1 1 (whP ck (F1 1) 400)) 2 (wrL (F1 2) 0 (([] : List Bool) ++ nb ad 3))) 2 (wrL (wrL (F1 2) 0 (([] : List Bool) ++ nb ad 3)) 3 (nb 4 4)))] := ho
        refine W.eq (g2 := F0 m 98 ls []) rfl ?_
        have e_36 : bX K h ar ad ck bi (3 + 4) (va_up (va_up (va_up F1 1 (whP ck (F1 1) 400)) 2 (wrL (F1 2) 0 (([] : List Bool) ++ nb ad 3))) 2 (wrL (wrL (F1 2) 0 (([] : List Bool) ++ nb ad 3)) 3 (nb 4 4))) = bX K h ar ad ck bi 7 (va_up (va_up F1 1 (whP ck (F1 1) 400)) 2 (wrL (F1 2) 0 ((([] : List Bool) ++ nb ad 3) ++ nb 4 4))) := by rw [bx_uu, wrL_app (by simp [nb_len])]
        have ho : ow D vwCl A s.heap H locs [bX K h ar ad ck bi 7 (va_up (va_up F1 1 (whP ck (F1 1) 400)) 2 (wrL (F1 2) 0 ((([] : List Bool) ++ nb ad 3) ++ nb 4 4)))] := by rw [← e_36]; exact ho
        refine lv_aload_n hx hb dX9_speak_98 rfl (lv_at hl 2 rfl) ?_
        refine lv_iconst (v := nI 1) hx hb dX9_speak_99 (by decide) ?_
        refine lv_iconst (v := nI 1) hx hb dX9_speak_100 (by decide) ?_
        refine o_callV (wr := []) (rest := []) (As := [.int (nI 1), .int (nI 1)]) C (c_M_put la D K h ar ad ck bi 7 (va_up (va_up F1 1 (whP ck (F1 1) 400)) 2 (wrL (F1 2) 0 ((([] : List Bool) ++ nb ad 3) ++ nb 4 4))) 1 1 (by first | omega | assumption | (simp only [List.length_append, List.length_cons, List.length_nil, List.length_modify, List.length_set, nb_len, rb_len, rbp_len, sl_len, slN_len, wh_len, wt_len, hd10_len, hdB_len, thr_len, ldp_len, ldB_len, tens_len, whz_len, majL_len, mf_len, tkL_len, ldY_len, fif_len, ldY_len]; omega) | decide) (by first | omega | assumption | (simp only [List.length_append, List.length_cons, List.length_nil, List.length_modify, List.length_set, nb_len, rb_len, rbp_len, sl_len, slN_len, wh_len, wt_len, hd10_len, hdB_len, thr_len, ldp_len, ldB_len, tens_len, whz_len, majL_len, mf_len, tkL_len, ldY_len, fif_len, ldY_len]; omega) | decide) (by first | omega | assumption | (simp only [List.length_append, List.length_cons, List.length_nil, List.length_modify, List.length_set, nb_len, rb_len, rbp_len, sl_len, slN_len, wh_len, wt_len, hd10_len, hdB_len, thr_len, ldp_len, ldB_len, tens_len, whz_len, majL_len, mf_len, tkL_len, ldY_len, fif_len, ldY_len]; omega) | decide)) kX9_114 vX9_put (by decide) rfl ho [0] 1 (by decide +kernel) rfl rfl rfl rfl rfl hl.1 rfl (Nat.le_of_ble_eq_true rfl) dX9_speak_101 0 0 rfl rfl (by decide) (fun v u_37 H locs hq ho => ?_)
        obtain rfl := hq
        have ho : ow D vwCl A s.heap H locs [bX K h ar ad ck bi (7 + 1) (va_up (va_up (va_up F1 1 (whP ck (F1 1) 400)) 2 (wrL (F1 2) 0 ((([] : List Bool) ++ nb ad 3) ++ nb 4 4))) 2 (wrL (wrL (F1 2) 0 ((([] : List Bool) ++ nb ad 3) ++ nb 4 4)) 7 (nb 1 1)))] := ho
        refine W.eq (g2 := F0 m 104 ls []) rfl ?_
        have e_38 : bX K h ar ad ck bi (7 + 1) (va_up (va_up (va_up F1 1 (whP ck (F1 1) 400)) 2 (wrL (F1 2) 0 ((([] : List Bool) ++ nb ad 3) ++ nb 4 4))) 2 (wrL (wrL (F1 2) 0 ((([] : List Bool) ++ nb ad 3) ++ nb 4 4)) 7 (nb 1 1))) = bX K h ar ad ck bi 8 (va_up (va_up F1 1 (whP ck (F1 1) 400)) 2 (wrL (F1 2) 0 (((([] : List Bool) ++ nb ad 3) ++ nb 4 4) ++ [true]))) := by rw [bx_uu, wrL_app (by simp [nb_len])] <;> rfl
        have ho : ow D vwCl A s.heap H locs [bX K h ar ad ck bi 8 (va_up (va_up F1 1 (whP ck (F1 1) 400)) 2 (wrL (F1 2) 0 (((([] : List Bool) ++ nb ad 3) ++ nb 4 4) ++ [true])))] := by rw [← e_38]; exact ho
        refine lv_aload_n hx hb dX9_speak_104 rfl (lv_at hl 2 rfl) ?_
        refine lv_aload_n hx hb dX9_speak_105 rfl (lv_at hl 2 rfl) ?_
        refine o_get (v := .ref (ar 24)) C ho 0 0 rfl rfl rfl 28 fX9_83 rfl dX9_speak_106 ?_
        refine lv_iload_n hx hb dX9_speak_109 rfl (lv_at hl 3 rfl) ?_
        refine o_zald (v := bI gd) C ho 0 25 rfl rfl 3 rfl d rfl (by omega) (by decide) q24 dX9_speak_110 ?_
        have J119 : W p la e (rmL 4 0 0) s m args below meth c H locs 0 0 Qz (F0 m 119 ls [.int (nI gd.toNat), .ref h]) := by
          refine lv_iconst (v := nI 1) hx hb dX9_speak_119 (by decide) ?_
          refine o_callV (wr := []) (rest := []) (As := [.int (nI gd.toNat), .int (nI 1)]) C (c_M_put la D K h ar ad ck bi 8 (va_up (va_up F1 1 (whP ck (F1 1) 400)) 2 (wrL (F1 2) 0 (((([] : List Bool) ++ nb ad 3) ++ nb 4 4) ++ [true]))) gd.toNat 1 (tN_lt _) (by first | omega | assumption | (simp only [List.length_append, List.length_cons, List.length_nil, List.length_modify, List.length_set, nb_len, rb_len, rbp_len, sl_len, slN_len, wh_len, wt_len, hd10_len, hdB_len, thr_len, ldp_len, ldB_len, tens_len, whz_len, majL_len, mf_len, tkL_len, ldY_len, fif_len, ldY_len]; omega) | decide) (by first | omega | assumption | (simp only [List.length_append, List.length_cons, List.length_nil, List.length_modify, List.length_set, nb_len, rb_len, rbp_len, sl_len, slN_len, wh_len, wt_len, hd10_len, hdB_len, thr_len, ldp_len, ldB_len, tens_len, whz_len, majL_len, mf_len, tkL_len, ldY_len, fif_len, ldY_len]; omega) | decide)) kX9_114 vX9_put (by decide) rfl ho [0] 1 (by decide +kernel) rfl rfl rfl rfl rfl hl.1 rfl (Nat.le_of_ble_eq_true rfl) dX9_speak_120 0 0 rfl rfl (by decide) (fun v u_39 H locs hq ho => ?_)
          obtain rfl := hq
          have ho : ow D vwCl A s.heap H locs [bX K h ar ad ck bi (8 + 1) (va_up (va_up (va_up F1 1 (whP ck (F1 1) 400)) 2 (wrL (F1 2) 0 (((([] : List Bool) ++ nb ad 3) ++ nb 4 4) ++ [true]))) 2 (wrL (wrL (F1 2) 0 (((([] : List Bool) ++ nb ad 3) ++ nb 4 4) ++ [true])) 8 (nb gd.toNat 1)))] := ho
          refine W.eq (g2 := F0 m 123 ls []) rfl ?_
          have e_40 : bX K h ar ad ck bi (8 + 1) (va_up (va_up (va_up F1 1 (whP ck (F1 1) 400)) 2 (wrL (F1 2) 0 (((([] : List Bool) ++ nb ad 3) ++ nb 4 4) ++ [true]))) 2 (wrL (wrL (F1 2) 0 (((([] : List Bool) ++ nb ad 3) ++ nb 4 4) ++ [true])) 8 (nb gd.toNat 1))) = bX K h ar ad ck bi 9 (va_up (va_up F1 1 (whP ck (F1 1) 400)) 2 (wrL (F1 2) 0 ((((([] : List Bool) ++ nb ad 3) ++ nb 4 4) ++ [true]) ++ [gd]))) := by rw [bx_uu, wrL_app (by simp [nb_len]), nb_b]
          have ho : ow D vwCl A s.heap H locs [bX K h ar ad ck bi 9 (va_up (va_up F1 1 (whP ck (F1 1) 400)) 2 (wrL (F1 2) 0 ((((([] : List Bool) ++ nb ad 3) ++ nb 4 4) ++ [true]) ++ [gd])))] := by rw [← e_40]; exact ho
          refine lv_aload_n hx hb dX9_speak_123 rfl (lv_at hl 2 rfl) ?_
          refine lv_aload_n hx hb dX9_speak_124 rfl (lv_at hl 2 rfl) ?_
          refine o_get (v := .ref (ar 22)) C ho 0 0 rfl rfl rfl 26 fX9_77 rfl dX9_speak_125 ?_
          refine lv_iload_n hx hb dX9_speak_128 rfl (lv_at hl 3 rfl) ?_
          refine o_iald (v := nI tu.toNat) C ho 0 23 rfl rfl 0 rfl d rfl (by omega) (by omega) (q22.trans (bI_N _)) dX9_speak_129 ?_
          refine lv_iconst (v := nI 1) hx hb dX9_speak_130 (by decide) ?_
          refine o_callV (wr := []) (rest := []) (As := [.int (nI tu.toNat), .int (nI 1)]) C (c_M_put la D K h ar ad ck bi 9 (va_up (va_up F1 1 (whP ck (F1 1) 400)) 2 (wrL (F1 2) 0 ((((([] : List Bool) ++ nb ad 3) ++ nb 4 4) ++ [true]) ++ [gd]))) tu.toNat 1 (tN_lt _) (by first | omega | assumption | (simp only [List.length_append, List.length_cons, List.length_nil, List.length_modify, List.length_set, nb_len, rb_len, rbp_len, sl_len, slN_len, wh_len, wt_len, hd10_len, hdB_len, thr_len, ldp_len, ldB_len, tens_len, whz_len, majL_len, mf_len, tkL_len, ldY_len, fif_len, ldY_len]; omega) | decide) (by first | omega | assumption | (simp only [List.length_append, List.length_cons, List.length_nil, List.length_modify, List.length_set, nb_len, rb_len, rbp_len, sl_len, slN_len, wh_len, wt_len, hd10_len, hdB_len, thr_len, ldp_len, ldB_len, tens_len, whz_len, majL_len, mf_len, tkL_len, ldY_len, fif_len, ldY_len]; omega) | decide)) kX9_114 vX9_put (by decide) rfl ho [0] 1 (by decide +kernel) rfl rfl rfl rfl rfl hl.1 rfl (Nat.le_of_ble_eq_true rfl) dX9_speak_131 0 0 rfl rfl (by decide) (fun v u_41 H locs hq ho => ?_)
          obtain rfl := hq
          have ho : ow D vwCl A s.heap H locs [bX K h ar ad ck bi (9 + 1) (va_up (va_up (va_up F1 1 (whP ck (F1 1) 400)) 2 (wrL (F1 2) 0 ((((([] : List Bool) ++ nb ad 3) ++ nb 4 4) ++ [true]) ++ [gd]))) 2 (wrL (wrL (F1 2) 0 ((((([] : List Bool) ++ nb ad 3) ++ nb 4 4) ++ [true]) ++ [gd])) 9 (nb tu.toNat 1)))] := ho
          refine W.eq (g2 := F0 m 134 ls []) rfl ?_
          have e_42 : bX K h ar ad ck bi (9 + 1) (va_up (va_up (va_up F1 1 (whP ck (F1 1) 400)) 2 (wrL (F1 2) 0 ((((([] : List Bool) ++ nb ad 3) ++ nb 4 4) ++ [true]) ++ [gd]))) 2 (wrL (wrL (F1 2) 0 ((((([] : List Bool) ++ nb ad 3) ++ nb 4 4) ++ [true]) ++ [gd])) 9 (nb tu.toNat 1))) = bX K h ar ad ck bi 10 (va_up (va_up F1 1 (whP ck (F1 1) 400)) 2 (wrL (F1 2) 0 (hd10 ad 4 gd tu))) := by rw [bx_uu, wrL_app (by simp [nb_len]), nb_b] <;> rfl
          have ho : ow D vwCl A s.heap H locs [bX K h ar ad ck bi 10 (va_up (va_up F1 1 (whP ck (F1 1) 400)) 2 (wrL (F1 2) 0 (hd10 ad 4 gd tu)))] := by rw [← e_42]; exact ho
          refine lv_aload_n hx hb dX9_speak_134 rfl (lv_at hl 2 rfl) ?_
          refine lv_iconst (v := nI 0) hx hb dX9_speak_135 (by decide) ?_
          refine lv_bipush (v := nI 10) hx hb dX9_speak_136 (by decide) ?_
          refine lv_sipush (v := nI 423) hx hb dX9_speak_138 (by decide) ?_
          refine lv_bipush (v := nI 8) hx hb dX9_speak_141 (by decide) ?_
          refine o_callV (wr := []) (rest := []) (As := [.int (nI 0), .int (nI 10), .int (nI 423), .int (nI 8)]) C (c_M_putRem la D K h ar ad ck bi 10 (va_up (va_up F1 1 (whP ck (F1 1) 400)) 2 (wrL (F1 2) 0 (hd10 ad 4 gd tu))) 0 10 423 8 (hd10 ad 4 gd tu) (fun i hi => by rw [Nat.zero_add, va_up_self]; exact wrL_in0 hi) (by rw [hd10_len]) (by first | omega | assumption | (simp only [List.length_append, List.length_cons, List.length_nil, List.length_modify, List.length_set, nb_len, rb_len, rbp_len, sl_len, slN_len, wh_len, wt_len, hd10_len, hdB_len, thr_len, ldp_len, ldB_len, tens_len, whz_len, majL_len, mf_len, tkL_len, ldY_len, fif_len, ldY_len]; omega) | decide) (by first | omega | assumption | (simp only [List.length_append, List.length_cons, List.length_nil, List.length_modify, List.length_set, nb_len, rb_len, rbp_len, sl_len, slN_len, wh_len, wt_len, hd10_len, hdB_len, thr_len, ldp_len, ldB_len, tens_len, whz_len, majL_len, mf_len, tkL_len, ldY_len, fif_len, ldY_len]; omega) | decide) (by first | omega | assumption | (simp only [List.length_append, List.length_cons, List.length_nil, List.length_modify, List.length_set, nb_len, rb_len, rbp_len, sl_len, slN_len, wh_len, wt_len, hd10_len, hdB_len, thr_len, ldp_len, ldB_len, tens_len, whz_len, majL_len, mf_len, tkL_len, ldY_len, fif_len, ldY_len]; omega) | decide) (by first | omega | assumption | (simp only [List.length_append, List.length_cons, List.length_nil, List.length_modify, List.length_set, nb_len, rb_len, rbp_len, sl_len, slN_len, wh_len, wt_len, hd10_len, hdB_len, thr_len, ldp_len, ldB_len, tens_len, whz_len, majL_len, mf_len, tkL_len, ldY_len, fif_len, ldY_len]; omega) | decide) (by decide) (by decide) pw423 (by first | omega | assumption | (simp only [List.length_append, List.length_cons, List.length_nil, List.length_modify, List.length_set, nb_len, rb_len, rbp_len, sl_len, slN_len, wh_len, wt_len, hd10_len, hdB_len, thr_len, ldp_len, ldB_len, tens_len, whz_len, majL_len, mf_len, tkL_len, ldY_len, fif_len, ldY_len]; omega) | decide)) kX9_137 vX9_putRem (by decide) rfl ho [0] 1 (by decide +kernel) rfl rfl rfl rfl rfl hl.1 rfl (Nat.le_of_ble_eq_true rfl) dX9_speak_143 0 0 rfl rfl (by decide) (fun v u_43 H locs hq ho => ?_)
          obtain rfl := hq
          have ho : ow D vwCl A s.heap H locs [bX K h ar ad ck bi (10 + 8) (va_up (va_up (va_up F1 1 (whP ck (F1 1) 400)) 2 (wrL (F1 2) 0 (hd10 ad 4 gd tu))) 2 (wrL (wrL (F1 2) 0 (hd10 ad 4 gd tu)) 10 (rb (crc 423 8 (hd10 ad 4 gd tu)) 8)))] := ho
          refine W.eq (g2 := F0 m 146 ls []) rfl ?_
          have e_44 : bX K h ar ad ck bi (10 + 8) (va_up (va_up (va_up F1 1 (whP ck (F1 1) 400)) 2 (wrL (F1 2) 0 (hd10 ad 4 gd tu))) 2 (wrL (wrL (F1 2) 0 (hd10 ad 4 gd tu)) 10 (rb (crc 423 8 (hd10 ad 4 gd tu)) 8))) = bX K h ar ad ck bi 18 (va_up (va_up F1 1 (whP ck (F1 1) 400)) 2 (wrL (F1 2) 0 (hdB ad 4 gd tu))) := by rw [bx_uu, wrL_app (by rw [hd10_len]), hdB_eq]
          have ho : ow D vwCl A s.heap H locs [bX K h ar ad ck bi 18 (va_up (va_up F1 1 (whP ck (F1 1) 400)) 2 (wrL (F1 2) 0 (hdB ad 4 gd tu)))] := by rw [← e_44]; exact ho
          refine lv_iload_n hx hb dX9_speak_146 rfl (lv_at hl 0 rfl) ?_
          refine lv_iconst (v := nI 2) hx hb dX9_speak_147 (by decide) ?_
          refine o_icmp_le (tgt := 232) hx hb dX9_speak_148 (by decide) (by decide) (by decide) (fun c9 => absurd c9 (by decide)) (fun _ => ?_)
          refine lv_aload_n hx hb dX9_speak_151 rfl (lv_at hl 2 rfl) ?_
          refine lv_iconst (v := nI 4) hx hb dX9_speak_152 (by decide) ?_
          refine lv_aload_n hx hb dX9_speak_153 rfl (lv_at hl 2 rfl) ?_
          refine o_get (v := .ref (ar 11)) C ho 0 0 rfl rfl rfl 15 fX9_43 rfl dX9_speak_154 ?_
          refine lv_iload_n hx hb dX9_speak_157 rfl (lv_at hl 3 rfl) ?_
          refine o_iald (v := nI by_.length) C ho 0 12 rfl rfl 0 rfl d rfl (by omega) (by omega) q11 dX9_speak_158 ?_
          refine o_mul hx hb dX9_speak_159 ?_
          refine lv_aload_n hx hb dX9_speak_160 rfl (lv_at hl 2 rfl) ?_
          refine o_get (v := .ref (ar 13)) C ho 0 0 rfl rfl rfl 17 fX9_49 rfl dX9_speak_161 ?_
          refine lv_iload_n hx hb dX9_speak_164 rfl (lv_at hl 3 rfl) ?_
          refine o_zald (v := bI be) C ho 0 14 rfl rfl 3 rfl d rfl (by omega) (by decide) q13 dX9_speak_165 ?_
          have J174 : W p la e (rmL 4 0 0) s m args below meth c H locs 0 0 Qz (F0 m 174 ls [.int (nI (cond be 2 1)), .int (nI (4 * by_.length)), .ref h]) := by
            refine o_add hx hb dX9_speak_174 ?_
            refine lv_bipush (v := nI 8) hx hb dX9_speak_175 (by decide) ?_
            refine o_callV (wr := []) (rest := []) (As := [.int (nI ((4 * by_.length) + (cond be 2 1))), .int (nI 8)]) C (c_M_put la D K h ar ad ck bi 18 (va_up (va_up F1 1 (whP ck (F1 1) 400)) 2 (wrL (F1 2) 0 (hdB ad 4 gd tu))) ((4 * by_.length) + (cond be 2 1)) 8 (by first | omega | assumption | (simp only [List.length_append, List.length_cons, List.length_nil, List.length_modify, List.length_set, nb_len, rb_len, rbp_len, sl_len, slN_len, wh_len, wt_len, hd10_len, hdB_len, thr_len, ldp_len, ldB_len, tens_len, whz_len, majL_len, mf_len, tkL_len, ldY_len, fif_len, ldY_len]; omega) | decide) (by first | omega | assumption | (simp only [List.length_append, List.length_cons, List.length_nil, List.length_modify, List.length_set, nb_len, rb_len, rbp_len, sl_len, slN_len, wh_len, wt_len, hd10_len, hdB_len, thr_len, ldp_len, ldB_len, tens_len, whz_len, majL_len, mf_len, tkL_len, ldY_len, fif_len, ldY_len]; omega) | decide) (by first | omega | assumption | (simp only [List.length_append, List.length_cons, List.length_nil, List.length_modify, List.length_set, nb_len, rb_len, rbp_len, sl_len, slN_len, wh_len, wt_len, hd10_len, hdB_len, thr_len, ldp_len, ldB_len, tens_len, whz_len, majL_len, mf_len, tkL_len, ldY_len, fif_len, ldY_len]; omega) | decide)) kX9_114 vX9_put (by decide) rfl ho [0] 1 (by decide +kernel) rfl rfl rfl rfl rfl hl.1 rfl (Nat.le_of_ble_eq_true rfl) dX9_speak_177 0 0 rfl rfl (by decide) (fun v u_45 H locs hq ho => ?_)
            obtain rfl := hq
            have ho : ow D vwCl A s.heap H locs [bX K h ar ad ck bi (18 + 8) (va_up (va_up (va_up F1 1 (whP ck (F1 1) 400)) 2 (wrL (F1 2) 0 (hdB ad 4 gd tu))) 2 (wrL (wrL (F1 2) 0 (hdB ad 4 gd tu)) 18 (nb ((4 * by_.length) + (cond be 2 1)) 8)))] := ho
            refine W.eq (g2 := F0 m 180 ls []) rfl ?_
            have e_46 : bX K h ar ad ck bi (18 + 8) (va_up (va_up (va_up F1 1 (whP ck (F1 1) 400)) 2 (wrL (F1 2) 0 (hdB ad 4 gd tu))) 2 (wrL (wrL (F1 2) 0 (hdB ad 4 gd tu)) 18 (nb ((4 * by_.length) + (cond be 2 1)) 8))) = bX K h ar ad ck bi (18 + (8 + 8 * 0)) (va_up (va_up F1 1 (whP ck (F1 1) 400)) 2 (wrL (F1 2) 0 (hdB ad 4 gd tu ++ ldp (cond be 2 1) by_ 0))) := by rw [bx_uu, wrL_app (by rw [hdB_len]), ldp_0]
            have ho : ow D vwCl A s.heap H locs [bX K h ar ad ck bi (18 + (8 + 8 * 0)) (va_up (va_up F1 1 (whP ck (F1 1) 400)) 2 (wrL (F1 2) 0 (hdB ad 4 gd tu ++ ldp (cond be 2 1) by_ 0)))] := by rw [← e_46]; exact ho
            refine lv_iconst (v := nI 0) hx hb dX9_speak_180 (by decide) ?_
            refine lv_istore (lv' := [(4, .int (nI 0)), (3, .int (nI 4)), (2, .int (nI 1)), (0, .ref h), (1, .int (nI d))]) hx hb dX9_speak_181 hl (by decide) rfl (fun ls hl => ?_)
            have LP183 : ∀ (fuel : Nat) (i : Nat) (_ : by_.length - i < fuel) (_ : i ≤ by_.length) (H : Heap) (locs : List Loc) (ls : Array Slot) (_ : ow D vwCl A s.heap H locs [bX K h ar ad ck bi (18 + (8 + 8 * i)) (va_up (va_up F1 1 (whP ck (F1 1) 400)) 2 (wrL (F1 2) 0 (hdB ad 4 gd tu ++ ldp (cond be 2 1) by_ i)))]) (_ : lv_has ls 5 [(0, .ref h), (1, .int (nI d)), (3, .int (nI 4)), (4, .int (nI i))]), W p la e (rmL 4 0 0) s m args below meth c H locs 0 0 Qz (F0 m 183 ls []) := by
              intro fuel
              induction fuel with
              | zero => intro i h0; exact absurd h0 (Nat.not_lt_zero _)
              | succ fuel ih183 =>
                intro i hfu hi H locs ls ho hl
                refine lv_iload hx hb dX9_speak_183 (lv_at hl 3 rfl) ?_
                refine lv_aload_n hx hb dX9_speak_185 rfl (lv_at hl 0 rfl) ?_
                refine o_get (v := .ref (ar 11)) C ho 0 0 rfl rfl rfl 15 fX9_43 rfl dX9_speak_186 ?_
                refine lv_iload_n hx hb dX9_speak_189 rfl (lv_at hl 1 rfl) ?_
                refine o_iald (v := nI by_.length) C ho 0 12 rfl rfl 0 rfl d rfl (by omega) (by omega) q11 dX9_speak_190 ?_
                refine o_icmp_ge (tgt := 218) hx hb dX9_speak_191 (by decide) (by first | omega | exact and1_lt _) (by first | omega | exact and1_lt _) (fun c_47 => ?_) (fun c_47 => ?_)
                · skip
                  have e_48 : bX K h ar ad ck bi (18 + (8 + 8 * i)) (va_up (va_up F1 1 (whP ck (F1 1) 400)) 2 (wrL (F1 2) 0 (hdB ad 4 gd tu ++ ldp (cond be 2 1) by_ i))) = bX K h ar ad ck bi (18 + (8 + 8 * by_.length)) (va_up (va_up F1 1 (whP ck (F1 1) 400)) 2 (wrL (F1 2) 0 (hdB ad 4 gd tu ++ ldp (cond be 2 1) by_ by_.length))) := by rw [show i = by_.length by omega]
                  have ho : ow D vwCl A s.heap H locs [bX K h ar ad ck bi (18 + (8 + 8 * by_.length)) (va_up (va_up F1 1 (whP ck (F1 1) 400)) 2 (wrL (F1 2) 0 (hdB ad 4 gd tu ++ ldp (cond be 2 1) by_ by_.length)))] := by rw [← e_48]; exact ho
                  refine lv_aload_n hx hb dX9_speak_218 rfl (lv_at hl 0 rfl) ?_
                  refine lv_bipush (v := nI 18) hx hb dX9_speak_219 (by decide) ?_
                  refine lv_aload_n hx hb dX9_speak_221 rfl (lv_at hl 0 rfl) ?_
                  refine o_get (v := .int (nI (18 + (8 + 8 * by_.length)))) C ho 0 0 rfl rfl rfl 5 fX9_103 rfl dX9_speak_222 ?_
                  refine lv_ldc (v := nI 69665) hx hb C.1.2.2.2.1 (C.1.2.2.2.2 _ mX9_k141) dX9_speak_225 ?_
                  refine lv_bipush (v := nI 16) hx hb dX9_speak_227 (by decide) ?_
                  refine o_callV (wr := []) (rest := []) (As := [.int (nI 18), .int (nI (18 + (8 + 8 * by_.length))), .int (nI 69665), .int (nI 16)]) C (c_M_putRem la D K h ar ad ck bi (18 + (8 + 8 * by_.length)) (va_up (va_up F1 1 (whP ck (F1 1) 400)) 2 (wrL (F1 2) 0 (hdB ad 4 gd tu ++ ldp (cond be 2 1) by_ by_.length))) 18 (18 + (8 + 8 * by_.length)) 69665 16 (ldp (cond be 2 1) by_ by_.length) (fun i hi => by rw [va_up_self]; exact wrL_r (hdB_len _ _ _ _) hi) (by rw [ldp_len]) (by first | omega | assumption | (simp only [List.length_append, List.length_cons, List.length_nil, List.length_modify, List.length_set, nb_len, rb_len, rbp_len, sl_len, slN_len, wh_len, wt_len, hd10_len, hdB_len, thr_len, ldp_len, ldB_len, tens_len, whz_len, majL_len, mf_len, tkL_len, ldY_len, fif_len, ldY_len]; omega) | decide) (by first | omega | assumption | (simp only [List.length_append, List.length_cons, List.length_nil, List.length_modify, List.length_set, nb_len, rb_len, rbp_len, sl_len, slN_len, wh_len, wt_len, hd10_len, hdB_len, thr_len, ldp_len, ldB_len, tens_len, whz_len, majL_len, mf_len, tkL_len, ldY_len, fif_len, ldY_len]; omega) | decide) (by first | omega | assumption | (simp only [List.length_append, List.length_cons, List.length_nil, List.length_modify, List.length_set, nb_len, rb_len, rbp_len, sl_len, slN_len, wh_len, wt_len, hd10_len, hdB_len, thr_len, ldp_len, ldB_len, tens_len, whz_len, majL_len, mf_len, tkL_len, ldY_len, fif_len, ldY_len]; omega) | decide) (by first | omega | assumption | (simp only [List.length_append, List.length_cons, List.length_nil, List.length_modify, List.length_set, nb_len, rb_len, rbp_len, sl_len, slN_len, wh_len, wt_len, hd10_len, hdB_len, thr_len, ldp_len, ldB_len, tens_len, whz_len, majL_len, mf_len, tkL_len, ldY_len, fif_len, ldY_len]; omega) | decide) (by decide) (by decide) pw69665 (by first | omega | assumption | (simp only [List.length_append, List.length_cons, List.length_nil, List.length_modify, List.length_set, nb_len, rb_len, rbp_len, sl_len, slN_len, wh_len, wt_len, hd10_len, hdB_len, thr_len, ldp_len, ldB_len, tens_len, whz_len, majL_len, mf_len, tkL_len, ldY_len, fif_len, ldY_len]; omega) | decide)) kX9_137 vX9_putRem (by decide) rfl ho [0] 1 (by decide +kernel) rfl rfl rfl rfl rfl hl.1 rfl (Nat.le_of_ble_eq_true rfl) dX9_speak_229 0 0 rfl rfl (by decide) (fun v u_49 H locs hq ho => ?_)
                  obtain rfl := hq
                  have ho : ow D vwCl A s.heap H locs [bX K h ar ad ck bi ((18 + (8 + 8 * by_.length)) + 16) (va_up (va_up (va_up F1 1 (whP ck (F1 1) 400)) 2 (wrL (F1 2) 0 (hdB ad 4 gd tu ++ ldp (cond be 2 1) by_ by_.length))) 2 (wrL (wrL (F1 2) 0 (hdB ad 4 gd tu ++ ldp (cond be 2 1) by_ by_.length)) (18 + (8 + 8 * by_.length)) (rb (crc 69665 16 (ldp (cond be 2 1) by_ by_.length)) 16)))] := ho
                  refine W.eq (g2 := F0 m 232 ls []) rfl ?_
                  have e_50 : bX K h ar ad ck bi ((18 + (8 + 8 * by_.length)) + 16) (va_up (va_up (va_up F1 1 (whP ck (F1 1) 400)) 2 (wrL (F1 2) 0 (hdB ad 4 gd tu ++ ldp (cond be 2 1) by_ by_.length))) 2 (wrL (wrL (F1 2) 0 (hdB ad 4 gd tu ++ ldp (cond be 2 1) by_ by_.length)) (18 + (8 + 8 * by_.length)) (rb (crc 69665 16 (ldp (cond be 2 1) by_ by_.length)) 16))) = bX K h ar ad ck bi ((18 + (8 + 8 * by_.length)) + 16) (va_up (va_up F1 1 (whP ck (F1 1) 400)) 2 (wrL (F1 2) 0 (hdB ad 4 gd tu ++ ldB (cond be 2 1) by_))) := by rw [bx_uu, wrL_app (by rw [List.length_append, hdB_len, ldp_len]; omega), ldB_eq, List.append_assoc]
                  have ho : ow D vwCl A s.heap H locs [bX K h ar ad ck bi ((18 + (8 + 8 * by_.length)) + 16) (va_up (va_up F1 1 (whP ck (F1 1) 400)) 2 (wrL (F1 2) 0 (hdB ad 4 gd tu ++ ldB (cond be 2 1) by_)))] := by rw [← e_50]; exact ho
                  have hlB := ldB_len (cond be 2 1) by_
                  refine lv_aload_n hx hb dX9_speak_232 rfl (lv_at hl 0 rfl) ?_
                  refine lv_iload_n hx hb dX9_speak_233 rfl (lv_at hl 2 rfl) ?_
                  refine o_callV (wr := []) (rest := []) (As := [.int (nI 4)]) C (c_M_sendBits4 la D K h ar ad ck bi ((18 + (8 + 8 * by_.length)) + 16) (va_up (va_up F1 1 (whP ck (F1 1) 400)) 2 (wrL (F1 2) 0 (hdB ad 4 gd tu ++ ldB (cond be 2 1) by_))) ck (hdB ad 4 gd tu) (ldB (cond be 2 1) by_) (fun i hi => whP_in hi) (fun i hi => wrL_l (hdB_len _ _ _ _) hi) (hdB_len _ _ _ _) (fun i hi => wrL_r (hdB_len _ _ _ _) hi) (by rw [ldB_len]; omega) (by rw [ldB_len]; omega)) kX9_142 vX9_sendBits (by decide) rfl ho [0] 1 (by decide +kernel) rfl rfl rfl rfl rfl hl.1 rfl (Nat.le_of_ble_eq_true rfl) dX9_speak_234 0 0 rfl rfl (by decide) (fun v u_51 H locs hq ho => ?_)
                  obtain rfl := hq
                  have ho : ow D vwCl A s.heap H locs [bX K h ar ad ck (54 + (ldB (cond be 2 1) by_).length) ((18 + (8 + 8 * by_.length)) + 16) (va_up (va_up (va_up (va_up F1 1 (whP ck (F1 1) 400)) 2 (wrL (F1 2) 0 (hdB ad 4 gd tu ++ ldB (cond be 2 1) by_))) 0 (wrL (F1 0) 0 (thr (whz (hdB ad 4 gd tu) (wt ck) 0) 54 ++ sl (whz (ldB (cond be 2 1) by_) (wt ck) 18) 0 (ldB (cond be 2 1) by_).length))) 2 (u_51))] := ho
                  refine W.eq (g2 := F0 m 237 ls []) rfl ?_
                  have e_52 : bX K h ar ad ck (54 + (ldB (cond be 2 1) by_).length) ((18 + (8 + 8 * by_.length)) + 16) (va_up (va_up (va_up (va_up F1 1 (whP ck (F1 1) 400)) 2 (wrL (F1 2) 0 (hdB ad 4 gd tu ++ ldB (cond be 2 1) by_))) 0 (wrL (F1 0) 0 (thr (whz (hdB ad 4 gd tu) (wt ck) 0) 54 ++ sl (whz (ldB (cond be 2 1) by_) (wt ck) 18) 0 (ldB (cond be 2 1) by_).length))) 2 (u_51)) = bX K h ar ad ck ((airW ck ad 4 gd tu (cond be 2 1) by_).length) ((18 + (8 + 8 * by_.length)) + 16) (va_up (va_up (va_up F1 1 (whP ck (F1 1) 400)) 0 (wrL (F1 0) 0 (airW ck ad 4 gd tu (cond be 2 1) by_))) 2 (u_51)) := by rw [airW_l4 ck ad gd tu (cond be 2 1) by_, airW_4 ck ad gd tu (cond be 2 1) by_, up_c202]
                  have ho : ow D vwCl A s.heap H locs [bX K h ar ad ck ((airW ck ad 4 gd tu (cond be 2 1) by_).length) ((18 + (8 + 8 * by_.length)) + 16) (va_up (va_up (va_up F1 1 (whP ck (F1 1) 400)) 0 (wrL (F1 0) 0 (airW ck ad 4 gd tu (cond be 2 1) by_))) 2 (u_51))] := by rw [← e_52]; exact ho
                  refine lv_aload_n hx hb dX9_speak_237 rfl (lv_at hl 0 rfl) ?_
                  refine o_get (v := .ref (ar 24)) C ho 0 0 rfl rfl rfl 28 fX9_83 rfl dX9_speak_238 ?_
                  refine lv_iload_n hx hb dX9_speak_241 rfl (lv_at hl 1 rfl) ?_
                  refine lv_iconst (v := nI 0) hx hb dX9_speak_242 (by decide) ?_
                  refine o_top (y := bI false) (rfl) ?_
                  refine o_zast (bs' := [bX K h ar ad ck ((airW ck ad 4 gd tu (cond be 2 1) by_).length) ((18 + (8 + 8 * by_.length)) + 16) (va_up (va_up (va_up (va_up F1 1 (whP ck (F1 1) 400)) 0 (wrL (F1 0) 0 (airW ck ad 4 gd tu (cond be 2 1) by_))) 2 (u_51)) 24 (upd (F1 24) d (bI false)))]) C ho 0 25 rfl rfl 3 rfl d rfl (by omega) (by decide) dX9_speak_243 rfl (fun H locs ho => ?_)
                  refine lv_aload_n hx hb dX9_speak_244 rfl (lv_at hl 0 rfl) ?_
                  refine o_get (v := .ref (ar 25)) C ho 0 0 rfl rfl rfl 29 fX9_86 rfl dX9_speak_245 ?_
                  refine lv_iload_n hx hb dX9_speak_248 rfl (lv_at hl 1 rfl) ?_
                  refine lv_iconst (v := nI 0) hx hb dX9_speak_249 (by decide) ?_
                  refine o_top (y := bI false) (rfl) ?_
                  refine o_zast (bs' := [bX K h ar ad ck ((airW ck ad 4 gd tu (cond be 2 1) by_).length) ((18 + (8 + 8 * by_.length)) + 16) (va_up (va_up (va_up (va_up (va_up F1 1 (whP ck (F1 1) 400)) 0 (wrL (F1 0) 0 (airW ck ad 4 gd tu (cond be 2 1) by_))) 2 (u_51)) 24 (upd (F1 24) d (bI false))) 25 (upd (F1 25) d (bI false)))]) C ho 0 26 rfl rfl 3 rfl d rfl (by omega) (by decide) dX9_speak_250 rfl (fun H locs ho => ?_)
                  refine lv_iload_n hx hb dX9_speak_251 rfl (lv_at hl 2 rfl) ?_
                  exact o_iret hQ C rfl ho u_51 rfl rfl (Nat.le_of_ble_eq_true rfl) (Nat.le_of_ble_eq_true rfl) dX9_speak_252
                · skip
                  refine lv_aload_n hx hb dX9_speak_194 rfl (lv_at hl 0 rfl) ?_
                  refine lv_aload_n hx hb dX9_speak_195 rfl (lv_at hl 0 rfl) ?_
                  refine o_get (v := .ref (ar 14)) C ho 0 0 rfl rfl rfl 18 fX9_53 rfl dX9_speak_196 ?_
                  refine lv_bipush (v := nI 13) hx hb dX9_speak_199 (by decide) ?_
                  refine lv_iload_n hx hb dX9_speak_201 rfl (lv_at hl 1 rfl) ?_
                  refine o_mul hx hb dX9_speak_202 ?_
                  refine lv_iload hx hb dX9_speak_203 (lv_at hl 3 rfl) ?_
                  refine o_add hx hb dX9_speak_205 ?_
                  refine o_iald (v := nI (by_.getD i 0)) C ho 0 15 rfl rfl 0 rfl ((13 * d) + i) rfl (by omega) (by omega) (q14 i (by omega)) dX9_speak_206 ?_
                  refine lv_bipush (v := nI 8) hx hb dX9_speak_207 (by decide) ?_
                  refine o_callV (wr := []) (rest := []) (As := [.int (nI (by_.getD i 0)), .int (nI 8)]) C (c_M_put la D K h ar ad ck bi (18 + (8 + 8 * i)) (va_up (va_up F1 1 (whP ck (F1 1) 400)) 2 (wrL (F1 2) 0 (hdB ad 4 gd tu ++ ldp (cond be 2 1) by_ i))) (by_.getD i 0) 8 (Nat.lt_trans (qb _) (by decide)) (by first | omega | assumption | (simp only [List.length_append, List.length_cons, List.length_nil, List.length_modify, List.length_set, nb_len, rb_len, rbp_len, sl_len, slN_len, wh_len, wt_len, hd10_len, hdB_len, thr_len, ldp_len, ldB_len, tens_len, whz_len, majL_len, mf_len, tkL_len, ldY_len, fif_len, ldY_len]; omega) | decide) (by first | omega | assumption | (simp only [List.length_append, List.length_cons, List.length_nil, List.length_modify, List.length_set, nb_len, rb_len, rbp_len, sl_len, slN_len, wh_len, wt_len, hd10_len, hdB_len, thr_len, ldp_len, ldB_len, tens_len, whz_len, majL_len, mf_len, tkL_len, ldY_len, fif_len, ldY_len]; omega) | decide)) kX9_114 vX9_put (by decide) rfl ho [0] 1 (by decide +kernel) rfl rfl rfl rfl rfl hl.1 rfl (Nat.le_of_ble_eq_true rfl) dX9_speak_209 0 0 rfl rfl (by decide) (fun v u_53 H locs hq ho => ?_)
                  obtain rfl := hq
                  have ho : ow D vwCl A s.heap H locs [bX K h ar ad ck bi ((18 + (8 + 8 * i)) + 8) (va_up (va_up (va_up F1 1 (whP ck (F1 1) 400)) 2 (wrL (F1 2) 0 (hdB ad 4 gd tu ++ ldp (cond be 2 1) by_ i))) 2 (wrL (wrL (F1 2) 0 (hdB ad 4 gd tu ++ ldp (cond be 2 1) by_ i)) (18 + (8 + 8 * i)) (nb (by_.getD i 0) 8)))] := ho
                  refine W.eq (g2 := F0 m 212 ls []) rfl ?_
                  have e_54 : bX K h ar ad ck bi ((18 + (8 + 8 * i)) + 8) (va_up (va_up (va_up F1 1 (whP ck (F1 1) 400)) 2 (wrL (F1 2) 0 (hdB ad 4 gd tu ++ ldp (cond be 2 1) by_ i))) 2 (wrL (wrL (F1 2) 0 (hdB ad 4 gd tu ++ ldp (cond be 2 1) by_ i)) (18 + (8 + 8 * i)) (nb (by_.getD i 0) 8))) = bX K h ar ad ck bi (18 + (8 + 8 * (i + 1))) (va_up (va_up F1 1 (whP ck (F1 1) 400)) 2 (wrL (F1 2) 0 (hdB ad 4 gd tu ++ ldp (cond be 2 1) by_ (i + 1)))) := by rw [bx_uu, wrL_app (by rw [List.length_append, hdB_len, ldp_len]; omega), ldp_succ, List.append_assoc] <;> rfl
                  have ho : ow D vwCl A s.heap H locs [bX K h ar ad ck bi (18 + (8 + 8 * (i + 1))) (va_up (va_up F1 1 (whP ck (F1 1) 400)) 2 (wrL (F1 2) 0 (hdB ad 4 gd tu ++ ldp (cond be 2 1) by_ (i + 1))))] := by rw [← e_54]; exact ho
                  refine lv_iinc (v := nI (i + 1)) (lv' := [(4, .int (nI (i + 1))), (0, .ref h), (1, .int (nI d)), (3, .int (nI 4))]) hx hb dX9_speak_212 hl (k := 3) rfl (iincN _ _) (by decide) rfl (fun ls hl => ?_)
                  refine lv_goto (tgt := 183) hx hb dX9_speak_215 (by decide) ?_
                  exact ih183 (i + 1) (by omega) (by omega) _ _ _ ho (lv_sub hl [1, 2, 3, 0] rfl)
            exact LP183 (by_.length - 0 + 1) 0 (Nat.lt_succ_self _) (by omega) _ _ _ ho (lv_sub hl [3, 4, 1, 0] rfl)
          cases be
          · skip
            refine o_ifb_eq (tgt := 173) hx hb dX9_speak_166 (by decide) (fun _ => ?_) (fun c9 => absurd c9 (by decide))
            refine lv_iconst (v := nI 1) hx hb dX9_speak_173 (by decide) ?_
            exact J174
          · skip
            refine o_ifb_eq (tgt := 173) hx hb dX9_speak_166 (by decide) (fun c9 => absurd c9 (by decide)) (fun _ => ?_)
            refine lv_iconst (v := nI 2) hx hb dX9_speak_169 (by decide) ?_
            refine lv_goto (tgt := 174) hx hb dX9_speak_170 (by decide) ?_
            exact J174
        cases gd
        · skip
          refine o_ifb_eq (tgt := 118) hx hb dX9_speak_111 (by decide) (fun _ => ?_) (fun c9 => absurd c9 (by decide))
          refine lv_iconst (v := nI 0) hx hb dX9_speak_118 (by decide) ?_
          exact J119
        · skip
          refine o_ifb_eq (tgt := 118) hx hb dX9_speak_111 (by decide) (fun c9 => absurd c9 (by decide)) (fun _ => ?_)
          refine lv_iconst (v := nI 1) hx hb dX9_speak_114 (by decide) ?_
          refine lv_goto (tgt := 119) hx hb dX9_speak_115 (by decide) ?_
          exact J119
    refine lv_aload_n hx hb dX9_speak_0 rfl (lv_at hl 0 rfl) ?_
    refine o_get (v := .ref (ar 5)) C ho 0 0 rfl rfl rfl 9 fX9_25 rfl dX9_speak_1 ?_
    refine lv_iload_n hx hb dX9_speak_4 rfl (lv_at hl 1 rfl) ?_
    refine o_iald (v := F 5 d) C ho 0 6 rfl rfl 0 rfl d rfl (by omega) (by omega) rfl dX9_speak_5 ?_
    refine lv_if_gt (tgt := 24) hx hb dX9_speak_6 (by decide) (fun c_55 => ?_) (fun c_55 => ?_)
    · skip
      exact J24
    · skip
      refine lv_aload_n hx hb dX9_speak_9 rfl (lv_at hl 0 rfl) ?_
      refine o_get (v := .ref (ar 9)) C ho 0 0 rfl rfl rfl 13 fX9_37 rfl dX9_speak_10 ?_
      refine lv_iload_n hx hb dX9_speak_13 rfl (lv_at hl 1 rfl) ?_
      refine o_iald (v := nI at_) C ho 0 10 rfl rfl 0 rfl d rfl (by omega) (by omega) qa dX9_speak_14 ?_
      refine lv_aload_n hx hb dX9_speak_15 rfl (lv_at hl 0 rfl) ?_
      refine o_get (v := .ref (ar 8)) C ho 0 0 rfl rfl rfl 12 fX9_34 rfl dX9_speak_16 ?_
      refine lv_iload_n hx hb dX9_speak_19 rfl (lv_at hl 1 rfl) ?_
      refine o_iald (v := nI sl_) C ho 0 9 rfl rfl 0 rfl d rfl (by omega) (by omega) qs dX9_speak_20 ?_
      refine o_icmp_ge (tgt := 28) hx hb dX9_speak_21 (by decide) (by first | omega | exact and1_lt _) (by first | omega | exact and1_lt _) (fun c_56 => ?_) (fun c_56 => ?_)
      · skip
        exact absurd c_56 (by omega)
      · skip
        exact J24

set_option maxHeartbeats 4000000 in
set_option maxRecDepth 100000 in
theorem c_M_speakC (la : Launch) (D : va_G) (K : Nat → ClassId) (h : Nat) (ar : Nat → Nat) (ad : Nat) (ck : Nat) (bi : Nat) (lo : Nat) (F : Nat → Nat → Int32) (d : Nat) (pp : Bool) (be : Bool) (tu : Bool) (gd : Bool) (by_ : List Nat) (F1 : Nat → Nat → Int32) (at_ : Nat) (sn : Nat) (ln : Nat) (q2d : d < 2) (qad : ad < 8) (qck : ck < 2 ^ 29) (qa : F 9 d = nI at_) (qs : F 8 d = nI at_) (qat : at_ ≤ 41) (qp : F 21 d = bI pp) (qt : F 22 d = bI (!tu)) (q0 : F 5 d = nI sn) (qn : 0 < sn) (qn2 : sn ≤ 6) (ql : F 6 (6 * d) = nI ln) (qln : ln ≤ 40) (qz : F 11 d = nI 0) (qF : F1 = nfF (ssF F d sn ln) d pp 0 (ln + 1) (!tu)) (q11 : F1 11 d = nI by_.length) (q12 : F1 12 d = nI (cond pp 4 3)) (q13 : F1 13 d = bI be) (q14 : ∀ i, i < by_.length → F1 14 (13 * d + i) = nI (by_.getD i 0)) (q22 : F1 22 d = bI tu) (q24 : F1 24 d = bI gd) (qn0 : 0 < by_.length) (qn9 : by_.length ≤ cond pp 13 9) (qb : ∀ j, by_.getD j 0 < 256) : MT la D K yX9_speak cX9_speak 5 (some .int) (rmL 4 0 0) [.ref h, .int (nI d)] [bX K h ar ad ck bi lo F] (Nat → Int32) (fun v _ => v = some (.int (nI (cond pp 4 3)))) (fun u => [bX K h ar ad ck ((airW ck ad (cond pp 4 3) gd tu (cond be 2 1) by_).length) ((18 + (8 + 8 * by_.length)) + 16) (va_up (va_up (va_up (va_up (va_up F1 1 (whP ck (F1 1) 400)) 0 (wrL (F1 0) 0 (airW ck ad (cond pp 4 3) gd tu (cond be 2 1) by_))) 2 (u)) 24 (upd (F1 24) d (bI false))) 25 (upd (F1 25) d (bI false)))]) := by
  refine Mt.ofW [(0, .ref h), (1, .int (nI d))] (by decide) rfl (Nat.le_of_ble_eq_true rfl) ?_
  intro p e s m args below meth c A ls H locs Qz hQ C hin hl ho
  have hx := C.1.1
  have hb := C.1.2.1
  have hbe : cond be 2 1 ≤ 2 := by cases be <;> decide
  cases pp
  · skip
    have qn13 : by_.length ≤ 9 := qn9
    refine lv_aload_n hx hb dX9_speak_0 rfl (lv_at hl 0 rfl) ?_
    refine o_get (v := .ref (ar 5)) C ho 0 0 rfl rfl rfl 9 fX9_25 rfl dX9_speak_1 ?_
    refine lv_iload_n hx hb dX9_speak_4 rfl (lv_at hl 1 rfl) ?_
    refine o_iald (v := nI sn) C ho 0 6 rfl rfl 0 rfl d rfl (by omega) (by omega) q0 dX9_speak_5 ?_
    refine o_if_gt (tgt := 24) hx hb dX9_speak_6 (by decide) (by omega) (fun c_1 => ?_) (fun c_1 => ?_)
    · skip
      refine lv_iconst (v := nI 1) hx hb dX9_speak_24 (by decide) ?_
      refine lv_goto (tgt := 29) hx hb dX9_speak_25 (by decide) ?_
      refine lv_istore_n (lv' := [(2, .int (nI 1)), (0, .ref h), (1, .int (nI d))]) hx hb dX9_speak_29 rfl hl (by decide) rfl (fun ls hl => ?_)
      refine lv_aload_n hx hb dX9_speak_30 rfl (lv_at hl 1 rfl) ?_
      refine o_get (v := .ref (ar 11)) C ho 0 0 rfl rfl rfl 15 fX9_43 rfl dX9_speak_31 ?_
      refine lv_iload_n hx hb dX9_speak_34 rfl (lv_at hl 2 rfl) ?_
      refine o_iald (v := nI 0) C ho 0 12 rfl rfl 0 rfl d rfl (by omega) (by omega) qz dX9_speak_35 ?_
      refine o_if_ne (tgt := 48) hx hb dX9_speak_36 (by decide) (by decide) (fun c9 => absurd c9 (by decide)) (fun _ => ?_)
      refine lv_iload_n hx hb dX9_speak_39 rfl (lv_at hl 0 rfl) ?_
      refine o_if_eq (tgt := 48) hx hb dX9_speak_40 (by decide) (by decide) (fun c9 => absurd c9 (by decide)) (fun _ => ?_)
      refine lv_aload_n hx hb dX9_speak_43 rfl (lv_at hl 1 rfl) ?_
      refine lv_iload_n hx hb dX9_speak_44 rfl (lv_at hl 2 rfl) ?_
      refine o_callV (wr := []) (rest := []) (As := [.int (nI d)]) C (c_M_newFrameC la D K h ar ad ck bi lo F d false at_ sn ln (!tu) (by first | omega | assumption | (simp only [List.length_append, List.length_cons, List.length_nil, List.length_modify, List.length_set, nb_len, rb_len, rbp_len, sl_len, slN_len, wh_len, wt_len, hd10_len, hdB_len, thr_len, ldp_len, ldB_len, tens_len, whz_len, majL_len, mf_len, tkL_len, ldY_len, fif_len, ldY_len]; omega) | decide) qa qs (by first | omega | assumption | (simp only [List.length_append, List.length_cons, List.length_nil, List.length_modify, List.length_set, nb_len, rb_len, rbp_len, sl_len, slN_len, wh_len, wt_len, hd10_len, hdB_len, thr_len, ldp_len, ldB_len, tens_len, whz_len, majL_len, mf_len, tkL_len, ldY_len, fif_len, ldY_len]; omega) | decide) qp qt q0 (by first | omega | assumption | (simp only [List.length_append, List.length_cons, List.length_nil, List.length_modify, List.length_set, nb_len, rb_len, rbp_len, sl_len, slN_len, wh_len, wt_len, hd10_len, hdB_len, thr_len, ldp_len, ldB_len, tens_len, whz_len, majL_len, mf_len, tkL_len, ldY_len, fif_len, ldY_len]; omega) | decide) (by first | omega | assumption | (simp only [List.length_append, List.length_cons, List.length_nil, List.length_modify, List.length_set, nb_len, rb_len, rbp_len, sl_len, slN_len, wh_len, wt_len, hd10_len, hdB_len, thr_len, ldp_len, ldB_len, tens_len, whz_len, majL_len, mf_len, tkL_len, ldY_len, fif_len, ldY_len]; omega) | decide) ql (by first | omega | assumption | (simp only [List.length_append, List.length_cons, List.length_nil, List.length_modify, List.length_set, nb_len, rb_len, rbp_len, sl_len, slN_len, wh_len, wt_len, hd10_len, hdB_len, thr_len, ldp_len, ldB_len, tens_len, whz_len, majL_len, mf_len, tkL_len, ldY_len, fif_len, ldY_len]; omega) | decide)) kX9_128 vX9_newFrame (by decide) rfl ho [0] 1 (by decide +kernel) rfl rfl rfl rfl rfl hl.1 rfl (Nat.le_of_ble_eq_true rfl) dX9_speak_45 0 0 rfl rfl (by decide) (fun v u_2 H locs hq ho => ?_)
      obtain rfl := hq
      have ho : ow D vwCl A s.heap H locs [bX K h ar ad ck bi lo (nfF (ssF F d sn ln) d false 0 (ln + 1) (!tu))] := ho
      refine W.eq (g2 := F0 m 48 ls []) rfl ?_
      have e_3 : bX K h ar ad ck bi lo (nfF (ssF F d sn ln) d false 0 (ln + 1) (!tu)) = bX K h ar ad ck bi lo F1 := by rw [qF]
      have ho : ow D vwCl A s.heap H locs [bX K h ar ad ck bi lo F1] := by rw [← e_3]; exact ho
      refine lv_aload_n hx hb dX9_speak_48 rfl (lv_at hl 1 rfl) ?_
      refine o_get (v := .ref (ar 11)) C ho 0 0 rfl rfl rfl 15 fX9_43 rfl dX9_speak_49 ?_
      refine lv_iload_n hx hb dX9_speak_52 rfl (lv_at hl 2 rfl) ?_
      refine o_iald (v := nI by_.length) C ho 0 12 rfl rfl 0 rfl d rfl (by omega) (by omega) q11 dX9_speak_53 ?_
      refine o_if_le (tgt := 66) hx hb dX9_speak_54 (by decide) (by omega) (fun c_4 => ?_) (fun c_4 => ?_)
      · skip
        exact absurd c_4 (by omega)
      · skip
        refine lv_aload_n hx hb dX9_speak_57 rfl (lv_at hl 1 rfl) ?_
        refine o_get (v := .ref (ar 12)) C ho 0 0 rfl rfl rfl 16 fX9_46 rfl dX9_speak_58 ?_
        refine lv_iload_n hx hb dX9_speak_61 rfl (lv_at hl 2 rfl) ?_
        refine o_iald (v := nI 3) C ho 0 13 rfl rfl 0 rfl d rfl (by omega) (by omega) q12 dX9_speak_62 ?_
        refine lv_goto (tgt := 69) hx hb dX9_speak_63 (by decide) ?_
        refine lv_istore_n (lv' := [(3, .int (nI 3)), (2, .int (nI 1)), (0, .ref h), (1, .int (nI d))]) hx hb dX9_speak_69 rfl hl (by decide) rfl (fun ls hl => ?_)
        refine lv_aload_n hx hb dX9_speak_70 rfl (lv_at hl 2 rfl) ?_
        refine lv_aload_n hx hb dX9_speak_71 rfl (lv_at hl 2 rfl) ?_
        refine o_get (v := .int (nI ck)) C ho 0 0 rfl rfl rfl 1 fX9_131 rfl dX9_speak_72 ?_
        refine o_callV (wr := []) (rest := []) (As := [.int (nI ck)]) C (c_M_whiten la D K h ar ad ck bi lo F1 ck (by first | omega | assumption | (simp only [List.length_append, List.length_cons, List.length_nil, List.length_modify, List.length_set, nb_len, rb_len, rbp_len, sl_len, slN_len, wh_len, wt_len, hd10_len, hdB_len, thr_len, ldp_len, ldB_len, tens_len, whz_len, majL_len, mf_len, tkL_len, ldY_len, fif_len, ldY_len]; omega) | decide)) kX9_134 vX9_whiten (by decide) rfl ho [0] 1 (by decide +kernel) rfl rfl rfl rfl rfl hl.1 rfl (Nat.le_of_ble_eq_true rfl) dX9_speak_75 0 0 rfl rfl (by decide) (fun v u_5 H locs hq ho => ?_)
        obtain rfl := hq
        have ho : ow D vwCl A s.heap H locs [bX K h ar ad ck bi lo (va_up F1 1 (whP ck (F1 1) 400))] := ho
        refine W.eq (g2 := F0 m 78 ls []) rfl ?_
        refine lv_aload_n hx hb dX9_speak_78 rfl (lv_at hl 2 rfl) ?_
        refine lv_iconst (v := nI 0) hx hb dX9_speak_79 (by decide) ?_
        refine o_put (v := .int (nI 0)) (bs' := [bX K h ar ad ck bi 0 (va_up F1 1 (whP ck (F1 1) 400))]) C ho 0 0 rfl rfl rfl 5 fX9_103 pX9_5 rfl rfl (Nat.le_of_ble_eq_true rfl) dX9_speak_80 rfl (fun H locs ho => ?_)
        refine lv_aload_n hx hb dX9_speak_83 rfl (lv_at hl 2 rfl) ?_
        refine lv_aload_n hx hb dX9_speak_84 rfl (lv_at hl 2 rfl) ?_
        refine o_get (v := .int (nI ad)) C ho 0 0 rfl rfl rfl 0 fX9_95 rfl dX9_speak_85 ?_
        refine lv_iconst (v := nI 3) hx hb dX9_speak_88 (by decide) ?_
        refine o_callV (wr := []) (rest := []) (As := [.int (nI ad), .int (nI 3)]) C (c_M_put la D K h ar ad ck bi 0 (va_up F1 1 (whP ck (F1 1) 400)) ad 3 (by first | omega | assumption | (simp only [List.length_append, List.length_cons, List.length_nil, List.length_modify, List.length_set, nb_len, rb_len, rbp_len, sl_len, slN_len, wh_len, wt_len, hd10_len, hdB_len, thr_len, ldp_len, ldB_len, tens_len, whz_len, majL_len, mf_len, tkL_len, ldY_len, fif_len, ldY_len]; omega) | decide) (by first | omega | assumption | (simp only [List.length_append, List.length_cons, List.length_nil, List.length_modify, List.length_set, nb_len, rb_len, rbp_len, sl_len, slN_len, wh_len, wt_len, hd10_len, hdB_len, thr_len, ldp_len, ldB_len, tens_len, whz_len, majL_len, mf_len, tkL_len, ldY_len, fif_len, ldY_len]; omega) | decide) (by first | omega | assumption | (simp only [List.length_append, List.length_cons, List.length_nil, List.length_modify, List.length_set, nb_len, rb_len, rbp_len, sl_len, slN_len, wh_len, wt_len, hd10_len, hdB_len, thr_len, ldp_len, ldB_len, tens_len, whz_len, majL_len, mf_len, tkL_len, ldY_len, fif_len, ldY_len]; omega) | decide)) kX9_114 vX9_put (by decide) rfl ho [0] 1 (by decide +kernel) rfl rfl rfl rfl rfl hl.1 rfl (Nat.le_of_ble_eq_true rfl) dX9_speak_89 0 0 rfl rfl (by decide) (fun v u_6 H locs hq ho => ?_)
        obtain rfl := hq
        have ho : ow D vwCl A s.heap H locs [bX K h ar ad ck bi (0 + 3) (va_up (va_up F1 1 (whP ck (F1 1) 400)) 2 (wrL (F1 2) 0 (nb ad 3)))] := ho
        refine W.eq (g2 := F0 m 92 ls []) rfl ?_
        have e_7 : bX K h ar ad ck bi (0 + 3) (va_up (va_up F1 1 (whP ck (F1 1) 400)) 2 (wrL (F1 2) 0 (nb ad 3))) = bX K h ar ad ck bi 3 (va_up (va_up F1 1 (whP ck (F1 1) 400)) 2 (wrL (F1 2) 0 (([] : List Bool) ++ nb ad 3))) := rfl
        have ho : ow D vwCl A s.heap H locs [bX K h ar ad ck bi 3 (va_up (va_up F1 1 (whP ck (F1 1) 400)) 2 (wrL (F1 2) 0 (([] : List Bool) ++ nb ad 3)))] := by rw [← e_7]; exact ho
        refine lv_aload_n hx hb dX9_speak_92 rfl (lv_at hl 2 rfl) ?_
        refine lv_iload_n hx hb dX9_speak_93 rfl (lv_at hl 0 rfl) ?_
        refine lv_iconst (v := nI 4) hx hb dX9_speak_94 (by decide) ?_
        refine o_callV (wr := []) (rest := []) (As := [.int (nI 3), .int (nI 4)]) C (c_M_put la D K h ar ad ck bi 3 (va_up (va_up F1 1 (whP ck (F1 1) 400)) 2 (wrL (F1 2) 0 (([] : List Bool) ++ nb ad 3))) 3 4 (by first | omega | assumption | (simp only [List.length_append, List.length_cons, List.length_nil, List.length_modify, List.length_set, nb_len, rb_len, rbp_len, sl_len, slN_len, wh_len, wt_len, hd10_len, hdB_len, thr_len, ldp_len, ldB_len, tens_len, whz_len, majL_len, mf_len, tkL_len, ldY_len, fif_len, ldY_len]; omega) | decide) (by first | omega | assumption | (simp only [List.length_append, List.length_cons, List.length_nil, List.length_modify, List.length_set, nb_len, rb_len, rbp_len, sl_len, slN_len, wh_len, wt_len, hd10_len, hdB_len, thr_len, ldp_len, ldB_len, tens_len, whz_len, majL_len, mf_len, tkL_len, ldY_len, fif_len, ldY_len]; omega) | decide) (by first | omega | assumption | (simp only [List.length_append, List.length_cons, List.length_nil, List.length_modify, List.length_set, nb_len, rb_len, rbp_len, sl_len, slN_len, wh_len, wt_len, hd10_len, hdB_len, thr_len, ldp_len, ldB_len, tens_len, whz_len, majL_len, mf_len, tkL_len, ldY_len, fif_len, ldY_len]; omega) | decide)) kX9_114 vX9_put (by decide) rfl ho [0] 1 (by decide +kernel) rfl rfl rfl rfl rfl hl.1 rfl (Nat.le_of_ble_eq_true rfl) dX9_speak_95 0 0 rfl rfl (by decide) (fun v u_8 H locs hq ho => ?_)
        obtain rfl := hq
        have ho : ow D vwCl A s.heap H locs [bX K h ar ad ck bi (3 + 4) (va_up (va_up (va_up F1 1 (whP ck (F1 1) 400)) 2 (wrL (F1 2) 0 (([] : List Bool) ++ nb ad 3))) 2 (wrL (wrL (F1 2) 0 (([] : List Bool) ++ nb ad 3)) 3 (nb 3 4)))] := ho
        refine W.eq (g2 := F0 m 98 ls []) rfl ?_
        have e_9 : bX K h ar ad ck bi (3 + 4) (va_up (va_up (va_up F1 1 (whP ck (F1 1) 400)) 2 (wrL (F1 2) 0 (([] : List Bool) ++ nb ad 3))) 2 (wrL (wrL (F1 2) 0 (([] : List Bool) ++ nb ad 3)) 3 (nb 3 4))) = bX K h ar ad ck bi 7 (va_up (va_up F1 1 (whP ck (F1 1) 400)) 2 (wrL (F1 2) 0 ((([] : List Bool) ++ nb ad 3) ++ nb 3 4))) := by rw [bx_uu, wrL_app (by simp [nb_len])]
        have ho : ow D vwCl A s.heap H locs [bX K h ar ad ck bi 7 (va_up (va_up F1 1 (whP ck (F1 1) 400)) 2 (wrL (F1 2) 0 ((([] : List Bool) ++ nb ad 3) ++ nb 3 4)))] := by rw [← e_9]; exact ho
        refine lv_aload_n hx hb dX9_speak_98 rfl (lv_at hl 2 rfl) ?_
        refine lv_iconst (v := nI 1) hx hb dX9_speak_99 (by decide) ?_
        refine lv_iconst (v := nI 1) hx hb dX9_speak_100 (by decide) ?_
        refine o_callV (wr := []) (rest := []) (As := [.int (nI 1), .int (nI 1)]) C (c_M_put la D K h ar ad ck bi 7 (va_up (va_up F1 1 (whP ck (F1 1) 400)) 2 (wrL (F1 2) 0 ((([] : List Bool) ++ nb ad 3) ++ nb 3 4))) 1 1 (by first | omega | assumption | (simp only [List.length_append, List.length_cons, List.length_nil, List.length_modify, List.length_set, nb_len, rb_len, rbp_len, sl_len, slN_len, wh_len, wt_len, hd10_len, hdB_len, thr_len, ldp_len, ldB_len, tens_len, whz_len, majL_len, mf_len, tkL_len, ldY_len, fif_len, ldY_len]; omega) | decide) (by first | omega | assumption | (simp only [List.length_append, List.length_cons, List.length_nil, List.length_modify, List.length_set, nb_len, rb_len, rbp_len, sl_len, slN_len, wh_len, wt_len, hd10_len, hdB_len, thr_len, ldp_len, ldB_len, tens_len, whz_len, majL_len, mf_len, tkL_len, ldY_len, fif_len, ldY_len]; omega) | decide) (by first | omega | assumption | (simp only [List.length_append, List.length_cons, List.length_nil, List.length_modify, List.length_set, nb_len, rb_len, rbp_len, sl_len, slN_len, wh_len, wt_len, hd10_len, hdB_len, thr_len, ldp_len, ldB_len, tens_len, whz_len, majL_len, mf_len, tkL_len, ldY_len, fif_len, ldY_len]; omega) | decide)) kX9_114 vX9_put (by decide) rfl ho [0] 1 (by decide +kernel) rfl rfl rfl rfl rfl hl.1 rfl (Nat.le_of_ble_eq_true rfl) dX9_speak_101 0 0 rfl rfl (by decide) (fun v u_10 H locs hq ho => ?_)
        obtain rfl := hq
        have ho : ow D vwCl A s.heap H locs [bX K h ar ad ck bi (7 + 1) (va_up (va_up (va_up F1 1 (whP ck (F1 1) 400)) 2 (wrL (F1 2) 0 ((([] : List Bool) ++ nb ad 3) ++ nb 3 4))) 2 (wrL (wrL (F1 2) 0 ((([] : List Bool) ++ nb ad 3) ++ nb 3 4)) 7 (nb 1 1)))] := ho
        refine W.eq (g2 := F0 m 104 ls []) rfl ?_
        have e_11 : bX K h ar ad ck bi (7 + 1) (va_up (va_up (va_up F1 1 (whP ck (F1 1) 400)) 2 (wrL (F1 2) 0 ((([] : List Bool) ++ nb ad 3) ++ nb 3 4))) 2 (wrL (wrL (F1 2) 0 ((([] : List Bool) ++ nb ad 3) ++ nb 3 4)) 7 (nb 1 1))) = bX K h ar ad ck bi 8 (va_up (va_up F1 1 (whP ck (F1 1) 400)) 2 (wrL (F1 2) 0 (((([] : List Bool) ++ nb ad 3) ++ nb 3 4) ++ [true]))) := by rw [bx_uu, wrL_app (by simp [nb_len])] <;> rfl
        have ho : ow D vwCl A s.heap H locs [bX K h ar ad ck bi 8 (va_up (va_up F1 1 (whP ck (F1 1) 400)) 2 (wrL (F1 2) 0 (((([] : List Bool) ++ nb ad 3) ++ nb 3 4) ++ [true])))] := by rw [← e_11]; exact ho
        refine lv_aload_n hx hb dX9_speak_104 rfl (lv_at hl 2 rfl) ?_
        refine lv_aload_n hx hb dX9_speak_105 rfl (lv_at hl 2 rfl) ?_
        refine o_get (v := .ref (ar 24)) C ho 0 0 rfl rfl rfl 28 fX9_83 rfl dX9_speak_106 ?_
        refine lv_iload_n hx hb dX9_speak_109 rfl (lv_at hl 3 rfl) ?_
        refine o_zald (v := bI gd) C ho 0 25 rfl rfl 3 rfl d rfl (by omega) (by decide) q24 dX9_speak_110 ?_
        have J119 : W p la e (rmL 4 0 0) s m args below meth c H locs 0 0 Qz (F0 m 119 ls [.int (nI gd.toNat), .ref h]) := by
          refine lv_iconst (v := nI 1) hx hb dX9_speak_119 (by decide) ?_
          refine o_callV (wr := []) (rest := []) (As := [.int (nI gd.toNat), .int (nI 1)]) C (c_M_put la D K h ar ad ck bi 8 (va_up (va_up F1 1 (whP ck (F1 1) 400)) 2 (wrL (F1 2) 0 (((([] : List Bool) ++ nb ad 3) ++ nb 3 4) ++ [true]))) gd.toNat 1 (tN_lt _) (by first | omega | assumption | (simp only [List.length_append, List.length_cons, List.length_nil, List.length_modify, List.length_set, nb_len, rb_len, rbp_len, sl_len, slN_len, wh_len, wt_len, hd10_len, hdB_len, thr_len, ldp_len, ldB_len, tens_len, whz_len, majL_len, mf_len, tkL_len, ldY_len, fif_len, ldY_len]; omega) | decide) (by first | omega | assumption | (simp only [List.length_append, List.length_cons, List.length_nil, List.length_modify, List.length_set, nb_len, rb_len, rbp_len, sl_len, slN_len, wh_len, wt_len, hd10_len, hdB_len, thr_len, ldp_len, ldB_len, tens_len, whz_len, majL_len, mf_len, tkL_len, ldY_len, fif_len, ldY_len]; omega) | decide)) kX9_114 vX9_put (by decide) rfl ho [0] 1 (by decide +kernel) rfl rfl rfl rfl rfl hl.1 rfl (Nat.le_of_ble_eq_true rfl) dX9_speak_120 0 0 rfl rfl (by decide) (fun v u_12 H locs hq ho => ?_)
          obtain rfl := hq
          have ho : ow D vwCl A s.heap H locs [bX K h ar ad ck bi (8 + 1) (va_up (va_up (va_up F1 1 (whP ck (F1 1) 400)) 2 (wrL (F1 2) 0 (((([] : List Bool) ++ nb ad 3) ++ nb 3 4) ++ [true]))) 2 (wrL (wrL (F1 2) 0 (((([] : List Bool) ++ nb ad 3) ++ nb 3 4) ++ [true])) 8 (nb gd.toNat 1)))] := ho
          refine W.eq (g2 := F0 m 123 ls []) rfl ?_
          have e_13 : bX K h ar ad ck bi (8 + 1) (va_up (va_up (va_up F1 1 (whP ck (F1 1) 400)) 2 (wrL (F1 2) 0 (((([] : List Bool) ++ nb ad 3) ++ nb 3 4) ++ [true]))) 2 (wrL (wrL (F1 2) 0 (((([] : List Bool) ++ nb ad 3) ++ nb 3 4) ++ [true])) 8 (nb gd.toNat 1))) = bX K h ar ad ck bi 9 (va_up (va_up F1 1 (whP ck (F1 1) 400)) 2 (wrL (F1 2) 0 ((((([] : List Bool) ++ nb ad 3) ++ nb 3 4) ++ [true]) ++ [gd]))) := by rw [bx_uu, wrL_app (by simp [nb_len]), nb_b]
          have ho : ow D vwCl A s.heap H locs [bX K h ar ad ck bi 9 (va_up (va_up F1 1 (whP ck (F1 1) 400)) 2 (wrL (F1 2) 0 ((((([] : List Bool) ++ nb ad 3) ++ nb 3 4) ++ [true]) ++ [gd])))] := by rw [← e_13]; exact ho
          refine lv_aload_n hx hb dX9_speak_123 rfl (lv_at hl 2 rfl) ?_
          refine lv_aload_n hx hb dX9_speak_124 rfl (lv_at hl 2 rfl) ?_
          refine o_get (v := .ref (ar 22)) C ho 0 0 rfl rfl rfl 26 fX9_77 rfl dX9_speak_125 ?_
          refine lv_iload_n hx hb dX9_speak_128 rfl (lv_at hl 3 rfl) ?_
          refine o_iald (v := nI tu.toNat) C ho 0 23 rfl rfl 0 rfl d rfl (by omega) (by omega) (q22.trans (bI_N _)) dX9_speak_129 ?_
          refine lv_iconst (v := nI 1) hx hb dX9_speak_130 (by decide) ?_
          refine o_callV (wr := []) (rest := []) (As := [.int (nI tu.toNat), .int (nI 1)]) C (c_M_put la D K h ar ad ck bi 9 (va_up (va_up F1 1 (whP ck (F1 1) 400)) 2 (wrL (F1 2) 0 ((((([] : List Bool) ++ nb ad 3) ++ nb 3 4) ++ [true]) ++ [gd]))) tu.toNat 1 (tN_lt _) (by first | omega | assumption | (simp only [List.length_append, List.length_cons, List.length_nil, List.length_modify, List.length_set, nb_len, rb_len, rbp_len, sl_len, slN_len, wh_len, wt_len, hd10_len, hdB_len, thr_len, ldp_len, ldB_len, tens_len, whz_len, majL_len, mf_len, tkL_len, ldY_len, fif_len, ldY_len]; omega) | decide) (by first | omega | assumption | (simp only [List.length_append, List.length_cons, List.length_nil, List.length_modify, List.length_set, nb_len, rb_len, rbp_len, sl_len, slN_len, wh_len, wt_len, hd10_len, hdB_len, thr_len, ldp_len, ldB_len, tens_len, whz_len, majL_len, mf_len, tkL_len, ldY_len, fif_len, ldY_len]; omega) | decide)) kX9_114 vX9_put (by decide) rfl ho [0] 1 (by decide +kernel) rfl rfl rfl rfl rfl hl.1 rfl (Nat.le_of_ble_eq_true rfl) dX9_speak_131 0 0 rfl rfl (by decide) (fun v u_14 H locs hq ho => ?_)
          obtain rfl := hq
          have ho : ow D vwCl A s.heap H locs [bX K h ar ad ck bi (9 + 1) (va_up (va_up (va_up F1 1 (whP ck (F1 1) 400)) 2 (wrL (F1 2) 0 ((((([] : List Bool) ++ nb ad 3) ++ nb 3 4) ++ [true]) ++ [gd]))) 2 (wrL (wrL (F1 2) 0 ((((([] : List Bool) ++ nb ad 3) ++ nb 3 4) ++ [true]) ++ [gd])) 9 (nb tu.toNat 1)))] := ho
          refine W.eq (g2 := F0 m 134 ls []) rfl ?_
          have e_15 : bX K h ar ad ck bi (9 + 1) (va_up (va_up (va_up F1 1 (whP ck (F1 1) 400)) 2 (wrL (F1 2) 0 ((((([] : List Bool) ++ nb ad 3) ++ nb 3 4) ++ [true]) ++ [gd]))) 2 (wrL (wrL (F1 2) 0 ((((([] : List Bool) ++ nb ad 3) ++ nb 3 4) ++ [true]) ++ [gd])) 9 (nb tu.toNat 1))) = bX K h ar ad ck bi 10 (va_up (va_up F1 1 (whP ck (F1 1) 400)) 2 (wrL (F1 2) 0 (hd10 ad 3 gd tu))) := by rw [bx_uu, wrL_app (by simp [nb_len]), nb_b] <;> rfl
          have ho : ow D vwCl A s.heap H locs [bX K h ar ad ck bi 10 (va_up (va_up F1 1 (whP ck (F1 1) 400)) 2 (wrL (F1 2) 0 (hd10 ad 3 gd tu)))] := by rw [← e_15]; exact ho
          refine lv_aload_n hx hb dX9_speak_134 rfl (lv_at hl 2 rfl) ?_
          refine lv_iconst (v := nI 0) hx hb dX9_speak_135 (by decide) ?_
          refine lv_bipush (v := nI 10) hx hb dX9_speak_136 (by decide) ?_
          refine lv_sipush (v := nI 423) hx hb dX9_speak_138 (by decide) ?_
          refine lv_bipush (v := nI 8) hx hb dX9_speak_141 (by decide) ?_
          refine o_callV (wr := []) (rest := []) (As := [.int (nI 0), .int (nI 10), .int (nI 423), .int (nI 8)]) C (c_M_putRem la D K h ar ad ck bi 10 (va_up (va_up F1 1 (whP ck (F1 1) 400)) 2 (wrL (F1 2) 0 (hd10 ad 3 gd tu))) 0 10 423 8 (hd10 ad 3 gd tu) (fun i hi => by rw [Nat.zero_add, va_up_self]; exact wrL_in0 hi) (by rw [hd10_len]) (by first | omega | assumption | (simp only [List.length_append, List.length_cons, List.length_nil, List.length_modify, List.length_set, nb_len, rb_len, rbp_len, sl_len, slN_len, wh_len, wt_len, hd10_len, hdB_len, thr_len, ldp_len, ldB_len, tens_len, whz_len, majL_len, mf_len, tkL_len, ldY_len, fif_len, ldY_len]; omega) | decide) (by first | omega | assumption | (simp only [List.length_append, List.length_cons, List.length_nil, List.length_modify, List.length_set, nb_len, rb_len, rbp_len, sl_len, slN_len, wh_len, wt_len, hd10_len, hdB_len, thr_len, ldp_len, ldB_len, tens_len, whz_len, majL_len, mf_len, tkL_len, ldY_len, fif_len, ldY_len]; omega) | decide) (by first | omega | assumption | (simp only [List.length_append, List.length_cons, List.length_nil, List.length_modify, List.length_set, nb_len, rb_len, rbp_len, sl_len, slN_len, wh_len, wt_len, hd10_len, hdB_len, thr_len, ldp_len, ldB_len, tens_len, whz_len, majL_len, mf_len, tkL_len, ldY_len, fif_len, ldY_len]; omega) | decide) (by first | omega | assumption | (simp only [List.length_append, List.length_cons, List.length_nil, List.length_modify, List.length_set, nb_len, rb_len, rbp_len, sl_len, slN_len, wh_len, wt_len, hd10_len, hdB_len, thr_len, ldp_len, ldB_len, tens_len, whz_len, majL_len, mf_len, tkL_len, ldY_len, fif_len, ldY_len]; omega) | decide) (by decide) (by decide) pw423 (by first | omega | assumption | (simp only [List.length_append, List.length_cons, List.length_nil, List.length_modify, List.length_set, nb_len, rb_len, rbp_len, sl_len, slN_len, wh_len, wt_len, hd10_len, hdB_len, thr_len, ldp_len, ldB_len, tens_len, whz_len, majL_len, mf_len, tkL_len, ldY_len, fif_len, ldY_len]; omega) | decide)) kX9_137 vX9_putRem (by decide) rfl ho [0] 1 (by decide +kernel) rfl rfl rfl rfl rfl hl.1 rfl (Nat.le_of_ble_eq_true rfl) dX9_speak_143 0 0 rfl rfl (by decide) (fun v u_16 H locs hq ho => ?_)
          obtain rfl := hq
          have ho : ow D vwCl A s.heap H locs [bX K h ar ad ck bi (10 + 8) (va_up (va_up (va_up F1 1 (whP ck (F1 1) 400)) 2 (wrL (F1 2) 0 (hd10 ad 3 gd tu))) 2 (wrL (wrL (F1 2) 0 (hd10 ad 3 gd tu)) 10 (rb (crc 423 8 (hd10 ad 3 gd tu)) 8)))] := ho
          refine W.eq (g2 := F0 m 146 ls []) rfl ?_
          have e_17 : bX K h ar ad ck bi (10 + 8) (va_up (va_up (va_up F1 1 (whP ck (F1 1) 400)) 2 (wrL (F1 2) 0 (hd10 ad 3 gd tu))) 2 (wrL (wrL (F1 2) 0 (hd10 ad 3 gd tu)) 10 (rb (crc 423 8 (hd10 ad 3 gd tu)) 8))) = bX K h ar ad ck bi 18 (va_up (va_up F1 1 (whP ck (F1 1) 400)) 2 (wrL (F1 2) 0 (hdB ad 3 gd tu))) := by rw [bx_uu, wrL_app (by rw [hd10_len]), hdB_eq]
          have ho : ow D vwCl A s.heap H locs [bX K h ar ad ck bi 18 (va_up (va_up F1 1 (whP ck (F1 1) 400)) 2 (wrL (F1 2) 0 (hdB ad 3 gd tu)))] := by rw [← e_17]; exact ho
          refine lv_iload_n hx hb dX9_speak_146 rfl (lv_at hl 0 rfl) ?_
          refine lv_iconst (v := nI 2) hx hb dX9_speak_147 (by decide) ?_
          refine o_icmp_le (tgt := 232) hx hb dX9_speak_148 (by decide) (by decide) (by decide) (fun c9 => absurd c9 (by decide)) (fun _ => ?_)
          refine lv_aload_n hx hb dX9_speak_151 rfl (lv_at hl 2 rfl) ?_
          refine lv_iconst (v := nI 4) hx hb dX9_speak_152 (by decide) ?_
          refine lv_aload_n hx hb dX9_speak_153 rfl (lv_at hl 2 rfl) ?_
          refine o_get (v := .ref (ar 11)) C ho 0 0 rfl rfl rfl 15 fX9_43 rfl dX9_speak_154 ?_
          refine lv_iload_n hx hb dX9_speak_157 rfl (lv_at hl 3 rfl) ?_
          refine o_iald (v := nI by_.length) C ho 0 12 rfl rfl 0 rfl d rfl (by omega) (by omega) q11 dX9_speak_158 ?_
          refine o_mul hx hb dX9_speak_159 ?_
          refine lv_aload_n hx hb dX9_speak_160 rfl (lv_at hl 2 rfl) ?_
          refine o_get (v := .ref (ar 13)) C ho 0 0 rfl rfl rfl 17 fX9_49 rfl dX9_speak_161 ?_
          refine lv_iload_n hx hb dX9_speak_164 rfl (lv_at hl 3 rfl) ?_
          refine o_zald (v := bI be) C ho 0 14 rfl rfl 3 rfl d rfl (by omega) (by decide) q13 dX9_speak_165 ?_
          have J174 : W p la e (rmL 4 0 0) s m args below meth c H locs 0 0 Qz (F0 m 174 ls [.int (nI (cond be 2 1)), .int (nI (4 * by_.length)), .ref h]) := by
            refine o_add hx hb dX9_speak_174 ?_
            refine lv_bipush (v := nI 8) hx hb dX9_speak_175 (by decide) ?_
            refine o_callV (wr := []) (rest := []) (As := [.int (nI ((4 * by_.length) + (cond be 2 1))), .int (nI 8)]) C (c_M_put la D K h ar ad ck bi 18 (va_up (va_up F1 1 (whP ck (F1 1) 400)) 2 (wrL (F1 2) 0 (hdB ad 3 gd tu))) ((4 * by_.length) + (cond be 2 1)) 8 (by first | omega | assumption | (simp only [List.length_append, List.length_cons, List.length_nil, List.length_modify, List.length_set, nb_len, rb_len, rbp_len, sl_len, slN_len, wh_len, wt_len, hd10_len, hdB_len, thr_len, ldp_len, ldB_len, tens_len, whz_len, majL_len, mf_len, tkL_len, ldY_len, fif_len, ldY_len]; omega) | decide) (by first | omega | assumption | (simp only [List.length_append, List.length_cons, List.length_nil, List.length_modify, List.length_set, nb_len, rb_len, rbp_len, sl_len, slN_len, wh_len, wt_len, hd10_len, hdB_len, thr_len, ldp_len, ldB_len, tens_len, whz_len, majL_len, mf_len, tkL_len, ldY_len, fif_len, ldY_len]; omega) | decide) (by first | omega | assumption | (simp only [List.length_append, List.length_cons, List.length_nil, List.length_modify, List.length_set, nb_len, rb_len, rbp_len, sl_len, slN_len, wh_len, wt_len, hd10_len, hdB_len, thr_len, ldp_len, ldB_len, tens_len, whz_len, majL_len, mf_len, tkL_len, ldY_len, fif_len, ldY_len]; omega) | decide)) kX9_114 vX9_put (by decide) rfl ho [0] 1 (by decide +kernel) rfl rfl rfl rfl rfl hl.1 rfl (Nat.le_of_ble_eq_true rfl) dX9_speak_177 0 0 rfl rfl (by decide) (fun v u_18 H locs hq ho => ?_)
            obtain rfl := hq
            have ho : ow D vwCl A s.heap H locs [bX K h ar ad ck bi (18 + 8) (va_up (va_up (va_up F1 1 (whP ck (F1 1) 400)) 2 (wrL (F1 2) 0 (hdB ad 3 gd tu))) 2 (wrL (wrL (F1 2) 0 (hdB ad 3 gd tu)) 18 (nb ((4 * by_.length) + (cond be 2 1)) 8)))] := ho
            refine W.eq (g2 := F0 m 180 ls []) rfl ?_
            have e_19 : bX K h ar ad ck bi (18 + 8) (va_up (va_up (va_up F1 1 (whP ck (F1 1) 400)) 2 (wrL (F1 2) 0 (hdB ad 3 gd tu))) 2 (wrL (wrL (F1 2) 0 (hdB ad 3 gd tu)) 18 (nb ((4 * by_.length) + (cond be 2 1)) 8))) = bX K h ar ad ck bi (18 + (8 + 8 * 0)) (va_up (va_up F1 1 (whP ck (F1 1) 400)) 2 (wrL (F1 2) 0 (hdB ad 3 gd tu ++ ldp (cond be 2 1) by_ 0))) := by rw [bx_uu, wrL_app (by rw [hdB_len]), ldp_0]
            have ho : ow D vwCl A s.heap H locs [bX K h ar ad ck bi (18 + (8 + 8 * 0)) (va_up (va_up F1 1 (whP ck (F1 1) 400)) 2 (wrL (F1 2) 0 (hdB ad 3 gd tu ++ ldp (cond be 2 1) by_ 0)))] := by rw [← e_19]; exact ho
            refine lv_iconst (v := nI 0) hx hb dX9_speak_180 (by decide) ?_
            refine lv_istore (lv' := [(4, .int (nI 0)), (3, .int (nI 3)), (2, .int (nI 1)), (0, .ref h), (1, .int (nI d))]) hx hb dX9_speak_181 hl (by decide) rfl (fun ls hl => ?_)
            have LP183 : ∀ (fuel : Nat) (i : Nat) (_ : by_.length - i < fuel) (_ : i ≤ by_.length) (H : Heap) (locs : List Loc) (ls : Array Slot) (_ : ow D vwCl A s.heap H locs [bX K h ar ad ck bi (18 + (8 + 8 * i)) (va_up (va_up F1 1 (whP ck (F1 1) 400)) 2 (wrL (F1 2) 0 (hdB ad 3 gd tu ++ ldp (cond be 2 1) by_ i)))]) (_ : lv_has ls 5 [(0, .ref h), (1, .int (nI d)), (3, .int (nI 3)), (4, .int (nI i))]), W p la e (rmL 4 0 0) s m args below meth c H locs 0 0 Qz (F0 m 183 ls []) := by
              intro fuel
              induction fuel with
              | zero => intro i h0; exact absurd h0 (Nat.not_lt_zero _)
              | succ fuel ih183 =>
                intro i hfu hi H locs ls ho hl
                refine lv_iload hx hb dX9_speak_183 (lv_at hl 3 rfl) ?_
                refine lv_aload_n hx hb dX9_speak_185 rfl (lv_at hl 0 rfl) ?_
                refine o_get (v := .ref (ar 11)) C ho 0 0 rfl rfl rfl 15 fX9_43 rfl dX9_speak_186 ?_
                refine lv_iload_n hx hb dX9_speak_189 rfl (lv_at hl 1 rfl) ?_
                refine o_iald (v := nI by_.length) C ho 0 12 rfl rfl 0 rfl d rfl (by omega) (by omega) q11 dX9_speak_190 ?_
                refine o_icmp_ge (tgt := 218) hx hb dX9_speak_191 (by decide) (by first | omega | exact and1_lt _) (by first | omega | exact and1_lt _) (fun c_20 => ?_) (fun c_20 => ?_)
                · skip
                  have e_21 : bX K h ar ad ck bi (18 + (8 + 8 * i)) (va_up (va_up F1 1 (whP ck (F1 1) 400)) 2 (wrL (F1 2) 0 (hdB ad 3 gd tu ++ ldp (cond be 2 1) by_ i))) = bX K h ar ad ck bi (18 + (8 + 8 * by_.length)) (va_up (va_up F1 1 (whP ck (F1 1) 400)) 2 (wrL (F1 2) 0 (hdB ad 3 gd tu ++ ldp (cond be 2 1) by_ by_.length))) := by rw [show i = by_.length by omega]
                  have ho : ow D vwCl A s.heap H locs [bX K h ar ad ck bi (18 + (8 + 8 * by_.length)) (va_up (va_up F1 1 (whP ck (F1 1) 400)) 2 (wrL (F1 2) 0 (hdB ad 3 gd tu ++ ldp (cond be 2 1) by_ by_.length)))] := by rw [← e_21]; exact ho
                  refine lv_aload_n hx hb dX9_speak_218 rfl (lv_at hl 0 rfl) ?_
                  refine lv_bipush (v := nI 18) hx hb dX9_speak_219 (by decide) ?_
                  refine lv_aload_n hx hb dX9_speak_221 rfl (lv_at hl 0 rfl) ?_
                  refine o_get (v := .int (nI (18 + (8 + 8 * by_.length)))) C ho 0 0 rfl rfl rfl 5 fX9_103 rfl dX9_speak_222 ?_
                  refine lv_ldc (v := nI 69665) hx hb C.1.2.2.2.1 (C.1.2.2.2.2 _ mX9_k141) dX9_speak_225 ?_
                  refine lv_bipush (v := nI 16) hx hb dX9_speak_227 (by decide) ?_
                  refine o_callV (wr := []) (rest := []) (As := [.int (nI 18), .int (nI (18 + (8 + 8 * by_.length))), .int (nI 69665), .int (nI 16)]) C (c_M_putRem la D K h ar ad ck bi (18 + (8 + 8 * by_.length)) (va_up (va_up F1 1 (whP ck (F1 1) 400)) 2 (wrL (F1 2) 0 (hdB ad 3 gd tu ++ ldp (cond be 2 1) by_ by_.length))) 18 (18 + (8 + 8 * by_.length)) 69665 16 (ldp (cond be 2 1) by_ by_.length) (fun i hi => by rw [va_up_self]; exact wrL_r (hdB_len _ _ _ _) hi) (by rw [ldp_len]) (by first | omega | assumption | (simp only [List.length_append, List.length_cons, List.length_nil, List.length_modify, List.length_set, nb_len, rb_len, rbp_len, sl_len, slN_len, wh_len, wt_len, hd10_len, hdB_len, thr_len, ldp_len, ldB_len, tens_len, whz_len, majL_len, mf_len, tkL_len, ldY_len, fif_len, ldY_len]; omega) | decide) (by first | omega | assumption | (simp only [List.length_append, List.length_cons, List.length_nil, List.length_modify, List.length_set, nb_len, rb_len, rbp_len, sl_len, slN_len, wh_len, wt_len, hd10_len, hdB_len, thr_len, ldp_len, ldB_len, tens_len, whz_len, majL_len, mf_len, tkL_len, ldY_len, fif_len, ldY_len]; omega) | decide) (by first | omega | assumption | (simp only [List.length_append, List.length_cons, List.length_nil, List.length_modify, List.length_set, nb_len, rb_len, rbp_len, sl_len, slN_len, wh_len, wt_len, hd10_len, hdB_len, thr_len, ldp_len, ldB_len, tens_len, whz_len, majL_len, mf_len, tkL_len, ldY_len, fif_len, ldY_len]; omega) | decide) (by first | omega | assumption | (simp only [List.length_append, List.length_cons, List.length_nil, List.length_modify, List.length_set, nb_len, rb_len, rbp_len, sl_len, slN_len, wh_len, wt_len, hd10_len, hdB_len, thr_len, ldp_len, ldB_len, tens_len, whz_len, majL_len, mf_len, tkL_len, ldY_len, fif_len, ldY_len]; omega) | decide) (by decide) (by decide) pw69665 (by first | omega | assumption | (simp only [List.length_append, List.length_cons, List.length_nil, List.length_modify, List.length_set, nb_len, rb_len, rbp_len, sl_len, slN_len, wh_len, wt_len, hd10_len, hdB_len, thr_len, ldp_len, ldB_len, tens_len, whz_len, majL_len, mf_len, tkL_len, ldY_len, fif_len, ldY_len]; omega) | decide)) kX9_137 vX9_putRem (by decide) rfl ho [0] 1 (by decide +kernel) rfl rfl rfl rfl rfl hl.1 rfl (Nat.le_of_ble_eq_true rfl) dX9_speak_229 0 0 rfl rfl (by decide) (fun v u_22 H locs hq ho => ?_)
                  obtain rfl := hq
                  have ho : ow D vwCl A s.heap H locs [bX K h ar ad ck bi ((18 + (8 + 8 * by_.length)) + 16) (va_up (va_up (va_up F1 1 (whP ck (F1 1) 400)) 2 (wrL (F1 2) 0 (hdB ad 3 gd tu ++ ldp (cond be 2 1) by_ by_.length))) 2 (wrL (wrL (F1 2) 0 (hdB ad 3 gd tu ++ ldp (cond be 2 1) by_ by_.length)) (18 + (8 + 8 * by_.length)) (rb (crc 69665 16 (ldp (cond be 2 1) by_ by_.length)) 16)))] := ho
                  refine W.eq (g2 := F0 m 232 ls []) rfl ?_
                  have e_23 : bX K h ar ad ck bi ((18 + (8 + 8 * by_.length)) + 16) (va_up (va_up (va_up F1 1 (whP ck (F1 1) 400)) 2 (wrL (F1 2) 0 (hdB ad 3 gd tu ++ ldp (cond be 2 1) by_ by_.length))) 2 (wrL (wrL (F1 2) 0 (hdB ad 3 gd tu ++ ldp (cond be 2 1) by_ by_.length)) (18 + (8 + 8 * by_.length)) (rb (crc 69665 16 (ldp (cond be 2 1) by_ by_.length)) 16))) = bX K h ar ad ck bi ((18 + (8 + 8 * by_.length)) + 16) (va_up (va_up F1 1 (whP ck (F1 1) 400)) 2 (wrL (F1 2) 0 (hdB ad 3 gd tu ++ ldB (cond be 2 1) by_))) := by rw [bx_uu, wrL_app (by rw [List.length_append, hdB_len, ldp_len]; omega), ldB_eq, List.append_assoc]
                  have ho : ow D vwCl A s.heap H locs [bX K h ar ad ck bi ((18 + (8 + 8 * by_.length)) + 16) (va_up (va_up F1 1 (whP ck (F1 1) 400)) 2 (wrL (F1 2) 0 (hdB ad 3 gd tu ++ ldB (cond be 2 1) by_)))] := by rw [← e_23]; exact ho
                  have hlB := ldB_len (cond be 2 1) by_
                  refine lv_aload_n hx hb dX9_speak_232 rfl (lv_at hl 0 rfl) ?_
                  refine lv_iload_n hx hb dX9_speak_233 rfl (lv_at hl 2 rfl) ?_
                  refine o_callV (wr := []) (rest := []) (As := [.int (nI 3)]) C (c_M_sendBits3 la D K h ar ad ck bi ((18 + (8 + 8 * by_.length)) + 16) (va_up (va_up F1 1 (whP ck (F1 1) 400)) 2 (wrL (F1 2) 0 (hdB ad 3 gd tu ++ ldB (cond be 2 1) by_))) ck (hdB ad 3 gd tu) (ldB (cond be 2 1) by_) (fun i hi => whP_in hi) (fun i hi => wrL_l (hdB_len _ _ _ _) hi) (hdB_len _ _ _ _) (fun i hi => wrL_r (hdB_len _ _ _ _) hi) (by rw [ldB_len]; omega) (by rw [ldB_len]; omega)) kX9_142 vX9_sendBits (by decide) rfl ho [0] 1 (by decide +kernel) rfl rfl rfl rfl rfl hl.1 rfl (Nat.le_of_ble_eq_true rfl) dX9_speak_234 0 0 rfl rfl (by decide) (fun v u_24 H locs hq ho => ?_)
                  obtain rfl := hq
                  have ho : ow D vwCl A s.heap H locs [bX K h ar ad ck (54 + 15 * (((ldB (cond be 2 1) by_).length + 9) / 10)) ((18 + (8 + 8 * by_.length)) + 16) (va_up (va_up (va_up (va_up F1 1 (whP ck (F1 1) 400)) 2 (wrL (F1 2) 0 (hdB ad 3 gd tu ++ ldB (cond be 2 1) by_))) 0 (wrL (F1 0) 0 (thr (whz (hdB ad 3 gd tu) (wt ck) 0) 54 ++ tens (whz (ldB (cond be 2 1) by_) (wt ck) 18) (((ldB (cond be 2 1) by_).length + 9) / 10)))) 2 (u_24))] := ho
                  refine W.eq (g2 := F0 m 237 ls []) rfl ?_
                  have e_25 : bX K h ar ad ck (54 + 15 * (((ldB (cond be 2 1) by_).length + 9) / 10)) ((18 + (8 + 8 * by_.length)) + 16) (va_up (va_up (va_up (va_up F1 1 (whP ck (F1 1) 400)) 2 (wrL (F1 2) 0 (hdB ad 3 gd tu ++ ldB (cond be 2 1) by_))) 0 (wrL (F1 0) 0 (thr (whz (hdB ad 3 gd tu) (wt ck) 0) 54 ++ tens (whz (ldB (cond be 2 1) by_) (wt ck) 18) (((ldB (cond be 2 1) by_).length + 9) / 10)))) 2 (u_24)) = bX K h ar ad ck ((airW ck ad 3 gd tu (cond be 2 1) by_).length) ((18 + (8 + 8 * by_.length)) + 16) (va_up (va_up (va_up F1 1 (whP ck (F1 1) 400)) 0 (wrL (F1 0) 0 (airW ck ad 3 gd tu (cond be 2 1) by_))) 2 (u_24)) := by rw [airW_l3 ck ad gd tu (cond be 2 1) by_, airW_3 ck ad gd tu (cond be 2 1) by_, up_c202]
                  have ho : ow D vwCl A s.heap H locs [bX K h ar ad ck ((airW ck ad 3 gd tu (cond be 2 1) by_).length) ((18 + (8 + 8 * by_.length)) + 16) (va_up (va_up (va_up F1 1 (whP ck (F1 1) 400)) 0 (wrL (F1 0) 0 (airW ck ad 3 gd tu (cond be 2 1) by_))) 2 (u_24))] := by rw [← e_25]; exact ho
                  refine lv_aload_n hx hb dX9_speak_237 rfl (lv_at hl 0 rfl) ?_
                  refine o_get (v := .ref (ar 24)) C ho 0 0 rfl rfl rfl 28 fX9_83 rfl dX9_speak_238 ?_
                  refine lv_iload_n hx hb dX9_speak_241 rfl (lv_at hl 1 rfl) ?_
                  refine lv_iconst (v := nI 0) hx hb dX9_speak_242 (by decide) ?_
                  refine o_top (y := bI false) (rfl) ?_
                  refine o_zast (bs' := [bX K h ar ad ck ((airW ck ad 3 gd tu (cond be 2 1) by_).length) ((18 + (8 + 8 * by_.length)) + 16) (va_up (va_up (va_up (va_up F1 1 (whP ck (F1 1) 400)) 0 (wrL (F1 0) 0 (airW ck ad 3 gd tu (cond be 2 1) by_))) 2 (u_24)) 24 (upd (F1 24) d (bI false)))]) C ho 0 25 rfl rfl 3 rfl d rfl (by omega) (by decide) dX9_speak_243 rfl (fun H locs ho => ?_)
                  refine lv_aload_n hx hb dX9_speak_244 rfl (lv_at hl 0 rfl) ?_
                  refine o_get (v := .ref (ar 25)) C ho 0 0 rfl rfl rfl 29 fX9_86 rfl dX9_speak_245 ?_
                  refine lv_iload_n hx hb dX9_speak_248 rfl (lv_at hl 1 rfl) ?_
                  refine lv_iconst (v := nI 0) hx hb dX9_speak_249 (by decide) ?_
                  refine o_top (y := bI false) (rfl) ?_
                  refine o_zast (bs' := [bX K h ar ad ck ((airW ck ad 3 gd tu (cond be 2 1) by_).length) ((18 + (8 + 8 * by_.length)) + 16) (va_up (va_up (va_up (va_up (va_up F1 1 (whP ck (F1 1) 400)) 0 (wrL (F1 0) 0 (airW ck ad 3 gd tu (cond be 2 1) by_))) 2 (u_24)) 24 (upd (F1 24) d (bI false))) 25 (upd (F1 25) d (bI false)))]) C ho 0 26 rfl rfl 3 rfl d rfl (by omega) (by decide) dX9_speak_250 rfl (fun H locs ho => ?_)
                  refine lv_iload_n hx hb dX9_speak_251 rfl (lv_at hl 2 rfl) ?_
                  exact o_iret hQ C rfl ho u_24 rfl rfl (Nat.le_of_ble_eq_true rfl) (Nat.le_of_ble_eq_true rfl) dX9_speak_252
                · skip
                  refine lv_aload_n hx hb dX9_speak_194 rfl (lv_at hl 0 rfl) ?_
                  refine lv_aload_n hx hb dX9_speak_195 rfl (lv_at hl 0 rfl) ?_
                  refine o_get (v := .ref (ar 14)) C ho 0 0 rfl rfl rfl 18 fX9_53 rfl dX9_speak_196 ?_
                  refine lv_bipush (v := nI 13) hx hb dX9_speak_199 (by decide) ?_
                  refine lv_iload_n hx hb dX9_speak_201 rfl (lv_at hl 1 rfl) ?_
                  refine o_mul hx hb dX9_speak_202 ?_
                  refine lv_iload hx hb dX9_speak_203 (lv_at hl 3 rfl) ?_
                  refine o_add hx hb dX9_speak_205 ?_
                  refine o_iald (v := nI (by_.getD i 0)) C ho 0 15 rfl rfl 0 rfl ((13 * d) + i) rfl (by omega) (by omega) (q14 i (by omega)) dX9_speak_206 ?_
                  refine lv_bipush (v := nI 8) hx hb dX9_speak_207 (by decide) ?_
                  refine o_callV (wr := []) (rest := []) (As := [.int (nI (by_.getD i 0)), .int (nI 8)]) C (c_M_put la D K h ar ad ck bi (18 + (8 + 8 * i)) (va_up (va_up F1 1 (whP ck (F1 1) 400)) 2 (wrL (F1 2) 0 (hdB ad 3 gd tu ++ ldp (cond be 2 1) by_ i))) (by_.getD i 0) 8 (Nat.lt_trans (qb _) (by decide)) (by first | omega | assumption | (simp only [List.length_append, List.length_cons, List.length_nil, List.length_modify, List.length_set, nb_len, rb_len, rbp_len, sl_len, slN_len, wh_len, wt_len, hd10_len, hdB_len, thr_len, ldp_len, ldB_len, tens_len, whz_len, majL_len, mf_len, tkL_len, ldY_len, fif_len, ldY_len]; omega) | decide) (by first | omega | assumption | (simp only [List.length_append, List.length_cons, List.length_nil, List.length_modify, List.length_set, nb_len, rb_len, rbp_len, sl_len, slN_len, wh_len, wt_len, hd10_len, hdB_len, thr_len, ldp_len, ldB_len, tens_len, whz_len, majL_len, mf_len, tkL_len, ldY_len, fif_len, ldY_len]; omega) | decide)) kX9_114 vX9_put (by decide) rfl ho [0] 1 (by decide +kernel) rfl rfl rfl rfl rfl hl.1 rfl (Nat.le_of_ble_eq_true rfl) dX9_speak_209 0 0 rfl rfl (by decide) (fun v u_26 H locs hq ho => ?_)
                  obtain rfl := hq
                  have ho : ow D vwCl A s.heap H locs [bX K h ar ad ck bi ((18 + (8 + 8 * i)) + 8) (va_up (va_up (va_up F1 1 (whP ck (F1 1) 400)) 2 (wrL (F1 2) 0 (hdB ad 3 gd tu ++ ldp (cond be 2 1) by_ i))) 2 (wrL (wrL (F1 2) 0 (hdB ad 3 gd tu ++ ldp (cond be 2 1) by_ i)) (18 + (8 + 8 * i)) (nb (by_.getD i 0) 8)))] := ho
                  refine W.eq (g2 := F0 m 212 ls []) rfl ?_
                  have e_27 : bX K h ar ad ck bi ((18 + (8 + 8 * i)) + 8) (va_up (va_up (va_up F1 1 (whP ck (F1 1) 400)) 2 (wrL (F1 2) 0 (hdB ad 3 gd tu ++ ldp (cond be 2 1) by_ i))) 2 (wrL (wrL (F1 2) 0 (hdB ad 3 gd tu ++ ldp (cond be 2 1) by_ i)) (18 + (8 + 8 * i)) (nb (by_.getD i 0) 8))) = bX K h ar ad ck bi (18 + (8 + 8 * (i + 1))) (va_up (va_up F1 1 (whP ck (F1 1) 400)) 2 (wrL (F1 2) 0 (hdB ad 3 gd tu ++ ldp (cond be 2 1) by_ (i + 1)))) := by rw [bx_uu, wrL_app (by rw [List.length_append, hdB_len, ldp_len]; omega), ldp_succ, List.append_assoc] <;> rfl
                  have ho : ow D vwCl A s.heap H locs [bX K h ar ad ck bi (18 + (8 + 8 * (i + 1))) (va_up (va_up F1 1 (whP ck (F1 1) 400)) 2 (wrL (F1 2) 0 (hdB ad 3 gd tu ++ ldp (cond be 2 1) by_ (i + 1))))] := by rw [← e_27]; exact ho
                  refine lv_iinc (v := nI (i + 1)) (lv' := [(4, .int (nI (i + 1))), (0, .ref h), (1, .int (nI d)), (3, .int (nI 3))]) hx hb dX9_speak_212 hl (k := 3) rfl (iincN _ _) (by decide) rfl (fun ls hl => ?_)
                  refine lv_goto (tgt := 183) hx hb dX9_speak_215 (by decide) ?_
                  exact ih183 (i + 1) (by omega) (by omega) _ _ _ ho (lv_sub hl [1, 2, 3, 0] rfl)
            exact LP183 (by_.length - 0 + 1) 0 (Nat.lt_succ_self _) (by omega) _ _ _ ho (lv_sub hl [3, 4, 1, 0] rfl)
          cases be
          · skip
            refine o_ifb_eq (tgt := 173) hx hb dX9_speak_166 (by decide) (fun _ => ?_) (fun c9 => absurd c9 (by decide))
            refine lv_iconst (v := nI 1) hx hb dX9_speak_173 (by decide) ?_
            exact J174
          · skip
            refine o_ifb_eq (tgt := 173) hx hb dX9_speak_166 (by decide) (fun c9 => absurd c9 (by decide)) (fun _ => ?_)
            refine lv_iconst (v := nI 2) hx hb dX9_speak_169 (by decide) ?_
            refine lv_goto (tgt := 174) hx hb dX9_speak_170 (by decide) ?_
            exact J174
        cases gd
        · skip
          refine o_ifb_eq (tgt := 118) hx hb dX9_speak_111 (by decide) (fun _ => ?_) (fun c9 => absurd c9 (by decide))
          refine lv_iconst (v := nI 0) hx hb dX9_speak_118 (by decide) ?_
          exact J119
        · skip
          refine o_ifb_eq (tgt := 118) hx hb dX9_speak_111 (by decide) (fun c9 => absurd c9 (by decide)) (fun _ => ?_)
          refine lv_iconst (v := nI 1) hx hb dX9_speak_114 (by decide) ?_
          refine lv_goto (tgt := 119) hx hb dX9_speak_115 (by decide) ?_
          exact J119
    · skip
      exact absurd c_1 (by omega)
  · skip
    have qn13 : by_.length ≤ 13 := qn9
    refine lv_aload_n hx hb dX9_speak_0 rfl (lv_at hl 0 rfl) ?_
    refine o_get (v := .ref (ar 5)) C ho 0 0 rfl rfl rfl 9 fX9_25 rfl dX9_speak_1 ?_
    refine lv_iload_n hx hb dX9_speak_4 rfl (lv_at hl 1 rfl) ?_
    refine o_iald (v := nI sn) C ho 0 6 rfl rfl 0 rfl d rfl (by omega) (by omega) q0 dX9_speak_5 ?_
    refine o_if_gt (tgt := 24) hx hb dX9_speak_6 (by decide) (by omega) (fun c_28 => ?_) (fun c_28 => ?_)
    · skip
      refine lv_iconst (v := nI 1) hx hb dX9_speak_24 (by decide) ?_
      refine lv_goto (tgt := 29) hx hb dX9_speak_25 (by decide) ?_
      refine lv_istore_n (lv' := [(2, .int (nI 1)), (0, .ref h), (1, .int (nI d))]) hx hb dX9_speak_29 rfl hl (by decide) rfl (fun ls hl => ?_)
      refine lv_aload_n hx hb dX9_speak_30 rfl (lv_at hl 1 rfl) ?_
      refine o_get (v := .ref (ar 11)) C ho 0 0 rfl rfl rfl 15 fX9_43 rfl dX9_speak_31 ?_
      refine lv_iload_n hx hb dX9_speak_34 rfl (lv_at hl 2 rfl) ?_
      refine o_iald (v := nI 0) C ho 0 12 rfl rfl 0 rfl d rfl (by omega) (by omega) qz dX9_speak_35 ?_
      refine o_if_ne (tgt := 48) hx hb dX9_speak_36 (by decide) (by decide) (fun c9 => absurd c9 (by decide)) (fun _ => ?_)
      refine lv_iload_n hx hb dX9_speak_39 rfl (lv_at hl 0 rfl) ?_
      refine o_if_eq (tgt := 48) hx hb dX9_speak_40 (by decide) (by decide) (fun c9 => absurd c9 (by decide)) (fun _ => ?_)
      refine lv_aload_n hx hb dX9_speak_43 rfl (lv_at hl 1 rfl) ?_
      refine lv_iload_n hx hb dX9_speak_44 rfl (lv_at hl 2 rfl) ?_
      refine o_callV (wr := []) (rest := []) (As := [.int (nI d)]) C (c_M_newFrameC la D K h ar ad ck bi lo F d true at_ sn ln (!tu) (by first | omega | assumption | (simp only [List.length_append, List.length_cons, List.length_nil, List.length_modify, List.length_set, nb_len, rb_len, rbp_len, sl_len, slN_len, wh_len, wt_len, hd10_len, hdB_len, thr_len, ldp_len, ldB_len, tens_len, whz_len, majL_len, mf_len, tkL_len, ldY_len, fif_len, ldY_len]; omega) | decide) qa qs (by first | omega | assumption | (simp only [List.length_append, List.length_cons, List.length_nil, List.length_modify, List.length_set, nb_len, rb_len, rbp_len, sl_len, slN_len, wh_len, wt_len, hd10_len, hdB_len, thr_len, ldp_len, ldB_len, tens_len, whz_len, majL_len, mf_len, tkL_len, ldY_len, fif_len, ldY_len]; omega) | decide) qp qt q0 (by first | omega | assumption | (simp only [List.length_append, List.length_cons, List.length_nil, List.length_modify, List.length_set, nb_len, rb_len, rbp_len, sl_len, slN_len, wh_len, wt_len, hd10_len, hdB_len, thr_len, ldp_len, ldB_len, tens_len, whz_len, majL_len, mf_len, tkL_len, ldY_len, fif_len, ldY_len]; omega) | decide) (by first | omega | assumption | (simp only [List.length_append, List.length_cons, List.length_nil, List.length_modify, List.length_set, nb_len, rb_len, rbp_len, sl_len, slN_len, wh_len, wt_len, hd10_len, hdB_len, thr_len, ldp_len, ldB_len, tens_len, whz_len, majL_len, mf_len, tkL_len, ldY_len, fif_len, ldY_len]; omega) | decide) ql (by first | omega | assumption | (simp only [List.length_append, List.length_cons, List.length_nil, List.length_modify, List.length_set, nb_len, rb_len, rbp_len, sl_len, slN_len, wh_len, wt_len, hd10_len, hdB_len, thr_len, ldp_len, ldB_len, tens_len, whz_len, majL_len, mf_len, tkL_len, ldY_len, fif_len, ldY_len]; omega) | decide)) kX9_128 vX9_newFrame (by decide) rfl ho [0] 1 (by decide +kernel) rfl rfl rfl rfl rfl hl.1 rfl (Nat.le_of_ble_eq_true rfl) dX9_speak_45 0 0 rfl rfl (by decide) (fun v u_29 H locs hq ho => ?_)
      obtain rfl := hq
      have ho : ow D vwCl A s.heap H locs [bX K h ar ad ck bi lo (nfF (ssF F d sn ln) d true 0 (ln + 1) (!tu))] := ho
      refine W.eq (g2 := F0 m 48 ls []) rfl ?_
      have e_30 : bX K h ar ad ck bi lo (nfF (ssF F d sn ln) d true 0 (ln + 1) (!tu)) = bX K h ar ad ck bi lo F1 := by rw [qF]
      have ho : ow D vwCl A s.heap H locs [bX K h ar ad ck bi lo F1] := by rw [← e_30]; exact ho
      refine lv_aload_n hx hb dX9_speak_48 rfl (lv_at hl 1 rfl) ?_
      refine o_get (v := .ref (ar 11)) C ho 0 0 rfl rfl rfl 15 fX9_43 rfl dX9_speak_49 ?_
      refine lv_iload_n hx hb dX9_speak_52 rfl (lv_at hl 2 rfl) ?_
      refine o_iald (v := nI by_.length) C ho 0 12 rfl rfl 0 rfl d rfl (by omega) (by omega) q11 dX9_speak_53 ?_
      refine o_if_le (tgt := 66) hx hb dX9_speak_54 (by decide) (by omega) (fun c_31 => ?_) (fun c_31 => ?_)
      · skip
        exact absurd c_31 (by omega)
      · skip
        refine lv_aload_n hx hb dX9_speak_57 rfl (lv_at hl 1 rfl) ?_
        refine o_get (v := .ref (ar 12)) C ho 0 0 rfl rfl rfl 16 fX9_46 rfl dX9_speak_58 ?_
        refine lv_iload_n hx hb dX9_speak_61 rfl (lv_at hl 2 rfl) ?_
        refine o_iald (v := nI 4) C ho 0 13 rfl rfl 0 rfl d rfl (by omega) (by omega) q12 dX9_speak_62 ?_
        refine lv_goto (tgt := 69) hx hb dX9_speak_63 (by decide) ?_
        refine lv_istore_n (lv' := [(3, .int (nI 4)), (2, .int (nI 1)), (0, .ref h), (1, .int (nI d))]) hx hb dX9_speak_69 rfl hl (by decide) rfl (fun ls hl => ?_)
        refine lv_aload_n hx hb dX9_speak_70 rfl (lv_at hl 2 rfl) ?_
        refine lv_aload_n hx hb dX9_speak_71 rfl (lv_at hl 2 rfl) ?_
        refine o_get (v := .int (nI ck)) C ho 0 0 rfl rfl rfl 1 fX9_131 rfl dX9_speak_72 ?_
        refine o_callV (wr := []) (rest := []) (As := [.int (nI ck)]) C (c_M_whiten la D K h ar ad ck bi lo F1 ck (by first | omega | assumption | (simp only [List.length_append, List.length_cons, List.length_nil, List.length_modify, List.length_set, nb_len, rb_len, rbp_len, sl_len, slN_len, wh_len, wt_len, hd10_len, hdB_len, thr_len, ldp_len, ldB_len, tens_len, whz_len, majL_len, mf_len, tkL_len, ldY_len, fif_len, ldY_len]; omega) | decide)) kX9_134 vX9_whiten (by decide) rfl ho [0] 1 (by decide +kernel) rfl rfl rfl rfl rfl hl.1 rfl (Nat.le_of_ble_eq_true rfl) dX9_speak_75 0 0 rfl rfl (by decide) (fun v u_32 H locs hq ho => ?_)
        obtain rfl := hq
        have ho : ow D vwCl A s.heap H locs [bX K h ar ad ck bi lo (va_up F1 1 (whP ck (F1 1) 400))] := ho
        refine W.eq (g2 := F0 m 78 ls []) rfl ?_
        refine lv_aload_n hx hb dX9_speak_78 rfl (lv_at hl 2 rfl) ?_
        refine lv_iconst (v := nI 0) hx hb dX9_speak_79 (by decide) ?_
        refine o_put (v := .int (nI 0)) (bs' := [bX K h ar ad ck bi 0 (va_up F1 1 (whP ck (F1 1) 400))]) C ho 0 0 rfl rfl rfl 5 fX9_103 pX9_5 rfl rfl (Nat.le_of_ble_eq_true rfl) dX9_speak_80 rfl (fun H locs ho => ?_)
        refine lv_aload_n hx hb dX9_speak_83 rfl (lv_at hl 2 rfl) ?_
        refine lv_aload_n hx hb dX9_speak_84 rfl (lv_at hl 2 rfl) ?_
        refine o_get (v := .int (nI ad)) C ho 0 0 rfl rfl rfl 0 fX9_95 rfl dX9_speak_85 ?_
        refine lv_iconst (v := nI 3) hx hb dX9_speak_88 (by decide) ?_
        refine o_callV (wr := []) (rest := []) (As := [.int (nI ad), .int (nI 3)]) C (c_M_put la D K h ar ad ck bi 0 (va_up F1 1 (whP ck (F1 1) 400)) ad 3 (by first | omega | assumption | (simp only [List.length_append, List.length_cons, List.length_nil, List.length_modify, List.length_set, nb_len, rb_len, rbp_len, sl_len, slN_len, wh_len, wt_len, hd10_len, hdB_len, thr_len, ldp_len, ldB_len, tens_len, whz_len, majL_len, mf_len, tkL_len, ldY_len, fif_len, ldY_len]; omega) | decide) (by first | omega | assumption | (simp only [List.length_append, List.length_cons, List.length_nil, List.length_modify, List.length_set, nb_len, rb_len, rbp_len, sl_len, slN_len, wh_len, wt_len, hd10_len, hdB_len, thr_len, ldp_len, ldB_len, tens_len, whz_len, majL_len, mf_len, tkL_len, ldY_len, fif_len, ldY_len]; omega) | decide) (by first | omega | assumption | (simp only [List.length_append, List.length_cons, List.length_nil, List.length_modify, List.length_set, nb_len, rb_len, rbp_len, sl_len, slN_len, wh_len, wt_len, hd10_len, hdB_len, thr_len, ldp_len, ldB_len, tens_len, whz_len, majL_len, mf_len, tkL_len, ldY_len, fif_len, ldY_len]; omega) | decide)) kX9_114 vX9_put (by decide) rfl ho [0] 1 (by decide +kernel) rfl rfl rfl rfl rfl hl.1 rfl (Nat.le_of_ble_eq_true rfl) dX9_speak_89 0 0 rfl rfl (by decide) (fun v u_33 H locs hq ho => ?_)
        obtain rfl := hq
        have ho : ow D vwCl A s.heap H locs [bX K h ar ad ck bi (0 + 3) (va_up (va_up F1 1 (whP ck (F1 1) 400)) 2 (wrL (F1 2) 0 (nb ad 3)))] := ho
        refine W.eq (g2 := F0 m 92 ls []) rfl ?_
        have e_34 : bX K h ar ad ck bi (0 + 3) (va_up (va_up F1 1 (whP ck (F1 1) 400)) 2 (wrL (F1 2) 0 (nb ad 3))) = bX K h ar ad ck bi 3 (va_up (va_up F1 1 (whP ck (F1 1) 400)) 2 (wrL (F1 2) 0 (([] : List Bool) ++ nb ad 3))) := rfl
        have ho : ow D vwCl A s.heap H locs [bX K h ar ad ck bi 3 (va_up (va_up F1 1 (whP ck (F1 1) 400)) 2 (wrL (F1 2) 0 (([] : List Bool) ++ nb ad 3)))] := by rw [← e_34]; exact ho
        refine lv_aload_n hx hb dX9_speak_92 rfl (lv_at hl 2 rfl) ?_
        refine lv_iload_n hx hb dX9_speak_93 rfl (lv_at hl 0 rfl) ?_
        refine lv_iconst (v := nI 4) hx hb dX9_speak_94 (by decide) ?_
        refine o_callV (wr := []) (rest := []) (As := [.int (nI 4), .int (nI 4)]) C (c_M_put la D K h ar ad ck bi 3 (va_up (va_up F1 1 (whP ck (F1 1) 400)) 2 (wrL (F1 2) 0 (([] : List Bool) ++ nb ad 3))) 4 4 (by first | omega | assumption | (simp only [List.length_append, List.length_cons, List.length_nil, List.length_modify, List.length_set, nb_len, rb_len, rbp_len, sl_len, slN_len, wh_len, wt_len, hd10_len, hdB_len, thr_len, ldp_len, ldB_len, tens_len, whz_len, majL_len, mf_len, tkL_len, ldY_len, fif_len, ldY_len]; omega) | decide) (by first | omega | assumption | (simp only [List.length_append, List.length_cons, List.length_nil, List.length_modify, List.length_set, nb_len, rb_len, rbp_len, sl_len, slN_len, wh_len, wt_len, hd10_len, hdB_len, thr_len, ldp_len, ldB_len, tens_len, whz_len, majL_len, mf_len, tkL_len, ldY_len, fif_len, ldY_len]; omega) | decide) (by first | omega | assumption | (simp only [List.length_append, List.length_cons, List.length_nil, List.length_modify, List.length_set, nb_len, rb_len, rbp_len, sl_len, slN_len, wh_len, wt_len, hd10_len, hdB_len, thr_len, ldp_len, ldB_len, tens_len, whz_len, majL_len, mf_len, tkL_len, ldY_len, fif_len, ldY_len]; omega) | decide)) kX9_114 vX9_put (by decide) rfl ho [0] 1 (by decide +kernel) rfl rfl rfl rfl rfl hl.1 rfl (Nat.le_of_ble_eq_true rfl) dX9_speak_95 0 0 rfl rfl (by decide) (fun v u_35 H locs hq ho => ?_)
        obtain rfl := hq
        have ho : ow D vwCl A s.heap H locs [bX K h ar ad ck bi (3 + 4) (va_up (va_up (va_up F1 1 (whP ck (F1 1) 400)) 2 (wrL (F1 2) 0 (([] : List Bool) ++ nb ad 3))) 2 (wrL (wrL (F1 2) 0 (([] : List Bool) ++ nb ad 3)) 3 (nb 4 4)))] := ho
        refine W.eq (g2 := F0 m 98 ls []) rfl ?_
        have e_36 : bX K h ar ad ck bi (3 + 4) (va_up (va_up (va_up F1 1 (whP ck (F1 1) 400)) 2 (wrL (F1 2) 0 (([] : List Bool) ++ nb ad 3))) 2 (wrL (wrL (F1 2) 0 (([] : List Bool) ++ nb ad 3)) 3 (nb 4 4))) = bX K h ar ad ck bi 7 (va_up (va_up F1 1 (whP ck (F1 1) 400)) 2 (wrL (F1 2) 0 ((([] : List Bool) ++ nb ad 3) ++ nb 4 4))) := by rw [bx_uu, wrL_app (by simp [nb_len])]
        have ho : ow D vwCl A s.heap H locs [bX K h ar ad ck bi 7 (va_up (va_up F1 1 (whP ck (F1 1) 400)) 2 (wrL (F1 2) 0 ((([] : List Bool) ++ nb ad 3) ++ nb 4 4)))] := by rw [← e_36]; exact ho
        refine lv_aload_n hx hb dX9_speak_98 rfl (lv_at hl 2 rfl) ?_
        refine lv_iconst (v := nI 1) hx hb dX9_speak_99 (by decide) ?_
        refine lv_iconst (v := nI 1) hx hb dX9_speak_100 (by decide) ?_
        refine o_callV (wr := []) (rest := []) (As := [.int (nI 1), .int (nI 1)]) C (c_M_put la D K h ar ad ck bi 7 (va_up (va_up F1 1 (whP ck (F1 1) 400)) 2 (wrL (F1 2) 0 ((([] : List Bool) ++ nb ad 3) ++ nb 4 4))) 1 1 (by first | omega | assumption | (simp only [List.length_append, List.length_cons, List.length_nil, List.length_modify, List.length_set, nb_len, rb_len, rbp_len, sl_len, slN_len, wh_len, wt_len, hd10_len, hdB_len, thr_len, ldp_len, ldB_len, tens_len, whz_len, majL_len, mf_len, tkL_len, ldY_len, fif_len, ldY_len]; omega) | decide) (by first | omega | assumption | (simp only [List.length_append, List.length_cons, List.length_nil, List.length_modify, List.length_set, nb_len, rb_len, rbp_len, sl_len, slN_len, wh_len, wt_len, hd10_len, hdB_len, thr_len, ldp_len, ldB_len, tens_len, whz_len, majL_len, mf_len, tkL_len, ldY_len, fif_len, ldY_len]; omega) | decide) (by first | omega | assumption | (simp only [List.length_append, List.length_cons, List.length_nil, List.length_modify, List.length_set, nb_len, rb_len, rbp_len, sl_len, slN_len, wh_len, wt_len, hd10_len, hdB_len, thr_len, ldp_len, ldB_len, tens_len, whz_len, majL_len, mf_len, tkL_len, ldY_len, fif_len, ldY_len]; omega) | decide)) kX9_114 vX9_put (by decide) rfl ho [0] 1 (by decide +kernel) rfl rfl rfl rfl rfl hl.1 rfl (Nat.le_of_ble_eq_true rfl) dX9_speak_101 0 0 rfl rfl (by decide) (fun v u_37 H locs hq ho => ?_)
        obtain rfl := hq
        have ho : ow D vwCl A s.heap H locs [bX K h ar ad ck bi (7 + 1) (va_up (va_up (va_up F1 1 (whP ck (F1 1) 400)) 2 (wrL (F1 2) 0 ((([] : List Bool) ++ nb ad 3) ++ nb 4 4))) 2 (wrL (wrL (F1 2) 0 ((([] : List Bool) ++ nb ad 3) ++ nb 4 4)) 7 (nb 1 1)))] := ho
        refine W.eq (g2 := F0 m 104 ls []) rfl ?_
        have e_38 : bX K h ar ad ck bi (7 + 1) (va_up (va_up (va_up F1 1 (whP ck (F1 1) 400)) 2 (wrL (F1 2) 0 ((([] : List Bool) ++ nb ad 3) ++ nb 4 4))) 2 (wrL (wrL (F1 2) 0 ((([] : List Bool) ++ nb ad 3) ++ nb 4 4)) 7 (nb 1 1))) = bX K h ar ad ck bi 8 (va_up (va_up F1 1 (whP ck (F1 1) 400)) 2 (wrL (F1 2) 0 (((([] : List Bool) ++ nb ad 3) ++ nb 4 4) ++ [true]))) := by rw [bx_uu, wrL_app (by simp [nb_len])] <;> rfl
        have ho : ow D vwCl A s.heap H locs [bX K h ar ad ck bi 8 (va_up (va_up F1 1 (whP ck (F1 1) 400)) 2 (wrL (F1 2) 0 (((([] : List Bool) ++ nb ad 3) ++ nb 4 4) ++ [true])))] := by rw [← e_38]; exact ho
        refine lv_aload_n hx hb dX9_speak_104 rfl (lv_at hl 2 rfl) ?_
        refine lv_aload_n hx hb dX9_speak_105 rfl (lv_at hl 2 rfl) ?_
        refine o_get (v := .ref (ar 24)) C ho 0 0 rfl rfl rfl 28 fX9_83 rfl dX9_speak_106 ?_
        refine lv_iload_n hx hb dX9_speak_109 rfl (lv_at hl 3 rfl) ?_
        refine o_zald (v := bI gd) C ho 0 25 rfl rfl 3 rfl d rfl (by omega) (by decide) q24 dX9_speak_110 ?_
        have J119 : W p la e (rmL 4 0 0) s m args below meth c H locs 0 0 Qz (F0 m 119 ls [.int (nI gd.toNat), .ref h]) := by
          refine lv_iconst (v := nI 1) hx hb dX9_speak_119 (by decide) ?_
          refine o_callV (wr := []) (rest := []) (As := [.int (nI gd.toNat), .int (nI 1)]) C (c_M_put la D K h ar ad ck bi 8 (va_up (va_up F1 1 (whP ck (F1 1) 400)) 2 (wrL (F1 2) 0 (((([] : List Bool) ++ nb ad 3) ++ nb 4 4) ++ [true]))) gd.toNat 1 (tN_lt _) (by first | omega | assumption | (simp only [List.length_append, List.length_cons, List.length_nil, List.length_modify, List.length_set, nb_len, rb_len, rbp_len, sl_len, slN_len, wh_len, wt_len, hd10_len, hdB_len, thr_len, ldp_len, ldB_len, tens_len, whz_len, majL_len, mf_len, tkL_len, ldY_len, fif_len, ldY_len]; omega) | decide) (by first | omega | assumption | (simp only [List.length_append, List.length_cons, List.length_nil, List.length_modify, List.length_set, nb_len, rb_len, rbp_len, sl_len, slN_len, wh_len, wt_len, hd10_len, hdB_len, thr_len, ldp_len, ldB_len, tens_len, whz_len, majL_len, mf_len, tkL_len, ldY_len, fif_len, ldY_len]; omega) | decide)) kX9_114 vX9_put (by decide) rfl ho [0] 1 (by decide +kernel) rfl rfl rfl rfl rfl hl.1 rfl (Nat.le_of_ble_eq_true rfl) dX9_speak_120 0 0 rfl rfl (by decide) (fun v u_39 H locs hq ho => ?_)
          obtain rfl := hq
          have ho : ow D vwCl A s.heap H locs [bX K h ar ad ck bi (8 + 1) (va_up (va_up (va_up F1 1 (whP ck (F1 1) 400)) 2 (wrL (F1 2) 0 (((([] : List Bool) ++ nb ad 3) ++ nb 4 4) ++ [true]))) 2 (wrL (wrL (F1 2) 0 (((([] : List Bool) ++ nb ad 3) ++ nb 4 4) ++ [true])) 8 (nb gd.toNat 1)))] := ho
          refine W.eq (g2 := F0 m 123 ls []) rfl ?_
          have e_40 : bX K h ar ad ck bi (8 + 1) (va_up (va_up (va_up F1 1 (whP ck (F1 1) 400)) 2 (wrL (F1 2) 0 (((([] : List Bool) ++ nb ad 3) ++ nb 4 4) ++ [true]))) 2 (wrL (wrL (F1 2) 0 (((([] : List Bool) ++ nb ad 3) ++ nb 4 4) ++ [true])) 8 (nb gd.toNat 1))) = bX K h ar ad ck bi 9 (va_up (va_up F1 1 (whP ck (F1 1) 400)) 2 (wrL (F1 2) 0 ((((([] : List Bool) ++ nb ad 3) ++ nb 4 4) ++ [true]) ++ [gd]))) := by rw [bx_uu, wrL_app (by simp [nb_len]), nb_b]
          have ho : ow D vwCl A s.heap H locs [bX K h ar ad ck bi 9 (va_up (va_up F1 1 (whP ck (F1 1) 400)) 2 (wrL (F1 2) 0 ((((([] : List Bool) ++ nb ad 3) ++ nb 4 4) ++ [true]) ++ [gd])))] := by rw [← e_40]; exact ho
          refine lv_aload_n hx hb dX9_speak_123 rfl (lv_at hl 2 rfl) ?_
          refine lv_aload_n hx hb dX9_speak_124 rfl (lv_at hl 2 rfl) ?_
          refine o_get (v := .ref (ar 22)) C ho 0 0 rfl rfl rfl 26 fX9_77 rfl dX9_speak_125 ?_
          refine lv_iload_n hx hb dX9_speak_128 rfl (lv_at hl 3 rfl) ?_
          refine o_iald (v := nI tu.toNat) C ho 0 23 rfl rfl 0 rfl d rfl (by omega) (by omega) (q22.trans (bI_N _)) dX9_speak_129 ?_
          refine lv_iconst (v := nI 1) hx hb dX9_speak_130 (by decide) ?_
          refine o_callV (wr := []) (rest := []) (As := [.int (nI tu.toNat), .int (nI 1)]) C (c_M_put la D K h ar ad ck bi 9 (va_up (va_up F1 1 (whP ck (F1 1) 400)) 2 (wrL (F1 2) 0 ((((([] : List Bool) ++ nb ad 3) ++ nb 4 4) ++ [true]) ++ [gd]))) tu.toNat 1 (tN_lt _) (by first | omega | assumption | (simp only [List.length_append, List.length_cons, List.length_nil, List.length_modify, List.length_set, nb_len, rb_len, rbp_len, sl_len, slN_len, wh_len, wt_len, hd10_len, hdB_len, thr_len, ldp_len, ldB_len, tens_len, whz_len, majL_len, mf_len, tkL_len, ldY_len, fif_len, ldY_len]; omega) | decide) (by first | omega | assumption | (simp only [List.length_append, List.length_cons, List.length_nil, List.length_modify, List.length_set, nb_len, rb_len, rbp_len, sl_len, slN_len, wh_len, wt_len, hd10_len, hdB_len, thr_len, ldp_len, ldB_len, tens_len, whz_len, majL_len, mf_len, tkL_len, ldY_len, fif_len, ldY_len]; omega) | decide)) kX9_114 vX9_put (by decide) rfl ho [0] 1 (by decide +kernel) rfl rfl rfl rfl rfl hl.1 rfl (Nat.le_of_ble_eq_true rfl) dX9_speak_131 0 0 rfl rfl (by decide) (fun v u_41 H locs hq ho => ?_)
          obtain rfl := hq
          have ho : ow D vwCl A s.heap H locs [bX K h ar ad ck bi (9 + 1) (va_up (va_up (va_up F1 1 (whP ck (F1 1) 400)) 2 (wrL (F1 2) 0 ((((([] : List Bool) ++ nb ad 3) ++ nb 4 4) ++ [true]) ++ [gd]))) 2 (wrL (wrL (F1 2) 0 ((((([] : List Bool) ++ nb ad 3) ++ nb 4 4) ++ [true]) ++ [gd])) 9 (nb tu.toNat 1)))] := ho
          refine W.eq (g2 := F0 m 134 ls []) rfl ?_
          have e_42 : bX K h ar ad ck bi (9 + 1) (va_up (va_up (va_up F1 1 (whP ck (F1 1) 400)) 2 (wrL (F1 2) 0 ((((([] : List Bool) ++ nb ad 3) ++ nb 4 4) ++ [true]) ++ [gd]))) 2 (wrL (wrL (F1 2) 0 ((((([] : List Bool) ++ nb ad 3) ++ nb 4 4) ++ [true]) ++ [gd])) 9 (nb tu.toNat 1))) = bX K h ar ad ck bi 10 (va_up (va_up F1 1 (whP ck (F1 1) 400)) 2 (wrL (F1 2) 0 (hd10 ad 4 gd tu))) := by rw [bx_uu, wrL_app (by simp [nb_len]), nb_b] <;> rfl
          have ho : ow D vwCl A s.heap H locs [bX K h ar ad ck bi 10 (va_up (va_up F1 1 (whP ck (F1 1) 400)) 2 (wrL (F1 2) 0 (hd10 ad 4 gd tu)))] := by rw [← e_42]; exact ho
          refine lv_aload_n hx hb dX9_speak_134 rfl (lv_at hl 2 rfl) ?_
          refine lv_iconst (v := nI 0) hx hb dX9_speak_135 (by decide) ?_
          refine lv_bipush (v := nI 10) hx hb dX9_speak_136 (by decide) ?_
          refine lv_sipush (v := nI 423) hx hb dX9_speak_138 (by decide) ?_
          refine lv_bipush (v := nI 8) hx hb dX9_speak_141 (by decide) ?_
          refine o_callV (wr := []) (rest := []) (As := [.int (nI 0), .int (nI 10), .int (nI 423), .int (nI 8)]) C (c_M_putRem la D K h ar ad ck bi 10 (va_up (va_up F1 1 (whP ck (F1 1) 400)) 2 (wrL (F1 2) 0 (hd10 ad 4 gd tu))) 0 10 423 8 (hd10 ad 4 gd tu) (fun i hi => by rw [Nat.zero_add, va_up_self]; exact wrL_in0 hi) (by rw [hd10_len]) (by first | omega | assumption | (simp only [List.length_append, List.length_cons, List.length_nil, List.length_modify, List.length_set, nb_len, rb_len, rbp_len, sl_len, slN_len, wh_len, wt_len, hd10_len, hdB_len, thr_len, ldp_len, ldB_len, tens_len, whz_len, majL_len, mf_len, tkL_len, ldY_len, fif_len, ldY_len]; omega) | decide) (by first | omega | assumption | (simp only [List.length_append, List.length_cons, List.length_nil, List.length_modify, List.length_set, nb_len, rb_len, rbp_len, sl_len, slN_len, wh_len, wt_len, hd10_len, hdB_len, thr_len, ldp_len, ldB_len, tens_len, whz_len, majL_len, mf_len, tkL_len, ldY_len, fif_len, ldY_len]; omega) | decide) (by first | omega | assumption | (simp only [List.length_append, List.length_cons, List.length_nil, List.length_modify, List.length_set, nb_len, rb_len, rbp_len, sl_len, slN_len, wh_len, wt_len, hd10_len, hdB_len, thr_len, ldp_len, ldB_len, tens_len, whz_len, majL_len, mf_len, tkL_len, ldY_len, fif_len, ldY_len]; omega) | decide) (by first | omega | assumption | (simp only [List.length_append, List.length_cons, List.length_nil, List.length_modify, List.length_set, nb_len, rb_len, rbp_len, sl_len, slN_len, wh_len, wt_len, hd10_len, hdB_len, thr_len, ldp_len, ldB_len, tens_len, whz_len, majL_len, mf_len, tkL_len, ldY_len, fif_len, ldY_len]; omega) | decide) (by decide) (by decide) pw423 (by first | omega | assumption | (simp only [List.length_append, List.length_cons, List.length_nil, List.length_modify, List.length_set, nb_len, rb_len, rbp_len, sl_len, slN_len, wh_len, wt_len, hd10_len, hdB_len, thr_len, ldp_len, ldB_len, tens_len, whz_len, majL_len, mf_len, tkL_len, ldY_len, fif_len, ldY_len]; omega) | decide)) kX9_137 vX9_putRem (by decide) rfl ho [0] 1 (by decide +kernel) rfl rfl rfl rfl rfl hl.1 rfl (Nat.le_of_ble_eq_true rfl) dX9_speak_143 0 0 rfl rfl (by decide) (fun v u_43 H locs hq ho => ?_)
          obtain rfl := hq
          have ho : ow D vwCl A s.heap H locs [bX K h ar ad ck bi (10 + 8) (va_up (va_up (va_up F1 1 (whP ck (F1 1) 400)) 2 (wrL (F1 2) 0 (hd10 ad 4 gd tu))) 2 (wrL (wrL (F1 2) 0 (hd10 ad 4 gd tu)) 10 (rb (crc 423 8 (hd10 ad 4 gd tu)) 8)))] := ho
          refine W.eq (g2 := F0 m 146 ls []) rfl ?_
          have e_44 : bX K h ar ad ck bi (10 + 8) (va_up (va_up (va_up F1 1 (whP ck (F1 1) 400)) 2 (wrL (F1 2) 0 (hd10 ad 4 gd tu))) 2 (wrL (wrL (F1 2) 0 (hd10 ad 4 gd tu)) 10 (rb (crc 423 8 (hd10 ad 4 gd tu)) 8))) = bX K h ar ad ck bi 18 (va_up (va_up F1 1 (whP ck (F1 1) 400)) 2 (wrL (F1 2) 0 (hdB ad 4 gd tu))) := by rw [bx_uu, wrL_app (by rw [hd10_len]), hdB_eq]
          have ho : ow D vwCl A s.heap H locs [bX K h ar ad ck bi 18 (va_up (va_up F1 1 (whP ck (F1 1) 400)) 2 (wrL (F1 2) 0 (hdB ad 4 gd tu)))] := by rw [← e_44]; exact ho
          refine lv_iload_n hx hb dX9_speak_146 rfl (lv_at hl 0 rfl) ?_
          refine lv_iconst (v := nI 2) hx hb dX9_speak_147 (by decide) ?_
          refine o_icmp_le (tgt := 232) hx hb dX9_speak_148 (by decide) (by decide) (by decide) (fun c9 => absurd c9 (by decide)) (fun _ => ?_)
          refine lv_aload_n hx hb dX9_speak_151 rfl (lv_at hl 2 rfl) ?_
          refine lv_iconst (v := nI 4) hx hb dX9_speak_152 (by decide) ?_
          refine lv_aload_n hx hb dX9_speak_153 rfl (lv_at hl 2 rfl) ?_
          refine o_get (v := .ref (ar 11)) C ho 0 0 rfl rfl rfl 15 fX9_43 rfl dX9_speak_154 ?_
          refine lv_iload_n hx hb dX9_speak_157 rfl (lv_at hl 3 rfl) ?_
          refine o_iald (v := nI by_.length) C ho 0 12 rfl rfl 0 rfl d rfl (by omega) (by omega) q11 dX9_speak_158 ?_
          refine o_mul hx hb dX9_speak_159 ?_
          refine lv_aload_n hx hb dX9_speak_160 rfl (lv_at hl 2 rfl) ?_
          refine o_get (v := .ref (ar 13)) C ho 0 0 rfl rfl rfl 17 fX9_49 rfl dX9_speak_161 ?_
          refine lv_iload_n hx hb dX9_speak_164 rfl (lv_at hl 3 rfl) ?_
          refine o_zald (v := bI be) C ho 0 14 rfl rfl 3 rfl d rfl (by omega) (by decide) q13 dX9_speak_165 ?_
          have J174 : W p la e (rmL 4 0 0) s m args below meth c H locs 0 0 Qz (F0 m 174 ls [.int (nI (cond be 2 1)), .int (nI (4 * by_.length)), .ref h]) := by
            refine o_add hx hb dX9_speak_174 ?_
            refine lv_bipush (v := nI 8) hx hb dX9_speak_175 (by decide) ?_
            refine o_callV (wr := []) (rest := []) (As := [.int (nI ((4 * by_.length) + (cond be 2 1))), .int (nI 8)]) C (c_M_put la D K h ar ad ck bi 18 (va_up (va_up F1 1 (whP ck (F1 1) 400)) 2 (wrL (F1 2) 0 (hdB ad 4 gd tu))) ((4 * by_.length) + (cond be 2 1)) 8 (by first | omega | assumption | (simp only [List.length_append, List.length_cons, List.length_nil, List.length_modify, List.length_set, nb_len, rb_len, rbp_len, sl_len, slN_len, wh_len, wt_len, hd10_len, hdB_len, thr_len, ldp_len, ldB_len, tens_len, whz_len, majL_len, mf_len, tkL_len, ldY_len, fif_len, ldY_len]; omega) | decide) (by first | omega | assumption | (simp only [List.length_append, List.length_cons, List.length_nil, List.length_modify, List.length_set, nb_len, rb_len, rbp_len, sl_len, slN_len, wh_len, wt_len, hd10_len, hdB_len, thr_len, ldp_len, ldB_len, tens_len, whz_len, majL_len, mf_len, tkL_len, ldY_len, fif_len, ldY_len]; omega) | decide) (by first | omega | assumption | (simp only [List.length_append, List.length_cons, List.length_nil, List.length_modify, List.length_set, nb_len, rb_len, rbp_len, sl_len, slN_len, wh_len, wt_len, hd10_len, hdB_len, thr_len, ldp_len, ldB_len, tens_len, whz_len, majL_len, mf_len, tkL_len, ldY_len, fif_len, ldY_len]; omega) | decide)) kX9_114 vX9_put (by decide) rfl ho [0] 1 (by decide +kernel) rfl rfl rfl rfl rfl hl.1 rfl (Nat.le_of_ble_eq_true rfl) dX9_speak_177 0 0 rfl rfl (by decide) (fun v u_45 H locs hq ho => ?_)
            obtain rfl := hq
            have ho : ow D vwCl A s.heap H locs [bX K h ar ad ck bi (18 + 8) (va_up (va_up (va_up F1 1 (whP ck (F1 1) 400)) 2 (wrL (F1 2) 0 (hdB ad 4 gd tu))) 2 (wrL (wrL (F1 2) 0 (hdB ad 4 gd tu)) 18 (nb ((4 * by_.length) + (cond be 2 1)) 8)))] := ho
            refine W.eq (g2 := F0 m 180 ls []) rfl ?_
            have e_46 : bX K h ar ad ck bi (18 + 8) (va_up (va_up (va_up F1 1 (whP ck (F1 1) 400)) 2 (wrL (F1 2) 0 (hdB ad 4 gd tu))) 2 (wrL (wrL (F1 2) 0 (hdB ad 4 gd tu)) 18 (nb ((4 * by_.length) + (cond be 2 1)) 8))) = bX K h ar ad ck bi (18 + (8 + 8 * 0)) (va_up (va_up F1 1 (whP ck (F1 1) 400)) 2 (wrL (F1 2) 0 (hdB ad 4 gd tu ++ ldp (cond be 2 1) by_ 0))) := by rw [bx_uu, wrL_app (by rw [hdB_len]), ldp_0]
            have ho : ow D vwCl A s.heap H locs [bX K h ar ad ck bi (18 + (8 + 8 * 0)) (va_up (va_up F1 1 (whP ck (F1 1) 400)) 2 (wrL (F1 2) 0 (hdB ad 4 gd tu ++ ldp (cond be 2 1) by_ 0)))] := by rw [← e_46]; exact ho
            refine lv_iconst (v := nI 0) hx hb dX9_speak_180 (by decide) ?_
            refine lv_istore (lv' := [(4, .int (nI 0)), (3, .int (nI 4)), (2, .int (nI 1)), (0, .ref h), (1, .int (nI d))]) hx hb dX9_speak_181 hl (by decide) rfl (fun ls hl => ?_)
            have LP183 : ∀ (fuel : Nat) (i : Nat) (_ : by_.length - i < fuel) (_ : i ≤ by_.length) (H : Heap) (locs : List Loc) (ls : Array Slot) (_ : ow D vwCl A s.heap H locs [bX K h ar ad ck bi (18 + (8 + 8 * i)) (va_up (va_up F1 1 (whP ck (F1 1) 400)) 2 (wrL (F1 2) 0 (hdB ad 4 gd tu ++ ldp (cond be 2 1) by_ i)))]) (_ : lv_has ls 5 [(0, .ref h), (1, .int (nI d)), (3, .int (nI 4)), (4, .int (nI i))]), W p la e (rmL 4 0 0) s m args below meth c H locs 0 0 Qz (F0 m 183 ls []) := by
              intro fuel
              induction fuel with
              | zero => intro i h0; exact absurd h0 (Nat.not_lt_zero _)
              | succ fuel ih183 =>
                intro i hfu hi H locs ls ho hl
                refine lv_iload hx hb dX9_speak_183 (lv_at hl 3 rfl) ?_
                refine lv_aload_n hx hb dX9_speak_185 rfl (lv_at hl 0 rfl) ?_
                refine o_get (v := .ref (ar 11)) C ho 0 0 rfl rfl rfl 15 fX9_43 rfl dX9_speak_186 ?_
                refine lv_iload_n hx hb dX9_speak_189 rfl (lv_at hl 1 rfl) ?_
                refine o_iald (v := nI by_.length) C ho 0 12 rfl rfl 0 rfl d rfl (by omega) (by omega) q11 dX9_speak_190 ?_
                refine o_icmp_ge (tgt := 218) hx hb dX9_speak_191 (by decide) (by first | omega | exact and1_lt _) (by first | omega | exact and1_lt _) (fun c_47 => ?_) (fun c_47 => ?_)
                · skip
                  have e_48 : bX K h ar ad ck bi (18 + (8 + 8 * i)) (va_up (va_up F1 1 (whP ck (F1 1) 400)) 2 (wrL (F1 2) 0 (hdB ad 4 gd tu ++ ldp (cond be 2 1) by_ i))) = bX K h ar ad ck bi (18 + (8 + 8 * by_.length)) (va_up (va_up F1 1 (whP ck (F1 1) 400)) 2 (wrL (F1 2) 0 (hdB ad 4 gd tu ++ ldp (cond be 2 1) by_ by_.length))) := by rw [show i = by_.length by omega]
                  have ho : ow D vwCl A s.heap H locs [bX K h ar ad ck bi (18 + (8 + 8 * by_.length)) (va_up (va_up F1 1 (whP ck (F1 1) 400)) 2 (wrL (F1 2) 0 (hdB ad 4 gd tu ++ ldp (cond be 2 1) by_ by_.length)))] := by rw [← e_48]; exact ho
                  refine lv_aload_n hx hb dX9_speak_218 rfl (lv_at hl 0 rfl) ?_
                  refine lv_bipush (v := nI 18) hx hb dX9_speak_219 (by decide) ?_
                  refine lv_aload_n hx hb dX9_speak_221 rfl (lv_at hl 0 rfl) ?_
                  refine o_get (v := .int (nI (18 + (8 + 8 * by_.length)))) C ho 0 0 rfl rfl rfl 5 fX9_103 rfl dX9_speak_222 ?_
                  refine lv_ldc (v := nI 69665) hx hb C.1.2.2.2.1 (C.1.2.2.2.2 _ mX9_k141) dX9_speak_225 ?_
                  refine lv_bipush (v := nI 16) hx hb dX9_speak_227 (by decide) ?_
                  refine o_callV (wr := []) (rest := []) (As := [.int (nI 18), .int (nI (18 + (8 + 8 * by_.length))), .int (nI 69665), .int (nI 16)]) C (c_M_putRem la D K h ar ad ck bi (18 + (8 + 8 * by_.length)) (va_up (va_up F1 1 (whP ck (F1 1) 400)) 2 (wrL (F1 2) 0 (hdB ad 4 gd tu ++ ldp (cond be 2 1) by_ by_.length))) 18 (18 + (8 + 8 * by_.length)) 69665 16 (ldp (cond be 2 1) by_ by_.length) (fun i hi => by rw [va_up_self]; exact wrL_r (hdB_len _ _ _ _) hi) (by rw [ldp_len]) (by first | omega | assumption | (simp only [List.length_append, List.length_cons, List.length_nil, List.length_modify, List.length_set, nb_len, rb_len, rbp_len, sl_len, slN_len, wh_len, wt_len, hd10_len, hdB_len, thr_len, ldp_len, ldB_len, tens_len, whz_len, majL_len, mf_len, tkL_len, ldY_len, fif_len, ldY_len]; omega) | decide) (by first | omega | assumption | (simp only [List.length_append, List.length_cons, List.length_nil, List.length_modify, List.length_set, nb_len, rb_len, rbp_len, sl_len, slN_len, wh_len, wt_len, hd10_len, hdB_len, thr_len, ldp_len, ldB_len, tens_len, whz_len, majL_len, mf_len, tkL_len, ldY_len, fif_len, ldY_len]; omega) | decide) (by first | omega | assumption | (simp only [List.length_append, List.length_cons, List.length_nil, List.length_modify, List.length_set, nb_len, rb_len, rbp_len, sl_len, slN_len, wh_len, wt_len, hd10_len, hdB_len, thr_len, ldp_len, ldB_len, tens_len, whz_len, majL_len, mf_len, tkL_len, ldY_len, fif_len, ldY_len]; omega) | decide) (by first | omega | assumption | (simp only [List.length_append, List.length_cons, List.length_nil, List.length_modify, List.length_set, nb_len, rb_len, rbp_len, sl_len, slN_len, wh_len, wt_len, hd10_len, hdB_len, thr_len, ldp_len, ldB_len, tens_len, whz_len, majL_len, mf_len, tkL_len, ldY_len, fif_len, ldY_len]; omega) | decide) (by decide) (by decide) pw69665 (by first | omega | assumption | (simp only [List.length_append, List.length_cons, List.length_nil, List.length_modify, List.length_set, nb_len, rb_len, rbp_len, sl_len, slN_len, wh_len, wt_len, hd10_len, hdB_len, thr_len, ldp_len, ldB_len, tens_len, whz_len, majL_len, mf_len, tkL_len, ldY_len, fif_len, ldY_len]; omega) | decide)) kX9_137 vX9_putRem (by decide) rfl ho [0] 1 (by decide +kernel) rfl rfl rfl rfl rfl hl.1 rfl (Nat.le_of_ble_eq_true rfl) dX9_speak_229 0 0 rfl rfl (by decide) (fun v u_49 H locs hq ho => ?_)
                  obtain rfl := hq
                  have ho : ow D vwCl A s.heap H locs [bX K h ar ad ck bi ((18 + (8 + 8 * by_.length)) + 16) (va_up (va_up (va_up F1 1 (whP ck (F1 1) 400)) 2 (wrL (F1 2) 0 (hdB ad 4 gd tu ++ ldp (cond be 2 1) by_ by_.length))) 2 (wrL (wrL (F1 2) 0 (hdB ad 4 gd tu ++ ldp (cond be 2 1) by_ by_.length)) (18 + (8 + 8 * by_.length)) (rb (crc 69665 16 (ldp (cond be 2 1) by_ by_.length)) 16)))] := ho
                  refine W.eq (g2 := F0 m 232 ls []) rfl ?_
                  have e_50 : bX K h ar ad ck bi ((18 + (8 + 8 * by_.length)) + 16) (va_up (va_up (va_up F1 1 (whP ck (F1 1) 400)) 2 (wrL (F1 2) 0 (hdB ad 4 gd tu ++ ldp (cond be 2 1) by_ by_.length))) 2 (wrL (wrL (F1 2) 0 (hdB ad 4 gd tu ++ ldp (cond be 2 1) by_ by_.length)) (18 + (8 + 8 * by_.length)) (rb (crc 69665 16 (ldp (cond be 2 1) by_ by_.length)) 16))) = bX K h ar ad ck bi ((18 + (8 + 8 * by_.length)) + 16) (va_up (va_up F1 1 (whP ck (F1 1) 400)) 2 (wrL (F1 2) 0 (hdB ad 4 gd tu ++ ldB (cond be 2 1) by_))) := by rw [bx_uu, wrL_app (by rw [List.length_append, hdB_len, ldp_len]; omega), ldB_eq, List.append_assoc]
                  have ho : ow D vwCl A s.heap H locs [bX K h ar ad ck bi ((18 + (8 + 8 * by_.length)) + 16) (va_up (va_up F1 1 (whP ck (F1 1) 400)) 2 (wrL (F1 2) 0 (hdB ad 4 gd tu ++ ldB (cond be 2 1) by_)))] := by rw [← e_50]; exact ho
                  have hlB := ldB_len (cond be 2 1) by_
                  refine lv_aload_n hx hb dX9_speak_232 rfl (lv_at hl 0 rfl) ?_
                  refine lv_iload_n hx hb dX9_speak_233 rfl (lv_at hl 2 rfl) ?_
                  refine o_callV (wr := []) (rest := []) (As := [.int (nI 4)]) C (c_M_sendBits4 la D K h ar ad ck bi ((18 + (8 + 8 * by_.length)) + 16) (va_up (va_up F1 1 (whP ck (F1 1) 400)) 2 (wrL (F1 2) 0 (hdB ad 4 gd tu ++ ldB (cond be 2 1) by_))) ck (hdB ad 4 gd tu) (ldB (cond be 2 1) by_) (fun i hi => whP_in hi) (fun i hi => wrL_l (hdB_len _ _ _ _) hi) (hdB_len _ _ _ _) (fun i hi => wrL_r (hdB_len _ _ _ _) hi) (by rw [ldB_len]; omega) (by rw [ldB_len]; omega)) kX9_142 vX9_sendBits (by decide) rfl ho [0] 1 (by decide +kernel) rfl rfl rfl rfl rfl hl.1 rfl (Nat.le_of_ble_eq_true rfl) dX9_speak_234 0 0 rfl rfl (by decide) (fun v u_51 H locs hq ho => ?_)
                  obtain rfl := hq
                  have ho : ow D vwCl A s.heap H locs [bX K h ar ad ck (54 + (ldB (cond be 2 1) by_).length) ((18 + (8 + 8 * by_.length)) + 16) (va_up (va_up (va_up (va_up F1 1 (whP ck (F1 1) 400)) 2 (wrL (F1 2) 0 (hdB ad 4 gd tu ++ ldB (cond be 2 1) by_))) 0 (wrL (F1 0) 0 (thr (whz (hdB ad 4 gd tu) (wt ck) 0) 54 ++ sl (whz (ldB (cond be 2 1) by_) (wt ck) 18) 0 (ldB (cond be 2 1) by_).length))) 2 (u_51))] := ho
                  refine W.eq (g2 := F0 m 237 ls []) rfl ?_
                  have e_52 : bX K h ar ad ck (54 + (ldB (cond be 2 1) by_).length) ((18 + (8 + 8 * by_.length)) + 16) (va_up (va_up (va_up (va_up F1 1 (whP ck (F1 1) 400)) 2 (wrL (F1 2) 0 (hdB ad 4 gd tu ++ ldB (cond be 2 1) by_))) 0 (wrL (F1 0) 0 (thr (whz (hdB ad 4 gd tu) (wt ck) 0) 54 ++ sl (whz (ldB (cond be 2 1) by_) (wt ck) 18) 0 (ldB (cond be 2 1) by_).length))) 2 (u_51)) = bX K h ar ad ck ((airW ck ad 4 gd tu (cond be 2 1) by_).length) ((18 + (8 + 8 * by_.length)) + 16) (va_up (va_up (va_up F1 1 (whP ck (F1 1) 400)) 0 (wrL (F1 0) 0 (airW ck ad 4 gd tu (cond be 2 1) by_))) 2 (u_51)) := by rw [airW_l4 ck ad gd tu (cond be 2 1) by_, airW_4 ck ad gd tu (cond be 2 1) by_, up_c202]
                  have ho : ow D vwCl A s.heap H locs [bX K h ar ad ck ((airW ck ad 4 gd tu (cond be 2 1) by_).length) ((18 + (8 + 8 * by_.length)) + 16) (va_up (va_up (va_up F1 1 (whP ck (F1 1) 400)) 0 (wrL (F1 0) 0 (airW ck ad 4 gd tu (cond be 2 1) by_))) 2 (u_51))] := by rw [← e_52]; exact ho
                  refine lv_aload_n hx hb dX9_speak_237 rfl (lv_at hl 0 rfl) ?_
                  refine o_get (v := .ref (ar 24)) C ho 0 0 rfl rfl rfl 28 fX9_83 rfl dX9_speak_238 ?_
                  refine lv_iload_n hx hb dX9_speak_241 rfl (lv_at hl 1 rfl) ?_
                  refine lv_iconst (v := nI 0) hx hb dX9_speak_242 (by decide) ?_
                  refine o_top (y := bI false) (rfl) ?_
                  refine o_zast (bs' := [bX K h ar ad ck ((airW ck ad 4 gd tu (cond be 2 1) by_).length) ((18 + (8 + 8 * by_.length)) + 16) (va_up (va_up (va_up (va_up F1 1 (whP ck (F1 1) 400)) 0 (wrL (F1 0) 0 (airW ck ad 4 gd tu (cond be 2 1) by_))) 2 (u_51)) 24 (upd (F1 24) d (bI false)))]) C ho 0 25 rfl rfl 3 rfl d rfl (by omega) (by decide) dX9_speak_243 rfl (fun H locs ho => ?_)
                  refine lv_aload_n hx hb dX9_speak_244 rfl (lv_at hl 0 rfl) ?_
                  refine o_get (v := .ref (ar 25)) C ho 0 0 rfl rfl rfl 29 fX9_86 rfl dX9_speak_245 ?_
                  refine lv_iload_n hx hb dX9_speak_248 rfl (lv_at hl 1 rfl) ?_
                  refine lv_iconst (v := nI 0) hx hb dX9_speak_249 (by decide) ?_
                  refine o_top (y := bI false) (rfl) ?_
                  refine o_zast (bs' := [bX K h ar ad ck ((airW ck ad 4 gd tu (cond be 2 1) by_).length) ((18 + (8 + 8 * by_.length)) + 16) (va_up (va_up (va_up (va_up (va_up F1 1 (whP ck (F1 1) 400)) 0 (wrL (F1 0) 0 (airW ck ad 4 gd tu (cond be 2 1) by_))) 2 (u_51)) 24 (upd (F1 24) d (bI false))) 25 (upd (F1 25) d (bI false)))]) C ho 0 26 rfl rfl 3 rfl d rfl (by omega) (by decide) dX9_speak_250 rfl (fun H locs ho => ?_)
                  refine lv_iload_n hx hb dX9_speak_251 rfl (lv_at hl 2 rfl) ?_
                  exact o_iret hQ C rfl ho u_51 rfl rfl (Nat.le_of_ble_eq_true rfl) (Nat.le_of_ble_eq_true rfl) dX9_speak_252
                · skip
                  refine lv_aload_n hx hb dX9_speak_194 rfl (lv_at hl 0 rfl) ?_
                  refine lv_aload_n hx hb dX9_speak_195 rfl (lv_at hl 0 rfl) ?_
                  refine o_get (v := .ref (ar 14)) C ho 0 0 rfl rfl rfl 18 fX9_53 rfl dX9_speak_196 ?_
                  refine lv_bipush (v := nI 13) hx hb dX9_speak_199 (by decide) ?_
                  refine lv_iload_n hx hb dX9_speak_201 rfl (lv_at hl 1 rfl) ?_
                  refine o_mul hx hb dX9_speak_202 ?_
                  refine lv_iload hx hb dX9_speak_203 (lv_at hl 3 rfl) ?_
                  refine o_add hx hb dX9_speak_205 ?_
                  refine o_iald (v := nI (by_.getD i 0)) C ho 0 15 rfl rfl 0 rfl ((13 * d) + i) rfl (by omega) (by omega) (q14 i (by omega)) dX9_speak_206 ?_
                  refine lv_bipush (v := nI 8) hx hb dX9_speak_207 (by decide) ?_
                  refine o_callV (wr := []) (rest := []) (As := [.int (nI (by_.getD i 0)), .int (nI 8)]) C (c_M_put la D K h ar ad ck bi (18 + (8 + 8 * i)) (va_up (va_up F1 1 (whP ck (F1 1) 400)) 2 (wrL (F1 2) 0 (hdB ad 4 gd tu ++ ldp (cond be 2 1) by_ i))) (by_.getD i 0) 8 (Nat.lt_trans (qb _) (by decide)) (by first | omega | assumption | (simp only [List.length_append, List.length_cons, List.length_nil, List.length_modify, List.length_set, nb_len, rb_len, rbp_len, sl_len, slN_len, wh_len, wt_len, hd10_len, hdB_len, thr_len, ldp_len, ldB_len, tens_len, whz_len, majL_len, mf_len, tkL_len, ldY_len, fif_len, ldY_len]; omega) | decide) (by first | omega | assumption | (simp only [List.length_append, List.length_cons, List.length_nil, List.length_modify, List.length_set, nb_len, rb_len, rbp_len, sl_len, slN_len, wh_len, wt_len, hd10_len, hdB_len, thr_len, ldp_len, ldB_len, tens_len, whz_len, majL_len, mf_len, tkL_len, ldY_len, fif_len, ldY_len]; omega) | decide)) kX9_114 vX9_put (by decide) rfl ho [0] 1 (by decide +kernel) rfl rfl rfl rfl rfl hl.1 rfl (Nat.le_of_ble_eq_true rfl) dX9_speak_209 0 0 rfl rfl (by decide) (fun v u_53 H locs hq ho => ?_)
                  obtain rfl := hq
                  have ho : ow D vwCl A s.heap H locs [bX K h ar ad ck bi ((18 + (8 + 8 * i)) + 8) (va_up (va_up (va_up F1 1 (whP ck (F1 1) 400)) 2 (wrL (F1 2) 0 (hdB ad 4 gd tu ++ ldp (cond be 2 1) by_ i))) 2 (wrL (wrL (F1 2) 0 (hdB ad 4 gd tu ++ ldp (cond be 2 1) by_ i)) (18 + (8 + 8 * i)) (nb (by_.getD i 0) 8)))] := ho
                  refine W.eq (g2 := F0 m 212 ls []) rfl ?_
                  have e_54 : bX K h ar ad ck bi ((18 + (8 + 8 * i)) + 8) (va_up (va_up (va_up F1 1 (whP ck (F1 1) 400)) 2 (wrL (F1 2) 0 (hdB ad 4 gd tu ++ ldp (cond be 2 1) by_ i))) 2 (wrL (wrL (F1 2) 0 (hdB ad 4 gd tu ++ ldp (cond be 2 1) by_ i)) (18 + (8 + 8 * i)) (nb (by_.getD i 0) 8))) = bX K h ar ad ck bi (18 + (8 + 8 * (i + 1))) (va_up (va_up F1 1 (whP ck (F1 1) 400)) 2 (wrL (F1 2) 0 (hdB ad 4 gd tu ++ ldp (cond be 2 1) by_ (i + 1)))) := by rw [bx_uu, wrL_app (by rw [List.length_append, hdB_len, ldp_len]; omega), ldp_succ, List.append_assoc] <;> rfl
                  have ho : ow D vwCl A s.heap H locs [bX K h ar ad ck bi (18 + (8 + 8 * (i + 1))) (va_up (va_up F1 1 (whP ck (F1 1) 400)) 2 (wrL (F1 2) 0 (hdB ad 4 gd tu ++ ldp (cond be 2 1) by_ (i + 1))))] := by rw [← e_54]; exact ho
                  refine lv_iinc (v := nI (i + 1)) (lv' := [(4, .int (nI (i + 1))), (0, .ref h), (1, .int (nI d)), (3, .int (nI 4))]) hx hb dX9_speak_212 hl (k := 3) rfl (iincN _ _) (by decide) rfl (fun ls hl => ?_)
                  refine lv_goto (tgt := 183) hx hb dX9_speak_215 (by decide) ?_
                  exact ih183 (i + 1) (by omega) (by omega) _ _ _ ho (lv_sub hl [1, 2, 3, 0] rfl)
            exact LP183 (by_.length - 0 + 1) 0 (Nat.lt_succ_self _) (by omega) _ _ _ ho (lv_sub hl [3, 4, 1, 0] rfl)
          cases be
          · skip
            refine o_ifb_eq (tgt := 173) hx hb dX9_speak_166 (by decide) (fun _ => ?_) (fun c9 => absurd c9 (by decide))
            refine lv_iconst (v := nI 1) hx hb dX9_speak_173 (by decide) ?_
            exact J174
          · skip
            refine o_ifb_eq (tgt := 173) hx hb dX9_speak_166 (by decide) (fun c9 => absurd c9 (by decide)) (fun _ => ?_)
            refine lv_iconst (v := nI 2) hx hb dX9_speak_169 (by decide) ?_
            refine lv_goto (tgt := 174) hx hb dX9_speak_170 (by decide) ?_
            exact J174
        cases gd
        · skip
          refine o_ifb_eq (tgt := 118) hx hb dX9_speak_111 (by decide) (fun _ => ?_) (fun c9 => absurd c9 (by decide))
          refine lv_iconst (v := nI 0) hx hb dX9_speak_118 (by decide) ?_
          exact J119
        · skip
          refine o_ifb_eq (tgt := 118) hx hb dX9_speak_111 (by decide) (fun c9 => absurd c9 (by decide)) (fun _ => ?_)
          refine lv_iconst (v := nI 1) hx hb dX9_speak_114 (by decide) ?_
          refine lv_goto (tgt := 119) hx hb dX9_speak_115 (by decide) ?_
          exact J119
    · skip
      exact absurd c_28 (by omega)

set_option maxHeartbeats 4000000 in
set_option maxRecDepth 100000 in
theorem c_M_speak0 (la : Launch) (D : va_G) (K : Nat → ClassId) (h : Nat) (ar : Nat → Nat) (ad : Nat) (ck : Nat) (bi : Nat) (lo : Nat) (F : Nat → Nat → Int32) (d : Nat) (tu : Bool) (gd : Bool) (mk : Nat) (at_ : Nat) (q2d : d < 2) (qad : ad < 8) (qck : ck < 2 ^ 29) (qa : F 9 d = nI at_) (qs : F 8 d = nI at_) (qat : at_ ≤ 41) (q0 : F 5 d = nI 0) (q11 : F 11 d = nI 0) (q22 : F 22 d = bI tu) (q24 : F 24 d = bI gd) : MT la D K yX9_speak cX9_speak 5 (some .int) (rmL 4 0 0) [.ref h, .int (nI d)] [bX K h ar ad ck bi lo F] (Nat → Int32) (fun v _ => v = some (.int (nI (d + 1)))) (fun u => [bX K h ar ad ck ((airW ck ad (d + 1) gd tu mk []).length) 18 (va_up (va_up (va_up (va_up (va_up F 1 (whP ck (F 1) 400)) 0 (wrL (F 0) 0 (airW ck ad (d + 1) gd tu mk []))) 2 (u)) 24 (upd (F 24) d (bI false))) 25 (upd (F 25) d (bI false)))]) := by
  refine Mt.ofW [(0, .ref h), (1, .int (nI d))] (by decide) rfl (Nat.le_of_ble_eq_true rfl) ?_
  intro p e s m args below meth c A ls H locs Qz hQ C hin hl ho
  have hx := C.1.1
  have hb := C.1.2.1
  refine lv_aload_n hx hb dX9_speak_0 rfl (lv_at hl 0 rfl) ?_
  refine o_get (v := .ref (ar 5)) C ho 0 0 rfl rfl rfl 9 fX9_25 rfl dX9_speak_1 ?_
  refine lv_iload_n hx hb dX9_speak_4 rfl (lv_at hl 1 rfl) ?_
  refine o_iald (v := nI 0) C ho 0 6 rfl rfl 0 rfl d rfl (by omega) (by omega) q0 dX9_speak_5 ?_
  refine o_if_gt (tgt := 24) hx hb dX9_speak_6 (by decide) (by decide) (fun c9 => absurd c9 (by decide)) (fun _ => ?_)
  refine lv_aload_n hx hb dX9_speak_9 rfl (lv_at hl 0 rfl) ?_
  refine o_get (v := .ref (ar 9)) C ho 0 0 rfl rfl rfl 13 fX9_37 rfl dX9_speak_10 ?_
  refine lv_iload_n hx hb dX9_speak_13 rfl (lv_at hl 1 rfl) ?_
  refine o_iald (v := nI at_) C ho 0 10 rfl rfl 0 rfl d rfl (by omega) (by omega) qa dX9_speak_14 ?_
  refine lv_aload_n hx hb dX9_speak_15 rfl (lv_at hl 0 rfl) ?_
  refine o_get (v := .ref (ar 8)) C ho 0 0 rfl rfl rfl 12 fX9_34 rfl dX9_speak_16 ?_
  refine lv_iload_n hx hb dX9_speak_19 rfl (lv_at hl 1 rfl) ?_
  refine o_iald (v := nI at_) C ho 0 9 rfl rfl 0 rfl d rfl (by omega) (by omega) qs dX9_speak_20 ?_
  refine o_icmp_ge (tgt := 28) hx hb dX9_speak_21 (by decide) (by first | omega | exact and1_lt _) (by first | omega | exact and1_lt _) (fun c_1 => ?_) (fun c_1 => ?_)
  · skip
    refine lv_iconst (v := nI 0) hx hb dX9_speak_28 (by decide) ?_
    refine lv_istore_n (lv' := [(2, .int (nI 0)), (0, .ref h), (1, .int (nI d))]) hx hb dX9_speak_29 rfl hl (by decide) rfl (fun ls hl => ?_)
    refine lv_aload_n hx hb dX9_speak_30 rfl (lv_at hl 1 rfl) ?_
    refine o_get (v := .ref (ar 11)) C ho 0 0 rfl rfl rfl 15 fX9_43 rfl dX9_speak_31 ?_
    refine lv_iload_n hx hb dX9_speak_34 rfl (lv_at hl 2 rfl) ?_
    refine o_iald (v := nI 0) C ho 0 12 rfl rfl 0 rfl d rfl (by omega) (by omega) q11 dX9_speak_35 ?_
    refine o_if_ne (tgt := 48) hx hb dX9_speak_36 (by decide) (by decide) (fun c9 => absurd c9 (by decide)) (fun _ => ?_)
    refine lv_iload_n hx hb dX9_speak_39 rfl (lv_at hl 0 rfl) ?_
    refine o_if_eq (tgt := 48) hx hb dX9_speak_40 (by decide) (by decide) (fun _ => ?_) (fun c9 => absurd c9 (by decide))
    refine lv_aload_n hx hb dX9_speak_48 rfl (lv_at hl 1 rfl) ?_
    refine o_get (v := .ref (ar 11)) C ho 0 0 rfl rfl rfl 15 fX9_43 rfl dX9_speak_49 ?_
    refine lv_iload_n hx hb dX9_speak_52 rfl (lv_at hl 2 rfl) ?_
    refine o_iald (v := nI 0) C ho 0 12 rfl rfl 0 rfl d rfl (by omega) (by omega) q11 dX9_speak_53 ?_
    refine o_if_le (tgt := 66) hx hb dX9_speak_54 (by decide) (by decide) (fun _ => ?_) (fun c9 => absurd c9 (by decide))
    refine lv_iload_n hx hb dX9_speak_66 rfl (lv_at hl 2 rfl) ?_
    refine lv_iconst (v := nI 1) hx hb dX9_speak_67 (by decide) ?_
    refine o_add hx hb dX9_speak_68 ?_
    refine lv_istore_n (lv' := [(3, .int (nI (d + 1))), (2, .int (nI 0)), (0, .ref h), (1, .int (nI d))]) hx hb dX9_speak_69 rfl hl (by decide) rfl (fun ls hl => ?_)
    refine lv_aload_n hx hb dX9_speak_70 rfl (lv_at hl 2 rfl) ?_
    refine lv_aload_n hx hb dX9_speak_71 rfl (lv_at hl 2 rfl) ?_
    refine o_get (v := .int (nI ck)) C ho 0 0 rfl rfl rfl 1 fX9_131 rfl dX9_speak_72 ?_
    refine o_callV (wr := []) (rest := []) (As := [.int (nI ck)]) C (c_M_whiten la D K h ar ad ck bi lo F ck (by first | omega | assumption | (simp only [List.length_append, List.length_cons, List.length_nil, List.length_modify, List.length_set, nb_len, rb_len, rbp_len, sl_len, slN_len, wh_len, wt_len, hd10_len, hdB_len, thr_len, ldp_len, ldB_len, tens_len, whz_len, majL_len, mf_len, tkL_len, ldY_len, fif_len, ldY_len]; omega) | decide)) kX9_134 vX9_whiten (by decide) rfl ho [0] 1 (by decide +kernel) rfl rfl rfl rfl rfl hl.1 rfl (Nat.le_of_ble_eq_true rfl) dX9_speak_75 0 0 rfl rfl (by decide) (fun v u_2 H locs hq ho => ?_)
    obtain rfl := hq
    have ho : ow D vwCl A s.heap H locs [bX K h ar ad ck bi lo (va_up F 1 (whP ck (F 1) 400))] := ho
    refine W.eq (g2 := F0 m 78 ls []) rfl ?_
    refine lv_aload_n hx hb dX9_speak_78 rfl (lv_at hl 2 rfl) ?_
    refine lv_iconst (v := nI 0) hx hb dX9_speak_79 (by decide) ?_
    refine o_put (v := .int (nI 0)) (bs' := [bX K h ar ad ck bi 0 (va_up F 1 (whP ck (F 1) 400))]) C ho 0 0 rfl rfl rfl 5 fX9_103 pX9_5 rfl rfl (Nat.le_of_ble_eq_true rfl) dX9_speak_80 rfl (fun H locs ho => ?_)
    refine lv_aload_n hx hb dX9_speak_83 rfl (lv_at hl 2 rfl) ?_
    refine lv_aload_n hx hb dX9_speak_84 rfl (lv_at hl 2 rfl) ?_
    refine o_get (v := .int (nI ad)) C ho 0 0 rfl rfl rfl 0 fX9_95 rfl dX9_speak_85 ?_
    refine lv_iconst (v := nI 3) hx hb dX9_speak_88 (by decide) ?_
    refine o_callV (wr := []) (rest := []) (As := [.int (nI ad), .int (nI 3)]) C (c_M_put la D K h ar ad ck bi 0 (va_up F 1 (whP ck (F 1) 400)) ad 3 (by first | omega | assumption | (simp only [List.length_append, List.length_cons, List.length_nil, List.length_modify, List.length_set, nb_len, rb_len, rbp_len, sl_len, slN_len, wh_len, wt_len, hd10_len, hdB_len, thr_len, ldp_len, ldB_len, tens_len, whz_len, majL_len, mf_len, tkL_len, ldY_len, fif_len, ldY_len]; omega) | decide) (by first | omega | assumption | (simp only [List.length_append, List.length_cons, List.length_nil, List.length_modify, List.length_set, nb_len, rb_len, rbp_len, sl_len, slN_len, wh_len, wt_len, hd10_len, hdB_len, thr_len, ldp_len, ldB_len, tens_len, whz_len, majL_len, mf_len, tkL_len, ldY_len, fif_len, ldY_len]; omega) | decide) (by first | omega | assumption | (simp only [List.length_append, List.length_cons, List.length_nil, List.length_modify, List.length_set, nb_len, rb_len, rbp_len, sl_len, slN_len, wh_len, wt_len, hd10_len, hdB_len, thr_len, ldp_len, ldB_len, tens_len, whz_len, majL_len, mf_len, tkL_len, ldY_len, fif_len, ldY_len]; omega) | decide)) kX9_114 vX9_put (by decide) rfl ho [0] 1 (by decide +kernel) rfl rfl rfl rfl rfl hl.1 rfl (Nat.le_of_ble_eq_true rfl) dX9_speak_89 0 0 rfl rfl (by decide) (fun v u_3 H locs hq ho => ?_)
    obtain rfl := hq
    have ho : ow D vwCl A s.heap H locs [bX K h ar ad ck bi (0 + 3) (va_up (va_up F 1 (whP ck (F 1) 400)) 2 (wrL (F 2) 0 (nb ad 3)))] := ho
    refine W.eq (g2 := F0 m 92 ls []) rfl ?_
    have e_4 : bX K h ar ad ck bi (0 + 3) (va_up (va_up F 1 (whP ck (F 1) 400)) 2 (wrL (F 2) 0 (nb ad 3))) = bX K h ar ad ck bi 3 (va_up (va_up F 1 (whP ck (F 1) 400)) 2 (wrL (F 2) 0 (([] : List Bool) ++ nb ad 3))) := rfl
    have ho : ow D vwCl A s.heap H locs [bX K h ar ad ck bi 3 (va_up (va_up F 1 (whP ck (F 1) 400)) 2 (wrL (F 2) 0 (([] : List Bool) ++ nb ad 3)))] := by rw [← e_4]; exact ho
    refine lv_aload_n hx hb dX9_speak_92 rfl (lv_at hl 2 rfl) ?_
    refine lv_iload_n hx hb dX9_speak_93 rfl (lv_at hl 0 rfl) ?_
    refine lv_iconst (v := nI 4) hx hb dX9_speak_94 (by decide) ?_
    refine o_callV (wr := []) (rest := []) (As := [.int (nI (d + 1)), .int (nI 4)]) C (c_M_put la D K h ar ad ck bi 3 (va_up (va_up F 1 (whP ck (F 1) 400)) 2 (wrL (F 2) 0 (([] : List Bool) ++ nb ad 3))) (d + 1) 4 (by first | omega | assumption | (simp only [List.length_append, List.length_cons, List.length_nil, List.length_modify, List.length_set, nb_len, rb_len, rbp_len, sl_len, slN_len, wh_len, wt_len, hd10_len, hdB_len, thr_len, ldp_len, ldB_len, tens_len, whz_len, majL_len, mf_len, tkL_len, ldY_len, fif_len, ldY_len]; omega) | decide) (by first | omega | assumption | (simp only [List.length_append, List.length_cons, List.length_nil, List.length_modify, List.length_set, nb_len, rb_len, rbp_len, sl_len, slN_len, wh_len, wt_len, hd10_len, hdB_len, thr_len, ldp_len, ldB_len, tens_len, whz_len, majL_len, mf_len, tkL_len, ldY_len, fif_len, ldY_len]; omega) | decide) (by first | omega | assumption | (simp only [List.length_append, List.length_cons, List.length_nil, List.length_modify, List.length_set, nb_len, rb_len, rbp_len, sl_len, slN_len, wh_len, wt_len, hd10_len, hdB_len, thr_len, ldp_len, ldB_len, tens_len, whz_len, majL_len, mf_len, tkL_len, ldY_len, fif_len, ldY_len]; omega) | decide)) kX9_114 vX9_put (by decide) rfl ho [0] 1 (by decide +kernel) rfl rfl rfl rfl rfl hl.1 rfl (Nat.le_of_ble_eq_true rfl) dX9_speak_95 0 0 rfl rfl (by decide) (fun v u_5 H locs hq ho => ?_)
    obtain rfl := hq
    have ho : ow D vwCl A s.heap H locs [bX K h ar ad ck bi (3 + 4) (va_up (va_up (va_up F 1 (whP ck (F 1) 400)) 2 (wrL (F 2) 0 (([] : List Bool) ++ nb ad 3))) 2 (wrL (wrL (F 2) 0 (([] : List Bool) ++ nb ad 3)) 3 (nb (d + 1) 4)))] := ho
    refine W.eq (g2 := F0 m 98 ls []) rfl ?_
    have e_6 : bX K h ar ad ck bi (3 + 4) (va_up (va_up (va_up F 1 (whP ck (F 1) 400)) 2 (wrL (F 2) 0 (([] : List Bool) ++ nb ad 3))) 2 (wrL (wrL (F 2) 0 (([] : List Bool) ++ nb ad 3)) 3 (nb (d + 1) 4))) = bX K h ar ad ck bi 7 (va_up (va_up F 1 (whP ck (F 1) 400)) 2 (wrL (F 2) 0 ((([] : List Bool) ++ nb ad 3) ++ nb (d + 1) 4))) := by rw [bx_uu, wrL_app (by simp [nb_len])]
    have ho : ow D vwCl A s.heap H locs [bX K h ar ad ck bi 7 (va_up (va_up F 1 (whP ck (F 1) 400)) 2 (wrL (F 2) 0 ((([] : List Bool) ++ nb ad 3) ++ nb (d + 1) 4)))] := by rw [← e_6]; exact ho
    refine lv_aload_n hx hb dX9_speak_98 rfl (lv_at hl 2 rfl) ?_
    refine lv_iconst (v := nI 1) hx hb dX9_speak_99 (by decide) ?_
    refine lv_iconst (v := nI 1) hx hb dX9_speak_100 (by decide) ?_
    refine o_callV (wr := []) (rest := []) (As := [.int (nI 1), .int (nI 1)]) C (c_M_put la D K h ar ad ck bi 7 (va_up (va_up F 1 (whP ck (F 1) 400)) 2 (wrL (F 2) 0 ((([] : List Bool) ++ nb ad 3) ++ nb (d + 1) 4))) 1 1 (by first | omega | assumption | (simp only [List.length_append, List.length_cons, List.length_nil, List.length_modify, List.length_set, nb_len, rb_len, rbp_len, sl_len, slN_len, wh_len, wt_len, hd10_len, hdB_len, thr_len, ldp_len, ldB_len, tens_len, whz_len, majL_len, mf_len, tkL_len, ldY_len, fif_len, ldY_len]; omega) | decide) (by first | omega | assumption | (simp only [List.length_append, List.length_cons, List.length_nil, List.length_modify, List.length_set, nb_len, rb_len, rbp_len, sl_len, slN_len, wh_len, wt_len, hd10_len, hdB_len, thr_len, ldp_len, ldB_len, tens_len, whz_len, majL_len, mf_len, tkL_len, ldY_len, fif_len, ldY_len]; omega) | decide) (by first | omega | assumption | (simp only [List.length_append, List.length_cons, List.length_nil, List.length_modify, List.length_set, nb_len, rb_len, rbp_len, sl_len, slN_len, wh_len, wt_len, hd10_len, hdB_len, thr_len, ldp_len, ldB_len, tens_len, whz_len, majL_len, mf_len, tkL_len, ldY_len, fif_len, ldY_len]; omega) | decide)) kX9_114 vX9_put (by decide) rfl ho [0] 1 (by decide +kernel) rfl rfl rfl rfl rfl hl.1 rfl (Nat.le_of_ble_eq_true rfl) dX9_speak_101 0 0 rfl rfl (by decide) (fun v u_7 H locs hq ho => ?_)
    obtain rfl := hq
    have ho : ow D vwCl A s.heap H locs [bX K h ar ad ck bi (7 + 1) (va_up (va_up (va_up F 1 (whP ck (F 1) 400)) 2 (wrL (F 2) 0 ((([] : List Bool) ++ nb ad 3) ++ nb (d + 1) 4))) 2 (wrL (wrL (F 2) 0 ((([] : List Bool) ++ nb ad 3) ++ nb (d + 1) 4)) 7 (nb 1 1)))] := ho
    refine W.eq (g2 := F0 m 104 ls []) rfl ?_
    have e_8 : bX K h ar ad ck bi (7 + 1) (va_up (va_up (va_up F 1 (whP ck (F 1) 400)) 2 (wrL (F 2) 0 ((([] : List Bool) ++ nb ad 3) ++ nb (d + 1) 4))) 2 (wrL (wrL (F 2) 0 ((([] : List Bool) ++ nb ad 3) ++ nb (d + 1) 4)) 7 (nb 1 1))) = bX K h ar ad ck bi 8 (va_up (va_up F 1 (whP ck (F 1) 400)) 2 (wrL (F 2) 0 (((([] : List Bool) ++ nb ad 3) ++ nb (d + 1) 4) ++ [true]))) := by rw [bx_uu, wrL_app (by simp [nb_len])] <;> rfl
    have ho : ow D vwCl A s.heap H locs [bX K h ar ad ck bi 8 (va_up (va_up F 1 (whP ck (F 1) 400)) 2 (wrL (F 2) 0 (((([] : List Bool) ++ nb ad 3) ++ nb (d + 1) 4) ++ [true])))] := by rw [← e_8]; exact ho
    refine lv_aload_n hx hb dX9_speak_104 rfl (lv_at hl 2 rfl) ?_
    refine lv_aload_n hx hb dX9_speak_105 rfl (lv_at hl 2 rfl) ?_
    refine o_get (v := .ref (ar 24)) C ho 0 0 rfl rfl rfl 28 fX9_83 rfl dX9_speak_106 ?_
    refine lv_iload_n hx hb dX9_speak_109 rfl (lv_at hl 3 rfl) ?_
    refine o_zald (v := bI gd) C ho 0 25 rfl rfl 3 rfl d rfl (by omega) (by decide) q24 dX9_speak_110 ?_
    have J119 : W p la e (rmL 4 0 0) s m args below meth c H locs 0 0 Qz (F0 m 119 ls [.int (nI gd.toNat), .ref h]) := by
      refine lv_iconst (v := nI 1) hx hb dX9_speak_119 (by decide) ?_
      refine o_callV (wr := []) (rest := []) (As := [.int (nI gd.toNat), .int (nI 1)]) C (c_M_put la D K h ar ad ck bi 8 (va_up (va_up F 1 (whP ck (F 1) 400)) 2 (wrL (F 2) 0 (((([] : List Bool) ++ nb ad 3) ++ nb (d + 1) 4) ++ [true]))) gd.toNat 1 (tN_lt _) (by first | omega | assumption | (simp only [List.length_append, List.length_cons, List.length_nil, List.length_modify, List.length_set, nb_len, rb_len, rbp_len, sl_len, slN_len, wh_len, wt_len, hd10_len, hdB_len, thr_len, ldp_len, ldB_len, tens_len, whz_len, majL_len, mf_len, tkL_len, ldY_len, fif_len, ldY_len]; omega) | decide) (by first | omega | assumption | (simp only [List.length_append, List.length_cons, List.length_nil, List.length_modify, List.length_set, nb_len, rb_len, rbp_len, sl_len, slN_len, wh_len, wt_len, hd10_len, hdB_len, thr_len, ldp_len, ldB_len, tens_len, whz_len, majL_len, mf_len, tkL_len, ldY_len, fif_len, ldY_len]; omega) | decide)) kX9_114 vX9_put (by decide) rfl ho [0] 1 (by decide +kernel) rfl rfl rfl rfl rfl hl.1 rfl (Nat.le_of_ble_eq_true rfl) dX9_speak_120 0 0 rfl rfl (by decide) (fun v u_9 H locs hq ho => ?_)
      obtain rfl := hq
      have ho : ow D vwCl A s.heap H locs [bX K h ar ad ck bi (8 + 1) (va_up (va_up (va_up F 1 (whP ck (F 1) 400)) 2 (wrL (F 2) 0 (((([] : List Bool) ++ nb ad 3) ++ nb (d + 1) 4) ++ [true]))) 2 (wrL (wrL (F 2) 0 (((([] : List Bool) ++ nb ad 3) ++ nb (d + 1) 4) ++ [true])) 8 (nb gd.toNat 1)))] := ho
      refine W.eq (g2 := F0 m 123 ls []) rfl ?_
      have e_10 : bX K h ar ad ck bi (8 + 1) (va_up (va_up (va_up F 1 (whP ck (F 1) 400)) 2 (wrL (F 2) 0 (((([] : List Bool) ++ nb ad 3) ++ nb (d + 1) 4) ++ [true]))) 2 (wrL (wrL (F 2) 0 (((([] : List Bool) ++ nb ad 3) ++ nb (d + 1) 4) ++ [true])) 8 (nb gd.toNat 1))) = bX K h ar ad ck bi 9 (va_up (va_up F 1 (whP ck (F 1) 400)) 2 (wrL (F 2) 0 ((((([] : List Bool) ++ nb ad 3) ++ nb (d + 1) 4) ++ [true]) ++ [gd]))) := by rw [bx_uu, wrL_app (by simp [nb_len]), nb_b]
      have ho : ow D vwCl A s.heap H locs [bX K h ar ad ck bi 9 (va_up (va_up F 1 (whP ck (F 1) 400)) 2 (wrL (F 2) 0 ((((([] : List Bool) ++ nb ad 3) ++ nb (d + 1) 4) ++ [true]) ++ [gd])))] := by rw [← e_10]; exact ho
      refine lv_aload_n hx hb dX9_speak_123 rfl (lv_at hl 2 rfl) ?_
      refine lv_aload_n hx hb dX9_speak_124 rfl (lv_at hl 2 rfl) ?_
      refine o_get (v := .ref (ar 22)) C ho 0 0 rfl rfl rfl 26 fX9_77 rfl dX9_speak_125 ?_
      refine lv_iload_n hx hb dX9_speak_128 rfl (lv_at hl 3 rfl) ?_
      refine o_iald (v := nI tu.toNat) C ho 0 23 rfl rfl 0 rfl d rfl (by omega) (by omega) (q22.trans (bI_N _)) dX9_speak_129 ?_
      refine lv_iconst (v := nI 1) hx hb dX9_speak_130 (by decide) ?_
      refine o_callV (wr := []) (rest := []) (As := [.int (nI tu.toNat), .int (nI 1)]) C (c_M_put la D K h ar ad ck bi 9 (va_up (va_up F 1 (whP ck (F 1) 400)) 2 (wrL (F 2) 0 ((((([] : List Bool) ++ nb ad 3) ++ nb (d + 1) 4) ++ [true]) ++ [gd]))) tu.toNat 1 (tN_lt _) (by first | omega | assumption | (simp only [List.length_append, List.length_cons, List.length_nil, List.length_modify, List.length_set, nb_len, rb_len, rbp_len, sl_len, slN_len, wh_len, wt_len, hd10_len, hdB_len, thr_len, ldp_len, ldB_len, tens_len, whz_len, majL_len, mf_len, tkL_len, ldY_len, fif_len, ldY_len]; omega) | decide) (by first | omega | assumption | (simp only [List.length_append, List.length_cons, List.length_nil, List.length_modify, List.length_set, nb_len, rb_len, rbp_len, sl_len, slN_len, wh_len, wt_len, hd10_len, hdB_len, thr_len, ldp_len, ldB_len, tens_len, whz_len, majL_len, mf_len, tkL_len, ldY_len, fif_len, ldY_len]; omega) | decide)) kX9_114 vX9_put (by decide) rfl ho [0] 1 (by decide +kernel) rfl rfl rfl rfl rfl hl.1 rfl (Nat.le_of_ble_eq_true rfl) dX9_speak_131 0 0 rfl rfl (by decide) (fun v u_11 H locs hq ho => ?_)
      obtain rfl := hq
      have ho : ow D vwCl A s.heap H locs [bX K h ar ad ck bi (9 + 1) (va_up (va_up (va_up F 1 (whP ck (F 1) 400)) 2 (wrL (F 2) 0 ((((([] : List Bool) ++ nb ad 3) ++ nb (d + 1) 4) ++ [true]) ++ [gd]))) 2 (wrL (wrL (F 2) 0 ((((([] : List Bool) ++ nb ad 3) ++ nb (d + 1) 4) ++ [true]) ++ [gd])) 9 (nb tu.toNat 1)))] := ho
      refine W.eq (g2 := F0 m 134 ls []) rfl ?_
      have e_12 : bX K h ar ad ck bi (9 + 1) (va_up (va_up (va_up F 1 (whP ck (F 1) 400)) 2 (wrL (F 2) 0 ((((([] : List Bool) ++ nb ad 3) ++ nb (d + 1) 4) ++ [true]) ++ [gd]))) 2 (wrL (wrL (F 2) 0 ((((([] : List Bool) ++ nb ad 3) ++ nb (d + 1) 4) ++ [true]) ++ [gd])) 9 (nb tu.toNat 1))) = bX K h ar ad ck bi 10 (va_up (va_up F 1 (whP ck (F 1) 400)) 2 (wrL (F 2) 0 (hd10 ad (d + 1) gd tu))) := by rw [bx_uu, wrL_app (by simp [nb_len]), nb_b] <;> rfl
      have ho : ow D vwCl A s.heap H locs [bX K h ar ad ck bi 10 (va_up (va_up F 1 (whP ck (F 1) 400)) 2 (wrL (F 2) 0 (hd10 ad (d + 1) gd tu)))] := by rw [← e_12]; exact ho
      refine lv_aload_n hx hb dX9_speak_134 rfl (lv_at hl 2 rfl) ?_
      refine lv_iconst (v := nI 0) hx hb dX9_speak_135 (by decide) ?_
      refine lv_bipush (v := nI 10) hx hb dX9_speak_136 (by decide) ?_
      refine lv_sipush (v := nI 423) hx hb dX9_speak_138 (by decide) ?_
      refine lv_bipush (v := nI 8) hx hb dX9_speak_141 (by decide) ?_
      refine o_callV (wr := []) (rest := []) (As := [.int (nI 0), .int (nI 10), .int (nI 423), .int (nI 8)]) C (c_M_putRem la D K h ar ad ck bi 10 (va_up (va_up F 1 (whP ck (F 1) 400)) 2 (wrL (F 2) 0 (hd10 ad (d + 1) gd tu))) 0 10 423 8 (hd10 ad (d + 1) gd tu) (fun i hi => by rw [Nat.zero_add, va_up_self]; exact wrL_in0 hi) (by rw [hd10_len]) (by first | omega | assumption | (simp only [List.length_append, List.length_cons, List.length_nil, List.length_modify, List.length_set, nb_len, rb_len, rbp_len, sl_len, slN_len, wh_len, wt_len, hd10_len, hdB_len, thr_len, ldp_len, ldB_len, tens_len, whz_len, majL_len, mf_len, tkL_len, ldY_len, fif_len, ldY_len]; omega) | decide) (by first | omega | assumption | (simp only [List.length_append, List.length_cons, List.length_nil, List.length_modify, List.length_set, nb_len, rb_len, rbp_len, sl_len, slN_len, wh_len, wt_len, hd10_len, hdB_len, thr_len, ldp_len, ldB_len, tens_len, whz_len, majL_len, mf_len, tkL_len, ldY_len, fif_len, ldY_len]; omega) | decide) (by first | omega | assumption | (simp only [List.length_append, List.length_cons, List.length_nil, List.length_modify, List.length_set, nb_len, rb_len, rbp_len, sl_len, slN_len, wh_len, wt_len, hd10_len, hdB_len, thr_len, ldp_len, ldB_len, tens_len, whz_len, majL_len, mf_len, tkL_len, ldY_len, fif_len, ldY_len]; omega) | decide) (by first | omega | assumption | (simp only [List.length_append, List.length_cons, List.length_nil, List.length_modify, List.length_set, nb_len, rb_len, rbp_len, sl_len, slN_len, wh_len, wt_len, hd10_len, hdB_len, thr_len, ldp_len, ldB_len, tens_len, whz_len, majL_len, mf_len, tkL_len, ldY_len, fif_len, ldY_len]; omega) | decide) (by decide) (by decide) pw423 (by first | omega | assumption | (simp only [List.length_append, List.length_cons, List.length_nil, List.length_modify, List.length_set, nb_len, rb_len, rbp_len, sl_len, slN_len, wh_len, wt_len, hd10_len, hdB_len, thr_len, ldp_len, ldB_len, tens_len, whz_len, majL_len, mf_len, tkL_len, ldY_len, fif_len, ldY_len]; omega) | decide)) kX9_137 vX9_putRem (by decide) rfl ho [0] 1 (by decide +kernel) rfl rfl rfl rfl rfl hl.1 rfl (Nat.le_of_ble_eq_true rfl) dX9_speak_143 0 0 rfl rfl (by decide) (fun v u_13 H locs hq ho => ?_)
      obtain rfl := hq
      have ho : ow D vwCl A s.heap H locs [bX K h ar ad ck bi (10 + 8) (va_up (va_up (va_up F 1 (whP ck (F 1) 400)) 2 (wrL (F 2) 0 (hd10 ad (d + 1) gd tu))) 2 (wrL (wrL (F 2) 0 (hd10 ad (d + 1) gd tu)) 10 (rb (crc 423 8 (hd10 ad (d + 1) gd tu)) 8)))] := ho
      refine W.eq (g2 := F0 m 146 ls []) rfl ?_
      have e_14 : bX K h ar ad ck bi (10 + 8) (va_up (va_up (va_up F 1 (whP ck (F 1) 400)) 2 (wrL (F 2) 0 (hd10 ad (d + 1) gd tu))) 2 (wrL (wrL (F 2) 0 (hd10 ad (d + 1) gd tu)) 10 (rb (crc 423 8 (hd10 ad (d + 1) gd tu)) 8))) = bX K h ar ad ck bi 18 (va_up (va_up F 1 (whP ck (F 1) 400)) 2 (wrL (F 2) 0 (hdB ad (d + 1) gd tu))) := by rw [bx_uu, wrL_app (by rw [hd10_len]), hdB_eq]
      have ho : ow D vwCl A s.heap H locs [bX K h ar ad ck bi 18 (va_up (va_up F 1 (whP ck (F 1) 400)) 2 (wrL (F 2) 0 (hdB ad (d + 1) gd tu)))] := by rw [← e_14]; exact ho
      refine lv_iload_n hx hb dX9_speak_146 rfl (lv_at hl 0 rfl) ?_
      refine lv_iconst (v := nI 2) hx hb dX9_speak_147 (by decide) ?_
      refine o_icmp_le (tgt := 232) hx hb dX9_speak_148 (by decide) (by first | omega | exact and1_lt _) (by first | omega | exact and1_lt _) (fun c_15 => ?_) (fun c_15 => ?_)
      · skip
        refine lv_aload_n hx hb dX9_speak_232 rfl (lv_at hl 2 rfl) ?_
        refine lv_iload_n hx hb dX9_speak_233 rfl (lv_at hl 0 rfl) ?_
        refine o_callV (wr := []) (rest := []) (As := [.int (nI (d + 1))]) C (c_M_sendBits0 la D K h ar ad ck bi 18 (va_up (va_up F 1 (whP ck (F 1) 400)) 2 (wrL (F 2) 0 (hdB ad (d + 1) gd tu))) ck (hdB ad (d + 1) gd tu) ([] : List Bool) (d + 1) (fun i hi => whP_in hi) (fun i hi => wrL_in0 (by rw [hdB_len]; exact hi)) (hdB_len _ _ _ _) (by first | omega | assumption | (simp only [List.length_append, List.length_cons, List.length_nil, List.length_modify, List.length_set, nb_len, rb_len, rbp_len, sl_len, slN_len, wh_len, wt_len, hd10_len, hdB_len, thr_len, ldp_len, ldB_len, tens_len, whz_len, majL_len, mf_len, tkL_len, ldY_len, fif_len, ldY_len]; omega) | decide)) kX9_142 vX9_sendBits (by decide) rfl ho [0] 1 (by decide +kernel) rfl rfl rfl rfl rfl hl.1 rfl (Nat.le_of_ble_eq_true rfl) dX9_speak_234 0 0 rfl rfl (by decide) (fun v u_16 H locs hq ho => ?_)
        obtain rfl := hq
        have ho : ow D vwCl A s.heap H locs [bX K h ar ad ck 54 18 (va_up (va_up (va_up F 1 (whP ck (F 1) 400)) 2 (wrL (F 2) 0 (hdB ad (d + 1) gd tu))) 0 (wrL (F 0) 0 (thr (whz (hdB ad (d + 1) gd tu) (wt ck) 0) 54)))] := ho
        refine W.eq (g2 := F0 m 237 ls []) rfl ?_
        have e_17 : bX K h ar ad ck 54 18 (va_up (va_up (va_up F 1 (whP ck (F 1) 400)) 2 (wrL (F 2) 0 (hdB ad (d + 1) gd tu))) 0 (wrL (F 0) 0 (thr (whz (hdB ad (d + 1) gd tu) (wt ck) 0) 54))) = bX K h ar ad ck ((airW ck ad (d + 1) gd tu mk []).length) 18 (va_up (va_up (va_up F 1 (whP ck (F 1) 400)) 0 (wrL (F 0) 0 (airW ck ad (d + 1) gd tu mk []))) 2 (wrL (F 2) 0 (hdB ad (d + 1) gd tu))) := by rw [airW_l0 ck ad (d + 1) (by omega) gd tu mk [], airW_0 ck ad (d + 1) (by omega) gd tu mk [], up_c20]
        have ho : ow D vwCl A s.heap H locs [bX K h ar ad ck ((airW ck ad (d + 1) gd tu mk []).length) 18 (va_up (va_up (va_up F 1 (whP ck (F 1) 400)) 0 (wrL (F 0) 0 (airW ck ad (d + 1) gd tu mk []))) 2 (wrL (F 2) 0 (hdB ad (d + 1) gd tu)))] := by rw [← e_17]; exact ho
        refine lv_aload_n hx hb dX9_speak_237 rfl (lv_at hl 2 rfl) ?_
        refine o_get (v := .ref (ar 24)) C ho 0 0 rfl rfl rfl 28 fX9_83 rfl dX9_speak_238 ?_
        refine lv_iload_n hx hb dX9_speak_241 rfl (lv_at hl 3 rfl) ?_
        refine lv_iconst (v := nI 0) hx hb dX9_speak_242 (by decide) ?_
        refine o_top (y := bI false) (rfl) ?_
        refine o_zast (bs' := [bX K h ar ad ck ((airW ck ad (d + 1) gd tu mk []).length) 18 (va_up (va_up (va_up (va_up F 1 (whP ck (F 1) 400)) 0 (wrL (F 0) 0 (airW ck ad (d + 1) gd tu mk []))) 2 (wrL (F 2) 0 (hdB ad (d + 1) gd tu))) 24 (upd (F 24) d (bI false)))]) C ho 0 25 rfl rfl 3 rfl d rfl (by omega) (by decide) dX9_speak_243 rfl (fun H locs ho => ?_)
        refine lv_aload_n hx hb dX9_speak_244 rfl (lv_at hl 2 rfl) ?_
        refine o_get (v := .ref (ar 25)) C ho 0 0 rfl rfl rfl 29 fX9_86 rfl dX9_speak_245 ?_
        refine lv_iload_n hx hb dX9_speak_248 rfl (lv_at hl 3 rfl) ?_
        refine lv_iconst (v := nI 0) hx hb dX9_speak_249 (by decide) ?_
        refine o_top (y := bI false) (rfl) ?_
        refine o_zast (bs' := [bX K h ar ad ck ((airW ck ad (d + 1) gd tu mk []).length) 18 (va_up (va_up (va_up (va_up (va_up F 1 (whP ck (F 1) 400)) 0 (wrL (F 0) 0 (airW ck ad (d + 1) gd tu mk []))) 2 (wrL (F 2) 0 (hdB ad (d + 1) gd tu))) 24 (upd (F 24) d (bI false))) 25 (upd (F 25) d (bI false)))]) C ho 0 26 rfl rfl 3 rfl d rfl (by omega) (by decide) dX9_speak_250 rfl (fun H locs ho => ?_)
        refine lv_iload_n hx hb dX9_speak_251 rfl (lv_at hl 0 rfl) ?_
        exact o_iret hQ C rfl ho (wrL (F 2) 0 (hdB ad (d + 1) gd tu)) rfl rfl (Nat.le_of_ble_eq_true rfl) (Nat.le_of_ble_eq_true rfl) dX9_speak_252
      · skip
        exact absurd c_15 (by omega)
    cases gd
    · skip
      refine o_ifb_eq (tgt := 118) hx hb dX9_speak_111 (by decide) (fun _ => ?_) (fun c9 => absurd c9 (by decide))
      refine lv_iconst (v := nI 0) hx hb dX9_speak_118 (by decide) ?_
      exact J119
    · skip
      refine o_ifb_eq (tgt := 118) hx hb dX9_speak_111 (by decide) (fun c9 => absurd c9 (by decide)) (fun _ => ?_)
      refine lv_iconst (v := nI 1) hx hb dX9_speak_114 (by decide) ?_
      refine lv_goto (tgt := 119) hx hb dX9_speak_115 (by decide) ?_
      exact J119
  · skip
    exact absurd c_1 (by omega)

set_option maxHeartbeats 4000000 in
set_option maxRecDepth 100000 in
theorem c_M_slotN (la : Launch) (D : va_G) (K : Nat → ClassId) (h : Nat) (ar : Nat → Nat) (ad : Nat) (ck : Nat) (bi : Nat) (lo : Nat) (F : Nat → Nat → Int32) (qd : ck % 2 = 1) (qh : F 25 1 = bI false) : MT la D K yX9_slot cX9_slot 3 (some .int) (rmL 1 0 0) [.ref h] [bX K h ar ad ck bi lo F] Unit (fun v _ => v = some (.int (nI 0))) (fun _ => [bX K h ar ad (ck + 1) 0 lo F]) := by
  refine Mt.ofW [(0, .ref h)] (by decide) rfl (Nat.le_of_ble_eq_true rfl) ?_
  intro p e s m args below meth c A ls H locs Qz hQ C hin hl ho
  have hx := C.1.1
  have hb := C.1.2.1
  refine lv_aload_n hx hb dX9_slot_0 rfl (lv_at hl 0 rfl) ?_
  refine o_get (v := .int (nI ck)) C ho 0 0 rfl rfl rfl 1 fX9_131 rfl dX9_slot_1 ?_
  refine lv_iconst (v := nI 1) hx hb dX9_slot_4 (by decide) ?_
  refine o_and hx hb dX9_slot_5 ?_
  refine o_top (y := nI 1) (by rw [Nat.and_one_is_mod, qd]) ?_
  refine lv_istore_n (lv' := [(1, .int (nI 1)), (0, .ref h)]) hx hb dX9_slot_6 rfl hl (by decide) rfl (fun ls hl => ?_)
  refine lv_aload_n hx hb dX9_slot_7 rfl (lv_at hl 1 rfl) ?_
  refine lv_iconst (v := nI 0) hx hb dX9_slot_8 (by decide) ?_
  refine o_put (v := .int (nI 0)) (bs' := [bX K h ar ad ck 0 lo F]) C ho 0 0 rfl rfl rfl 2 fX9_122 pX9_2 rfl rfl (Nat.le_of_ble_eq_true rfl) dX9_slot_9 rfl (fun H locs ho => ?_)
  refine lv_iload_n hx hb dX9_slot_12 rfl (lv_at hl 0 rfl) ?_
  refine o_if_eq (tgt := 25) hx hb dX9_slot_13 (by decide) (by decide) (fun c9 => absurd c9 (by decide)) (fun _ => ?_)
  refine lv_aload_n hx hb dX9_slot_16 rfl (lv_at hl 1 rfl) ?_
  refine o_get (v := .ref (ar 25)) C ho 0 0 rfl rfl rfl 29 fX9_86 rfl dX9_slot_17 ?_
  refine lv_iconst (v := nI 1) hx hb dX9_slot_20 (by decide) ?_
  refine o_zald (v := bI false) C ho 0 26 rfl rfl 3 rfl 1 rfl (by omega) (by decide) qh dX9_slot_21 ?_
  refine o_ifb_eq (tgt := 33) hx hb dX9_slot_22 (by decide) (fun _ => ?_) (fun c9 => absurd c9 (by decide))
  refine lv_iconst (v := nI 0) hx hb dX9_slot_33 (by decide) ?_
  refine lv_istore_n (lv' := [(2, .int (nI 0)), (1, .int (nI 1)), (0, .ref h)]) hx hb dX9_slot_34 rfl hl (by decide) rfl (fun ls hl => ?_)
  refine lv_aload_n hx hb dX9_slot_35 rfl (lv_at hl 2 rfl) ?_
  refine lv_dup hx hb dX9_slot_36 rfl ?_
  refine o_get (v := .int (nI ck)) C ho 0 0 rfl rfl rfl 1 fX9_131 rfl dX9_slot_37 ?_
  refine lv_iconst (v := nI 1) hx hb dX9_slot_40 (by decide) ?_
  refine o_add hx hb dX9_slot_41 ?_
  refine o_put (v := .int (nI (ck + 1))) (bs' := [bX K h ar ad (ck + 1) 0 lo F]) C ho 0 0 rfl rfl rfl 1 fX9_131 pX9_1 rfl rfl (Nat.le_of_ble_eq_true rfl) dX9_slot_42 rfl (fun H locs ho => ?_)
  refine lv_iload_n hx hb dX9_slot_45 rfl (lv_at hl 0 rfl) ?_
  exact o_iret hQ C rfl ho () rfl rfl (Nat.le_of_ble_eq_true rfl) (Nat.le_of_ble_eq_true rfl) dX9_slot_46

set_option maxHeartbeats 4000000 in
set_option maxRecDepth 100000 in
theorem c_M_slotW (la : Launch) (D : va_G) (K : Nat → ClassId) (h : Nat) (ar : Nat → Nat) (ad : Nat) (ck : Nat) (bi : Nat) (lo : Nat) (F : Nat → Nat → Int32) (d : Nat) (pp : Bool) (be : Bool) (tu : Bool) (gd : Bool) (by_ : List Nat) (qd : ck % 2 = d) (qh1 : d = 0 ∨ F 25 1 = bI true) (q2d : d < 2) (qad : ad < 8) (qck : ck < 2 ^ 29) (q11 : F 11 d = nI by_.length) (q12 : F 12 d = nI (cond pp 4 3)) (q13 : F 13 d = bI be) (q14 : ∀ i, i < by_.length → F 14 (13 * d + i) = nI (by_.getD i 0)) (q22 : F 22 d = bI tu) (q24 : F 24 d = bI gd) (qn0 : 0 < by_.length) (qn9 : by_.length ≤ cond pp 13 9) (qb : ∀ j, by_.getD j 0 < 256) : MT la D K yX9_slot cX9_slot 3 (some .int) (rmL 5 0 0) [.ref h] [bX K h ar ad ck bi lo F] (Nat → Int32) (fun v _ => v = some (.int (nI (cond pp 4 3)))) (fun u => [bX K h ar ad (ck + 1) ((airW ck ad (cond pp 4 3) gd tu (cond be 2 1) by_).length) ((18 + (8 + 8 * by_.length)) + 16) (va_up (va_up (va_up (va_up (va_up F 1 (whP ck (F 1) 400)) 0 (wrL (F 0) 0 (airW ck ad (cond pp 4 3) gd tu (cond be 2 1) by_))) 2 (u)) 24 (upd (F 24) d (bI false))) 25 (upd (F 25) d (bI false)))]) := by
  refine Mt.ofW [(0, .ref h)] (by decide) rfl (Nat.le_of_ble_eq_true rfl) ?_
  intro p e s m args below meth c A ls H locs Qz hQ C hin hl ho
  have hx := C.1.1
  have hb := C.1.2.1
  refine lv_aload_n hx hb dX9_slot_0 rfl (lv_at hl 0 rfl) ?_
  refine o_get (v := .int (nI ck)) C ho 0 0 rfl rfl rfl 1 fX9_131 rfl dX9_slot_1 ?_
  refine lv_iconst (v := nI 1) hx hb dX9_slot_4 (by decide) ?_
  refine o_and hx hb dX9_slot_5 ?_
  refine o_top (y := nI d) (by rw [Nat.and_one_is_mod, qd]) ?_
  refine lv_istore_n (lv' := [(1, .int (nI d)), (0, .ref h)]) hx hb dX9_slot_6 rfl hl (by decide) rfl (fun ls hl => ?_)
  refine lv_aload_n hx hb dX9_slot_7 rfl (lv_at hl 1 rfl) ?_
  refine lv_iconst (v := nI 0) hx hb dX9_slot_8 (by decide) ?_
  refine o_put (v := .int (nI 0)) (bs' := [bX K h ar ad ck 0 lo F]) C ho 0 0 rfl rfl rfl 2 fX9_122 pX9_2 rfl rfl (Nat.le_of_ble_eq_true rfl) dX9_slot_9 rfl (fun H locs ho => ?_)
  have J25 : W p la e (rmL 5 0 0) s m args below meth c H locs 0 0 Qz (F0 m 25 ls []) := by
    refine lv_aload_n hx hb dX9_slot_25 rfl (lv_at hl 1 rfl) ?_
    refine lv_iload_n hx hb dX9_slot_26 rfl (lv_at hl 0 rfl) ?_
    refine o_callV (wr := []) (rest := []) (As := [.int (nI d)]) C (c_M_speakW la D K h ar ad ck 0 lo F d pp be tu gd by_ q2d qad qck q11 q12 q13 q14 q22 q24 qn0 qn9 qb) kX9_145 vX9_speak (by decide) rfl ho [0] 1 (by decide +kernel) rfl rfl rfl rfl rfl hl.1 rfl (Nat.le_of_ble_eq_true rfl) dX9_slot_27 0 0 rfl rfl (by decide) (fun v u_1 H locs hq ho => ?_)
    obtain rfl := hq
    have ho : ow D vwCl A s.heap H locs [bX K h ar ad ck ((airW ck ad (cond pp 4 3) gd tu (cond be 2 1) by_).length) ((18 + (8 + 8 * by_.length)) + 16) (va_up (va_up (va_up (va_up (va_up F 1 (whP ck (F 1) 400)) 0 (wrL (F 0) 0 (airW ck ad (cond pp 4 3) gd tu (cond be 2 1) by_))) 2 (u_1)) 24 (upd (F 24) d (bI false))) 25 (upd (F 25) d (bI false)))] := ho
    refine W.eq (g2 := F0 m 30 ls [.int (nI (cond pp 4 3))]) rfl ?_
    refine lv_goto (tgt := 34) hx hb dX9_slot_30 (by decide) ?_
    refine lv_istore_n (lv' := [(2, .int (nI (cond pp 4 3))), (1, .int (nI d)), (0, .ref h)]) hx hb dX9_slot_34 rfl hl (by decide) rfl (fun ls hl => ?_)
    refine lv_aload_n hx hb dX9_slot_35 rfl (lv_at hl 2 rfl) ?_
    refine lv_dup hx hb dX9_slot_36 rfl ?_
    refine o_get (v := .int (nI ck)) C ho 0 0 rfl rfl rfl 1 fX9_131 rfl dX9_slot_37 ?_
    refine lv_iconst (v := nI 1) hx hb dX9_slot_40 (by decide) ?_
    refine o_add hx hb dX9_slot_41 ?_
    refine o_put (v := .int (nI (ck + 1))) (bs' := [bX K h ar ad (ck + 1) ((airW ck ad (cond pp 4 3) gd tu (cond be 2 1) by_).length) ((18 + (8 + 8 * by_.length)) + 16) (va_up (va_up (va_up (va_up (va_up F 1 (whP ck (F 1) 400)) 0 (wrL (F 0) 0 (airW ck ad (cond pp 4 3) gd tu (cond be 2 1) by_))) 2 (u_1)) 24 (upd (F 24) d (bI false))) 25 (upd (F 25) d (bI false)))]) C ho 0 0 rfl rfl rfl 1 fX9_131 pX9_1 rfl rfl (Nat.le_of_ble_eq_true rfl) dX9_slot_42 rfl (fun H locs ho => ?_)
    refine lv_iload_n hx hb dX9_slot_45 rfl (lv_at hl 0 rfl) ?_
    exact o_iret hQ C rfl ho u_1 rfl rfl (Nat.le_of_ble_eq_true rfl) (Nat.le_of_ble_eq_true rfl) dX9_slot_46
  refine lv_iload_n hx hb dX9_slot_12 rfl (lv_at hl 0 rfl) ?_
  refine o_if_eq (tgt := 25) hx hb dX9_slot_13 (by decide) (by omega) (fun c_2 => ?_) (fun c_2 => ?_)
  · skip
    exact J25
  · skip
    have qh2 := qh1.resolve_left c_2
    refine lv_aload_n hx hb dX9_slot_16 rfl (lv_at hl 1 rfl) ?_
    refine o_get (v := .ref (ar 25)) C ho 0 0 rfl rfl rfl 29 fX9_86 rfl dX9_slot_17 ?_
    refine lv_iconst (v := nI 1) hx hb dX9_slot_20 (by decide) ?_
    refine o_zald (v := bI true) C ho 0 26 rfl rfl 3 rfl 1 rfl (by omega) (by decide) qh2 dX9_slot_21 ?_
    refine o_ifb_eq (tgt := 33) hx hb dX9_slot_22 (by decide) (fun c9 => absurd c9 (by decide)) (fun _ => ?_)
    exact J25

set_option maxHeartbeats 4000000 in
set_option maxRecDepth 100000 in
theorem c_M_slotB (la : Launch) (D : va_G) (K : Nat → ClassId) (h : Nat) (ar : Nat → Nat) (ad : Nat) (ck : Nat) (bi : Nat) (lo : Nat) (F : Nat → Nat → Int32) (d : Nat) (pp : Bool) (be : Bool) (tu : Bool) (gd : Bool) (by_ : List Nat) (F1 : Nat → Nat → Int32) (at_ : Nat) (sl_ : Nat) (qd : ck % 2 = d) (qh1 : d = 0 ∨ F 25 1 = bI true) (q2d : d < 2) (qad : ad < 8) (qck : ck < 2 ^ 29) (qa : F 9 d = nI at_) (qs : F 8 d = nI sl_) (qp : F 21 d = bI pp) (qt : F 22 d = bI (!tu)) (qal : at_ < sl_) (qsl : sl_ ≤ 41) (qz : F 11 d = nI 0) (qF : F1 = nfF F d pp at_ sl_ (!tu)) (q11 : F1 11 d = nI by_.length) (q12 : F1 12 d = nI (cond pp 4 3)) (q13 : F1 13 d = bI be) (q14 : ∀ i, i < by_.length → F1 14 (13 * d + i) = nI (by_.getD i 0)) (q22 : F1 22 d = bI tu) (q24 : F1 24 d = bI gd) (qn0 : 0 < by_.length) (qn9 : by_.length ≤ cond pp 13 9) (qb : ∀ j, by_.getD j 0 < 256) : MT la D K yX9_slot cX9_slot 3 (some .int) (rmL 5 0 0) [.ref h] [bX K h ar ad ck bi lo F] (Nat → Int32) (fun v _ => v = some (.int (nI (cond pp 4 3)))) (fun u => [bX K h ar ad (ck + 1) ((airW ck ad (cond pp 4 3) gd tu (cond be 2 1) by_).length) ((18 + (8 + 8 * by_.length)) + 16) (va_up (va_up (va_up (va_up (va_up F1 1 (whP ck (F1 1) 400)) 0 (wrL (F1 0) 0 (airW ck ad (cond pp 4 3) gd tu (cond be 2 1) by_))) 2 (u)) 24 (upd (F1 24) d (bI false))) 25 (upd (F1 25) d (bI false)))]) := by
  refine Mt.ofW [(0, .ref h)] (by decide) rfl (Nat.le_of_ble_eq_true rfl) ?_
  intro p e s m args below meth c A ls H locs Qz hQ C hin hl ho
  have hx := C.1.1
  have hb := C.1.2.1
  refine lv_aload_n hx hb dX9_slot_0 rfl (lv_at hl 0 rfl) ?_
  refine o_get (v := .int (nI ck)) C ho 0 0 rfl rfl rfl 1 fX9_131 rfl dX9_slot_1 ?_
  refine lv_iconst (v := nI 1) hx hb dX9_slot_4 (by decide) ?_
  refine o_and hx hb dX9_slot_5 ?_
  refine o_top (y := nI d) (by rw [Nat.and_one_is_mod, qd]) ?_
  refine lv_istore_n (lv' := [(1, .int (nI d)), (0, .ref h)]) hx hb dX9_slot_6 rfl hl (by decide) rfl (fun ls hl => ?_)
  refine lv_aload_n hx hb dX9_slot_7 rfl (lv_at hl 1 rfl) ?_
  refine lv_iconst (v := nI 0) hx hb dX9_slot_8 (by decide) ?_
  refine o_put (v := .int (nI 0)) (bs' := [bX K h ar ad ck 0 lo F]) C ho 0 0 rfl rfl rfl 2 fX9_122 pX9_2 rfl rfl (Nat.le_of_ble_eq_true rfl) dX9_slot_9 rfl (fun H locs ho => ?_)
  have J25 : W p la e (rmL 5 0 0) s m args below meth c H locs 0 0 Qz (F0 m 25 ls []) := by
    refine lv_aload_n hx hb dX9_slot_25 rfl (lv_at hl 1 rfl) ?_
    refine lv_iload_n hx hb dX9_slot_26 rfl (lv_at hl 0 rfl) ?_
    refine o_callV (wr := []) (rest := []) (As := [.int (nI d)]) C (c_M_speakB la D K h ar ad ck 0 lo F d pp be tu gd by_ F1 at_ sl_ q2d qad qck qa qs qp qt qal qsl qz qF q11 q12 q13 q14 q22 q24 qn0 qn9 qb) kX9_145 vX9_speak (by decide) rfl ho [0] 1 (by decide +kernel) rfl rfl rfl rfl rfl hl.1 rfl (Nat.le_of_ble_eq_true rfl) dX9_slot_27 0 0 rfl rfl (by decide) (fun v u_1 H locs hq ho => ?_)
    obtain rfl := hq
    have ho : ow D vwCl A s.heap H locs [bX K h ar ad ck ((airW ck ad (cond pp 4 3) gd tu (cond be 2 1) by_).length) ((18 + (8 + 8 * by_.length)) + 16) (va_up (va_up (va_up (va_up (va_up F1 1 (whP ck (F1 1) 400)) 0 (wrL (F1 0) 0 (airW ck ad (cond pp 4 3) gd tu (cond be 2 1) by_))) 2 (u_1)) 24 (upd (F1 24) d (bI false))) 25 (upd (F1 25) d (bI false)))] := ho
    refine W.eq (g2 := F0 m 30 ls [.int (nI (cond pp 4 3))]) rfl ?_
    refine lv_goto (tgt := 34) hx hb dX9_slot_30 (by decide) ?_
    refine lv_istore_n (lv' := [(2, .int (nI (cond pp 4 3))), (1, .int (nI d)), (0, .ref h)]) hx hb dX9_slot_34 rfl hl (by decide) rfl (fun ls hl => ?_)
    refine lv_aload_n hx hb dX9_slot_35 rfl (lv_at hl 2 rfl) ?_
    refine lv_dup hx hb dX9_slot_36 rfl ?_
    refine o_get (v := .int (nI ck)) C ho 0 0 rfl rfl rfl 1 fX9_131 rfl dX9_slot_37 ?_
    refine lv_iconst (v := nI 1) hx hb dX9_slot_40 (by decide) ?_
    refine o_add hx hb dX9_slot_41 ?_
    refine o_put (v := .int (nI (ck + 1))) (bs' := [bX K h ar ad (ck + 1) ((airW ck ad (cond pp 4 3) gd tu (cond be 2 1) by_).length) ((18 + (8 + 8 * by_.length)) + 16) (va_up (va_up (va_up (va_up (va_up F1 1 (whP ck (F1 1) 400)) 0 (wrL (F1 0) 0 (airW ck ad (cond pp 4 3) gd tu (cond be 2 1) by_))) 2 (u_1)) 24 (upd (F1 24) d (bI false))) 25 (upd (F1 25) d (bI false)))]) C ho 0 0 rfl rfl rfl 1 fX9_131 pX9_1 rfl rfl (Nat.le_of_ble_eq_true rfl) dX9_slot_42 rfl (fun H locs ho => ?_)
    refine lv_iload_n hx hb dX9_slot_45 rfl (lv_at hl 0 rfl) ?_
    exact o_iret hQ C rfl ho u_1 rfl rfl (Nat.le_of_ble_eq_true rfl) (Nat.le_of_ble_eq_true rfl) dX9_slot_46
  refine lv_iload_n hx hb dX9_slot_12 rfl (lv_at hl 0 rfl) ?_
  refine o_if_eq (tgt := 25) hx hb dX9_slot_13 (by decide) (by omega) (fun c_2 => ?_) (fun c_2 => ?_)
  · skip
    exact J25
  · skip
    have qh2 := qh1.resolve_left c_2
    refine lv_aload_n hx hb dX9_slot_16 rfl (lv_at hl 1 rfl) ?_
    refine o_get (v := .ref (ar 25)) C ho 0 0 rfl rfl rfl 29 fX9_86 rfl dX9_slot_17 ?_
    refine lv_iconst (v := nI 1) hx hb dX9_slot_20 (by decide) ?_
    refine o_zald (v := bI true) C ho 0 26 rfl rfl 3 rfl 1 rfl (by omega) (by decide) qh2 dX9_slot_21 ?_
    refine o_ifb_eq (tgt := 33) hx hb dX9_slot_22 (by decide) (fun c9 => absurd c9 (by decide)) (fun _ => ?_)
    exact J25

set_option maxHeartbeats 4000000 in
set_option maxRecDepth 100000 in
theorem c_M_slotC (la : Launch) (D : va_G) (K : Nat → ClassId) (h : Nat) (ar : Nat → Nat) (ad : Nat) (ck : Nat) (bi : Nat) (lo : Nat) (F : Nat → Nat → Int32) (d : Nat) (pp : Bool) (be : Bool) (tu : Bool) (gd : Bool) (by_ : List Nat) (F1 : Nat → Nat → Int32) (at_ : Nat) (sn : Nat) (ln : Nat) (qd : ck % 2 = d) (qh1 : d = 0 ∨ F 25 1 = bI true) (q2d : d < 2) (qad : ad < 8) (qck : ck < 2 ^ 29) (qa : F 9 d = nI at_) (qs : F 8 d = nI at_) (qat : at_ ≤ 41) (qp : F 21 d = bI pp) (qt : F 22 d = bI (!tu)) (q0 : F 5 d = nI sn) (qn : 0 < sn) (qn2 : sn ≤ 6) (ql : F 6 (6 * d) = nI ln) (qln : ln ≤ 40) (qz : F 11 d = nI 0) (qF : F1 = nfF (ssF F d sn ln) d pp 0 (ln + 1) (!tu)) (q11 : F1 11 d = nI by_.length) (q12 : F1 12 d = nI (cond pp 4 3)) (q13 : F1 13 d = bI be) (q14 : ∀ i, i < by_.length → F1 14 (13 * d + i) = nI (by_.getD i 0)) (q22 : F1 22 d = bI tu) (q24 : F1 24 d = bI gd) (qn0 : 0 < by_.length) (qn9 : by_.length ≤ cond pp 13 9) (qb : ∀ j, by_.getD j 0 < 256) : MT la D K yX9_slot cX9_slot 3 (some .int) (rmL 5 0 0) [.ref h] [bX K h ar ad ck bi lo F] (Nat → Int32) (fun v _ => v = some (.int (nI (cond pp 4 3)))) (fun u => [bX K h ar ad (ck + 1) ((airW ck ad (cond pp 4 3) gd tu (cond be 2 1) by_).length) ((18 + (8 + 8 * by_.length)) + 16) (va_up (va_up (va_up (va_up (va_up F1 1 (whP ck (F1 1) 400)) 0 (wrL (F1 0) 0 (airW ck ad (cond pp 4 3) gd tu (cond be 2 1) by_))) 2 (u)) 24 (upd (F1 24) d (bI false))) 25 (upd (F1 25) d (bI false)))]) := by
  refine Mt.ofW [(0, .ref h)] (by decide) rfl (Nat.le_of_ble_eq_true rfl) ?_
  intro p e s m args below meth c A ls H locs Qz hQ C hin hl ho
  have hx := C.1.1
  have hb := C.1.2.1
  refine lv_aload_n hx hb dX9_slot_0 rfl (lv_at hl 0 rfl) ?_
  refine o_get (v := .int (nI ck)) C ho 0 0 rfl rfl rfl 1 fX9_131 rfl dX9_slot_1 ?_
  refine lv_iconst (v := nI 1) hx hb dX9_slot_4 (by decide) ?_
  refine o_and hx hb dX9_slot_5 ?_
  refine o_top (y := nI d) (by rw [Nat.and_one_is_mod, qd]) ?_
  refine lv_istore_n (lv' := [(1, .int (nI d)), (0, .ref h)]) hx hb dX9_slot_6 rfl hl (by decide) rfl (fun ls hl => ?_)
  refine lv_aload_n hx hb dX9_slot_7 rfl (lv_at hl 1 rfl) ?_
  refine lv_iconst (v := nI 0) hx hb dX9_slot_8 (by decide) ?_
  refine o_put (v := .int (nI 0)) (bs' := [bX K h ar ad ck 0 lo F]) C ho 0 0 rfl rfl rfl 2 fX9_122 pX9_2 rfl rfl (Nat.le_of_ble_eq_true rfl) dX9_slot_9 rfl (fun H locs ho => ?_)
  have J25 : W p la e (rmL 5 0 0) s m args below meth c H locs 0 0 Qz (F0 m 25 ls []) := by
    refine lv_aload_n hx hb dX9_slot_25 rfl (lv_at hl 1 rfl) ?_
    refine lv_iload_n hx hb dX9_slot_26 rfl (lv_at hl 0 rfl) ?_
    refine o_callV (wr := []) (rest := []) (As := [.int (nI d)]) C (c_M_speakC la D K h ar ad ck 0 lo F d pp be tu gd by_ F1 at_ sn ln q2d qad qck qa qs qat qp qt q0 qn qn2 ql qln qz qF q11 q12 q13 q14 q22 q24 qn0 qn9 qb) kX9_145 vX9_speak (by decide) rfl ho [0] 1 (by decide +kernel) rfl rfl rfl rfl rfl hl.1 rfl (Nat.le_of_ble_eq_true rfl) dX9_slot_27 0 0 rfl rfl (by decide) (fun v u_1 H locs hq ho => ?_)
    obtain rfl := hq
    have ho : ow D vwCl A s.heap H locs [bX K h ar ad ck ((airW ck ad (cond pp 4 3) gd tu (cond be 2 1) by_).length) ((18 + (8 + 8 * by_.length)) + 16) (va_up (va_up (va_up (va_up (va_up F1 1 (whP ck (F1 1) 400)) 0 (wrL (F1 0) 0 (airW ck ad (cond pp 4 3) gd tu (cond be 2 1) by_))) 2 (u_1)) 24 (upd (F1 24) d (bI false))) 25 (upd (F1 25) d (bI false)))] := ho
    refine W.eq (g2 := F0 m 30 ls [.int (nI (cond pp 4 3))]) rfl ?_
    refine lv_goto (tgt := 34) hx hb dX9_slot_30 (by decide) ?_
    refine lv_istore_n (lv' := [(2, .int (nI (cond pp 4 3))), (1, .int (nI d)), (0, .ref h)]) hx hb dX9_slot_34 rfl hl (by decide) rfl (fun ls hl => ?_)
    refine lv_aload_n hx hb dX9_slot_35 rfl (lv_at hl 2 rfl) ?_
    refine lv_dup hx hb dX9_slot_36 rfl ?_
    refine o_get (v := .int (nI ck)) C ho 0 0 rfl rfl rfl 1 fX9_131 rfl dX9_slot_37 ?_
    refine lv_iconst (v := nI 1) hx hb dX9_slot_40 (by decide) ?_
    refine o_add hx hb dX9_slot_41 ?_
    refine o_put (v := .int (nI (ck + 1))) (bs' := [bX K h ar ad (ck + 1) ((airW ck ad (cond pp 4 3) gd tu (cond be 2 1) by_).length) ((18 + (8 + 8 * by_.length)) + 16) (va_up (va_up (va_up (va_up (va_up F1 1 (whP ck (F1 1) 400)) 0 (wrL (F1 0) 0 (airW ck ad (cond pp 4 3) gd tu (cond be 2 1) by_))) 2 (u_1)) 24 (upd (F1 24) d (bI false))) 25 (upd (F1 25) d (bI false)))]) C ho 0 0 rfl rfl rfl 1 fX9_131 pX9_1 rfl rfl (Nat.le_of_ble_eq_true rfl) dX9_slot_42 rfl (fun H locs ho => ?_)
    refine lv_iload_n hx hb dX9_slot_45 rfl (lv_at hl 0 rfl) ?_
    exact o_iret hQ C rfl ho u_1 rfl rfl (Nat.le_of_ble_eq_true rfl) (Nat.le_of_ble_eq_true rfl) dX9_slot_46
  refine lv_iload_n hx hb dX9_slot_12 rfl (lv_at hl 0 rfl) ?_
  refine o_if_eq (tgt := 25) hx hb dX9_slot_13 (by decide) (by omega) (fun c_2 => ?_) (fun c_2 => ?_)
  · skip
    exact J25
  · skip
    have qh2 := qh1.resolve_left c_2
    refine lv_aload_n hx hb dX9_slot_16 rfl (lv_at hl 1 rfl) ?_
    refine o_get (v := .ref (ar 25)) C ho 0 0 rfl rfl rfl 29 fX9_86 rfl dX9_slot_17 ?_
    refine lv_iconst (v := nI 1) hx hb dX9_slot_20 (by decide) ?_
    refine o_zald (v := bI true) C ho 0 26 rfl rfl 3 rfl 1 rfl (by omega) (by decide) qh2 dX9_slot_21 ?_
    refine o_ifb_eq (tgt := 33) hx hb dX9_slot_22 (by decide) (fun c9 => absurd c9 (by decide)) (fun _ => ?_)
    exact J25

set_option maxHeartbeats 4000000 in
set_option maxRecDepth 100000 in
theorem c_M_slot0 (la : Launch) (D : va_G) (K : Nat → ClassId) (h : Nat) (ar : Nat → Nat) (ad : Nat) (ck : Nat) (bi : Nat) (lo : Nat) (F : Nat → Nat → Int32) (d : Nat) (tu : Bool) (gd : Bool) (mk : Nat) (at_ : Nat) (qd : ck % 2 = d) (qh1 : d = 0 ∨ F 25 1 = bI true) (q2d : d < 2) (qad : ad < 8) (qck : ck < 2 ^ 29) (qa : F 9 d = nI at_) (qs : F 8 d = nI at_) (qat : at_ ≤ 41) (q0 : F 5 d = nI 0) (q11 : F 11 d = nI 0) (q22 : F 22 d = bI tu) (q24 : F 24 d = bI gd) : MT la D K yX9_slot cX9_slot 3 (some .int) (rmL 5 0 0) [.ref h] [bX K h ar ad ck bi lo F] (Nat → Int32) (fun v _ => v = some (.int (nI (d + 1)))) (fun u => [bX K h ar ad (ck + 1) ((airW ck ad (d + 1) gd tu mk []).length) 18 (va_up (va_up (va_up (va_up (va_up F 1 (whP ck (F 1) 400)) 0 (wrL (F 0) 0 (airW ck ad (d + 1) gd tu mk []))) 2 (u)) 24 (upd (F 24) d (bI false))) 25 (upd (F 25) d (bI false)))]) := by
  refine Mt.ofW [(0, .ref h)] (by decide) rfl (Nat.le_of_ble_eq_true rfl) ?_
  intro p e s m args below meth c A ls H locs Qz hQ C hin hl ho
  have hx := C.1.1
  have hb := C.1.2.1
  refine lv_aload_n hx hb dX9_slot_0 rfl (lv_at hl 0 rfl) ?_
  refine o_get (v := .int (nI ck)) C ho 0 0 rfl rfl rfl 1 fX9_131 rfl dX9_slot_1 ?_
  refine lv_iconst (v := nI 1) hx hb dX9_slot_4 (by decide) ?_
  refine o_and hx hb dX9_slot_5 ?_
  refine o_top (y := nI d) (by rw [Nat.and_one_is_mod, qd]) ?_
  refine lv_istore_n (lv' := [(1, .int (nI d)), (0, .ref h)]) hx hb dX9_slot_6 rfl hl (by decide) rfl (fun ls hl => ?_)
  refine lv_aload_n hx hb dX9_slot_7 rfl (lv_at hl 1 rfl) ?_
  refine lv_iconst (v := nI 0) hx hb dX9_slot_8 (by decide) ?_
  refine o_put (v := .int (nI 0)) (bs' := [bX K h ar ad ck 0 lo F]) C ho 0 0 rfl rfl rfl 2 fX9_122 pX9_2 rfl rfl (Nat.le_of_ble_eq_true rfl) dX9_slot_9 rfl (fun H locs ho => ?_)
  have J25 : W p la e (rmL 5 0 0) s m args below meth c H locs 0 0 Qz (F0 m 25 ls []) := by
    refine lv_aload_n hx hb dX9_slot_25 rfl (lv_at hl 1 rfl) ?_
    refine lv_iload_n hx hb dX9_slot_26 rfl (lv_at hl 0 rfl) ?_
    refine o_callV (wr := []) (rest := []) (As := [.int (nI d)]) C (c_M_speak0 la D K h ar ad ck 0 lo F d tu gd mk at_ q2d qad qck qa qs qat q0 q11 q22 q24) kX9_145 vX9_speak (by decide) rfl ho [0] 1 (by decide +kernel) rfl rfl rfl rfl rfl hl.1 rfl (Nat.le_of_ble_eq_true rfl) dX9_slot_27 0 0 rfl rfl (by decide) (fun v u_1 H locs hq ho => ?_)
    obtain rfl := hq
    have ho : ow D vwCl A s.heap H locs [bX K h ar ad ck ((airW ck ad (d + 1) gd tu mk []).length) 18 (va_up (va_up (va_up (va_up (va_up F 1 (whP ck (F 1) 400)) 0 (wrL (F 0) 0 (airW ck ad (d + 1) gd tu mk []))) 2 (u_1)) 24 (upd (F 24) d (bI false))) 25 (upd (F 25) d (bI false)))] := ho
    refine W.eq (g2 := F0 m 30 ls [.int (nI (d + 1))]) rfl ?_
    refine lv_goto (tgt := 34) hx hb dX9_slot_30 (by decide) ?_
    refine lv_istore_n (lv' := [(2, .int (nI (d + 1))), (1, .int (nI d)), (0, .ref h)]) hx hb dX9_slot_34 rfl hl (by decide) rfl (fun ls hl => ?_)
    refine lv_aload_n hx hb dX9_slot_35 rfl (lv_at hl 2 rfl) ?_
    refine lv_dup hx hb dX9_slot_36 rfl ?_
    refine o_get (v := .int (nI ck)) C ho 0 0 rfl rfl rfl 1 fX9_131 rfl dX9_slot_37 ?_
    refine lv_iconst (v := nI 1) hx hb dX9_slot_40 (by decide) ?_
    refine o_add hx hb dX9_slot_41 ?_
    refine o_put (v := .int (nI (ck + 1))) (bs' := [bX K h ar ad (ck + 1) ((airW ck ad (d + 1) gd tu mk []).length) 18 (va_up (va_up (va_up (va_up (va_up F 1 (whP ck (F 1) 400)) 0 (wrL (F 0) 0 (airW ck ad (d + 1) gd tu mk []))) 2 (u_1)) 24 (upd (F 24) d (bI false))) 25 (upd (F 25) d (bI false)))]) C ho 0 0 rfl rfl rfl 1 fX9_131 pX9_1 rfl rfl (Nat.le_of_ble_eq_true rfl) dX9_slot_42 rfl (fun H locs ho => ?_)
    refine lv_iload_n hx hb dX9_slot_45 rfl (lv_at hl 0 rfl) ?_
    exact o_iret hQ C rfl ho u_1 rfl rfl (Nat.le_of_ble_eq_true rfl) (Nat.le_of_ble_eq_true rfl) dX9_slot_46
  refine lv_iload_n hx hb dX9_slot_12 rfl (lv_at hl 0 rfl) ?_
  refine o_if_eq (tgt := 25) hx hb dX9_slot_13 (by decide) (by omega) (fun c_2 => ?_) (fun c_2 => ?_)
  · skip
    exact J25
  · skip
    have qh2 := qh1.resolve_left c_2
    refine lv_aload_n hx hb dX9_slot_16 rfl (lv_at hl 1 rfl) ?_
    refine o_get (v := .ref (ar 25)) C ho 0 0 rfl rfl rfl 29 fX9_86 rfl dX9_slot_17 ?_
    refine lv_iconst (v := nI 1) hx hb dX9_slot_20 (by decide) ?_
    refine o_zald (v := bI true) C ho 0 26 rfl rfl 3 rfl 1 rfl (by omega) (by decide) qh2 dX9_slot_21 ?_
    refine o_ifb_eq (tgt := 33) hx hb dX9_slot_22 (by decide) (fun c9 => absurd c9 (by decide)) (fun _ => ?_)
    exact J25
