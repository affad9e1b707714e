set_option maxHeartbeats 4000000 in
set_option maxRecDepth 100000 in
theorem c_M_useA (la : Launch) (D : va_G) (K : Nat → ClassId) (h : Nat) (ar : Nat → Nat) (ad : Nat) (ck : Nat) (bi : Nat) (lo : Nat) (F : Nat → Nat → Int32) (d : Nat) (l : List Bool) (n : Nat) (tn : Nat) (dr : Nat) (du : Nat) (q2d : d < 2) (qr : ∀ i, i < l.length → F 2 (15 + i) = bI (l.getD i false)) (qn : n = toN l 0 8 / 4) (qll : 24 + 8 * n ≤ l.length) (ql2 : l.length ≤ 150) (qn1 : 1 ≤ n) (q15 : F 15 d = nI tn) (qtn : tn ≤ 6) (q26 : F 26 d = nI dr) (qbe : l.getD 1 false = true) (q18 : F 18 d = nI du) (qdu : du ≤ 255) : MT la D K yX9_use cX9_use 5 none (rmL 2 0 0) [.ref h, .int (nI d)] [bX K h ar ad ck bi lo F] Unit (fun v _ => v = none) (fun _ => [bX K h ar ad ck bi lo (finF (va_up (va_up (va_up (va_up F 26 (upd (F 26) d (nI (dr + 1)))) 18 (upd (F 18) d (nI (toN l 8 8)))) 20 (wrN (F 20) (320 * d + 0) (slN (ldY l n) 1 (n - 1)))) 19 (upd (F 19) d (nI (0 + (n - 1))))) d (0 + (n - 1)) (toN l 8 8) tn (dr + 1))]) := by
  refine Mt.ofW [(0, .ref h), (1, .int (nI d))] (by decide) rfl (Nat.le_of_ble_eq_true rfl) ?_
  intro p e s m args below meth c A ls H locs Qz hQ C hin hl ho
  have hx := C.1.1
  have hb := C.1.2.1
  refine lv_aload_n hx hb dX9_use_0 rfl (lv_at hl 0 rfl) ?_
  refine lv_bipush (v := nI 15) hx hb dX9_use_1 (by decide) ?_
  refine lv_bipush (v := nI 8) hx hb dX9_use_3 (by decide) ?_
  refine o_callV (wr := []) (rest := []) (As := [.int (nI 15), .int (nI 8)]) C (c_M_number la D K h ar ad ck bi lo F 15 8 l 0 (fun i hi => by rw [Nat.zero_add]; exact qr i (by omega)) (by first | omega | assumption | (simp only [List.length_append, List.length_cons, List.length_nil, List.length_modify, List.length_set, nb_len, rb_len, rbp_len, sl_len, slN_len, wh_len, wt_len, hd10_len, hdB_len, thr_len, ldp_len, ldB_len, tens_len, whz_len, majL_len, mf_len, tkL_len, ldY_len, fif_len, ldY_len]; omega) | decide) (by first | omega | assumption | (simp only [List.length_append, List.length_cons, List.length_nil, List.length_modify, List.length_set, nb_len, rb_len, rbp_len, sl_len, slN_len, wh_len, wt_len, hd10_len, hdB_len, thr_len, ldp_len, ldB_len, tens_len, whz_len, majL_len, mf_len, tkL_len, ldY_len, fif_len, ldY_len]; omega) | decide)) kX9_153 vX9_number (by decide) rfl ho [0] 1 (by decide +kernel) rfl rfl rfl rfl rfl hl.1 rfl (Nat.le_of_ble_eq_true rfl) dX9_use_5 0 0 rfl rfl (by decide) (fun v u_1 H locs hq ho => ?_)
  obtain rfl := hq
  have ho : ow D vwCl A s.heap H locs [bX K h ar ad ck bi lo F] := ho
  refine W.eq (g2 := F0 m 8 ls [.int (nI (toN l 0 8))]) rfl ?_
  have ht8 := toN_lt l 0 8
  have ht9 := toN_lt l 8 8
  refine lv_iconst (v := nI 4) hx hb dX9_use_8 (by decide) ?_
  refine o_div hx hb dX9_use_9 (by omega) (by omega) (by omega) ?_
  refine o_top (y := nI n) (by rw [qn]) ?_
  refine lv_istore_n (lv' := [(2, .int (nI n)), (0, .ref h), (1, .int (nI d))]) hx hb dX9_use_10 rfl hl (by decide) rfl (fun ls hl => ?_)
  refine lv_iconst (v := nI 0) hx hb dX9_use_11 (by decide) ?_
  refine lv_istore_n (lv' := [(3, .int (nI 0)), (2, .int (nI n)), (0, .ref h), (1, .int (nI d))]) hx hb dX9_use_12 rfl hl (by decide) rfl (fun ls hl => ?_)
  refine lv_aload_n hx hb dX9_use_13 rfl (lv_at hl 2 rfl) ?_
  refine o_get (v := .ref (ar 2)) C ho 0 0 rfl rfl rfl 6 fX9_16 rfl dX9_use_14 ?_
  refine lv_bipush (v := nI 16) hx hb dX9_use_17 (by decide) ?_
  refine o_iald (v := F 2 16) C ho 0 3 rfl rfl 0 rfl 16 rfl (by omega) (by omega) rfl dX9_use_19 ?_
  refine o_top (y := bI true) (by rw [← qbe]; exact qr 1 (by omega)) ?_
  refine lv_iconst (v := nI 1) hx hb dX9_use_20 (by decide) ?_
  refine o_top (y := bI true) (rfl) ?_
  refine o_icmpb_ne (tgt := 66) hx hb dX9_use_21 (by decide) (fun c_2 => ?_) (fun c_2 => ?_)
  · skip
    exact absurd rfl c_2
  · skip
    refine lv_aload_n hx hb dX9_use_24 rfl (lv_at hl 2 rfl) ?_
    refine o_get (v := .ref (ar 18)) C ho 0 0 rfl rfl rfl 22 fX9_65 rfl dX9_use_25 ?_
    refine lv_iload_n hx hb dX9_use_28 rfl (lv_at hl 3 rfl) ?_
    refine o_iald (v := nI du) C ho 0 19 rfl rfl 0 rfl d rfl (by omega) (by omega) q18 dX9_use_29 ?_
    refine o_if_lt (tgt := 43) hx hb dX9_use_30 (by decide) (by omega) ?_
    refine lv_aload_n hx hb dX9_use_33 rfl (lv_at hl 2 rfl) ?_
    refine o_get (v := .ref (ar 26)) C ho 0 0 rfl rfl rfl 30 fX9_89 rfl dX9_use_34 ?_
    refine lv_iload_n hx hb dX9_use_37 rfl (lv_at hl 3 rfl) ?_
    refine lv_dup2_11 hx hb dX9_use_38 rfl rfl ?_
    refine o_iald (v := nI dr) C ho 0 27 rfl rfl 0 rfl d rfl (by omega) (by omega) q26 dX9_use_39 ?_
    refine lv_iconst (v := nI 1) hx hb dX9_use_40 (by decide) ?_
    refine o_add hx hb dX9_use_41 ?_
    refine o_iast (bs' := [bX K h ar ad ck bi lo (va_up F 26 (upd (F 26) d (nI (dr + 1))))]) C ho 0 27 rfl rfl 0 rfl d rfl (by omega) (by decide) dX9_use_42 rfl (fun H locs ho => ?_)
    refine lv_aload_n hx hb dX9_use_43 rfl (lv_at hl 2 rfl) ?_
    refine o_get (v := .ref (ar 18)) C ho 0 0 rfl rfl rfl 22 fX9_65 rfl dX9_use_44 ?_
    refine lv_iload_n hx hb dX9_use_47 rfl (lv_at hl 3 rfl) ?_
    refine lv_aload_n hx hb dX9_use_48 rfl (lv_at hl 2 rfl) ?_
    refine lv_bipush (v := nI 23) hx hb dX9_use_49 (by decide) ?_
    refine lv_bipush (v := nI 8) hx hb dX9_use_51 (by decide) ?_
    refine o_callV (wr := []) (rest := [.int (nI d), .ref (ar 18)]) (As := [.int (nI 23), .int (nI 8)]) C (c_M_number la D K h ar ad ck bi lo (va_up F 26 (upd (F 26) d (nI (dr + 1)))) 23 8 l 8 (fun i hi => by rw [show 23 + i = 15 + (8 + i) by omega]; exact qr _ (by omega)) (by first | omega | assumption | (simp only [List.length_append, List.length_cons, List.length_nil, List.length_modify, List.length_set, nb_len, rb_len, rbp_len, sl_len, slN_len, wh_len, wt_len, hd10_len, hdB_len, thr_len, ldp_len, ldB_len, tens_len, whz_len, majL_len, mf_len, tkL_len, ldY_len, fif_len, ldY_len]; omega) | decide) (by first | omega | assumption | (simp only [List.length_append, List.length_cons, List.length_nil, List.length_modify, List.length_set, nb_len, rb_len, rbp_len, sl_len, slN_len, wh_len, wt_len, hd10_len, hdB_len, thr_len, ldp_len, ldB_len, tens_len, whz_len, majL_len, mf_len, tkL_len, ldY_len, fif_len, ldY_len]; omega) | decide)) kX9_153 vX9_number (by decide) rfl ho [0] 1 (by decide +kernel) rfl rfl rfl rfl rfl hl.1 rfl (Nat.le_of_ble_eq_true rfl) dX9_use_53 0 0 rfl rfl (by decide) (fun v u_3 H locs hq ho => ?_)
    obtain rfl := hq
    have ho : ow D vwCl A s.heap H locs [bX K h ar ad ck bi lo (va_up F 26 (upd (F 26) d (nI (dr + 1))))] := ho
    refine W.eq (g2 := F0 m 56 ls [.int (nI (toN l 8 8)), .int (nI d), .ref (ar 18)]) rfl ?_
    refine o_iast (bs' := [bX K h ar ad ck bi lo (va_up (va_up F 26 (upd (F 26) d (nI (dr + 1)))) 18 (upd (F 18) d (nI (toN l 8 8))))]) C ho 0 19 rfl rfl 0 rfl d rfl (by omega) (by decide) dX9_use_56 rfl (fun H locs ho => ?_)
    refine lv_aload_n hx hb dX9_use_57 rfl (lv_at hl 2 rfl) ?_
    refine o_get (v := .ref (ar 19)) C ho 0 0 rfl rfl rfl 23 fX9_68 rfl dX9_use_58 ?_
    refine lv_iload_n hx hb dX9_use_61 rfl (lv_at hl 3 rfl) ?_
    refine lv_iconst (v := nI 0) hx hb dX9_use_62 (by decide) ?_
    refine o_iast (bs' := [bX K h ar ad ck bi lo (va_up (va_up (va_up F 26 (upd (F 26) d (nI (dr + 1)))) 18 (upd (F 18) d (nI (toN l 8 8)))) 19 (upd (F 19) d (nI 0)))]) C ho 0 20 rfl rfl 0 rfl d rfl (by omega) (by decide) dX9_use_63 rfl (fun H locs ho => ?_)
    refine lv_iconst (v := nI 1) hx hb dX9_use_64 (by decide) ?_
    refine lv_istore_n (lv' := [(3, .int (nI 1)), (2, .int (nI n)), (0, .ref h), (1, .int (nI d))]) hx hb dX9_use_65 rfl hl (by decide) rfl (fun ls hl => ?_)
    refine lv_aload_n hx hb dX9_use_66 rfl (lv_at hl 2 rfl) ?_
    refine o_get (v := .ref (ar 18)) C ho 0 0 rfl rfl rfl 22 fX9_65 rfl dX9_use_67 ?_
    refine lv_iload_n hx hb dX9_use_70 rfl (lv_at hl 3 rfl) ?_
    refine o_iald (v := nI (toN l 8 8)) C ho 0 19 rfl rfl 0 rfl d rfl (by omega) (by omega) pk_us dX9_use_71 ?_
    refine o_if_ge (tgt := 76) hx hb dX9_use_72 (by decide) (by omega) ?_
    refine lv_iload_n hx hb dX9_use_76 rfl (lv_at hl 0 rfl) ?_
    refine lv_istore (lv' := [(4, .int (nI 1)), (3, .int (nI 1)), (2, .int (nI n)), (0, .ref h), (1, .int (nI d))]) hx hb dX9_use_77 hl (by decide) rfl (fun ls hl => ?_)
    have e_4 : (.int (nI 1) : Value) = .int (nI (1 + 0)) := rfl
    have hl : lv_has ls 5 [(4, .int (nI (1 + 0))), (3, .int (nI 1)), (2, .int (nI n)), (0, .ref h), (1, .int (nI d))] := by rw [← e_4]; exact hl
    have e_5 : bX K h ar ad ck bi lo (va_up (va_up (va_up F 26 (upd (F 26) d (nI (dr + 1)))) 18 (upd (F 18) d (nI (toN l 8 8)))) 19 (upd (F 19) d (nI 0))) = bX K h ar ad ck bi lo (va_up (va_up (va_up (va_up F 26 (upd (F 26) d (nI (dr + 1)))) 18 (upd (F 18) d (nI (toN l 8 8)))) 20 (wrN (F 20) (320 * d + 0) (slN (ldY l n) 1 0))) 19 (upd (F 19) d (nI (0 + 0)))) := by rw [slN_0, wrN_nil]; exact congrArg (bX K h ar ad ck bi lo) (congrArg (fun z => va_up z 19 (upd (F 19) d (nI 0))) (up_1 rfl))
    have ho : ow D vwCl A s.heap H locs [bX K h ar ad ck bi lo (va_up (va_up (va_up (va_up F 26 (upd (F 26) d (nI (dr + 1)))) 18 (upd (F 18) d (nI (toN l 8 8)))) 20 (wrN (F 20) (320 * d + 0) (slN (ldY l n) 1 0))) 19 (upd (F 19) d (nI (0 + 0))))] := by rw [← e_5]; exact ho
    have LP79 : ∀ (fuel : Nat) (t : Nat) (_ : n - 1 - t < fuel) (_ : t ≤ n - 1) (H : Heap) (locs : List Loc) (ls : Array Slot) (_ : ow D vwCl A s.heap H locs [bX K h ar ad ck bi lo (va_up (va_up (va_up (va_up F 26 (upd (F 26) d (nI (dr + 1)))) 18 (upd (F 18) d (nI (toN l 8 8)))) 20 (wrN (F 20) (320 * d + 0) (slN (ldY l n) 1 t))) 19 (upd (F 19) d (nI (0 + t))))]) (_ : lv_has ls 5 [(0, .ref h), (1, .int (nI d)), (2, .int (nI n)), (4, .int (nI (1 + t)))]), W p la e (rmL 2 0 0) s m args below meth c H locs 0 0 Qz (F0 m 79 ls []) := by
      intro fuel
      induction fuel with
      | zero => intro t h0; exact absurd h0 (Nat.not_lt_zero _)
      | succ fuel ih79 =>
        intro t hfu ht H locs ls ho hl
        refine lv_iload hx hb dX9_use_79 (lv_at hl 3 rfl) ?_
        refine lv_iload_n hx hb dX9_use_81 rfl (lv_at hl 2 rfl) ?_
        refine o_icmp_ge (tgt := 132) hx hb dX9_use_82 (by decide) (by first | omega | exact and1_lt _) (by first | omega | exact and1_lt _) (fun c_6 => ?_) (fun c_6 => ?_)
        · skip
          have e_7 : bX K h ar ad ck bi lo (va_up (va_up (va_up (va_up F 26 (upd (F 26) d (nI (dr + 1)))) 18 (upd (F 18) d (nI (toN l 8 8)))) 20 (wrN (F 20) (320 * d + 0) (slN (ldY l n) 1 t))) 19 (upd (F 19) d (nI (0 + t)))) = bX K h ar ad ck bi lo (va_up (va_up (va_up (va_up F 26 (upd (F 26) d (nI (dr + 1)))) 18 (upd (F 18) d (nI (toN l 8 8)))) 20 (wrN (F 20) (320 * d + 0) (slN (ldY l n) 1 (n - 1)))) 19 (upd (F 19) d (nI (0 + (n - 1))))) := by rw [show t = n - 1 by omega]
          have ho : ow D vwCl A s.heap H locs [bX K h ar ad ck bi lo (va_up (va_up (va_up (va_up F 26 (upd (F 26) d (nI (dr + 1)))) 18 (upd (F 18) d (nI (toN l 8 8)))) 20 (wrN (F 20) (320 * d + 0) (slN (ldY l n) 1 (n - 1)))) 19 (upd (F 19) d (nI (0 + (n - 1)))))] := by rw [← e_7]; exact ho
          refine lv_aload_n hx hb dX9_use_132 rfl (lv_at hl 0 rfl) ?_
          refine lv_iload_n hx hb dX9_use_133 rfl (lv_at hl 1 rfl) ?_
          refine o_callV (wr := []) (rest := []) (As := [.int (nI d)]) C (c_M_finish la D K h ar ad ck bi lo (va_up (va_up (va_up (va_up F 26 (upd (F 26) d (nI (dr + 1)))) 18 (upd (F 18) d (nI (toN l 8 8)))) 20 (wrN (F 20) (320 * d + 0) (slN (ldY l n) 1 (n - 1)))) 19 (upd (F 19) d (nI (0 + (n - 1))))) d (0 + (n - 1)) (toN l 8 8) tn (dr + 1) (by first | omega | assumption | (simp only [List.length_append, List.length_cons, List.length_nil, List.length_modify, List.length_set, nb_len, rb_len, rbp_len, sl_len, slN_len, wh_len, wt_len, hd10_len, hdB_len, thr_len, ldp_len, ldB_len, tens_len, whz_len, majL_len, mf_len, tkL_len, ldY_len, fif_len, ldY_len]; omega) | decide) pk_us pk_us q15 pk_us (by first | omega | assumption | (simp only [List.length_append, List.length_cons, List.length_nil, List.length_modify, List.length_set, nb_len, rb_len, rbp_len, sl_len, slN_len, wh_len, wt_len, hd10_len, hdB_len, thr_len, ldp_len, ldB_len, tens_len, whz_len, majL_len, mf_len, tkL_len, ldY_len, fif_len, ldY_len]; omega) | decide) (by first | omega | assumption | (simp only [List.length_append, List.length_cons, List.length_nil, List.length_modify, List.length_set, nb_len, rb_len, rbp_len, sl_len, slN_len, wh_len, wt_len, hd10_len, hdB_len, thr_len, ldp_len, ldB_len, tens_len, whz_len, majL_len, mf_len, tkL_len, ldY_len, fif_len, ldY_len]; omega) | decide) (by first | omega | assumption | (simp only [List.length_append, List.length_cons, List.length_nil, List.length_modify, List.length_set, nb_len, rb_len, rbp_len, sl_len, slN_len, wh_len, wt_len, hd10_len, hdB_len, thr_len, ldp_len, ldB_len, tens_len, whz_len, majL_len, mf_len, tkL_len, ldY_len, fif_len, ldY_len]; omega) | decide)) kX9_165 vX9_finish (by decide) rfl ho [0] 1 (by decide +kernel) rfl rfl rfl rfl rfl hl.1 rfl (Nat.le_of_ble_eq_true rfl) dX9_use_134 0 0 rfl rfl (by decide) (fun v u_8 H locs hq ho => ?_)
          obtain rfl := hq
          have ho : ow D vwCl A s.heap H locs [bX K h ar ad ck bi lo (finF (va_up (va_up (va_up (va_up F 26 (upd (F 26) d (nI (dr + 1)))) 18 (upd (F 18) d (nI (toN l 8 8)))) 20 (wrN (F 20) (320 * d + 0) (slN (ldY l n) 1 (n - 1)))) 19 (upd (F 19) d (nI (0 + (n - 1))))) d (0 + (n - 1)) (toN l 8 8) tn (dr + 1))] := ho
          refine W.eq (g2 := F0 m 137 ls []) rfl ?_
          exact o_vret hQ C ho () rfl rfl (Nat.le_of_ble_eq_true rfl) (Nat.le_of_ble_eq_true rfl) dX9_use_137
        · skip
          refine lv_aload_n hx hb dX9_use_85 rfl (lv_at hl 0 rfl) ?_
          refine o_get (v := .ref (ar 20)) C ho 0 0 rfl rfl rfl 24 fX9_71 rfl dX9_use_86 ?_
          refine lv_sipush (v := nI 320) hx hb dX9_use_89 (by decide) ?_
          refine lv_iload_n hx hb dX9_use_92 rfl (lv_at hl 1 rfl) ?_
          refine o_mul hx hb dX9_use_93 ?_
          refine lv_aload_n hx hb dX9_use_94 rfl (lv_at hl 0 rfl) ?_
          refine o_get (v := .ref (ar 19)) C ho 0 0 rfl rfl rfl 23 fX9_68 rfl dX9_use_95 ?_
          refine lv_iload_n hx hb dX9_use_98 rfl (lv_at hl 1 rfl) ?_
          refine o_iald (v := nI (0 + t)) C ho 0 20 rfl rfl 0 rfl d rfl (by omega) (by omega) pk_us dX9_use_99 ?_
          refine o_add hx hb dX9_use_100 ?_
          refine lv_aload_n hx hb dX9_use_101 rfl (lv_at hl 0 rfl) ?_
          refine lv_bipush (v := nI 23) hx hb dX9_use_102 (by decide) ?_
          refine lv_bipush (v := nI 8) hx hb dX9_use_104 (by decide) ?_
          refine lv_iload hx hb dX9_use_106 (lv_at hl 3 rfl) ?_
          refine o_mul hx hb dX9_use_108 ?_
          refine o_add hx hb dX9_use_109 ?_
          refine lv_bipush (v := nI 8) hx hb dX9_use_110 (by decide) ?_
          refine o_callV (wr := []) (rest := [.int (nI ((320 * d) + (0 + t))), .ref (ar 20)]) (As := [.int (nI (23 + (8 * (1 + t)))), .int (nI 8)]) C (c_M_number la D K h ar ad ck bi lo (va_up (va_up (va_up (va_up F 26 (upd (F 26) d (nI (dr + 1)))) 18 (upd (F 18) d (nI (toN l 8 8)))) 20 (wrN (F 20) (320 * d + 0) (slN (ldY l n) 1 t))) 19 (upd (F 19) d (nI (0 + t)))) (23 + (8 * (1 + t))) 8 l (8 * ((1 + t) + 1)) (fun i hi => by rw [show 23 + 8 * (1 + t) + i = 15 + (8 * ((1 + t) + 1) + i) by omega]; exact qr _ (by omega)) (by first | omega | assumption | (simp only [List.length_append, List.length_cons, List.length_nil, List.length_modify, List.length_set, nb_len, rb_len, rbp_len, sl_len, slN_len, wh_len, wt_len, hd10_len, hdB_len, thr_len, ldp_len, ldB_len, tens_len, whz_len, majL_len, mf_len, tkL_len, ldY_len, fif_len, ldY_len]; omega) | decide) (by first | omega | assumption | (simp only [List.length_append, List.length_cons, List.length_nil, List.length_modify, List.length_set, nb_len, rb_len, rbp_len, sl_len, slN_len, wh_len, wt_len, hd10_len, hdB_len, thr_len, ldp_len, ldB_len, tens_len, whz_len, majL_len, mf_len, tkL_len, ldY_len, fif_len, ldY_len]; omega) | decide)) kX9_153 vX9_number (by decide) rfl ho [0] 1 (by decide +kernel) rfl rfl rfl rfl rfl hl.1 rfl (Nat.le_of_ble_eq_true rfl) dX9_use_112 0 0 rfl rfl (by decide) (fun v u_9 H locs hq ho => ?_)
          obtain rfl := hq
          have ho : ow D vwCl A s.heap H locs [bX K h ar ad ck bi lo (va_up (va_up (va_up (va_up F 26 (upd (F 26) d (nI (dr + 1)))) 18 (upd (F 18) d (nI (toN l 8 8)))) 20 (wrN (F 20) (320 * d + 0) (slN (ldY l n) 1 t))) 19 (upd (F 19) d (nI (0 + t))))] := ho
          refine W.eq (g2 := F0 m 115 ls [.int (nI (toN l (8 * ((1 + t) + 1)) 8)), .int (nI ((320 * d) + (0 + t))), .ref (ar 20)]) rfl ?_
          refine o_iast (bs' := [bX K h ar ad ck bi lo (va_up (va_up (va_up (va_up (va_up F 26 (upd (F 26) d (nI (dr + 1)))) 18 (upd (F 18) d (nI (toN l 8 8)))) 20 (wrN (F 20) (320 * d + 0) (slN (ldY l n) 1 t))) 19 (upd (F 19) d (nI (0 + t)))) 20 (upd (wrN (F 20) (320 * d + 0) (slN (ldY l n) 1 t)) ((320 * d) + (0 + t)) (nI (toN l (8 * ((1 + t) + 1)) 8))))]) C ho 0 21 rfl rfl 0 rfl ((320 * d) + (0 + t)) rfl (by omega) (by decide) dX9_use_115 rfl (fun H locs ho => ?_)
          refine lv_aload_n hx hb dX9_use_116 rfl (lv_at hl 0 rfl) ?_
          refine o_get (v := .ref (ar 19)) C ho 0 0 rfl rfl rfl 23 fX9_68 rfl dX9_use_117 ?_
          refine lv_iload_n hx hb dX9_use_120 rfl (lv_at hl 1 rfl) ?_
          refine lv_dup2_11 hx hb dX9_use_121 rfl rfl ?_
          refine o_iald (v := nI (0 + t)) C ho 0 20 rfl rfl 0 rfl d rfl (by omega) (by omega) pk_us dX9_use_122 ?_
          refine lv_iconst (v := nI 1) hx hb dX9_use_123 (by decide) ?_
          refine o_add hx hb dX9_use_124 ?_
          refine o_iast (bs' := [bX K h ar ad ck bi lo (va_up (va_up (va_up (va_up (va_up (va_up F 26 (upd (F 26) d (nI (dr + 1)))) 18 (upd (F 18) d (nI (toN l 8 8)))) 20 (wrN (F 20) (320 * d + 0) (slN (ldY l n) 1 t))) 19 (upd (F 19) d (nI (0 + t)))) 20 (upd (wrN (F 20) (320 * d + 0) (slN (ldY l n) 1 t)) ((320 * d) + (0 + t)) (nI (toN l (8 * ((1 + t) + 1)) 8)))) 19 (upd (upd (F 19) d (nI (0 + t))) d (nI ((0 + t) + 1))))]) C ho 0 20 rfl rfl 0 rfl d rfl (by omega) (by decide) dX9_use_125 rfl (fun H locs ho => ?_)
          have e_10 : bX K h ar ad ck bi lo (va_up (va_up (va_up (va_up (va_up (va_up F 26 (upd (F 26) d (nI (dr + 1)))) 18 (upd (F 18) d (nI (toN l 8 8)))) 20 (wrN (F 20) (320 * d + 0) (slN (ldY l n) 1 t))) 19 (upd (F 19) d (nI (0 + t)))) 20 (upd (wrN (F 20) (320 * d + 0) (slN (ldY l n) 1 t)) ((320 * d) + (0 + t)) (nI (toN l (8 * ((1 + t) + 1)) 8)))) 19 (upd (upd (F 19) d (nI (0 + t))) d (nI ((0 + t) + 1)))) = bX K h ar ad ck bi lo (va_up (va_up (va_up (va_up F 26 (upd (F 26) d (nI (dr + 1)))) 18 (upd (F 18) d (nI (toN l 8 8)))) 20 (wrN (F 20) (320 * d + 0) (slN (ldY l n) 1 (t + 1)))) 19 (upd (F 19) d (nI (0 + (t + 1))))) := by rw [up_c2019, wrN_push (by rw [slN_len]; omega), slN_succ, ldY_getD (by omega), upd_upd] <;> rfl
          have ho : ow D vwCl A s.heap H locs [bX K h ar ad ck bi lo (va_up (va_up (va_up (va_up F 26 (upd (F 26) d (nI (dr + 1)))) 18 (upd (F 18) d (nI (toN l 8 8)))) 20 (wrN (F 20) (320 * d + 0) (slN (ldY l n) 1 (t + 1)))) 19 (upd (F 19) d (nI (0 + (t + 1)))))] := by rw [← e_10]; exact ho
          refine lv_iinc (v := nI (1 + t + 1)) (lv' := [(4, .int (nI (1 + t + 1))), (0, .ref h), (1, .int (nI d)), (2, .int (nI n))]) hx hb dX9_use_126 hl (k := 3) rfl (iincN _ _) (by decide) rfl (fun ls hl => ?_)
          have e_11 : (.int (nI (1 + t + 1)) : Value) = .int (nI (1 + (t + 1))) := rfl
          have hl : lv_has ls 5 [(4, .int (nI (1 + (t + 1)))), (0, .ref h), (1, .int (nI d)), (2, .int (nI n))] := by rw [← e_11]; exact hl
          refine lv_goto (tgt := 79) hx hb dX9_use_129 (by decide) ?_
          exact ih79 (t + 1) (by omega) (by omega) _ _ _ ho (lv_sub hl [1, 2, 3, 0] rfl)
    exact LP79 (n - 1 - 0 + 1) 0 (Nat.lt_succ_self _) (by omega) _ _ _ ho (lv_sub hl [3, 4, 2, 0] rfl)

set_option maxHeartbeats 4000000 in
set_option maxRecDepth 100000 in
theorem c_M_useB (la : Launch) (D : va_G) (K : Nat → ClassId) (h : Nat) (ar : Nat → Nat) (ad : Nat) (ck : Nat) (bi : Nat) (lo : Nat) (F : Nat → Nat → Int32) (d : Nat) (l : List Bool) (n : Nat) (tn : Nat) (dr : Nat) (q2d : d < 2) (qr : ∀ i, i < l.length → F 2 (15 + i) = bI (l.getD i false)) (qn : n = toN l 0 8 / 4) (qll : 24 + 8 * n ≤ l.length) (ql2 : l.length ≤ 150) (qn1 : 1 ≤ n) (q15 : F 15 d = nI tn) (qtn : tn ≤ 6) (q26 : F 26 d = nI dr) (qbe : l.getD 1 false = true) (q18 : F 18 d = -1) : MT la D K yX9_use cX9_use 5 none (rmL 2 0 0) [.ref h, .int (nI d)] [bX K h ar ad ck bi lo F] Unit (fun v _ => v = none) (fun _ => [bX K h ar ad ck bi lo (finF (va_up (va_up (va_up F 18 (upd (F 18) d (nI (toN l 8 8)))) 20 (wrN (F 20) (320 * d + 0) (slN (ldY l n) 1 (n - 1)))) 19 (upd (F 19) d (nI (0 + (n - 1))))) d (0 + (n - 1)) (toN l 8 8) tn dr)]) := by
  refine Mt.ofW [(0, .ref h), (1, .int (nI d))] (by decide) rfl (Nat.le_of_ble_eq_true rfl) ?_
  intro p e s m args below meth c A ls H locs Qz hQ C hin hl ho
  have hx := C.1.1
  have hb := C.1.2.1
  refine lv_aload_n hx hb dX9_use_0 rfl (lv_at hl 0 rfl) ?_
  refine lv_bipush (v := nI 15) hx hb dX9_use_1 (by decide) ?_
  refine lv_bipush (v := nI 8) hx hb dX9_use_3 (by decide) ?_
  refine o_callV (wr := []) (rest := []) (As := [.int (nI 15), .int (nI 8)]) C (c_M_number la D K h ar ad ck bi lo F 15 8 l 0 (fun i hi => by rw [Nat.zero_add]; exact qr i (by omega)) (by first | omega | assumption | (simp only [List.length_append, List.length_cons, List.length_nil, List.length_modify, List.length_set, nb_len, rb_len, rbp_len, sl_len, slN_len, wh_len, wt_len, hd10_len, hdB_len, thr_len, ldp_len, ldB_len, tens_len, whz_len, majL_len, mf_len, tkL_len, ldY_len, fif_len, ldY_len]; omega) | decide) (by first | omega | assumption | (simp only [List.length_append, List.length_cons, List.length_nil, List.length_modify, List.length_set, nb_len, rb_len, rbp_len, sl_len, slN_len, wh_len, wt_len, hd10_len, hdB_len, thr_len, ldp_len, ldB_len, tens_len, whz_len, majL_len, mf_len, tkL_len, ldY_len, fif_len, ldY_len]; omega) | decide)) kX9_153 vX9_number (by decide) rfl ho [0] 1 (by decide +kernel) rfl rfl rfl rfl rfl hl.1 rfl (Nat.le_of_ble_eq_true rfl) dX9_use_5 0 0 rfl rfl (by decide) (fun v u_1 H locs hq ho => ?_)
  obtain rfl := hq
  have ho : ow D vwCl A s.heap H locs [bX K h ar ad ck bi lo F] := ho
  refine W.eq (g2 := F0 m 8 ls [.int (nI (toN l 0 8))]) rfl ?_
  have ht8 := toN_lt l 0 8
  have ht9 := toN_lt l 8 8
  refine lv_iconst (v := nI 4) hx hb dX9_use_8 (by decide) ?_
  refine o_div hx hb dX9_use_9 (by omega) (by omega) (by omega) ?_
  refine o_top (y := nI n) (by rw [qn]) ?_
  refine lv_istore_n (lv' := [(2, .int (nI n)), (0, .ref h), (1, .int (nI d))]) hx hb dX9_use_10 rfl hl (by decide) rfl (fun ls hl => ?_)
  refine lv_iconst (v := nI 0) hx hb dX9_use_11 (by decide) ?_
  refine lv_istore_n (lv' := [(3, .int (nI 0)), (2, .int (nI n)), (0, .ref h), (1, .int (nI d))]) hx hb dX9_use_12 rfl hl (by decide) rfl (fun ls hl => ?_)
  refine lv_aload_n hx hb dX9_use_13 rfl (lv_at hl 2 rfl) ?_
  refine o_get (v := .ref (ar 2)) C ho 0 0 rfl rfl rfl 6 fX9_16 rfl dX9_use_14 ?_
  refine lv_bipush (v := nI 16) hx hb dX9_use_17 (by decide) ?_
  refine o_iald (v := F 2 16) C ho 0 3 rfl rfl 0 rfl 16 rfl (by omega) (by omega) rfl dX9_use_19 ?_
  refine o_top (y := bI true) (by rw [← qbe]; exact qr 1 (by omega)) ?_
  refine lv_iconst (v := nI 1) hx hb dX9_use_20 (by decide) ?_
  refine o_top (y := bI true) (rfl) ?_
  refine o_icmpb_ne (tgt := 66) hx hb dX9_use_21 (by decide) (fun c_2 => ?_) (fun c_2 => ?_)
  · skip
    exact absurd rfl c_2
  · skip
    refine lv_aload_n hx hb dX9_use_24 rfl (lv_at hl 2 rfl) ?_
    refine o_get (v := .ref (ar 18)) C ho 0 0 rfl rfl rfl 22 fX9_65 rfl dX9_use_25 ?_
    refine lv_iload_n hx hb dX9_use_28 rfl (lv_at hl 3 rfl) ?_
    refine o_iald (v := (-1)) C ho 0 19 rfl rfl 0 rfl d rfl (by omega) (by omega) q18 dX9_use_29 ?_
    refine lv_if_lt (tgt := 43) hx hb dX9_use_30 (by decide) (fun c_3 => ?_) (fun c_3 => ?_)
    · skip
      refine lv_aload_n hx hb dX9_use_43 rfl (lv_at hl 2 rfl) ?_
      refine o_get (v := .ref (ar 18)) C ho 0 0 rfl rfl rfl 22 fX9_65 rfl dX9_use_44 ?_
      refine lv_iload_n hx hb dX9_use_47 rfl (lv_at hl 3 rfl) ?_
      refine lv_aload_n hx hb dX9_use_48 rfl (lv_at hl 2 rfl) ?_
      refine lv_bipush (v := nI 23) hx hb dX9_use_49 (by decide) ?_
      refine lv_bipush (v := nI 8) hx hb dX9_use_51 (by decide) ?_
      refine o_callV (wr := []) (rest := [.int (nI d), .ref (ar 18)]) (As := [.int (nI 23), .int (nI 8)]) C (c_M_number la D K h ar ad ck bi lo F 23 8 l 8 (fun i hi => by rw [show 23 + i = 15 + (8 + i) by omega]; exact qr _ (by omega)) (by first | omega | assumption | (simp only [List.length_append, List.length_cons, List.length_nil, List.length_modify, List.length_set, nb_len, rb_len, rbp_len, sl_len, slN_len, wh_len, wt_len, hd10_len, hdB_len, thr_len, ldp_len, ldB_len, tens_len, whz_len, majL_len, mf_len, tkL_len, ldY_len, fif_len, ldY_len]; omega) | decide) (by first | omega | assumption | (simp only [List.length_append, List.length_cons, List.length_nil, List.length_modify, List.length_set, nb_len, rb_len, rbp_len, sl_len, slN_len, wh_len, wt_len, hd10_len, hdB_len, thr_len, ldp_len, ldB_len, tens_len, whz_len, majL_len, mf_len, tkL_len, ldY_len, fif_len, ldY_len]; omega) | decide)) kX9_153 vX9_number (by decide) rfl ho [0] 1 (by decide +kernel) rfl rfl rfl rfl rfl hl.1 rfl (Nat.le_of_ble_eq_true rfl) dX9_use_53 0 0 rfl rfl (by decide) (fun v u_4 H locs hq ho => ?_)
      obtain rfl := hq
      have ho : ow D vwCl A s.heap H locs [bX K h ar ad ck bi lo F] := ho
      refine W.eq (g2 := F0 m 56 ls [.int (nI (toN l 8 8)), .int (nI d), .ref (ar 18)]) rfl ?_
      refine o_iast (bs' := [bX K h ar ad ck bi lo (va_up F 18 (upd (F 18) d (nI (toN l 8 8))))]) C ho 0 19 rfl rfl 0 rfl d rfl (by omega) (by decide) dX9_use_56 rfl (fun H locs ho => ?_)
      refine lv_aload_n hx hb dX9_use_57 rfl (lv_at hl 2 rfl) ?_
      refine o_get (v := .ref (ar 19)) C ho 0 0 rfl rfl rfl 23 fX9_68 rfl dX9_use_58 ?_
      refine lv_iload_n hx hb dX9_use_61 rfl (lv_at hl 3 rfl) ?_
      refine lv_iconst (v := nI 0) hx hb dX9_use_62 (by decide) ?_
      refine o_iast (bs' := [bX K h ar ad ck bi lo (va_up (va_up F 18 (upd (F 18) d (nI (toN l 8 8)))) 19 (upd (F 19) d (nI 0)))]) C ho 0 20 rfl rfl 0 rfl d rfl (by omega) (by decide) dX9_use_63 rfl (fun H locs ho => ?_)
      refine lv_iconst (v := nI 1) hx hb dX9_use_64 (by decide) ?_
      refine lv_istore_n (lv' := [(3, .int (nI 1)), (2, .int (nI n)), (0, .ref h), (1, .int (nI d))]) hx hb dX9_use_65 rfl hl (by decide) rfl (fun ls hl => ?_)
      refine lv_aload_n hx hb dX9_use_66 rfl (lv_at hl 2 rfl) ?_
      refine o_get (v := .ref (ar 18)) C ho 0 0 rfl rfl rfl 22 fX9_65 rfl dX9_use_67 ?_
      refine lv_iload_n hx hb dX9_use_70 rfl (lv_at hl 3 rfl) ?_
      refine o_iald (v := nI (toN l 8 8)) C ho 0 19 rfl rfl 0 rfl d rfl (by omega) (by omega) pk_us dX9_use_71 ?_
      refine o_if_ge (tgt := 76) hx hb dX9_use_72 (by decide) (by omega) ?_
      refine lv_iload_n hx hb dX9_use_76 rfl (lv_at hl 0 rfl) ?_
      refine lv_istore (lv' := [(4, .int (nI 1)), (3, .int (nI 1)), (2, .int (nI n)), (0, .ref h), (1, .int (nI d))]) hx hb dX9_use_77 hl (by decide) rfl (fun ls hl => ?_)
      have e_5 : (.int (nI 1) : Value) = .int (nI (1 + 0)) := rfl
      have hl : lv_has ls 5 [(4, .int (nI (1 + 0))), (3, .int (nI 1)), (2, .int (nI n)), (0, .ref h), (1, .int (nI d))] := by rw [← e_5]; exact hl
      have e_6 : bX K h ar ad ck bi lo (va_up (va_up F 18 (upd (F 18) d (nI (toN l 8 8)))) 19 (upd (F 19) d (nI 0))) = bX K h ar ad ck bi lo (va_up (va_up (va_up F 18 (upd (F 18) d (nI (toN l 8 8)))) 20 (wrN (F 20) (320 * d + 0) (slN (ldY l n) 1 0))) 19 (upd (F 19) d (nI (0 + 0)))) := by rw [slN_0, wrN_nil]; exact congrArg (bX K h ar ad ck bi lo) (congrArg (fun z => va_up z 19 (upd (F 19) d (nI 0))) (up_1 rfl))
      have ho : ow D vwCl A s.heap H locs [bX K h ar ad ck bi lo (va_up (va_up (va_up F 18 (upd (F 18) d (nI (toN l 8 8)))) 20 (wrN (F 20) (320 * d + 0) (slN (ldY l n) 1 0))) 19 (upd (F 19) d (nI (0 + 0))))] := by rw [← e_6]; exact ho
      have LP79 : ∀ (fuel : Nat) (t : Nat) (_ : n - 1 - t < fuel) (_ : t ≤ n - 1) (H : Heap) (locs : List Loc) (ls : Array Slot) (_ : ow D vwCl A s.heap H locs [bX K h ar ad ck bi lo (va_up (va_up (va_up F 18 (upd (F 18) d (nI (toN l 8 8)))) 20 (wrN (F 20) (320 * d + 0) (slN (ldY l n) 1 t))) 19 (upd (F 19) d (nI (0 + t))))]) (_ : lv_has ls 5 [(0, .ref h), (1, .int (nI d)), (2, .int (nI n)), (4, .int (nI (1 + t)))]), W p la e (rmL 2 0 0) s m args below meth c H locs 0 0 Qz (F0 m 79 ls []) := by
        intro fuel
        induction fuel with
        | zero => intro t h0; exact absurd h0 (Nat.not_lt_zero _)
        | succ fuel ih79 =>
          intro t hfu ht H locs ls ho hl
          refine lv_iload hx hb dX9_use_79 (lv_at hl 3 rfl) ?_
          refine lv_iload_n hx hb dX9_use_81 rfl (lv_at hl 2 rfl) ?_
          refine o_icmp_ge (tgt := 132) hx hb dX9_use_82 (by decide) (by first | omega | exact and1_lt _) (by first | omega | exact and1_lt _) (fun c_7 => ?_) (fun c_7 => ?_)
          · skip
            have e_8 : bX K h ar ad ck bi lo (va_up (va_up (va_up F 18 (upd (F 18) d (nI (toN l 8 8)))) 20 (wrN (F 20) (320 * d + 0) (slN (ldY l n) 1 t))) 19 (upd (F 19) d (nI (0 + t)))) = bX K h ar ad ck bi lo (va_up (va_up (va_up F 18 (upd (F 18) d (nI (toN l 8 8)))) 20 (wrN (F 20) (320 * d + 0) (slN (ldY l n) 1 (n - 1)))) 19 (upd (F 19) d (nI (0 + (n - 1))))) := by rw [show t = n - 1 by omega]
            have ho : ow D vwCl A s.heap H locs [bX K h ar ad ck bi lo (va_up (va_up (va_up F 18 (upd (F 18) d (nI (toN l 8 8)))) 20 (wrN (F 20) (320 * d + 0) (slN (ldY l n) 1 (n - 1)))) 19 (upd (F 19) d (nI (0 + (n - 1)))))] := by rw [← e_8]; exact ho
            refine lv_aload_n hx hb dX9_use_132 rfl (lv_at hl 0 rfl) ?_
            refine lv_iload_n hx hb dX9_use_133 rfl (lv_at hl 1 rfl) ?_
            refine o_callV (wr := []) (rest := []) (As := [.int (nI d)]) C (c_M_finish la D K h ar ad ck bi lo (va_up (va_up (va_up F 18 (upd (F 18) d (nI (toN l 8 8)))) 20 (wrN (F 20) (320 * d + 0) (slN (ldY l n) 1 (n - 1)))) 19 (upd (F 19) d (nI (0 + (n - 1))))) d (0 + (n - 1)) (toN l 8 8) tn dr (by first | omega | assumption | (simp only [List.length_append, List.length_cons, List.length_nil, List.length_modify, List.length_set, nb_len, rb_len, rbp_len, sl_len, slN_len, wh_len, wt_len, hd10_len, hdB_len, thr_len, ldp_len, ldB_len, tens_len, whz_len, majL_len, mf_len, tkL_len, ldY_len, fif_len, ldY_len]; omega) | decide) pk_us pk_us q15 q26 (by first | omega | assumption | (simp only [List.length_append, List.length_cons, List.length_nil, List.length_modify, List.length_set, nb_len, rb_len, rbp_len, sl_len, slN_len, wh_len, wt_len, hd10_len, hdB_len, thr_len, ldp_len, ldB_len, tens_len, whz_len, majL_len, mf_len, tkL_len, ldY_len, fif_len, ldY_len]; omega) | decide) (by first | omega | assumption | (simp only [List.length_append, List.length_cons, List.length_nil, List.length_modify, List.length_set, nb_len, rb_len, rbp_len, sl_len, slN_len, wh_len, wt_len, hd10_len, hdB_len, thr_len, ldp_len, ldB_len, tens_len, whz_len, majL_len, mf_len, tkL_len, ldY_len, fif_len, ldY_len]; omega) | decide) (by first | omega | assumption | (simp only [List.length_append, List.length_cons, List.length_nil, List.length_modify, List.length_set, nb_len, rb_len, rbp_len, sl_len, slN_len, wh_len, wt_len, hd10_len, hdB_len, thr_len, ldp_len, ldB_len, tens_len, whz_len, majL_len, mf_len, tkL_len, ldY_len, fif_len, ldY_len]; omega) | decide)) kX9_165 vX9_finish (by decide) rfl ho [0] 1 (by decide +kernel) rfl rfl rfl rfl rfl hl.1 rfl (Nat.le_of_ble_eq_true rfl) dX9_use_134 0 0 rfl rfl (by decide) (fun v u_9 H locs hq ho => ?_)
            obtain rfl := hq
            have ho : ow D vwCl A s.heap H locs [bX K h ar ad ck bi lo (finF (va_up (va_up (va_up F 18 (upd (F 18) d (nI (toN l 8 8)))) 20 (wrN (F 20) (320 * d + 0) (slN (ldY l n) 1 (n - 1)))) 19 (upd (F 19) d (nI (0 + (n - 1))))) d (0 + (n - 1)) (toN l 8 8) tn dr)] := ho
            refine W.eq (g2 := F0 m 137 ls []) rfl ?_
            exact o_vret hQ C ho () rfl rfl (Nat.le_of_ble_eq_true rfl) (Nat.le_of_ble_eq_true rfl) dX9_use_137
          · skip
            refine lv_aload_n hx hb dX9_use_85 rfl (lv_at hl 0 rfl) ?_
            refine o_get (v := .ref (ar 20)) C ho 0 0 rfl rfl rfl 24 fX9_71 rfl dX9_use_86 ?_
            refine lv_sipush (v := nI 320) hx hb dX9_use_89 (by decide) ?_
            refine lv_iload_n hx hb dX9_use_92 rfl (lv_at hl 1 rfl) ?_
            refine o_mul hx hb dX9_use_93 ?_
            refine lv_aload_n hx hb dX9_use_94 rfl (lv_at hl 0 rfl) ?_
            refine o_get (v := .ref (ar 19)) C ho 0 0 rfl rfl rfl 23 fX9_68 rfl dX9_use_95 ?_
            refine lv_iload_n hx hb dX9_use_98 rfl (lv_at hl 1 rfl) ?_
            refine o_iald (v := nI (0 + t)) C ho 0 20 rfl rfl 0 rfl d rfl (by omega) (by omega) pk_us dX9_use_99 ?_
            refine o_add hx hb dX9_use_100 ?_
            refine lv_aload_n hx hb dX9_use_101 rfl (lv_at hl 0 rfl) ?_
            refine lv_bipush (v := nI 23) hx hb dX9_use_102 (by decide) ?_
            refine lv_bipush (v := nI 8) hx hb dX9_use_104 (by decide) ?_
            refine lv_iload hx hb dX9_use_106 (lv_at hl 3 rfl) ?_
            refine o_mul hx hb dX9_use_108 ?_
            refine o_add hx hb dX9_use_109 ?_
            refine lv_bipush (v := nI 8) hx hb dX9_use_110 (by decide) ?_
            refine o_callV (wr := []) (rest := [.int (nI ((320 * d) + (0 + t))), .ref (ar 20)]) (As := [.int (nI (23 + (8 * (1 + t)))), .int (nI 8)]) C (c_M_number la D K h ar ad ck bi lo (va_up (va_up (va_up F 18 (upd (F 18) d (nI (toN l 8 8)))) 20 (wrN (F 20) (320 * d + 0) (slN (ldY l n) 1 t))) 19 (upd (F 19) d (nI (0 + t)))) (23 + (8 * (1 + t))) 8 l (8 * ((1 + t) + 1)) (fun i hi => by rw [show 23 + 8 * (1 + t) + i = 15 + (8 * ((1 + t) + 1) + i) by omega]; exact qr _ (by omega)) (by first | omega | assumption | (simp only [List.length_append, List.length_cons, List.length_nil, List.length_modify, List.length_set, nb_len, rb_len, rbp_len, sl_len, slN_len, wh_len, wt_len, hd10_len, hdB_len, thr_len, ldp_len, ldB_len, tens_len, whz_len, majL_len, mf_len, tkL_len, ldY_len, fif_len, ldY_len]; omega) | decide) (by first | omega | assumption | (simp only [List.length_append, List.length_cons, List.length_nil, List.length_modify, List.length_set, nb_len, rb_len, rbp_len, sl_len, slN_len, wh_len, wt_len, hd10_len, hdB_len, thr_len, ldp_len, ldB_len, tens_len, whz_len, majL_len, mf_len, tkL_len, ldY_len, fif_len, ldY_len]; omega) | decide)) kX9_153 vX9_number (by decide) rfl ho [0] 1 (by decide +kernel) rfl rfl rfl rfl rfl hl.1 rfl (Nat.le_of_ble_eq_true rfl) dX9_use_112 0 0 rfl rfl (by decide) (fun v u_10 H locs hq ho => ?_)
            obtain rfl := hq
            have ho : ow D vwCl A s.heap H locs [bX K h ar ad ck bi lo (va_up (va_up (va_up F 18 (upd (F 18) d (nI (toN l 8 8)))) 20 (wrN (F 20) (320 * d + 0) (slN (ldY l n) 1 t))) 19 (upd (F 19) d (nI (0 + t))))] := ho
            refine W.eq (g2 := F0 m 115 ls [.int (nI (toN l (8 * ((1 + t) + 1)) 8)), .int (nI ((320 * d) + (0 + t))), .ref (ar 20)]) rfl ?_
            refine o_iast (bs' := [bX K h ar ad ck bi lo (va_up (va_up (va_up (va_up F 18 (upd (F 18) d (nI (toN l 8 8)))) 20 (wrN (F 20) (320 * d + 0) (slN (ldY l n) 1 t))) 19 (upd (F 19) d (nI (0 + t)))) 20 (upd (wrN (F 20) (320 * d + 0) (slN (ldY l n) 1 t)) ((320 * d) + (0 + t)) (nI (toN l (8 * ((1 + t) + 1)) 8))))]) C ho 0 21 rfl rfl 0 rfl ((320 * d) + (0 + t)) rfl (by omega) (by decide) dX9_use_115 rfl (fun H locs ho => ?_)
            refine lv_aload_n hx hb dX9_use_116 rfl (lv_at hl 0 rfl) ?_
            refine o_get (v := .ref (ar 19)) C ho 0 0 rfl rfl rfl 23 fX9_68 rfl dX9_use_117 ?_
            refine lv_iload_n hx hb dX9_use_120 rfl (lv_at hl 1 rfl) ?_
            refine lv_dup2_11 hx hb dX9_use_121 rfl rfl ?_
            refine o_iald (v := nI (0 + t)) C ho 0 20 rfl rfl 0 rfl d rfl (by omega) (by omega) pk_us dX9_use_122 ?_
            refine lv_iconst (v := nI 1) hx hb dX9_use_123 (by decide) ?_
            refine o_add hx hb dX9_use_124 ?_
            refine o_iast (bs' := [bX K h ar ad ck bi lo (va_up (va_up (va_up (va_up (va_up F 18 (upd (F 18) d (nI (toN l 8 8)))) 20 (wrN (F 20) (320 * d + 0) (slN (ldY l n) 1 t))) 19 (upd (F 19) d (nI (0 + t)))) 20 (upd (wrN (F 20) (320 * d + 0) (slN (ldY l n) 1 t)) ((320 * d) + (0 + t)) (nI (toN l (8 * ((1 + t) + 1)) 8)))) 19 (upd (upd (F 19) d (nI (0 + t))) d (nI ((0 + t) + 1))))]) C ho 0 20 rfl rfl 0 rfl d rfl (by omega) (by decide) dX9_use_125 rfl (fun H locs ho => ?_)
            have e_11 : bX K h ar ad ck bi lo (va_up (va_up (va_up (va_up (va_up F 18 (upd (F 18) d (nI (toN l 8 8)))) 20 (wrN (F 20) (320 * d + 0) (slN (ldY l n) 1 t))) 19 (upd (F 19) d (nI (0 + t)))) 20 (upd (wrN (F 20) (320 * d + 0) (slN (ldY l n) 1 t)) ((320 * d) + (0 + t)) (nI (toN l (8 * ((1 + t) + 1)) 8)))) 19 (upd (upd (F 19) d (nI (0 + t))) d (nI ((0 + t) + 1)))) = bX K h ar ad ck bi lo (va_up (va_up (va_up F 18 (upd (F 18) d (nI (toN l 8 8)))) 20 (wrN (F 20) (320 * d + 0) (slN (ldY l n) 1 (t + 1)))) 19 (upd (F 19) d (nI (0 + (t + 1))))) := by rw [up_c2019, wrN_push (by rw [slN_len]; omega), slN_succ, ldY_getD (by omega), upd_upd] <;> rfl
            have ho : ow D vwCl A s.heap H locs [bX K h ar ad ck bi lo (va_up (va_up (va_up F 18 (upd (F 18) d (nI (toN l 8 8)))) 20 (wrN (F 20) (320 * d + 0) (slN (ldY l n) 1 (t + 1)))) 19 (upd (F 19) d (nI (0 + (t + 1)))))] := by rw [← e_11]; exact ho
            refine lv_iinc (v := nI (1 + t + 1)) (lv' := [(4, .int (nI (1 + t + 1))), (0, .ref h), (1, .int (nI d)), (2, .int (nI n))]) hx hb dX9_use_126 hl (k := 3) rfl (iincN _ _) (by decide) rfl (fun ls hl => ?_)
            have e_12 : (.int (nI (1 + t + 1)) : Value) = .int (nI (1 + (t + 1))) := rfl
            have hl : lv_has ls 5 [(4, .int (nI (1 + (t + 1)))), (0, .ref h), (1, .int (nI d)), (2, .int (nI n))] := by rw [← e_12]; exact hl
            refine lv_goto (tgt := 79) hx hb dX9_use_129 (by decide) ?_
            exact ih79 (t + 1) (by omega) (by omega) _ _ _ ho (lv_sub hl [1, 2, 3, 0] rfl)
      exact LP79 (n - 1 - 0 + 1) 0 (Nat.lt_succ_self _) (by omega) _ _ _ ho (lv_sub hl [3, 4, 2, 0] rfl)
    · skip
      exact absurd (by decide) c_3

set_option maxHeartbeats 4000000 in
set_option maxRecDepth 100000 in
theorem c_M_useC (la : Launch) (D : va_G) (K : Nat → ClassId) (h : Nat) (ar : Nat → Nat) (ad : Nat) (ck : Nat) (bi : Nat) (lo : Nat) (F : Nat → Nat → Int32) (d : Nat) (l : List Bool) (n : Nat) (tn : Nat) (dr : Nat) (du : Nat) (g0 : Nat) (q2d : d < 2) (qr : ∀ i, i < l.length → F 2 (15 + i) = bI (l.getD i false)) (qn : n = toN l 0 8 / 4) (qll : 24 + 8 * n ≤ l.length) (ql2 : l.length ≤ 150) (qn1 : 1 ≤ n) (q15 : F 15 d = nI tn) (qtn : tn ≤ 6) (q26 : F 26 d = nI dr) (qbe : l.getD 1 false = false) (q18 : F 18 d = nI du) (qdu : du ≤ 255) (q19 : F 19 d = nI g0) (qg0 : g0 ≤ 255) : MT la D K yX9_use cX9_use 5 none (rmL 2 0 0) [.ref h, .int (nI d)] [bX K h ar ad ck bi lo F] Unit (fun v _ => v = none) (fun _ => [bX K h ar ad ck bi lo (finF (va_up (va_up F 20 (wrN (F 20) (320 * d + g0) (slN (ldY l n) 0 (n - 0)))) 19 (upd (F 19) d (nI (g0 + (n - 0))))) d (g0 + (n - 0)) du tn dr)]) := by
  refine Mt.ofW [(0, .ref h), (1, .int (nI d))] (by decide) rfl (Nat.le_of_ble_eq_true rfl) ?_
  intro p e s m args below meth c A ls H locs Qz hQ C hin hl ho
  have hx := C.1.1
  have hb := C.1.2.1
  refine lv_aload_n hx hb dX9_use_0 rfl (lv_at hl 0 rfl) ?_
  refine lv_bipush (v := nI 15) hx hb dX9_use_1 (by decide) ?_
  refine lv_bipush (v := nI 8) hx hb dX9_use_3 (by decide) ?_
  refine o_callV (wr := []) (rest := []) (As := [.int (nI 15), .int (nI 8)]) C (c_M_number la D K h ar ad ck bi lo F 15 8 l 0 (fun i hi => by rw [Nat.zero_add]; exact qr i (by omega)) (by first | omega | assumption | (simp only [List.length_append, List.length_cons, List.length_nil, List.length_modify, List.length_set, nb_len, rb_len, rbp_len, sl_len, slN_len, wh_len, wt_len, hd10_len, hdB_len, thr_len, ldp_len, ldB_len, tens_len, whz_len, majL_len, mf_len, tkL_len, ldY_len, fif_len, ldY_len]; omega) | decide) (by first | omega | assumption | (simp only [List.length_append, List.length_cons, List.length_nil, List.length_modify, List.length_set, nb_len, rb_len, rbp_len, sl_len, slN_len, wh_len, wt_len, hd10_len, hdB_len, thr_len, ldp_len, ldB_len, tens_len, whz_len, majL_len, mf_len, tkL_len, ldY_len, fif_len, ldY_len]; omega) | decide)) kX9_153 vX9_number (by decide) rfl ho [0] 1 (by decide +kernel) rfl rfl rfl rfl rfl hl.1 rfl (Nat.le_of_ble_eq_true rfl) dX9_use_5 0 0 rfl rfl (by decide) (fun v u_1 H locs hq ho => ?_)
  obtain rfl := hq
  have ho : ow D vwCl A s.heap H locs [bX K h ar ad ck bi lo F] := ho
  refine W.eq (g2 := F0 m 8 ls [.int (nI (toN l 0 8))]) rfl ?_
  have ht8 := toN_lt l 0 8
  have ht9 := toN_lt l 8 8
  refine lv_iconst (v := nI 4) hx hb dX9_use_8 (by decide) ?_
  refine o_div hx hb dX9_use_9 (by omega) (by omega) (by omega) ?_
  refine o_top (y := nI n) (by rw [qn]) ?_
  refine lv_istore_n (lv' := [(2, .int (nI n)), (0, .ref h), (1, .int (nI d))]) hx hb dX9_use_10 rfl hl (by decide) rfl (fun ls hl => ?_)
  refine lv_iconst (v := nI 0) hx hb dX9_use_11 (by decide) ?_
  refine lv_istore_n (lv' := [(3, .int (nI 0)), (2, .int (nI n)), (0, .ref h), (1, .int (nI d))]) hx hb dX9_use_12 rfl hl (by decide) rfl (fun ls hl => ?_)
  refine lv_aload_n hx hb dX9_use_13 rfl (lv_at hl 2 rfl) ?_
  refine o_get (v := .ref (ar 2)) C ho 0 0 rfl rfl rfl 6 fX9_16 rfl dX9_use_14 ?_
  refine lv_bipush (v := nI 16) hx hb dX9_use_17 (by decide) ?_
  refine o_iald (v := F 2 16) C ho 0 3 rfl rfl 0 rfl 16 rfl (by omega) (by omega) rfl dX9_use_19 ?_
  refine o_top (y := bI false) (by rw [← qbe]; exact qr 1 (by omega)) ?_
  refine lv_iconst (v := nI 1) hx hb dX9_use_20 (by decide) ?_
  refine o_top (y := bI true) (rfl) ?_
  refine o_icmpb_ne (tgt := 66) hx hb dX9_use_21 (by decide) (fun c_2 => ?_) (fun c_2 => ?_)
  · skip
    refine lv_aload_n hx hb dX9_use_66 rfl (lv_at hl 2 rfl) ?_
    refine o_get (v := .ref (ar 18)) C ho 0 0 rfl rfl rfl 22 fX9_65 rfl dX9_use_67 ?_
    refine lv_iload_n hx hb dX9_use_70 rfl (lv_at hl 3 rfl) ?_
    refine o_iald (v := nI du) C ho 0 19 rfl rfl 0 rfl d rfl (by omega) (by omega) q18 dX9_use_71 ?_
    refine o_if_ge (tgt := 76) hx hb dX9_use_72 (by decide) (by omega) ?_
    refine lv_iload_n hx hb dX9_use_76 rfl (lv_at hl 0 rfl) ?_
    refine lv_istore (lv' := [(4, .int (nI 0)), (3, .int (nI 0)), (2, .int (nI n)), (0, .ref h), (1, .int (nI d))]) hx hb dX9_use_77 hl (by decide) rfl (fun ls hl => ?_)
    have e_3 : (.int (nI 0) : Value) = .int (nI (0 + 0)) := rfl
    have hl : lv_has ls 5 [(4, .int (nI (0 + 0))), (3, .int (nI 0)), (2, .int (nI n)), (0, .ref h), (1, .int (nI d))] := by rw [← e_3]; exact hl
    have e_4 : bX K h ar ad ck bi lo F = bX K h ar ad ck bi lo (va_up (va_up F 20 (wrN (F 20) (320 * d + g0) (slN (ldY l n) 0 0))) 19 (upd (F 19) d (nI (g0 + 0)))) := by rw [slN_0, wrN_nil, Nat.add_zero, upd_same q19]; exact congrArg (bX K h ar ad ck bi lo) ((up_1 rfl).trans (congrArg (fun z => va_up z 19 (F 19)) (up_1 rfl)))
    have ho : ow D vwCl A s.heap H locs [bX K h ar ad ck bi lo (va_up (va_up F 20 (wrN (F 20) (320 * d + g0) (slN (ldY l n) 0 0))) 19 (upd (F 19) d (nI (g0 + 0))))] := by rw [← e_4]; exact ho
    have LP79 : ∀ (fuel : Nat) (t : Nat) (_ : n - 0 - t < fuel) (_ : t ≤ n - 0) (H : Heap) (locs : List Loc) (ls : Array Slot) (_ : ow D vwCl A s.heap H locs [bX K h ar ad ck bi lo (va_up (va_up F 20 (wrN (F 20) (320 * d + g0) (slN (ldY l n) 0 t))) 19 (upd (F 19) d (nI (g0 + t))))]) (_ : lv_has ls 5 [(0, .ref h), (1, .int (nI d)), (2, .int (nI n)), (4, .int (nI (0 + t)))]), W p la e (rmL 2 0 0) s m args below meth c H locs 0 0 Qz (F0 m 79 ls []) := by
      intro fuel
      induction fuel with
      | zero => intro t h0; exact absurd h0 (Nat.not_lt_zero _)
      | succ fuel ih79 =>
        intro t hfu ht H locs ls ho hl
        refine lv_iload hx hb dX9_use_79 (lv_at hl 3 rfl) ?_
        refine lv_iload_n hx hb dX9_use_81 rfl (lv_at hl 2 rfl) ?_
        refine o_icmp_ge (tgt := 132) hx hb dX9_use_82 (by decide) (by first | omega | exact and1_lt _) (by first | omega | exact and1_lt _) (fun c_5 => ?_) (fun c_5 => ?_)
        · skip
          have e_6 : bX K h ar ad ck bi lo (va_up (va_up F 20 (wrN (F 20) (320 * d + g0) (slN (ldY l n) 0 t))) 19 (upd (F 19) d (nI (g0 + t)))) = bX K h ar ad ck bi lo (va_up (va_up F 20 (wrN (F 20) (320 * d + g0) (slN (ldY l n) 0 (n - 0)))) 19 (upd (F 19) d (nI (g0 + (n - 0))))) := by rw [show t = n - 0 by omega]
          have ho : ow D vwCl A s.heap H locs [bX K h ar ad ck bi lo (va_up (va_up F 20 (wrN (F 20) (320 * d + g0) (slN (ldY l n) 0 (n - 0)))) 19 (upd (F 19) d (nI (g0 + (n - 0)))))] := by rw [← e_6]; exact ho
          refine lv_aload_n hx hb dX9_use_132 rfl (lv_at hl 0 rfl) ?_
          refine lv_iload_n hx hb dX9_use_133 rfl (lv_at hl 1 rfl) ?_
          refine o_callV (wr := []) (rest := []) (As := [.int (nI d)]) C (c_M_finish la D K h ar ad ck bi lo (va_up (va_up F 20 (wrN (F 20) (320 * d + g0) (slN (ldY l n) 0 (n - 0)))) 19 (upd (F 19) d (nI (g0 + (n - 0))))) d (g0 + (n - 0)) du tn dr (by first | omega | assumption | (simp only [List.length_append, List.length_cons, List.length_nil, List.length_modify, List.length_set, nb_len, rb_len, rbp_len, sl_len, slN_len, wh_len, wt_len, hd10_len, hdB_len, thr_len, ldp_len, ldB_len, tens_len, whz_len, majL_len, mf_len, tkL_len, ldY_len, fif_len, ldY_len]; omega) | decide) pk_us q18 q15 q26 (by first | omega | assumption | (simp only [List.length_append, List.length_cons, List.length_nil, List.length_modify, List.length_set, nb_len, rb_len, rbp_len, sl_len, slN_len, wh_len, wt_len, hd10_len, hdB_len, thr_len, ldp_len, ldB_len, tens_len, whz_len, majL_len, mf_len, tkL_len, ldY_len, fif_len, ldY_len]; omega) | decide) (by first | omega | assumption | (simp only [List.length_append, List.length_cons, List.length_nil, List.length_modify, List.length_set, nb_len, rb_len, rbp_len, sl_len, slN_len, wh_len, wt_len, hd10_len, hdB_len, thr_len, ldp_len, ldB_len, tens_len, whz_len, majL_len, mf_len, tkL_len, ldY_len, fif_len, ldY_len]; omega) | decide) (by first | omega | assumption | (simp only [List.length_append, List.length_cons, List.length_nil, List.length_modify, List.length_set, nb_len, rb_len, rbp_len, sl_len, slN_len, wh_len, wt_len, hd10_len, hdB_len, thr_len, ldp_len, ldB_len, tens_len, whz_len, majL_len, mf_len, tkL_len, ldY_len, fif_len, ldY_len]; omega) | decide)) kX9_165 vX9_finish (by decide) rfl ho [0] 1 (by decide +kernel) rfl rfl rfl rfl rfl hl.1 rfl (Nat.le_of_ble_eq_true rfl) dX9_use_134 0 0 rfl rfl (by decide) (fun v u_7 H locs hq ho => ?_)
          obtain rfl := hq
          have ho : ow D vwCl A s.heap H locs [bX K h ar ad ck bi lo (finF (va_up (va_up F 20 (wrN (F 20) (320 * d + g0) (slN (ldY l n) 0 (n - 0)))) 19 (upd (F 19) d (nI (g0 + (n - 0))))) d (g0 + (n - 0)) du tn dr)] := ho
          refine W.eq (g2 := F0 m 137 ls []) rfl ?_
          exact o_vret hQ C ho () rfl rfl (Nat.le_of_ble_eq_true rfl) (Nat.le_of_ble_eq_true rfl) dX9_use_137
        · skip
          refine lv_aload_n hx hb dX9_use_85 rfl (lv_at hl 0 rfl) ?_
          refine o_get (v := .ref (ar 20)) C ho 0 0 rfl rfl rfl 24 fX9_71 rfl dX9_use_86 ?_
          refine lv_sipush (v := nI 320) hx hb dX9_use_89 (by decide) ?_
          refine lv_iload_n hx hb dX9_use_92 rfl (lv_at hl 1 rfl) ?_
          refine o_mul hx hb dX9_use_93 ?_
          refine lv_aload_n hx hb dX9_use_94 rfl (lv_at hl 0 rfl) ?_
          refine o_get (v := .ref (ar 19)) C ho 0 0 rfl rfl rfl 23 fX9_68 rfl dX9_use_95 ?_
          refine lv_iload_n hx hb dX9_use_98 rfl (lv_at hl 1 rfl) ?_
          refine o_iald (v := nI (g0 + t)) C ho 0 20 rfl rfl 0 rfl d rfl (by omega) (by omega) pk_us dX9_use_99 ?_
          refine o_add hx hb dX9_use_100 ?_
          refine lv_aload_n hx hb dX9_use_101 rfl (lv_at hl 0 rfl) ?_
          refine lv_bipush (v := nI 23) hx hb dX9_use_102 (by decide) ?_
          refine lv_bipush (v := nI 8) hx hb dX9_use_104 (by decide) ?_
          refine lv_iload hx hb dX9_use_106 (lv_at hl 3 rfl) ?_
          refine o_mul hx hb dX9_use_108 ?_
          refine o_add hx hb dX9_use_109 ?_
          refine lv_bipush (v := nI 8) hx hb dX9_use_110 (by decide) ?_
          refine o_callV (wr := []) (rest := [.int (nI ((320 * d) + (g0 + t))), .ref (ar 20)]) (As := [.int (nI (23 + (8 * (0 + t)))), .int (nI 8)]) C (c_M_number la D K h ar ad ck bi lo (va_up (va_up F 20 (wrN (F 20) (320 * d + g0) (slN (ldY l n) 0 t))) 19 (upd (F 19) d (nI (g0 + t)))) (23 + (8 * (0 + t))) 8 l (8 * ((0 + t) + 1)) (fun i hi => by rw [show 23 + 8 * (0 + t) + i = 15 + (8 * ((0 + t) + 1) + i) by omega]; exact qr _ (by omega)) (by first | omega | assumption | (simp only [List.length_append, List.length_cons, List.length_nil, List.length_modify, List.length_set, nb_len, rb_len, rbp_len, sl_len, slN_len, wh_len, wt_len, hd10_len, hdB_len, thr_len, ldp_len, ldB_len, tens_len, whz_len, majL_len, mf_len, tkL_len, ldY_len, fif_len, ldY_len]; omega) | decide) (by first | omega | assumption | (simp only [List.length_append, List.length_cons, List.length_nil, List.length_modify, List.length_set, nb_len, rb_len, rbp_len, sl_len, slN_len, wh_len, wt_len, hd10_len, hdB_len, thr_len, ldp_len, ldB_len, tens_len, whz_len, majL_len, mf_len, tkL_len, ldY_len, fif_len, ldY_len]; omega) | decide)) kX9_153 vX9_number (by decide) rfl ho [0] 1 (by decide +kernel) rfl rfl rfl rfl rfl hl.1 rfl (Nat.le_of_ble_eq_true rfl) dX9_use_112 0 0 rfl rfl (by decide) (fun v u_8 H locs hq ho => ?_)
          obtain rfl := hq
          have ho : ow D vwCl A s.heap H locs [bX K h ar ad ck bi lo (va_up (va_up F 20 (wrN (F 20) (320 * d + g0) (slN (ldY l n) 0 t))) 19 (upd (F 19) d (nI (g0 + t))))] := ho
          refine W.eq (g2 := F0 m 115 ls [.int (nI (toN l (8 * ((0 + t) + 1)) 8)), .int (nI ((320 * d) + (g0 + t))), .ref (ar 20)]) rfl ?_
          refine o_iast (bs' := [bX K h ar ad ck bi lo (va_up (va_up (va_up F 20 (wrN (F 20) (320 * d + g0) (slN (ldY l n) 0 t))) 19 (upd (F 19) d (nI (g0 + t)))) 20 (upd (wrN (F 20) (320 * d + g0) (slN (ldY l n) 0 t)) ((320 * d) + (g0 + t)) (nI (toN l (8 * ((0 + t) + 1)) 8))))]) C ho 0 21 rfl rfl 0 rfl ((320 * d) + (g0 + t)) rfl (by omega) (by decide) dX9_use_115 rfl (fun H locs ho => ?_)
          refine lv_aload_n hx hb dX9_use_116 rfl (lv_at hl 0 rfl) ?_
          refine o_get (v := .ref (ar 19)) C ho 0 0 rfl rfl rfl 23 fX9_68 rfl dX9_use_117 ?_
          refine lv_iload_n hx hb dX9_use_120 rfl (lv_at hl 1 rfl) ?_
          refine lv_dup2_11 hx hb dX9_use_121 rfl rfl ?_
          refine o_iald (v := nI (g0 + t)) C ho 0 20 rfl rfl 0 rfl d rfl (by omega) (by omega) pk_us dX9_use_122 ?_
          refine lv_iconst (v := nI 1) hx hb dX9_use_123 (by decide) ?_
          refine o_add hx hb dX9_use_124 ?_
          refine o_iast (bs' := [bX K h ar ad ck bi lo (va_up (va_up (va_up (va_up F 20 (wrN (F 20) (320 * d + g0) (slN (ldY l n) 0 t))) 19 (upd (F 19) d (nI (g0 + t)))) 20 (upd (wrN (F 20) (320 * d + g0) (slN (ldY l n) 0 t)) ((320 * d) + (g0 + t)) (nI (toN l (8 * ((0 + t) + 1)) 8)))) 19 (upd (upd (F 19) d (nI (g0 + t))) d (nI ((g0 + t) + 1))))]) C ho 0 20 rfl rfl 0 rfl d rfl (by omega) (by decide) dX9_use_125 rfl (fun H locs ho => ?_)
          have e_9 : bX K h ar ad ck bi lo (va_up (va_up (va_up (va_up F 20 (wrN (F 20) (320 * d + g0) (slN (ldY l n) 0 t))) 19 (upd (F 19) d (nI (g0 + t)))) 20 (upd (wrN (F 20) (320 * d + g0) (slN (ldY l n) 0 t)) ((320 * d) + (g0 + t)) (nI (toN l (8 * ((0 + t) + 1)) 8)))) 19 (upd (upd (F 19) d (nI (g0 + t))) d (nI ((g0 + t) + 1)))) = bX K h ar ad ck bi lo (va_up (va_up F 20 (wrN (F 20) (320 * d + g0) (slN (ldY l n) 0 (t + 1)))) 19 (upd (F 19) d (nI (g0 + (t + 1))))) := by rw [up_c2019, wrN_push (by rw [slN_len]; omega), slN_succ, ldY_getD (by omega), upd_upd] <;> rfl
          have ho : ow D vwCl A s.heap H locs [bX K h ar ad ck bi lo (va_up (va_up F 20 (wrN (F 20) (320 * d + g0) (slN (ldY l n) 0 (t + 1)))) 19 (upd (F 19) d (nI (g0 + (t + 1)))))] := by rw [← e_9]; exact ho
          refine lv_iinc (v := nI (0 + t + 1)) (lv' := [(4, .int (nI (0 + t + 1))), (0, .ref h), (1, .int (nI d)), (2, .int (nI n))]) hx hb dX9_use_126 hl (k := 3) rfl (iincN _ _) (by decide) rfl (fun ls hl => ?_)
          have e_10 : (.int (nI (0 + t + 1)) : Value) = .int (nI (0 + (t + 1))) := rfl
          have hl : lv_has ls 5 [(4, .int (nI (0 + (t + 1)))), (0, .ref h), (1, .int (nI d)), (2, .int (nI n))] := by rw [← e_10]; exact hl
          refine lv_goto (tgt := 79) hx hb dX9_use_129 (by decide) ?_
          exact ih79 (t + 1) (by omega) (by omega) _ _ _ ho (lv_sub hl [1, 2, 3, 0] rfl)
    exact LP79 (n - 0 - 0 + 1) 0 (Nat.lt_succ_self _) (by omega) _ _ _ ho (lv_sub hl [3, 4, 2, 0] rfl)
  · skip
    exact absurd c_2 (by decide)

set_option maxHeartbeats 4000000 in
set_option maxRecDepth 100000 in
theorem c_M_useD (la : Launch) (D : va_G) (K : Nat → ClassId) (h : Nat) (ar : Nat → Nat) (ad : Nat) (ck : Nat) (bi : Nat) (lo : Nat) (F : Nat → Nat → Int32) (d : Nat) (l : List Bool) (n : Nat) (tn : Nat) (dr : Nat) (q2d : d < 2) (qr : ∀ i, i < l.length → F 2 (15 + i) = bI (l.getD i false)) (qn : n = toN l 0 8 / 4) (qll : 24 + 8 * n ≤ l.length) (ql2 : l.length ≤ 150) (qn1 : 1 ≤ n) (q15 : F 15 d = nI tn) (qtn : tn ≤ 6) (q26 : F 26 d = nI dr) (qbe : l.getD 1 false = false) (q18 : F 18 d = -1) : MT la D K yX9_use cX9_use 5 none (rmL 2 0 0) [.ref h, .int (nI d)] [bX K h ar ad ck bi lo F] Unit (fun v _ => v = none) (fun _ => [bX K h ar ad ck bi lo F]) := by
  refine Mt.ofW [(0, .ref h), (1, .int (nI d))] (by decide) rfl (Nat.le_of_ble_eq_true rfl) ?_
  intro p e s m args below meth c A ls H locs Qz hQ C hin hl ho
  have hx := C.1.1
  have hb := C.1.2.1
  refine lv_aload_n hx hb dX9_use_0 rfl (lv_at hl 0 rfl) ?_
  refine lv_bipush (v := nI 15) hx hb dX9_use_1 (by decide) ?_
  refine lv_bipush (v := nI 8) hx hb dX9_use_3 (by decide) ?_
  refine o_callV (wr := []) (rest := []) (As := [.int (nI 15), .int (nI 8)]) C (c_M_number la D K h ar ad ck bi lo F 15 8 l 0 (fun i hi => by rw [Nat.zero_add]; exact qr i (by omega)) (by first | omega | assumption | (simp only [List.length_append, List.length_cons, List.length_nil, List.length_modify, List.length_set, nb_len, rb_len, rbp_len, sl_len, slN_len, wh_len, wt_len, hd10_len, hdB_len, thr_len, ldp_len, ldB_len, tens_len, whz_len, majL_len, mf_len, tkL_len, ldY_len, fif_len, ldY_len]; omega) | decide) (by first | omega | assumption | (simp only [List.length_append, List.length_cons, List.length_nil, List.length_modify, List.length_set, nb_len, rb_len, rbp_len, sl_len, slN_len, wh_len, wt_len, hd10_len, hdB_len, thr_len, ldp_len, ldB_len, tens_len, whz_len, majL_len, mf_len, tkL_len, ldY_len, fif_len, ldY_len]; omega) | decide)) kX9_153 vX9_number (by decide) rfl ho [0] 1 (by decide +kernel) rfl rfl rfl rfl rfl hl.1 rfl (Nat.le_of_ble_eq_true rfl) dX9_use_5 0 0 rfl rfl (by decide) (fun v u_1 H locs hq ho => ?_)
  obtain rfl := hq
  have ho : ow D vwCl A s.heap H locs [bX K h ar ad ck bi lo F] := ho
  refine W.eq (g2 := F0 m 8 ls [.int (nI (toN l 0 8))]) rfl ?_
  have ht8 := toN_lt l 0 8
  have ht9 := toN_lt l 8 8
  refine lv_iconst (v := nI 4) hx hb dX9_use_8 (by decide) ?_
  refine o_div hx hb dX9_use_9 (by omega) (by omega) (by omega) ?_
  refine o_top (y := nI n) (by rw [qn]) ?_
  refine lv_istore_n (lv' := [(2, .int (nI n)), (0, .ref h), (1, .int (nI d))]) hx hb dX9_use_10 rfl hl (by decide) rfl (fun ls hl => ?_)
  refine lv_iconst (v := nI 0) hx hb dX9_use_11 (by decide) ?_
  refine lv_istore_n (lv' := [(3, .int (nI 0)), (2, .int (nI n)), (0, .ref h), (1, .int (nI d))]) hx hb dX9_use_12 rfl hl (by decide) rfl (fun ls hl => ?_)
  refine lv_aload_n hx hb dX9_use_13 rfl (lv_at hl 2 rfl) ?_
  refine o_get (v := .ref (ar 2)) C ho 0 0 rfl rfl rfl 6 fX9_16 rfl dX9_use_14 ?_
  refine lv_bipush (v := nI 16) hx hb dX9_use_17 (by decide) ?_
  refine o_iald (v := F 2 16) C ho 0 3 rfl rfl 0 rfl 16 rfl (by omega) (by omega) rfl dX9_use_19 ?_
  refine o_top (y := bI false) (by rw [← qbe]; exact qr 1 (by omega)) ?_
  refine lv_iconst (v := nI 1) hx hb dX9_use_20 (by decide) ?_
  refine o_top (y := bI true) (rfl) ?_
  refine o_icmpb_ne (tgt := 66) hx hb dX9_use_21 (by decide) (fun c_2 => ?_) (fun c_2 => ?_)
  · skip
    refine lv_aload_n hx hb dX9_use_66 rfl (lv_at hl 2 rfl) ?_
    refine o_get (v := .ref (ar 18)) C ho 0 0 rfl rfl rfl 22 fX9_65 rfl dX9_use_67 ?_
    refine lv_iload_n hx hb dX9_use_70 rfl (lv_at hl 3 rfl) ?_
    refine o_iald (v := (-1)) C ho 0 19 rfl rfl 0 rfl d rfl (by omega) (by omega) q18 dX9_use_71 ?_
    refine lv_if_ge (tgt := 76) hx hb dX9_use_72 (by decide) (fun c_3 => ?_) (fun c_3 => ?_)
    · skip
      exact absurd c_3 (by decide)
    · skip
      exact o_vret hQ C ho () rfl rfl (Nat.le_of_ble_eq_true rfl) (Nat.le_of_ble_eq_true rfl) dX9_use_75
  · skip
    exact absurd c_2 (by decide)

set_option maxHeartbeats 4000000 in
set_option maxRecDepth 100000 in
theorem c_M_hear0 (la : Launch) (D : va_G) (K : Nat → ClassId) (h : Nat) (ar : Nat → Nat) (ad : Nat) (ck : Nat) (lo : Nat) (F : Nat → Nat → Int32)  : MT la D K yX9_hear cX9_hear 7 (some .int) (rmL 1 0 0) [.ref h] [bX K h ar ad ck 0 lo F] Unit (fun v _ => v = some (.int (nI 0))) (fun _ => [bX K h ar ad ck 0 lo F]) := by
  refine Mt.ofW [(0, .ref h)] (by decide) rfl (Nat.le_of_ble_eq_true rfl) ?_
  intro p e s m args below meth c A ls H locs Qz hQ C hin hl ho
  have hx := C.1.1
  have hb := C.1.2.1
  refine lv_aload_n hx hb dX9_hear_0 rfl (lv_at hl 0 rfl) ?_
  refine o_get (v := .int (nI 0)) C ho 0 0 rfl rfl rfl 2 fX9_122 rfl dX9_hear_1 ?_
  refine o_if_ne (tgt := 9) hx hb dX9_hear_4 (by decide) (by decide) (fun c9 => absurd c9 (by decide)) (fun _ => ?_)
  refine lv_iconst (v := nI 0) hx hb dX9_hear_7 (by decide) ?_
  exact o_iret hQ C rfl ho () rfl rfl (Nat.le_of_ble_eq_true rfl) (Nat.le_of_ble_eq_true rfl) dX9_hear_8

set_option maxHeartbeats 4000000 in
set_option maxRecDepth 100000 in
theorem c_M_hearL (la : Launch) (D : va_G) (K : Nat → ClassId) (h : Nat) (ar : Nat → Nat) (ad : Nat) (ck : Nat) (lo : Nat) (F : Nat → Nat → Int32) (d : Nat) (a : List Bool) (t_ : List Bool) (qd : ck % 2 = d) (qck : ck < 2 ^ 29) (qk1 : 1 ≤ ck) (qad : ad < 8) (qa : ∀ i, i < a.length → F 0 i = bI (a.getD i false)) (qal : 54 ≤ a.length) (qal2 : a.length ≤ 204) (qtl : t_.length = 18) (qth : ∀ i, i < 18 → t_.getD i false = (maj (a.getD (3 * i) false) (a.getD (3 * i + 1) false) (a.getD (3 * i + 2) false) ^^ wb (ck - 1) i)) (qh : hOK ad t_ = false) : MT la D K yX9_hear cX9_hear 7 (some .int) (rmL 5 0 0) [.ref h] [bX K h ar ad ck a.length lo F] Unit (fun v _ => v = some (.int (nI 5))) (fun _ => [bX K h ar ad ck 0 lo (va_up (va_up F 1 (whP (ck - 1) (F 1) 400)) 2 (wrL (F 2) 0 t_))]) := by
  refine Mt.ofW [(0, .ref h)] (by decide) rfl (Nat.le_of_ble_eq_true rfl) ?_
  intro p e s m args below meth c A ls H locs Qz hQ C hin hl ho
  have hx := C.1.1
  have hb := C.1.2.1
  refine lv_aload_n hx hb dX9_hear_0 rfl (lv_at hl 0 rfl) ?_
  refine o_get (v := .int (nI a.length)) C ho 0 0 rfl rfl rfl 2 fX9_122 rfl dX9_hear_1 ?_
  refine o_if_ne (tgt := 9) hx hb dX9_hear_4 (by decide) (by omega) (fun c_1 => ?_) (fun c_1 => ?_)
  · skip
    refine lv_aload_n hx hb dX9_hear_9 rfl (lv_at hl 0 rfl) ?_
    refine o_get (v := .int (nI ck)) C ho 0 0 rfl rfl rfl 1 fX9_131 rfl dX9_hear_10 ?_
    refine lv_iconst (v := nI 1) hx hb dX9_hear_13 (by decide) ?_
    refine o_and hx hb dX9_hear_14 ?_
    refine o_top (y := nI d) (by rw [Nat.and_one_is_mod, qd]) ?_
    have q2d : d < 2 := by omega
    have ht4 := toN_lt t_ 3 4
    refine lv_istore_n (lv' := [(1, .int (nI d)), (0, .ref h)]) hx hb dX9_hear_15 rfl hl (by decide) rfl (fun ls hl => ?_)
    refine lv_aload_n hx hb dX9_hear_16 rfl (lv_at hl 1 rfl) ?_
    refine lv_aload_n hx hb dX9_hear_17 rfl (lv_at hl 1 rfl) ?_
    refine o_get (v := .int (nI ck)) C ho 0 0 rfl rfl rfl 1 fX9_131 rfl dX9_hear_18 ?_
    refine lv_iconst (v := nI 1) hx hb dX9_hear_21 (by decide) ?_
    refine o_sub hx hb dX9_hear_22 (by omega) ?_
    refine o_callV (wr := []) (rest := []) (As := [.int (nI (ck - 1))]) C (c_M_whiten la D K h ar ad ck a.length lo F (ck - 1) (by first | omega | assumption | (simp only [List.length_append, List.length_cons, List.length_nil, List.length_modify, List.length_set, nb_len, rb_len, rbp_len, sl_len, slN_len, wh_len, wt_len, hd10_len, hdB_len, thr_len, ldp_len, ldB_len, tens_len, whz_len, majL_len, mf_len, tkL_len, ldY_len, fif_len, ldY_len]; omega) | decide)) kX9_134 vX9_whiten (by decide) rfl ho [0] 1 (by decide +kernel) rfl rfl rfl rfl rfl hl.1 rfl (Nat.le_of_ble_eq_true rfl) dX9_hear_23 0 0 rfl rfl (by decide) (fun v u_2 H locs hq ho => ?_)
    obtain rfl := hq
    have ho : ow D vwCl A s.heap H locs [bX K h ar ad ck a.length lo (va_up F 1 (whP (ck - 1) (F 1) 400))] := ho
    refine W.eq (g2 := F0 m 26 ls []) rfl ?_
    refine lv_aload_n hx hb dX9_hear_26 rfl (lv_at hl 1 rfl) ?_
    refine o_callV (wr := []) (rest := []) (As := []) C (c_M_headGood la D K h ar ad ck a.length lo (va_up F 1 (whP (ck - 1) (F 1) 400)) a (ck - 1) t_ qa (fun i hi => whP_in hi) qtl qth (by first | omega | assumption | (simp only [List.length_append, List.length_cons, List.length_nil, List.length_modify, List.length_set, nb_len, rb_len, rbp_len, sl_len, slN_len, wh_len, wt_len, hd10_len, hdB_len, thr_len, ldp_len, ldB_len, tens_len, whz_len, majL_len, mf_len, tkL_len, ldY_len, fif_len, ldY_len]; omega) | decide) (by first | omega | assumption | (simp only [List.length_append, List.length_cons, List.length_nil, List.length_modify, List.length_set, nb_len, rb_len, rbp_len, sl_len, slN_len, wh_len, wt_len, hd10_len, hdB_len, thr_len, ldp_len, ldB_len, tens_len, whz_len, majL_len, mf_len, tkL_len, ldY_len, fif_len, ldY_len]; omega) | decide)) kX9_168 vX9_headGood (by decide) rfl ho [0] 1 (by decide +kernel) rfl rfl rfl rfl rfl hl.1 rfl (Nat.le_of_ble_eq_true rfl) dX9_hear_27 0 0 rfl rfl (by decide) (fun v u_3 H locs hq ho => ?_)
    obtain rfl := hq
    have ho : ow D vwCl A s.heap H locs [bX K h ar ad ck a.length lo (va_up (va_up F 1 (whP (ck - 1) (F 1) 400)) 2 (wrL (F 2) 0 t_))] := ho
    refine W.eq (g2 := F0 m 30 ls [.int (bI (hOK ad t_))]) rfl ?_
    refine lv_istore_n (lv' := [(2, .int (bI (hOK ad t_))), (1, .int (nI d)), (0, .ref h)]) hx hb dX9_hear_30 rfl hl (by decide) rfl (fun ls hl => ?_)
    refine lv_aload_n hx hb dX9_hear_31 rfl (lv_at hl 2 rfl) ?_
    refine lv_iconst (v := nI 3) hx hb dX9_hear_32 (by decide) ?_
    refine lv_iconst (v := nI 4) hx hb dX9_hear_33 (by decide) ?_
    refine o_callV (wr := []) (rest := []) (As := [.int (nI 3), .int (nI 4)]) C (c_M_number la D K h ar ad ck a.length lo (va_up (va_up F 1 (whP (ck - 1) (F 1) 400)) 2 (wrL (F 2) 0 t_)) 3 4 t_ 3 (fun i hi => rd2 (by omega) hi) (by first | omega | assumption | (simp only [List.length_append, List.length_cons, List.length_nil, List.length_modify, List.length_set, nb_len, rb_len, rbp_len, sl_len, slN_len, wh_len, wt_len, hd10_len, hdB_len, thr_len, ldp_len, ldB_len, tens_len, whz_len, majL_len, mf_len, tkL_len, ldY_len, fif_len, ldY_len]; omega) | decide) (by first | omega | assumption | (simp only [List.length_append, List.length_cons, List.length_nil, List.length_modify, List.length_set, nb_len, rb_len, rbp_len, sl_len, slN_len, wh_len, wt_len, hd10_len, hdB_len, thr_len, ldp_len, ldB_len, tens_len, whz_len, majL_len, mf_len, tkL_len, ldY_len, fif_len, ldY_len]; omega) | decide)) kX9_153 vX9_number (by decide) rfl ho [0] 1 (by decide +kernel) rfl rfl rfl rfl rfl hl.1 rfl (Nat.le_of_ble_eq_true rfl) dX9_hear_34 0 0 rfl rfl (by decide) (fun v u_4 H locs hq ho => ?_)
    obtain rfl := hq
    have ho : ow D vwCl A s.heap H locs [bX K h ar ad ck a.length lo (va_up (va_up F 1 (whP (ck - 1) (F 1) 400)) 2 (wrL (F 2) 0 t_))] := ho
    refine W.eq (g2 := F0 m 37 ls [.int (nI (toN t_ 3 4))]) rfl ?_
    refine lv_istore_n (lv' := [(3, .int (nI (toN t_ 3 4))), (2, .int (bI (hOK ad t_))), (1, .int (nI d)), (0, .ref h)]) hx hb dX9_hear_37 rfl hl (by decide) rfl (fun ls hl => ?_)
    refine lv_aload_n hx hb dX9_hear_38 rfl (lv_at hl 3 rfl) ?_
    refine o_get (v := .ref (ar 2)) C ho 0 0 rfl rfl rfl 6 fX9_16 rfl dX9_hear_39 ?_
    refine lv_bipush (v := nI 8) hx hb dX9_hear_42 (by decide) ?_
    refine o_iald (v := wrL (F 2) 0 t_ 8) C ho 0 3 rfl rfl 0 rfl 8 rfl (by omega) (by omega) rfl dX9_hear_44 ?_
    refine o_top (y := bI (t_.getD 8 false)) (wrL_in0 (by omega)) ?_
    refine lv_istore (lv' := [(4, .int (bI (t_.getD 8 false))), (3, .int (nI (toN t_ 3 4))), (2, .int (bI (hOK ad t_))), (1, .int (nI d)), (0, .ref h)]) hx hb dX9_hear_45 hl (by decide) rfl (fun ls hl => ?_)
    refine lv_aload_n hx hb dX9_hear_47 rfl (lv_at hl 4 rfl) ?_
    refine o_get (v := .ref (ar 2)) C ho 0 0 rfl rfl rfl 6 fX9_16 rfl dX9_hear_48 ?_
    refine lv_bipush (v := nI 9) hx hb dX9_hear_51 (by decide) ?_
    refine o_iald (v := wrL (F 2) 0 t_ 9) C ho 0 3 rfl rfl 0 rfl 9 rfl (by omega) (by omega) rfl dX9_hear_53 ?_
    refine o_top (y := bI (t_.getD 9 false)) (wrL_in0 (by omega)) ?_
    refine lv_istore (lv' := [(5, .int (bI (t_.getD 9 false))), (4, .int (bI (t_.getD 8 false))), (3, .int (nI (toN t_ 3 4))), (2, .int (bI (hOK ad t_))), (1, .int (nI d)), (0, .ref h)]) hx hb dX9_hear_54 hl (by decide) rfl (fun ls hl => ?_)
    refine lv_iconst (v := nI 5) hx hb dX9_hear_56 (by decide) ?_
    refine lv_istore (lv' := [(6, .int (nI 5)), (5, .int (bI (t_.getD 9 false))), (4, .int (bI (t_.getD 8 false))), (3, .int (nI (toN t_ 3 4))), (2, .int (bI (hOK ad t_))), (1, .int (nI d)), (0, .ref h)]) hx hb dX9_hear_57 hl (by decide) rfl (fun ls hl => ?_)
    refine lv_iload_n hx hb dX9_hear_59 rfl (lv_at hl 4 rfl) ?_
    refine o_ifb_eq (tgt := 168) hx hb dX9_hear_60 (by decide) (fun c_5 => ?_) (fun c_5 => ?_)
    · skip
      refine lv_aload_n hx hb dX9_hear_168 rfl (lv_at hl 6 rfl) ?_
      refine lv_iconst (v := nI 0) hx hb dX9_hear_169 (by decide) ?_
      refine o_put (v := .int (nI 0)) (bs' := [bX K h ar ad ck 0 lo (va_up (va_up F 1 (whP (ck - 1) (F 1) 400)) 2 (wrL (F 2) 0 t_))]) C ho 0 0 rfl rfl rfl 2 fX9_122 pX9_2 rfl rfl (Nat.le_of_ble_eq_true rfl) dX9_hear_170 rfl (fun H locs ho => ?_)
      refine lv_iload hx hb dX9_hear_173 (lv_at hl 0 rfl) ?_
      exact o_iret hQ C rfl ho () rfl rfl (Nat.le_of_ble_eq_true rfl) (Nat.le_of_ble_eq_true rfl) dX9_hear_175
    · skip
      exact absurd (qh.symm.trans c_5) (by decide)
  · skip
    exact absurd c_1 (by omega)

set_option maxHeartbeats 4000000 in
set_option maxRecDepth 100000 in
theorem c_M_hear9 (la : Launch) (D : va_G) (K : Nat → ClassId) (h : Nat) (ar : Nat → Nat) (ad : Nat) (ck : Nat) (lo : Nat) (F : Nat → Nat → Int32) (d : Nat) (a : List Bool) (t_ : List Bool) (fl : Nat) (qd : ck % 2 = d) (qck : ck < 2 ^ 29) (qk1 : 1 ≤ ck) (qad : ad < 8) (qa : ∀ i, i < a.length → F 0 i = bI (a.getD i false)) (qal : 54 ≤ a.length) (qal2 : a.length ≤ 204) (qtl : t_.length = 18) (qth : ∀ i, i < 18 → t_.getD i false = (maj (a.getD (3 * i) false) (a.getD (3 * i + 1) false) (a.getD (3 * i + 2) false) ^^ wb (ck - 1) i)) (qh : hOK ad t_ = true) (q11 : F 11 d = nI fl) (qk3 : toN t_ 3 4 < 3) : MT la D K yX9_hear cX9_hear 7 (some .int) (rmL 5 0 0) [.ref h] [bX K h ar ad ck a.length lo F] Unit (fun v _ => v = some (.int (nI 9))) (fun _ => [bX K h ar ad ck 0 lo (va_up (va_up (va_up (va_up F 1 (whP (ck - 1) (F 1) 400)) 2 (wrL (F 2) 0 t_)) 25 (upd (F 25) d (bI true))) 11 (upd (F 11) d (nI (cond (t_.getD 8 false) 0 fl))))]) := by
  refine Mt.ofW [(0, .ref h)] (by decide) rfl (Nat.le_of_ble_eq_true rfl) ?_
  intro p e s m args below meth c A ls H locs Qz hQ C hin hl ho
  have hx := C.1.1
  have hb := C.1.2.1
  refine lv_aload_n hx hb dX9_hear_0 rfl (lv_at hl 0 rfl) ?_
  refine o_get (v := .int (nI a.length)) C ho 0 0 rfl rfl rfl 2 fX9_122 rfl dX9_hear_1 ?_
  refine o_if_ne (tgt := 9) hx hb dX9_hear_4 (by decide) (by omega) (fun c_1 => ?_) (fun c_1 => ?_)
  · skip
    refine lv_aload_n hx hb dX9_hear_9 rfl (lv_at hl 0 rfl) ?_
    refine o_get (v := .int (nI ck)) C ho 0 0 rfl rfl rfl 1 fX9_131 rfl dX9_hear_10 ?_
    refine lv_iconst (v := nI 1) hx hb dX9_hear_13 (by decide) ?_
    refine o_and hx hb dX9_hear_14 ?_
    refine o_top (y := nI d) (by rw [Nat.and_one_is_mod, qd]) ?_
    have q2d : d < 2 := by omega
    have ht4 := toN_lt t_ 3 4
    refine lv_istore_n (lv' := [(1, .int (nI d)), (0, .ref h)]) hx hb dX9_hear_15 rfl hl (by decide) rfl (fun ls hl => ?_)
    refine lv_aload_n hx hb dX9_hear_16 rfl (lv_at hl 1 rfl) ?_
    refine lv_aload_n hx hb dX9_hear_17 rfl (lv_at hl 1 rfl) ?_
    refine o_get (v := .int (nI ck)) C ho 0 0 rfl rfl rfl 1 fX9_131 rfl dX9_hear_18 ?_
    refine lv_iconst (v := nI 1) hx hb dX9_hear_21 (by decide) ?_
    refine o_sub hx hb dX9_hear_22 (by omega) ?_
    refine o_callV (wr := []) (rest := []) (As := [.int (nI (ck - 1))]) C (c_M_whiten la D K h ar ad ck a.length lo F (ck - 1) (by first | omega | assumption | (simp only [List.length_append, List.length_cons, List.length_nil, List.length_modify, List.length_set, nb_len, rb_len, rbp_len, sl_len, slN_len, wh_len, wt_len, hd10_len, hdB_len, thr_len, ldp_len, ldB_len, tens_len, whz_len, majL_len, mf_len, tkL_len, ldY_len, fif_len, ldY_len]; omega) | decide)) kX9_134 vX9_whiten (by decide) rfl ho [0] 1 (by decide +kernel) rfl rfl rfl rfl rfl hl.1 rfl (Nat.le_of_ble_eq_true rfl) dX9_hear_23 0 0 rfl rfl (by decide) (fun v u_2 H locs hq ho => ?_)
    obtain rfl := hq
    have ho : ow D vwCl A s.heap H locs [bX K h ar ad ck a.length lo (va_up F 1 (whP (ck - 1) (F 1) 400))] := ho
    refine W.eq (g2 := F0 m 26 ls []) rfl ?_
    refine lv_aload_n hx hb dX9_hear_26 rfl (lv_at hl 1 rfl) ?_
    refine o_callV (wr := []) (rest := []) (As := []) C (c_M_headGood la D K h ar ad ck a.length lo (va_up F 1 (whP (ck - 1) (F 1) 400)) a (ck - 1) t_ qa (fun i hi => whP_in hi) qtl qth (by first | omega | assumption | (simp only [List.length_append, List.length_cons, List.length_nil, List.length_modify, List.length_set, nb_len, rb_len, rbp_len, sl_len, slN_len, wh_len, wt_len, hd10_len, hdB_len, thr_len, ldp_len, ldB_len, tens_len, whz_len, majL_len, mf_len, tkL_len, ldY_len, fif_len, ldY_len]; omega) | decide) (by first | omega | assumption | (simp only [List.length_append, List.length_cons, List.length_nil, List.length_modify, List.length_set, nb_len, rb_len, rbp_len, sl_len, slN_len, wh_len, wt_len, hd10_len, hdB_len, thr_len, ldp_len, ldB_len, tens_len, whz_len, majL_len, mf_len, tkL_len, ldY_len, fif_len, ldY_len]; omega) | decide)) kX9_168 vX9_headGood (by decide) rfl ho [0] 1 (by decide +kernel) rfl rfl rfl rfl rfl hl.1 rfl (Nat.le_of_ble_eq_true rfl) dX9_hear_27 0 0 rfl rfl (by decide) (fun v u_3 H locs hq ho => ?_)
    obtain rfl := hq
    have ho : ow D vwCl A s.heap H locs [bX K h ar ad ck a.length lo (va_up (va_up F 1 (whP (ck - 1) (F 1) 400)) 2 (wrL (F 2) 0 t_))] := ho
    refine W.eq (g2 := F0 m 30 ls [.int (bI (hOK ad t_))]) rfl ?_
    refine lv_istore_n (lv' := [(2, .int (bI (hOK ad t_))), (1, .int (nI d)), (0, .ref h)]) hx hb dX9_hear_30 rfl hl (by decide) rfl (fun ls hl => ?_)
    refine lv_aload_n hx hb dX9_hear_31 rfl (lv_at hl 2 rfl) ?_
    refine lv_iconst (v := nI 3) hx hb dX9_hear_32 (by decide) ?_
    refine lv_iconst (v := nI 4) hx hb dX9_hear_33 (by decide) ?_
    refine o_callV (wr := []) (rest := []) (As := [.int (nI 3), .int (nI 4)]) C (c_M_number la D K h ar ad ck a.length lo (va_up (va_up F 1 (whP (ck - 1) (F 1) 400)) 2 (wrL (F 2) 0 t_)) 3 4 t_ 3 (fun i hi => rd2 (by omega) hi) (by first | omega | assumption | (simp only [List.length_append, List.length_cons, List.length_nil, List.length_modify, List.length_set, nb_len, rb_len, rbp_len, sl_len, slN_len, wh_len, wt_len, hd10_len, hdB_len, thr_len, ldp_len, ldB_len, tens_len, whz_len, majL_len, mf_len, tkL_len, ldY_len, fif_len, ldY_len]; omega) | decide) (by first | omega | assumption | (simp only [List.length_append, List.length_cons, List.length_nil, List.length_modify, List.length_set, nb_len, rb_len, rbp_len, sl_len, slN_len, wh_len, wt_len, hd10_len, hdB_len, thr_len, ldp_len, ldB_len, tens_len, whz_len, majL_len, mf_len, tkL_len, ldY_len, fif_len, ldY_len]; omega) | decide)) kX9_153 vX9_number (by decide) rfl ho [0] 1 (by decide +kernel) rfl rfl rfl rfl rfl hl.1 rfl (Nat.le_of_ble_eq_true rfl) dX9_hear_34 0 0 rfl rfl (by decide) (fun v u_4 H locs hq ho => ?_)
    obtain rfl := hq
    have ho : ow D vwCl A s.heap H locs [bX K h ar ad ck a.length lo (va_up (va_up F 1 (whP (ck - 1) (F 1) 400)) 2 (wrL (F 2) 0 t_))] := ho
    refine W.eq (g2 := F0 m 37 ls [.int (nI (toN t_ 3 4))]) rfl ?_
    refine lv_istore_n (lv' := [(3, .int (nI (toN t_ 3 4))), (2, .int (bI (hOK ad t_))), (1, .int (nI d)), (0, .ref h)]) hx hb dX9_hear_37 rfl hl (by decide) rfl (fun ls hl => ?_)
    refine lv_aload_n hx hb dX9_hear_38 rfl (lv_at hl 3 rfl) ?_
    refine o_get (v := .ref (ar 2)) C ho 0 0 rfl rfl rfl 6 fX9_16 rfl dX9_hear_39 ?_
    refine lv_bipush (v := nI 8) hx hb dX9_hear_42 (by decide) ?_
    refine o_iald (v := wrL (F 2) 0 t_ 8) C ho 0 3 rfl rfl 0 rfl 8 rfl (by omega) (by omega) rfl dX9_hear_44 ?_
    refine o_top (y := bI (t_.getD 8 false)) (wrL_in0 (by omega)) ?_
    refine lv_istore (lv' := [(4, .int (bI (t_.getD 8 false))), (3, .int (nI (toN t_ 3 4))), (2, .int (bI (hOK ad t_))), (1, .int (nI d)), (0, .ref h)]) hx hb dX9_hear_45 hl (by decide) rfl (fun ls hl => ?_)
    refine lv_aload_n hx hb dX9_hear_47 rfl (lv_at hl 4 rfl) ?_
    refine o_get (v := .ref (ar 2)) C ho 0 0 rfl rfl rfl 6 fX9_16 rfl dX9_hear_48 ?_
    refine lv_bipush (v := nI 9) hx hb dX9_hear_51 (by decide) ?_
    refine o_iald (v := wrL (F 2) 0 t_ 9) C ho 0 3 rfl rfl 0 rfl 9 rfl (by omega) (by omega) rfl dX9_hear_53 ?_
    refine o_top (y := bI (t_.getD 9 false)) (wrL_in0 (by omega)) ?_
    refine lv_istore (lv' := [(5, .int (bI (t_.getD 9 false))), (4, .int (bI (t_.getD 8 false))), (3, .int (nI (toN t_ 3 4))), (2, .int (bI (hOK ad t_))), (1, .int (nI d)), (0, .ref h)]) hx hb dX9_hear_54 hl (by decide) rfl (fun ls hl => ?_)
    refine lv_iconst (v := nI 5) hx hb dX9_hear_56 (by decide) ?_
    refine lv_istore (lv' := [(6, .int (nI 5)), (5, .int (bI (t_.getD 9 false))), (4, .int (bI (t_.getD 8 false))), (3, .int (nI (toN t_ 3 4))), (2, .int (bI (hOK ad t_))), (1, .int (nI d)), (0, .ref h)]) hx hb dX9_hear_57 hl (by decide) rfl (fun ls hl => ?_)
    refine lv_iload_n hx hb dX9_hear_59 rfl (lv_at hl 4 rfl) ?_
    refine o_ifb_eq (tgt := 168) hx hb dX9_hear_60 (by decide) (fun c_5 => ?_) (fun c_5 => ?_)
    · skip
      exact absurd (qh.symm.trans c_5) (by decide)
    · skip
      refine lv_aload_n hx hb dX9_hear_63 rfl (lv_at hl 6 rfl) ?_
      refine o_get (v := .ref (ar 25)) C ho 0 0 rfl rfl rfl 29 fX9_86 rfl dX9_hear_64 ?_
      refine lv_iload_n hx hb dX9_hear_67 rfl (lv_at hl 5 rfl) ?_
      refine lv_iconst (v := nI 1) hx hb dX9_hear_68 (by decide) ?_
      refine o_top (y := bI true) (rfl) ?_
      refine o_zast (bs' := [bX K h ar ad ck a.length lo (va_up (va_up (va_up F 1 (whP (ck - 1) (F 1) 400)) 2 (wrL (F 2) 0 t_)) 25 (upd (F 25) d (bI true)))]) C ho 0 26 rfl rfl 3 rfl d rfl (by omega) (by decide) dX9_hear_69 rfl (fun H locs ho => ?_)
      refine lv_iload hx hb dX9_hear_70 (lv_at hl 2 rfl) ?_
      refine lv_iconst (v := nI 1) hx hb dX9_hear_72 (by decide) ?_
      refine o_top (y := bI true) (rfl) ?_
      refine o_icmpb_ne (tgt := 83) hx hb dX9_hear_73 (by decide) (fun c_6 => ?_) (fun c_6 => ?_)
      · skip
        have e_7 : bX K h ar ad ck a.length lo (va_up (va_up (va_up F 1 (whP (ck - 1) (F 1) 400)) 2 (wrL (F 2) 0 t_)) 25 (upd (F 25) d (bI true))) = bX K h ar ad ck a.length lo (va_up (va_up (va_up (va_up F 1 (whP (ck - 1) (F 1) 400)) 2 (wrL (F 2) 0 t_)) 25 (upd (F 25) d (bI true))) 11 (upd (F 11) d (nI (cond (t_.getD 8 false) 0 fl)))) := by rw [Bool.eq_false_iff.mpr c_6, cond_false, upd_same q11]; exact congrArg (bX K h ar ad ck a.length lo) (up_1 rfl)
        have ho : ow D vwCl A s.heap H locs [bX K h ar ad ck a.length lo (va_up (va_up (va_up (va_up F 1 (whP (ck - 1) (F 1) 400)) 2 (wrL (F 2) 0 t_)) 25 (upd (F 25) d (bI true))) 11 (upd (F 11) d (nI (cond (t_.getD 8 false) 0 fl))))] := by rw [← e_7]; exact ho
        refine lv_iload_n hx hb dX9_hear_83 rfl (lv_at hl 3 rfl) ?_
        refine lv_iconst (v := nI 3) hx hb dX9_hear_84 (by decide) ?_
        refine o_icmp_ge (tgt := 93) hx hb dX9_hear_85 (by decide) (by first | omega | exact and1_lt _) (by first | omega | exact and1_lt _) (fun c_8 => ?_) (fun c_8 => ?_)
        · skip
          exact absurd c_8 (by omega)
        · skip
          refine lv_bipush (v := nI 9) hx hb dX9_hear_88 (by decide) ?_
          refine lv_goto (tgt := 125) hx hb dX9_hear_90 (by decide) ?_
          refine lv_istore (lv' := [(6, .int (nI 9)), (5, .int (bI (t_.getD 9 false))), (4, .int (bI (t_.getD 8 false))), (3, .int (nI (toN t_ 3 4))), (2, .int (bI (hOK ad t_))), (1, .int (nI d)), (0, .ref h)]) hx hb dX9_hear_125 hl (by decide) rfl (fun ls hl => ?_)
          refine lv_iload hx hb dX9_hear_127 (lv_at hl 0 rfl) ?_
          refine lv_bipush (v := nI 6) hx hb dX9_hear_129 (by decide) ?_
          refine o_icmp_eq (tgt := 141) hx hb dX9_hear_131 (by decide) (by decide) (by decide) (fun c9 => absurd c9 (by decide)) (fun _ => ?_)
          refine lv_iload hx hb dX9_hear_134 (lv_at hl 0 rfl) ?_
          refine lv_bipush (v := nI 8) hx hb dX9_hear_136 (by decide) ?_
          refine o_icmp_ne (tgt := 148) hx hb dX9_hear_138 (by decide) (by decide) (by decide) (fun _ => ?_) (fun c9 => absurd c9 (by decide))
          refine lv_iload hx hb dX9_hear_148 (lv_at hl 0 rfl) ?_
          refine lv_bipush (v := nI 6) hx hb dX9_hear_150 (by decide) ?_
          refine o_icmp_ne (tgt := 168) hx hb dX9_hear_152 (by decide) (by decide) (by decide) (fun _ => ?_) (fun c9 => absurd c9 (by decide))
          refine lv_aload_n hx hb dX9_hear_168 rfl (lv_at hl 6 rfl) ?_
          refine lv_iconst (v := nI 0) hx hb dX9_hear_169 (by decide) ?_
          refine o_put (v := .int (nI 0)) (bs' := [bX K h ar ad ck 0 lo (va_up (va_up (va_up (va_up F 1 (whP (ck - 1) (F 1) 400)) 2 (wrL (F 2) 0 t_)) 25 (upd (F 25) d (bI true))) 11 (upd (F 11) d (nI (cond (t_.getD 8 false) 0 fl))))]) C ho 0 0 rfl rfl rfl 2 fX9_122 pX9_2 rfl rfl (Nat.le_of_ble_eq_true rfl) dX9_hear_170 rfl (fun H locs ho => ?_)
          refine lv_iload hx hb dX9_hear_173 (lv_at hl 0 rfl) ?_
          exact o_iret hQ C rfl ho () rfl rfl (Nat.le_of_ble_eq_true rfl) (Nat.le_of_ble_eq_true rfl) dX9_hear_175
      · skip
        refine lv_aload_n hx hb dX9_hear_76 rfl (lv_at hl 6 rfl) ?_
        refine o_get (v := .ref (ar 11)) C ho 0 0 rfl rfl rfl 15 fX9_43 rfl dX9_hear_77 ?_
        refine lv_iload_n hx hb dX9_hear_80 rfl (lv_at hl 5 rfl) ?_
        refine lv_iconst (v := nI 0) hx hb dX9_hear_81 (by decide) ?_
        refine o_iast (bs' := [bX K h ar ad ck a.length lo (va_up (va_up (va_up (va_up F 1 (whP (ck - 1) (F 1) 400)) 2 (wrL (F 2) 0 t_)) 25 (upd (F 25) d (bI true))) 11 (upd (F 11) d (nI 0)))]) C ho 0 12 rfl rfl 0 rfl d rfl (by omega) (by decide) dX9_hear_82 rfl (fun H locs ho => ?_)
        have e_9 : bX K h ar ad ck a.length lo (va_up (va_up (va_up (va_up F 1 (whP (ck - 1) (F 1) 400)) 2 (wrL (F 2) 0 t_)) 25 (upd (F 25) d (bI true))) 11 (upd (F 11) d (nI 0))) = bX K h ar ad ck a.length lo (va_up (va_up (va_up (va_up F 1 (whP (ck - 1) (F 1) 400)) 2 (wrL (F 2) 0 t_)) 25 (upd (F 25) d (bI true))) 11 (upd (F 11) d (nI (cond (t_.getD 8 false) 0 fl)))) := by rw [c_6, cond_true]
        have ho : ow D vwCl A s.heap H locs [bX K h ar ad ck a.length lo (va_up (va_up (va_up (va_up F 1 (whP (ck - 1) (F 1) 400)) 2 (wrL (F 2) 0 t_)) 25 (upd (F 25) d (bI true))) 11 (upd (F 11) d (nI (cond (t_.getD 8 false) 0 fl))))] := by rw [← e_9]; exact ho
        refine lv_iload_n hx hb dX9_hear_83 rfl (lv_at hl 3 rfl) ?_
        refine lv_iconst (v := nI 3) hx hb dX9_hear_84 (by decide) ?_
        refine o_icmp_ge (tgt := 93) hx hb dX9_hear_85 (by decide) (by first | omega | exact and1_lt _) (by first | omega | exact and1_lt _) (fun c_10 => ?_) (fun c_10 => ?_)
        · skip
          exact absurd c_10 (by omega)
        · skip
          refine lv_bipush (v := nI 9) hx hb dX9_hear_88 (by decide) ?_
          refine lv_goto (tgt := 125) hx hb dX9_hear_90 (by decide) ?_
          refine lv_istore (lv' := [(6, .int (nI 9)), (5, .int (bI (t_.getD 9 false))), (4, .int (bI (t_.getD 8 false))), (3, .int (nI (toN t_ 3 4))), (2, .int (bI (hOK ad t_))), (1, .int (nI d)), (0, .ref h)]) hx hb dX9_hear_125 hl (by decide) rfl (fun ls hl => ?_)
          refine lv_iload hx hb dX9_hear_127 (lv_at hl 0 rfl) ?_
          refine lv_bipush (v := nI 6) hx hb dX9_hear_129 (by decide) ?_
          refine o_icmp_eq (tgt := 141) hx hb dX9_hear_131 (by decide) (by decide) (by decide) (fun c9 => absurd c9 (by decide)) (fun _ => ?_)
          refine lv_iload hx hb dX9_hear_134 (lv_at hl 0 rfl) ?_
          refine lv_bipush (v := nI 8) hx hb dX9_hear_136 (by decide) ?_
          refine o_icmp_ne (tgt := 148) hx hb dX9_hear_138 (by decide) (by decide) (by decide) (fun _ => ?_) (fun c9 => absurd c9 (by decide))
          refine lv_iload hx hb dX9_hear_148 (lv_at hl 0 rfl) ?_
          refine lv_bipush (v := nI 6) hx hb dX9_hear_150 (by decide) ?_
          refine o_icmp_ne (tgt := 168) hx hb dX9_hear_152 (by decide) (by decide) (by decide) (fun _ => ?_) (fun c9 => absurd c9 (by decide))
          refine lv_aload_n hx hb dX9_hear_168 rfl (lv_at hl 6 rfl) ?_
          refine lv_iconst (v := nI 0) hx hb dX9_hear_169 (by decide) ?_
          refine o_put (v := .int (nI 0)) (bs' := [bX K h ar ad ck 0 lo (va_up (va_up (va_up (va_up F 1 (whP (ck - 1) (F 1) 400)) 2 (wrL (F 2) 0 t_)) 25 (upd (F 25) d (bI true))) 11 (upd (F 11) d (nI (cond (t_.getD 8 false) 0 fl))))]) C ho 0 0 rfl rfl rfl 2 fX9_122 pX9_2 rfl rfl (Nat.le_of_ble_eq_true rfl) dX9_hear_170 rfl (fun H locs ho => ?_)
          refine lv_iload hx hb dX9_hear_173 (lv_at hl 0 rfl) ?_
          exact o_iret hQ C rfl ho () rfl rfl (Nat.le_of_ble_eq_true rfl) (Nat.le_of_ble_eq_true rfl) dX9_hear_175
  · skip
    exact absurd c_1 (by omega)

set_option maxHeartbeats 4000000 in
set_option maxRecDepth 100000 in
theorem c_M_hear7 (la : Launch) (D : va_G) (K : Nat → ClassId) (h : Nat) (ar : Nat → Nat) (ad : Nat) (ck : Nat) (lo : Nat) (F : Nat → Nat → Int32) (d : Nat) (a : List Bool) (t_ : List Bool) (fl : Nat) (co : Nat) (l : List Bool) (qd : ck % 2 = d) (qck : ck < 2 ^ 29) (qk1 : 1 ≤ ck) (qad : ad < 8) (qa : ∀ i, i < a.length → F 0 i = bI (a.getD i false)) (qal : 54 ≤ a.length) (qal2 : a.length ≤ 204) (qtl : t_.length = 18) (qth : ∀ i, i < 18 → t_.getD i false = (maj (a.getD (3 * i) false) (a.getD (3 * i + 1) false) (a.getD (3 * i + 2) false) ^^ wb (ck - 1) i)) (qh : hOK ad t_ = true) (q11 : F 11 d = nI fl) (qk34 : toN t_ 3 4 = 3 ∨ toN t_ 3 4 = 4) (q27 : F 27 d = nI co) (qlx : ldl (toN t_ 3 4) (ck - 1) a = l) (qok : (lds (toN t_ 3 4) a && ldOK (ldl (toN t_ 3 4) (ck - 1) a)) = false) : MT la D K yX9_hear cX9_hear 7 (some .int) (rmL 7 0 0) [.ref h] [bX K h ar ad ck a.length lo F] (Nat → Int32) (fun v _ => v = some (.int (nI 7))) (fun u => [bX K h ar ad ck 0 (15 + l.length) (va_up (va_up (va_up (va_up (va_up (va_up F 1 (whP (ck - 1) (F 1) 400)) 2 (wrL (F 2) 0 t_)) 25 (upd (F 25) d (bI true))) 11 (upd (F 11) d (nI (cond (t_.getD 8 false) 0 fl)))) 2 (wrL u 15 l)) 27 (upd (F 27) d (nI (co + ldn (toN t_ 3 4) a))))]) := by
  refine Mt.ofW [(0, .ref h)] (by decide) rfl (Nat.le_of_ble_eq_true rfl) ?_
  intro p e s m args below meth c A ls H locs Qz hQ C hin hl ho
  have hx := C.1.1
  have hb := C.1.2.1
  refine lv_aload_n hx hb dX9_hear_0 rfl (lv_at hl 0 rfl) ?_
  refine o_get (v := .int (nI a.length)) C ho 0 0 rfl rfl rfl 2 fX9_122 rfl dX9_hear_1 ?_
  refine o_if_ne (tgt := 9) hx hb dX9_hear_4 (by decide) (by omega) (fun c_1 => ?_) (fun c_1 => ?_)
  · skip
    refine lv_aload_n hx hb dX9_hear_9 rfl (lv_at hl 0 rfl) ?_
    refine o_get (v := .int (nI ck)) C ho 0 0 rfl rfl rfl 1 fX9_131 rfl dX9_hear_10 ?_
    refine lv_iconst (v := nI 1) hx hb dX9_hear_13 (by decide) ?_
    refine o_and hx hb dX9_hear_14 ?_
    refine o_top (y := nI d) (by rw [Nat.and_one_is_mod, qd]) ?_
    have q2d : d < 2 := by omega
    have ht4 := toN_lt t_ 3 4
    refine lv_istore_n (lv' := [(1, .int (nI d)), (0, .ref h)]) hx hb dX9_hear_15 rfl hl (by decide) rfl (fun ls hl => ?_)
    refine lv_aload_n hx hb dX9_hear_16 rfl (lv_at hl 1 rfl) ?_
    refine lv_aload_n hx hb dX9_hear_17 rfl (lv_at hl 1 rfl) ?_
    refine o_get (v := .int (nI ck)) C ho 0 0 rfl rfl rfl 1 fX9_131 rfl dX9_hear_18 ?_
    refine lv_iconst (v := nI 1) hx hb dX9_hear_21 (by decide) ?_
    refine o_sub hx hb dX9_hear_22 (by omega) ?_
    refine o_callV (wr := []) (rest := []) (As := [.int (nI (ck - 1))]) C (c_M_whiten la D K h ar ad ck a.length lo F (ck - 1) (by first | omega | assumption | (simp only [List.length_append, List.length_cons, List.length_nil, List.length_modify, List.length_set, nb_len, rb_len, rbp_len, sl_len, slN_len, wh_len, wt_len, hd10_len, hdB_len, thr_len, ldp_len, ldB_len, tens_len, whz_len, majL_len, mf_len, tkL_len, ldY_len, fif_len, ldY_len]; omega) | decide)) kX9_134 vX9_whiten (by decide) rfl ho [0] 1 (by decide +kernel) rfl rfl rfl rfl rfl hl.1 rfl (Nat.le_of_ble_eq_true rfl) dX9_hear_23 0 0 rfl rfl (by decide) (fun v u_2 H locs hq ho => ?_)
    obtain rfl := hq
    have ho : ow D vwCl A s.heap H locs [bX K h ar ad ck a.length lo (va_up F 1 (whP (ck - 1) (F 1) 400))] := ho
    refine W.eq (g2 := F0 m 26 ls []) rfl ?_
    refine lv_aload_n hx hb dX9_hear_26 rfl (lv_at hl 1 rfl) ?_
    refine o_callV (wr := []) (rest := []) (As := []) C (c_M_headGood la D K h ar ad ck a.length lo (va_up F 1 (whP (ck - 1) (F 1) 400)) a (ck - 1) t_ qa (fun i hi => whP_in hi) qtl qth (by first | omega | assumption | (simp only [List.length_append, List.length_cons, List.length_nil, List.length_modify, List.length_set, nb_len, rb_len, rbp_len, sl_len, slN_len, wh_len, wt_len, hd10_len, hdB_len, thr_len, ldp_len, ldB_len, tens_len, whz_len, majL_len, mf_len, tkL_len, ldY_len, fif_len, ldY_len]; omega) | decide) (by first | omega | assumption | (simp only [List.length_append, List.length_cons, List.length_nil, List.length_modify, List.length_set, nb_len, rb_len, rbp_len, sl_len, slN_len, wh_len, wt_len, hd10_len, hdB_len, thr_len, ldp_len, ldB_len, tens_len, whz_len, majL_len, mf_len, tkL_len, ldY_len, fif_len, ldY_len]; omega) | decide)) kX9_168 vX9_headGood (by decide) rfl ho [0] 1 (by decide +kernel) rfl rfl rfl rfl rfl hl.1 rfl (Nat.le_of_ble_eq_true rfl) dX9_hear_27 0 0 rfl rfl (by decide) (fun v u_3 H locs hq ho => ?_)
    obtain rfl := hq
    have ho : ow D vwCl A s.heap H locs [bX K h ar ad ck a.length lo (va_up (va_up F 1 (whP (ck - 1) (F 1) 400)) 2 (wrL (F 2) 0 t_))] := ho
    refine W.eq (g2 := F0 m 30 ls [.int (bI (hOK ad t_))]) rfl ?_
    refine lv_istore_n (lv' := [(2, .int (bI (hOK ad t_))), (1, .int (nI d)), (0, .ref h)]) hx hb dX9_hear_30 rfl hl (by decide) rfl (fun ls hl => ?_)
    refine lv_aload_n hx hb dX9_hear_31 rfl (lv_at hl 2 rfl) ?_
    refine lv_iconst (v := nI 3) hx hb dX9_hear_32 (by decide) ?_
    refine lv_iconst (v := nI 4) hx hb dX9_hear_33 (by decide) ?_
    refine o_callV (wr := []) (rest := []) (As := [.int (nI 3), .int (nI 4)]) C (c_M_number la D K h ar ad ck a.length lo (va_up (va_up F 1 (whP (ck - 1) (F 1) 400)) 2 (wrL (F 2) 0 t_)) 3 4 t_ 3 (fun i hi => rd2 (by omega) hi) (by first | omega | assumption | (simp only [List.length_append, List.length_cons, List.length_nil, List.length_modify, List.length_set, nb_len, rb_len, rbp_len, sl_len, slN_len, wh_len, wt_len, hd10_len, hdB_len, thr_len, ldp_len, ldB_len, tens_len, whz_len, majL_len, mf_len, tkL_len, ldY_len, fif_len, ldY_len]; omega) | decide) (by first | omega | assumption | (simp only [List.length_append, List.length_cons, List.length_nil, List.length_modify, List.length_set, nb_len, rb_len, rbp_len, sl_len, slN_len, wh_len, wt_len, hd10_len, hdB_len, thr_len, ldp_len, ldB_len, tens_len, whz_len, majL_len, mf_len, tkL_len, ldY_len, fif_len, ldY_len]; omega) | decide)) kX9_153 vX9_number (by decide) rfl ho [0] 1 (by decide +kernel) rfl rfl rfl rfl rfl hl.1 rfl (Nat.le_of_ble_eq_true rfl) dX9_hear_34 0 0 rfl rfl (by decide) (fun v u_4 H locs hq ho => ?_)
    obtain rfl := hq
    have ho : ow D vwCl A s.heap H locs [bX K h ar ad ck a.length lo (va_up (va_up F 1 (whP (ck - 1) (F 1) 400)) 2 (wrL (F 2) 0 t_))] := ho
    refine W.eq (g2 := F0 m 37 ls [.int (nI (toN t_ 3 4))]) rfl ?_
    refine lv_istore_n (lv' := [(3, .int (nI (toN t_ 3 4))), (2, .int (bI (hOK ad t_))), (1, .int (nI d)), (0, .ref h)]) hx hb dX9_hear_37 rfl hl (by decide) rfl (fun ls hl => ?_)
    refine lv_aload_n hx hb dX9_hear_38 rfl (lv_at hl 3 rfl) ?_
    refine o_get (v := .ref (ar 2)) C ho 0 0 rfl rfl rfl 6 fX9_16 rfl dX9_hear_39 ?_
    refine lv_bipush (v := nI 8) hx hb dX9_hear_42 (by decide) ?_
    refine o_iald (v := wrL (F 2) 0 t_ 8) C ho 0 3 rfl rfl 0 rfl 8 rfl (by omega) (by omega) rfl dX9_hear_44 ?_
    refine o_top (y := bI (t_.getD 8 false)) (wrL_in0 (by omega)) ?_
    refine lv_istore (lv' := [(4, .int (bI (t_.getD 8 false))), (3, .int (nI (toN t_ 3 4))), (2, .int (bI (hOK ad t_))), (1, .int (nI d)), (0, .ref h)]) hx hb dX9_hear_45 hl (by decide) rfl (fun ls hl => ?_)
    refine lv_aload_n hx hb dX9_hear_47 rfl (lv_at hl 4 rfl) ?_
    refine o_get (v := .ref (ar 2)) C ho 0 0 rfl rfl rfl 6 fX9_16 rfl dX9_hear_48 ?_
    refine lv_bipush (v := nI 9) hx hb dX9_hear_51 (by decide) ?_
    refine o_iald (v := wrL (F 2) 0 t_ 9) C ho 0 3 rfl rfl 0 rfl 9 rfl (by omega) (by omega) rfl dX9_hear_53 ?_
    refine o_top (y := bI (t_.getD 9 false)) (wrL_in0 (by omega)) ?_
    refine lv_istore (lv' := [(5, .int (bI (t_.getD 9 false))), (4, .int (bI (t_.getD 8 false))), (3, .int (nI (toN t_ 3 4))), (2, .int (bI (hOK ad t_))), (1, .int (nI d)), (0, .ref h)]) hx hb dX9_hear_54 hl (by decide) rfl (fun ls hl => ?_)
    refine lv_iconst (v := nI 5) hx hb dX9_hear_56 (by decide) ?_
    refine lv_istore (lv' := [(6, .int (nI 5)), (5, .int (bI (t_.getD 9 false))), (4, .int (bI (t_.getD 8 false))), (3, .int (nI (toN t_ 3 4))), (2, .int (bI (hOK ad t_))), (1, .int (nI d)), (0, .ref h)]) hx hb dX9_hear_57 hl (by decide) rfl (fun ls hl => ?_)
    refine lv_iload_n hx hb dX9_hear_59 rfl (lv_at hl 4 rfl) ?_
    refine o_ifb_eq (tgt := 168) hx hb dX9_hear_60 (by decide) (fun c_5 => ?_) (fun c_5 => ?_)
    · skip
      exact absurd (qh.symm.trans c_5) (by decide)
    · skip
      refine lv_aload_n hx hb dX9_hear_63 rfl (lv_at hl 6 rfl) ?_
      refine o_get (v := .ref (ar 25)) C ho 0 0 rfl rfl rfl 29 fX9_86 rfl dX9_hear_64 ?_
      refine lv_iload_n hx hb dX9_hear_67 rfl (lv_at hl 5 rfl) ?_
      refine lv_iconst (v := nI 1) hx hb dX9_hear_68 (by decide) ?_
      refine o_top (y := bI true) (rfl) ?_
      refine o_zast (bs' := [bX K h ar ad ck a.length lo (va_up (va_up (va_up F 1 (whP (ck - 1) (F 1) 400)) 2 (wrL (F 2) 0 t_)) 25 (upd (F 25) d (bI true)))]) C ho 0 26 rfl rfl 3 rfl d rfl (by omega) (by decide) dX9_hear_69 rfl (fun H locs ho => ?_)
      refine lv_iload hx hb dX9_hear_70 (lv_at hl 2 rfl) ?_
      refine lv_iconst (v := nI 1) hx hb dX9_hear_72 (by decide) ?_
      refine o_top (y := bI true) (rfl) ?_
      refine o_icmpb_ne (tgt := 83) hx hb dX9_hear_73 (by decide) (fun c_6 => ?_) (fun c_6 => ?_)
      · skip
        have e_7 : bX K h ar ad ck a.length lo (va_up (va_up (va_up F 1 (whP (ck - 1) (F 1) 400)) 2 (wrL (F 2) 0 t_)) 25 (upd (F 25) d (bI true))) = bX K h ar ad ck a.length lo (va_up (va_up (va_up (va_up F 1 (whP (ck - 1) (F 1) 400)) 2 (wrL (F 2) 0 t_)) 25 (upd (F 25) d (bI true))) 11 (upd (F 11) d (nI (cond (t_.getD 8 false) 0 fl)))) := by rw [Bool.eq_false_iff.mpr c_6, cond_false, upd_same q11]; exact congrArg (bX K h ar ad ck a.length lo) (up_1 rfl)
        have ho : ow D vwCl A s.heap H locs [bX K h ar ad ck a.length lo (va_up (va_up (va_up (va_up F 1 (whP (ck - 1) (F 1) 400)) 2 (wrL (F 2) 0 t_)) 25 (upd (F 25) d (bI true))) 11 (upd (F 11) d (nI (cond (t_.getD 8 false) 0 fl))))] := by rw [← e_7]; exact ho
        refine lv_iload_n hx hb dX9_hear_83 rfl (lv_at hl 3 rfl) ?_
        refine lv_iconst (v := nI 3) hx hb dX9_hear_84 (by decide) ?_
        refine o_icmp_ge (tgt := 93) hx hb dX9_hear_85 (by decide) (by first | omega | exact and1_lt _) (by first | omega | exact and1_lt _) (fun c_8 => ?_) (fun c_8 => ?_)
        · skip
          refine lv_aload_n hx hb dX9_hear_93 rfl (lv_at hl 6 rfl) ?_
          refine lv_iload_n hx hb dX9_hear_94 rfl (lv_at hl 5 rfl) ?_
          refine lv_iload_n hx hb dX9_hear_95 rfl (lv_at hl 3 rfl) ?_
          refine o_callV (wr := []) (rest := []) (As := [.int (nI d), .int (nI (toN t_ 3 4))]) C (c_M_loadGood la D K h ar ad ck lo (va_up (va_up (va_up (va_up F 1 (whP (ck - 1) (F 1) 400)) 2 (wrL (F 2) 0 t_)) 25 (upd (F 25) d (bI true))) 11 (upd (F 11) d (nI (cond (t_.getD 8 false) 0 fl)))) d a (ck - 1) co (toN t_ 3 4) (by first | omega | assumption | (simp only [List.length_append, List.length_cons, List.length_nil, List.length_modify, List.length_set, nb_len, rb_len, rbp_len, sl_len, slN_len, wh_len, wt_len, hd10_len, hdB_len, thr_len, ldp_len, ldB_len, tens_len, whz_len, majL_len, mf_len, tkL_len, ldY_len, fif_len, ldY_len]; omega) | decide) qa (fun i hi => whP_in hi) (by first | omega | assumption | (simp only [List.length_append, List.length_cons, List.length_nil, List.length_modify, List.length_set, nb_len, rb_len, rbp_len, sl_len, slN_len, wh_len, wt_len, hd10_len, hdB_len, thr_len, ldp_len, ldB_len, tens_len, whz_len, majL_len, mf_len, tkL_len, ldY_len, fif_len, ldY_len]; omega) | decide) (by first | omega | assumption | (simp only [List.length_append, List.length_cons, List.length_nil, List.length_modify, List.length_set, nb_len, rb_len, rbp_len, sl_len, slN_len, wh_len, wt_len, hd10_len, hdB_len, thr_len, ldp_len, ldB_len, tens_len, whz_len, majL_len, mf_len, tkL_len, ldY_len, fif_len, ldY_len]; omega) | decide) q27 qk34) kX9_172 vX9_loadGood (by decide) rfl ho [0] 1 (by decide +kernel) rfl rfl rfl rfl rfl hl.1 rfl (Nat.le_of_ble_eq_true rfl) dX9_hear_96 0 0 rfl rfl (by decide) (fun v u_9 H locs hq ho => ?_)
          obtain rfl := hq
          have ho : ow D vwCl A s.heap H locs [bX K h ar ad ck a.length (15 + (ldl (toN t_ 3 4) (ck - 1) a).length) (va_up (va_up (va_up (va_up (va_up (va_up F 1 (whP (ck - 1) (F 1) 400)) 2 (wrL (F 2) 0 t_)) 25 (upd (F 25) d (bI true))) 11 (upd (F 11) d (nI (cond (t_.getD 8 false) 0 fl)))) 2 (wrL u_9 15 (ldl (toN t_ 3 4) (ck - 1) a))) 27 (upd (F 27) d (nI (co + ldn (toN t_ 3 4) a))))] := ho
          refine W.eq (g2 := F0 m 99 ls [.int (bI (lds (toN t_ 3 4) a && ldOK (ldl (toN t_ 3 4) (ck - 1) a)))]) rfl ?_
          have e_10 : bX K h ar ad ck a.length (15 + (ldl (toN t_ 3 4) (ck - 1) a).length) (va_up (va_up (va_up (va_up (va_up (va_up F 1 (whP (ck - 1) (F 1) 400)) 2 (wrL (F 2) 0 t_)) 25 (upd (F 25) d (bI true))) 11 (upd (F 11) d (nI (cond (t_.getD 8 false) 0 fl)))) 2 (wrL u_9 15 (ldl (toN t_ 3 4) (ck - 1) a))) 27 (upd (F 27) d (nI (co + ldn (toN t_ 3 4) a)))) = bX K h ar ad ck a.length (15 + l.length) (va_up (va_up (va_up (va_up (va_up (va_up F 1 (whP (ck - 1) (F 1) 400)) 2 (wrL (F 2) 0 t_)) 25 (upd (F 25) d (bI true))) 11 (upd (F 11) d (nI (cond (t_.getD 8 false) 0 fl)))) 2 (wrL u_9 15 l)) 27 (upd (F 27) d (nI (co + ldn (toN t_ 3 4) a)))) := by rw [qlx]
          have ho : ow D vwCl A s.heap H locs [bX K h ar ad ck a.length (15 + l.length) (va_up (va_up (va_up (va_up (va_up (va_up F 1 (whP (ck - 1) (F 1) 400)) 2 (wrL (F 2) 0 t_)) 25 (upd (F 25) d (bI true))) 11 (upd (F 11) d (nI (cond (t_.getD 8 false) 0 fl)))) 2 (wrL u_9 15 l)) 27 (upd (F 27) d (nI (co + ldn (toN t_ 3 4) a))))] := by rw [← e_10]; exact ho
          refine o_ifb_eq (tgt := 123) hx hb dX9_hear_99 (by decide) (fun c_11 => ?_) (fun c_11 => ?_)
          · skip
            refine lv_bipush (v := nI 7) hx hb dX9_hear_123 (by decide) ?_
            refine lv_istore (lv' := [(6, .int (nI 7)), (5, .int (bI (t_.getD 9 false))), (4, .int (bI (t_.getD 8 false))), (3, .int (nI (toN t_ 3 4))), (2, .int (bI (hOK ad t_))), (1, .int (nI d)), (0, .ref h)]) hx hb dX9_hear_125 hl (by decide) rfl (fun ls hl => ?_)
            refine lv_iload hx hb dX9_hear_127 (lv_at hl 0 rfl) ?_
            refine lv_bipush (v := nI 6) hx hb dX9_hear_129 (by decide) ?_
            refine o_icmp_eq (tgt := 141) hx hb dX9_hear_131 (by decide) (by decide) (by decide) (fun c9 => absurd c9 (by decide)) (fun _ => ?_)
            refine lv_iload hx hb dX9_hear_134 (lv_at hl 0 rfl) ?_
            refine lv_bipush (v := nI 8) hx hb dX9_hear_136 (by decide) ?_
            refine o_icmp_ne (tgt := 148) hx hb dX9_hear_138 (by decide) (by decide) (by decide) (fun _ => ?_) (fun c9 => absurd c9 (by decide))
            refine lv_iload hx hb dX9_hear_148 (lv_at hl 0 rfl) ?_
            refine lv_bipush (v := nI 6) hx hb dX9_hear_150 (by decide) ?_
            refine o_icmp_ne (tgt := 168) hx hb dX9_hear_152 (by decide) (by decide) (by decide) (fun _ => ?_) (fun c9 => absurd c9 (by decide))
            refine lv_aload_n hx hb dX9_hear_168 rfl (lv_at hl 6 rfl) ?_
            refine lv_iconst (v := nI 0) hx hb dX9_hear_169 (by decide) ?_
            refine o_put (v := .int (nI 0)) (bs' := [bX K h ar ad ck 0 (15 + l.length) (va_up (va_up (va_up (va_up (va_up (va_up F 1 (whP (ck - 1) (F 1) 400)) 2 (wrL (F 2) 0 t_)) 25 (upd (F 25) d (bI true))) 11 (upd (F 11) d (nI (cond (t_.getD 8 false) 0 fl)))) 2 (wrL u_9 15 l)) 27 (upd (F 27) d (nI (co + ldn (toN t_ 3 4) a))))]) C ho 0 0 rfl rfl rfl 2 fX9_122 pX9_2 rfl rfl (Nat.le_of_ble_eq_true rfl) dX9_hear_170 rfl (fun H locs ho => ?_)
            refine lv_iload hx hb dX9_hear_173 (lv_at hl 0 rfl) ?_
            exact o_iret hQ C rfl ho u_9 rfl rfl (Nat.le_of_ble_eq_true rfl) (Nat.le_of_ble_eq_true rfl) dX9_hear_175
          · skip
            exact absurd (qok.symm.trans c_11) (by decide)
        · skip
          exact absurd c_8 (by omega)
      · skip
        refine lv_aload_n hx hb dX9_hear_76 rfl (lv_at hl 6 rfl) ?_
        refine o_get (v := .ref (ar 11)) C ho 0 0 rfl rfl rfl 15 fX9_43 rfl dX9_hear_77 ?_
        refine lv_iload_n hx hb dX9_hear_80 rfl (lv_at hl 5 rfl) ?_
        refine lv_iconst (v := nI 0) hx hb dX9_hear_81 (by decide) ?_
        refine o_iast (bs' := [bX K h ar ad ck a.length lo (va_up (va_up (va_up (va_up F 1 (whP (ck - 1) (F 1) 400)) 2 (wrL (F 2) 0 t_)) 25 (upd (F 25) d (bI true))) 11 (upd (F 11) d (nI 0)))]) C ho 0 12 rfl rfl 0 rfl d rfl (by omega) (by decide) dX9_hear_82 rfl (fun H locs ho => ?_)
        have e_12 : bX K h ar ad ck a.length lo (va_up (va_up (va_up (va_up F 1 (whP (ck - 1) (F 1) 400)) 2 (wrL (F 2) 0 t_)) 25 (upd (F 25) d (bI true))) 11 (upd (F 11) d (nI 0))) = bX K h ar ad ck a.length lo (va_up (va_up (va_up (va_up F 1 (whP (ck - 1) (F 1) 400)) 2 (wrL (F 2) 0 t_)) 25 (upd (F 25) d (bI true))) 11 (upd (F 11) d (nI (cond (t_.getD 8 false) 0 fl)))) := by rw [c_6, cond_true]
        have ho : ow D vwCl A s.heap H locs [bX K h ar ad ck a.length lo (va_up (va_up (va_up (va_up F 1 (whP (ck - 1) (F 1) 400)) 2 (wrL (F 2) 0 t_)) 25 (upd (F 25) d (bI true))) 11 (upd (F 11) d (nI (cond (t_.getD 8 false) 0 fl))))] := by rw [← e_12]; exact ho
        refine lv_iload_n hx hb dX9_hear_83 rfl (lv_at hl 3 rfl) ?_
        refine lv_iconst (v := nI 3) hx hb dX9_hear_84 (by decide) ?_
        refine o_icmp_ge (tgt := 93) hx hb dX9_hear_85 (by decide) (by first | omega | exact and1_lt _) (by first | omega | exact and1_lt _) (fun c_13 => ?_) (fun c_13 => ?_)
        · skip
          refine lv_aload_n hx hb dX9_hear_93 rfl (lv_at hl 6 rfl) ?_
          refine lv_iload_n hx hb dX9_hear_94 rfl (lv_at hl 5 rfl) ?_
          refine lv_iload_n hx hb dX9_hear_95 rfl (lv_at hl 3 rfl) ?_
          refine o_callV (wr := []) (rest := []) (As := [.int (nI d), .int (nI (toN t_ 3 4))]) C (c_M_loadGood la D K h ar ad ck lo (va_up (va_up (va_up (va_up F 1 (whP (ck - 1) (F 1) 400)) 2 (wrL (F 2) 0 t_)) 25 (upd (F 25) d (bI true))) 11 (upd (F 11) d (nI (cond (t_.getD 8 false) 0 fl)))) d a (ck - 1) co (toN t_ 3 4) (by first | omega | assumption | (simp only [List.length_append, List.length_cons, List.length_nil, List.length_modify, List.length_set, nb_len, rb_len, rbp_len, sl_len, slN_len, wh_len, wt_len, hd10_len, hdB_len, thr_len, ldp_len, ldB_len, tens_len, whz_len, majL_len, mf_len, tkL_len, ldY_len, fif_len, ldY_len]; omega) | decide) qa (fun i hi => whP_in hi) (by first | omega | assumption | (simp only [List.length_append, List.length_cons, List.length_nil, List.length_modify, List.length_set, nb_len, rb_len, rbp_len, sl_len, slN_len, wh_len, wt_len, hd10_len, hdB_len, thr_len, ldp_len, ldB_len, tens_len, whz_len, majL_len, mf_len, tkL_len, ldY_len, fif_len, ldY_len]; omega) | decide) (by first | omega | assumption | (simp only [List.length_append, List.length_cons, List.length_nil, List.length_modify, List.length_set, nb_len, rb_len, rbp_len, sl_len, slN_len, wh_len, wt_len, hd10_len, hdB_len, thr_len, ldp_len, ldB_len, tens_len, whz_len, majL_len, mf_len, tkL_len, ldY_len, fif_len, ldY_len]; omega) | decide) q27 qk34) kX9_172 vX9_loadGood (by decide) rfl ho [0] 1 (by decide +kernel) rfl rfl rfl rfl rfl hl.1 rfl (Nat.le_of_ble_eq_true rfl) dX9_hear_96 0 0 rfl rfl (by decide) (fun v u_14 H locs hq ho => ?_)
          obtain rfl := hq
          have ho : ow D vwCl A s.heap H locs [bX K h ar ad ck a.length (15 + (ldl (toN t_ 3 4) (ck - 1) a).length) (va_up (va_up (va_up (va_up (va_up (va_up F 1 (whP (ck - 1) (F 1) 400)) 2 (wrL (F 2) 0 t_)) 25 (upd (F 25) d (bI true))) 11 (upd (F 11) d (nI (cond (t_.getD 8 false) 0 fl)))) 2 (wrL u_14 15 (ldl (toN t_ 3 4) (ck - 1) a))) 27 (upd (F 27) d (nI (co + ldn (toN t_ 3 4) a))))] := ho
          refine W.eq (g2 := F0 m 99 ls [.int (bI (lds (toN t_ 3 4) a && ldOK (ldl (toN t_ 3 4) (ck - 1) a)))]) rfl ?_
          have e_15 : bX K h ar ad ck a.length (15 + (ldl (toN t_ 3 4) (ck - 1) a).length) (va_up (va_up (va_up (va_up (va_up (va_up F 1 (whP (ck - 1) (F 1) 400)) 2 (wrL (F 2) 0 t_)) 25 (upd (F 25) d (bI true))) 11 (upd (F 11) d (nI (cond (t_.getD 8 false) 0 fl)))) 2 (wrL u_14 15 (ldl (toN t_ 3 4) (ck - 1) a))) 27 (upd (F 27) d (nI (co + ldn (toN t_ 3 4) a)))) = bX K h ar ad ck a.length (15 + l.length) (va_up (va_up (va_up (va_up (va_up (va_up F 1 (whP (ck - 1) (F 1) 400)) 2 (wrL (F 2) 0 t_)) 25 (upd (F 25) d (bI true))) 11 (upd (F 11) d (nI (cond (t_.getD 8 false) 0 fl)))) 2 (wrL u_14 15 l)) 27 (upd (F 27) d (nI (co + ldn (toN t_ 3 4) a)))) := by rw [qlx]
          have ho : ow D vwCl A s.heap H locs [bX K h ar ad ck a.length (15 + l.length) (va_up (va_up (va_up (va_up (va_up (va_up F 1 (whP (ck - 1) (F 1) 400)) 2 (wrL (F 2) 0 t_)) 25 (upd (F 25) d (bI true))) 11 (upd (F 11) d (nI (cond (t_.getD 8 false) 0 fl)))) 2 (wrL u_14 15 l)) 27 (upd (F 27) d (nI (co + ldn (toN t_ 3 4) a))))] := by rw [← e_15]; exact ho
          refine o_ifb_eq (tgt := 123) hx hb dX9_hear_99 (by decide) (fun c_16 => ?_) (fun c_16 => ?_)
          · skip
            refine lv_bipush (v := nI 7) hx hb dX9_hear_123 (by decide) ?_
            refine lv_istore (lv' := [(6, .int (nI 7)), (5, .int (bI (t_.getD 9 false))), (4, .int (bI (t_.getD 8 false))), (3, .int (nI (toN t_ 3 4))), (2, .int (bI (hOK ad t_))), (1, .int (nI d)), (0, .ref h)]) hx hb dX9_hear_125 hl (by decide) rfl (fun ls hl => ?_)
            refine lv_iload hx hb dX9_hear_127 (lv_at hl 0 rfl) ?_
            refine lv_bipush (v := nI 6) hx hb dX9_hear_129 (by decide) ?_
            refine o_icmp_eq (tgt := 141) hx hb dX9_hear_131 (by decide) (by decide) (by decide) (fun c9 => absurd c9 (by decide)) (fun _ => ?_)
            refine lv_iload hx hb dX9_hear_134 (lv_at hl 0 rfl) ?_
            refine lv_bipush (v := nI 8) hx hb dX9_hear_136 (by decide) ?_
            refine o_icmp_ne (tgt := 148) hx hb dX9_hear_138 (by decide) (by decide) (by decide) (fun _ => ?_) (fun c9 => absurd c9 (by decide))
            refine lv_iload hx hb dX9_hear_148 (lv_at hl 0 rfl) ?_
            refine lv_bipush (v := nI 6) hx hb dX9_hear_150 (by decide) ?_
            refine o_icmp_ne (tgt := 168) hx hb dX9_hear_152 (by decide) (by decide) (by decide) (fun _ => ?_) (fun c9 => absurd c9 (by decide))
            refine lv_aload_n hx hb dX9_hear_168 rfl (lv_at hl 6 rfl) ?_
            refine lv_iconst (v := nI 0) hx hb dX9_hear_169 (by decide) ?_
            refine o_put (v := .int (nI 0)) (bs' := [bX K h ar ad ck 0 (15 + l.length) (va_up (va_up (va_up (va_up (va_up (va_up F 1 (whP (ck - 1) (F 1) 400)) 2 (wrL (F 2) 0 t_)) 25 (upd (F 25) d (bI true))) 11 (upd (F 11) d (nI (cond (t_.getD 8 false) 0 fl)))) 2 (wrL u_14 15 l)) 27 (upd (F 27) d (nI (co + ldn (toN t_ 3 4) a))))]) C ho 0 0 rfl rfl rfl 2 fX9_122 pX9_2 rfl rfl (Nat.le_of_ble_eq_true rfl) dX9_hear_170 rfl (fun H locs ho => ?_)
            refine lv_iload hx hb dX9_hear_173 (lv_at hl 0 rfl) ?_
            exact o_iret hQ C rfl ho u_14 rfl rfl (Nat.le_of_ble_eq_true rfl) (Nat.le_of_ble_eq_true rfl) dX9_hear_175
          · skip
            exact absurd (qok.symm.trans c_16) (by decide)
        · skip
          exact absurd c_13 (by omega)
  · skip
    exact absurd c_1 (by omega)

set_option maxHeartbeats 4000000 in
set_option maxRecDepth 100000 in
theorem c_M_hear8 (la : Launch) (D : va_G) (K : Nat → ClassId) (h : Nat) (ar : Nat → Nat) (ad : Nat) (ck : Nat) (lo : Nat) (F : Nat → Nat → Int32) (d : Nat) (a : List Bool) (t_ : List Bool) (fl : Nat) (co : Nat) (l : List Bool) (lt_ : Bool) (qd : ck % 2 = d) (qck : ck < 2 ^ 29) (qk1 : 1 ≤ ck) (qad : ad < 8) (qa : ∀ i, i < a.length → F 0 i = bI (a.getD i false)) (qal : 54 ≤ a.length) (qal2 : a.length ≤ 204) (qtl : t_.length = 18) (qth : ∀ i, i < 18 → t_.getD i false = (maj (a.getD (3 * i) false) (a.getD (3 * i + 1) false) (a.getD (3 * i + 2) false) ^^ wb (ck - 1) i)) (qh : hOK ad t_ = true) (q11 : F 11 d = nI fl) (qk34 : toN t_ 3 4 = 3 ∨ toN t_ 3 4 = 4) (q27 : F 27 d = nI co) (qlx : ldl (toN t_ 3 4) (ck - 1) a = l) (qok : (lds (toN t_ 3 4) a && ldOK (ldl (toN t_ 3 4) (ck - 1) a)) = true) (q23 : F 23 d = bI lt_) (qtt : t_.getD 9 false = lt_) : MT la D K yX9_hear cX9_hear 7 (some .int) (rmL 7 0 0) [.ref h] [bX K h ar ad ck a.length lo F] (Nat → Int32) (fun v _ => v = some (.int (nI 8))) (fun u => [bX K h ar ad ck 0 (15 + l.length) (va_up (va_up (va_up (va_up (va_up (va_up (va_up F 1 (whP (ck - 1) (F 1) 400)) 2 (wrL (F 2) 0 t_)) 25 (upd (F 25) d (bI true))) 11 (upd (F 11) d (nI (cond (t_.getD 8 false) 0 fl)))) 2 (wrL u 15 l)) 27 (upd (F 27) d (nI (co + ldn (toN t_ 3 4) a)))) 24 (upd (F 24) d (bI true)))]) := by
  refine Mt.ofW [(0, .ref h)] (by decide) rfl (Nat.le_of_ble_eq_true rfl) ?_
  intro p e s m args below meth c A ls H locs Qz hQ C hin hl ho
  have hx := C.1.1
  have hb := C.1.2.1
  refine lv_aload_n hx hb dX9_hear_0 rfl (lv_at hl 0 rfl) ?_
  refine o_get (v := .int (nI a.length)) C ho 0 0 rfl rfl rfl 2 fX9_122 rfl dX9_hear_1 ?_
  refine o_if_ne (tgt := 9) hx hb dX9_hear_4 (by decide) (by omega) (fun c_1 => ?_) (fun c_1 => ?_)
  · skip
    refine lv_aload_n hx hb dX9_hear_9 rfl (lv_at hl 0 rfl) ?_
    refine o_get (v := .int (nI ck)) C ho 0 0 rfl rfl rfl 1 fX9_131 rfl dX9_hear_10 ?_
    refine lv_iconst (v := nI 1) hx hb dX9_hear_13 (by decide) ?_
    refine o_and hx hb dX9_hear_14 ?_
    refine o_top (y := nI d) (by rw [Nat.and_one_is_mod, qd]) ?_
    have q2d : d < 2 := by omega
    have ht4 := toN_lt t_ 3 4
    refine lv_istore_n (lv' := [(1, .int (nI d)), (0, .ref h)]) hx hb dX9_hear_15 rfl hl (by decide) rfl (fun ls hl => ?_)
    refine lv_aload_n hx hb dX9_hear_16 rfl (lv_at hl 1 rfl) ?_
    refine lv_aload_n hx hb dX9_hear_17 rfl (lv_at hl 1 rfl) ?_
    refine o_get (v := .int (nI ck)) C ho 0 0 rfl rfl rfl 1 fX9_131 rfl dX9_hear_18 ?_
    refine lv_iconst (v := nI 1) hx hb dX9_hear_21 (by decide) ?_
    refine o_sub hx hb dX9_hear_22 (by omega) ?_
    refine o_callV (wr := []) (rest := []) (As := [.int (nI (ck - 1))]) C (c_M_whiten la D K h ar ad ck a.length lo F (ck - 1) (by first | omega | assumption | (simp only [List.length_append, List.length_cons, List.length_nil, List.length_modify, List.length_set, nb_len, rb_len, rbp_len, sl_len, slN_len, wh_len, wt_len, hd10_len, hdB_len, thr_len, ldp_len, ldB_len, tens_len, whz_len, majL_len, mf_len, tkL_len, ldY_len, fif_len, ldY_len]; omega) | decide)) kX9_134 vX9_whiten (by decide) rfl ho [0] 1 (by decide +kernel) rfl rfl rfl rfl rfl hl.1 rfl (Nat.le_of_ble_eq_true rfl) dX9_hear_23 0 0 rfl rfl (by decide) (fun v u_2 H locs hq ho => ?_)
    obtain rfl := hq
    have ho : ow D vwCl A s.heap H locs [bX K h ar ad ck a.length lo (va_up F 1 (whP (ck - 1) (F 1) 400))] := ho
    refine W.eq (g2 := F0 m 26 ls []) rfl ?_
    refine lv_aload_n hx hb dX9_hear_26 rfl (lv_at hl 1 rfl) ?_
    refine o_callV (wr := []) (rest := []) (As := []) C (c_M_headGood la D K h ar ad ck a.length lo (va_up F 1 (whP (ck - 1) (F 1) 400)) a (ck - 1) t_ qa (fun i hi => whP_in hi) qtl qth (by first | omega | assumption | (simp only [List.length_append, List.length_cons, List.length_nil, List.length_modify, List.length_set, nb_len, rb_len, rbp_len, sl_len, slN_len, wh_len, wt_len, hd10_len, hdB_len, thr_len, ldp_len, ldB_len, tens_len, whz_len, majL_len, mf_len, tkL_len, ldY_len, fif_len, ldY_len]; omega) | decide) (by first | omega | assumption | (simp only [List.length_append, List.length_cons, List.length_nil, List.length_modify, List.length_set, nb_len, rb_len, rbp_len, sl_len, slN_len, wh_len, wt_len, hd10_len, hdB_len, thr_len, ldp_len, ldB_len, tens_len, whz_len, majL_len, mf_len, tkL_len, ldY_len, fif_len, ldY_len]; omega) | decide)) kX9_168 vX9_headGood (by decide) rfl ho [0] 1 (by decide +kernel) rfl rfl rfl rfl rfl hl.1 rfl (Nat.le_of_ble_eq_true rfl) dX9_hear_27 0 0 rfl rfl (by decide) (fun v u_3 H locs hq ho => ?_)
    obtain rfl := hq
    have ho : ow D vwCl A s.heap H locs [bX K h ar ad ck a.length lo (va_up (va_up F 1 (whP (ck - 1) (F 1) 400)) 2 (wrL (F 2) 0 t_))] := ho
    refine W.eq (g2 := F0 m 30 ls [.int (bI (hOK ad t_))]) rfl ?_
    refine lv_istore_n (lv' := [(2, .int (bI (hOK ad t_))), (1, .int (nI d)), (0, .ref h)]) hx hb dX9_hear_30 rfl hl (by decide) rfl (fun ls hl => ?_)
    refine lv_aload_n hx hb dX9_hear_31 rfl (lv_at hl 2 rfl) ?_
    refine lv_iconst (v := nI 3) hx hb dX9_hear_32 (by decide) ?_
    refine lv_iconst (v := nI 4) hx hb dX9_hear_33 (by decide) ?_
    refine o_callV (wr := []) (rest := []) (As := [.int (nI 3), .int (nI 4)]) C (c_M_number la D K h ar ad ck a.length lo (va_up (va_up F 1 (whP (ck - 1) (F 1) 400)) 2 (wrL (F 2) 0 t_)) 3 4 t_ 3 (fun i hi => rd2 (by omega) hi) (by first | omega | assumption | (simp only [List.length_append, List.length_cons, List.length_nil, List.length_modify, List.length_set, nb_len, rb_len, rbp_len, sl_len, slN_len, wh_len, wt_len, hd10_len, hdB_len, thr_len, ldp_len, ldB_len, tens_len, whz_len, majL_len, mf_len, tkL_len, ldY_len, fif_len, ldY_len]; omega) | decide) (by first | omega | assumption | (simp only [List.length_append, List.length_cons, List.length_nil, List.length_modify, List.length_set, nb_len, rb_len, rbp_len, sl_len, slN_len, wh_len, wt_len, hd10_len, hdB_len, thr_len, ldp_len, ldB_len, tens_len, whz_len, majL_len, mf_len, tkL_len, ldY_len, fif_len, ldY_len]; omega) | decide)) kX9_153 vX9_number (by decide) rfl ho [0] 1 (by decide +kernel) rfl rfl rfl rfl rfl hl.1 rfl (Nat.le_of_ble_eq_true rfl) dX9_hear_34 0 0 rfl rfl (by decide) (fun v u_4 H locs hq ho => ?_)
    obtain rfl := hq
    have ho : ow D vwCl A s.heap H locs [bX K h ar ad ck a.length lo (va_up (va_up F 1 (whP (ck - 1) (F 1) 400)) 2 (wrL (F 2) 0 t_))] := ho
    refine W.eq (g2 := F0 m 37 ls [.int (nI (toN t_ 3 4))]) rfl ?_
    refine lv_istore_n (lv' := [(3, .int (nI (toN t_ 3 4))), (2, .int (bI (hOK ad t_))), (1, .int (nI d)), (0, .ref h)]) hx hb dX9_hear_37 rfl hl (by decide) rfl (fun ls hl => ?_)
    refine lv_aload_n hx hb dX9_hear_38 rfl (lv_at hl 3 rfl) ?_
    refine o_get (v := .ref (ar 2)) C ho 0 0 rfl rfl rfl 6 fX9_16 rfl dX9_hear_39 ?_
    refine lv_bipush (v := nI 8) hx hb dX9_hear_42 (by decide) ?_
    refine o_iald (v := wrL (F 2) 0 t_ 8) C ho 0 3 rfl rfl 0 rfl 8 rfl (by omega) (by omega) rfl dX9_hear_44 ?_
    refine o_top (y := bI (t_.getD 8 false)) (wrL_in0 (by omega)) ?_
    refine lv_istore (lv' := [(4, .int (bI (t_.getD 8 false))), (3, .int (nI (toN t_ 3 4))), (2, .int (bI (hOK ad t_))), (1, .int (nI d)), (0, .ref h)]) hx hb dX9_hear_45 hl (by decide) rfl (fun ls hl => ?_)
    refine lv_aload_n hx hb dX9_hear_47 rfl (lv_at hl 4 rfl) ?_
    refine o_get (v := .ref (ar 2)) C ho 0 0 rfl rfl rfl 6 fX9_16 rfl dX9_hear_48 ?_
    refine lv_bipush (v := nI 9) hx hb dX9_hear_51 (by decide) ?_
    refine o_iald (v := wrL (F 2) 0 t_ 9) C ho 0 3 rfl rfl 0 rfl 9 rfl (by omega) (by omega) rfl dX9_hear_53 ?_
    refine o_top (y := bI (t_.getD 9 false)) (wrL_in0 (by omega)) ?_
    refine lv_istore (lv' := [(5, .int (bI (t_.getD 9 false))), (4, .int (bI (t_.getD 8 false))), (3, .int (nI (toN t_ 3 4))), (2, .int (bI (hOK ad t_))), (1, .int (nI d)), (0, .ref h)]) hx hb dX9_hear_54 hl (by decide) rfl (fun ls hl => ?_)
    refine lv_iconst (v := nI 5) hx hb dX9_hear_56 (by decide) ?_
    refine lv_istore (lv' := [(6, .int (nI 5)), (5, .int (bI (t_.getD 9 false))), (4, .int (bI (t_.getD 8 false))), (3, .int (nI (toN t_ 3 4))), (2, .int (bI (hOK ad t_))), (1, .int (nI d)), (0, .ref h)]) hx hb dX9_hear_57 hl (by decide) rfl (fun ls hl => ?_)
    refine lv_iload_n hx hb dX9_hear_59 rfl (lv_at hl 4 rfl) ?_
    refine o_ifb_eq (tgt := 168) hx hb dX9_hear_60 (by decide) (fun c_5 => ?_) (fun c_5 => ?_)
    · skip
      exact absurd (qh.symm.trans c_5) (by decide)
    · skip
      refine lv_aload_n hx hb dX9_hear_63 rfl (lv_at hl 6 rfl) ?_
      refine o_get (v := .ref (ar 25)) C ho 0 0 rfl rfl rfl 29 fX9_86 rfl dX9_hear_64 ?_
      refine lv_iload_n hx hb dX9_hear_67 rfl (lv_at hl 5 rfl) ?_
      refine lv_iconst (v := nI 1) hx hb dX9_hear_68 (by decide) ?_
      refine o_top (y := bI true) (rfl) ?_
      refine o_zast (bs' := [bX K h ar ad ck a.length lo (va_up (va_up (va_up F 1 (whP (ck - 1) (F 1) 400)) 2 (wrL (F 2) 0 t_)) 25 (upd (F 25) d (bI true)))]) C ho 0 26 rfl rfl 3 rfl d rfl (by omega) (by decide) dX9_hear_69 rfl (fun H locs ho => ?_)
      refine lv_iload hx hb dX9_hear_70 (lv_at hl 2 rfl) ?_
      refine lv_iconst (v := nI 1) hx hb dX9_hear_72 (by decide) ?_
      refine o_top (y := bI true) (rfl) ?_
      refine o_icmpb_ne (tgt := 83) hx hb dX9_hear_73 (by decide) (fun c_6 => ?_) (fun c_6 => ?_)
      · skip
        have e_7 : bX K h ar ad ck a.length lo (va_up (va_up (va_up F 1 (whP (ck - 1) (F 1) 400)) 2 (wrL (F 2) 0 t_)) 25 (upd (F 25) d (bI true))) = bX K h ar ad ck a.length lo (va_up (va_up (va_up (va_up F 1 (whP (ck - 1) (F 1) 400)) 2 (wrL (F 2) 0 t_)) 25 (upd (F 25) d (bI true))) 11 (upd (F 11) d (nI (cond (t_.getD 8 false) 0 fl)))) := by rw [Bool.eq_false_iff.mpr c_6, cond_false, upd_same q11]; exact congrArg (bX K h ar ad ck a.length lo) (up_1 rfl)
        have ho : ow D vwCl A s.heap H locs [bX K h ar ad ck a.length lo (va_up (va_up (va_up (va_up F 1 (whP (ck - 1) (F 1) 400)) 2 (wrL (F 2) 0 t_)) 25 (upd (F 25) d (bI true))) 11 (upd (F 11) d (nI (cond (t_.getD 8 false) 0 fl))))] := by rw [← e_7]; exact ho
        refine lv_iload_n hx hb dX9_hear_83 rfl (lv_at hl 3 rfl) ?_
        refine lv_iconst (v := nI 3) hx hb dX9_hear_84 (by decide) ?_
        refine o_icmp_ge (tgt := 93) hx hb dX9_hear_85 (by decide) (by first | omega | exact and1_lt _) (by first | omega | exact and1_lt _) (fun c_8 => ?_) (fun c_8 => ?_)
        · skip
          refine lv_aload_n hx hb dX9_hear_93 rfl (lv_at hl 6 rfl) ?_
          refine lv_iload_n hx hb dX9_hear_94 rfl (lv_at hl 5 rfl) ?_
          refine lv_iload_n hx hb dX9_hear_95 rfl (lv_at hl 3 rfl) ?_
          refine o_callV (wr := []) (rest := []) (As := [.int (nI d), .int (nI (toN t_ 3 4))]) C (c_M_loadGood la D K h ar ad ck lo (va_up (va_up (va_up (va_up F 1 (whP (ck - 1) (F 1) 400)) 2 (wrL (F 2) 0 t_)) 25 (upd (F 25) d (bI true))) 11 (upd (F 11) d (nI (cond (t_.getD 8 false) 0 fl)))) d a (ck - 1) co (toN t_ 3 4) (by first | omega | assumption | (simp only [List.length_append, List.length_cons, List.length_nil, List.length_modify, List.length_set, nb_len, rb_len, rbp_len, sl_len, slN_len, wh_len, wt_len, hd10_len, hdB_len, thr_len, ldp_len, ldB_len, tens_len, whz_len, majL_len, mf_len, tkL_len, ldY_len, fif_len, ldY_len]; omega) | decide) qa (fun i hi => whP_in hi) (by first | omega | assumption | (simp only [List.length_append, List.length_cons, List.length_nil, List.length_modify, List.length_set, nb_len, rb_len, rbp_len, sl_len, slN_len, wh_len, wt_len, hd10_len, hdB_len, thr_len, ldp_len, ldB_len, tens_len, whz_len, majL_len, mf_len, tkL_len, ldY_len, fif_len, ldY_len]; omega) | decide) (by first | omega | assumption | (simp only [List.length_append, List.length_cons, List.length_nil, List.length_modify, List.length_set, nb_len, rb_len, rbp_len, sl_len, slN_len, wh_len, wt_len, hd10_len, hdB_len, thr_len, ldp_len, ldB_len, tens_len, whz_len, majL_len, mf_len, tkL_len, ldY_len, fif_len, ldY_len]; omega) | decide) q27 qk34) kX9_172 vX9_loadGood (by decide) rfl ho [0] 1 (by decide +kernel) rfl rfl rfl rfl rfl hl.1 rfl (Nat.le_of_ble_eq_true rfl) dX9_hear_96 0 0 rfl rfl (by decide) (fun v u_9 H locs hq ho => ?_)
          obtain rfl := hq
          have ho : ow D vwCl A s.heap H locs [bX K h ar ad ck a.length (15 + (ldl (toN t_ 3 4) (ck - 1) a).length) (va_up (va_up (va_up (va_up (va_up (va_up F 1 (whP (ck - 1) (F 1) 400)) 2 (wrL (F 2) 0 t_)) 25 (upd (F 25) d (bI true))) 11 (upd (F 11) d (nI (cond (t_.getD 8 false) 0 fl)))) 2 (wrL u_9 15 (ldl (toN t_ 3 4) (ck - 1) a))) 27 (upd (F 27) d (nI (co + ldn (toN t_ 3 4) a))))] := ho
          refine W.eq (g2 := F0 m 99 ls [.int (bI (lds (toN t_ 3 4) a && ldOK (ldl (toN t_ 3 4) (ck - 1) a)))]) rfl ?_
          have e_10 : bX K h ar ad ck a.length (15 + (ldl (toN t_ 3 4) (ck - 1) a).length) (va_up (va_up (va_up (va_up (va_up (va_up F 1 (whP (ck - 1) (F 1) 400)) 2 (wrL (F 2) 0 t_)) 25 (upd (F 25) d (bI true))) 11 (upd (F 11) d (nI (cond (t_.getD 8 false) 0 fl)))) 2 (wrL u_9 15 (ldl (toN t_ 3 4) (ck - 1) a))) 27 (upd (F 27) d (nI (co + ldn (toN t_ 3 4) a)))) = bX K h ar ad ck a.length (15 + l.length) (va_up (va_up (va_up (va_up (va_up (va_up F 1 (whP (ck - 1) (F 1) 400)) 2 (wrL (F 2) 0 t_)) 25 (upd (F 25) d (bI true))) 11 (upd (F 11) d (nI (cond (t_.getD 8 false) 0 fl)))) 2 (wrL u_9 15 l)) 27 (upd (F 27) d (nI (co + ldn (toN t_ 3 4) a)))) := by rw [qlx]
          have ho : ow D vwCl A s.heap H locs [bX K h ar ad ck a.length (15 + l.length) (va_up (va_up (va_up (va_up (va_up (va_up F 1 (whP (ck - 1) (F 1) 400)) 2 (wrL (F 2) 0 t_)) 25 (upd (F 25) d (bI true))) 11 (upd (F 11) d (nI (cond (t_.getD 8 false) 0 fl)))) 2 (wrL u_9 15 l)) 27 (upd (F 27) d (nI (co + ldn (toN t_ 3 4) a))))] := by rw [← e_10]; exact ho
          refine o_ifb_eq (tgt := 123) hx hb dX9_hear_99 (by decide) (fun c_11 => ?_) (fun c_11 => ?_)
          · skip
            exact absurd (qok.symm.trans c_11) (by decide)
          · skip
            refine lv_iload hx hb dX9_hear_102 (lv_at hl 1 rfl) ?_
            refine lv_aload_n hx hb dX9_hear_104 rfl (lv_at hl 6 rfl) ?_
            refine o_get (v := .ref (ar 23)) C ho 0 0 rfl rfl rfl 27 fX9_80 rfl dX9_hear_105 ?_
            refine lv_iload_n hx hb dX9_hear_108 rfl (lv_at hl 5 rfl) ?_
            refine o_iald (v := bI lt_) C ho 0 24 rfl rfl 0 rfl d rfl (by omega) (by omega) q23 dX9_hear_109 ?_
            refine o_icmpb_ne (tgt := 118) hx hb dX9_hear_110 (by decide) (fun c_12 => ?_) (fun c_12 => ?_)
            · skip
              exact absurd qtt c_12
            · skip
              refine lv_bipush (v := nI 8) hx hb dX9_hear_113 (by decide) ?_
              refine lv_goto (tgt := 125) hx hb dX9_hear_115 (by decide) ?_
              refine lv_istore (lv' := [(6, .int (nI 8)), (5, .int (bI (t_.getD 9 false))), (4, .int (bI (t_.getD 8 false))), (3, .int (nI (toN t_ 3 4))), (2, .int (bI (hOK ad t_))), (1, .int (nI d)), (0, .ref h)]) hx hb dX9_hear_125 hl (by decide) rfl (fun ls hl => ?_)
              refine lv_iload hx hb dX9_hear_127 (lv_at hl 0 rfl) ?_
              refine lv_bipush (v := nI 6) hx hb dX9_hear_129 (by decide) ?_
              refine o_icmp_eq (tgt := 141) hx hb dX9_hear_131 (by decide) (by decide) (by decide) (fun c9 => absurd c9 (by decide)) (fun _ => ?_)
              refine lv_iload hx hb dX9_hear_134 (lv_at hl 0 rfl) ?_
              refine lv_bipush (v := nI 8) hx hb dX9_hear_136 (by decide) ?_
              refine o_icmp_ne (tgt := 148) hx hb dX9_hear_138 (by decide) (by decide) (by decide) (fun c9 => absurd c9 (by decide)) (fun _ => ?_)
              refine lv_aload_n hx hb dX9_hear_141 rfl (lv_at hl 6 rfl) ?_
              refine o_get (v := .ref (ar 24)) C ho 0 0 rfl rfl rfl 28 fX9_83 rfl dX9_hear_142 ?_
              refine lv_iload_n hx hb dX9_hear_145 rfl (lv_at hl 5 rfl) ?_
              refine lv_iconst (v := nI 1) hx hb dX9_hear_146 (by decide) ?_
              refine o_top (y := bI true) (rfl) ?_
              refine o_zast (bs' := [bX K h ar ad ck a.length (15 + l.length) (va_up (va_up (va_up (va_up (va_up (va_up (va_up F 1 (whP (ck - 1) (F 1) 400)) 2 (wrL (F 2) 0 t_)) 25 (upd (F 25) d (bI true))) 11 (upd (F 11) d (nI (cond (t_.getD 8 false) 0 fl)))) 2 (wrL u_9 15 l)) 27 (upd (F 27) d (nI (co + ldn (toN t_ 3 4) a)))) 24 (upd (F 24) d (bI true)))]) C ho 0 25 rfl rfl 3 rfl d rfl (by omega) (by decide) dX9_hear_147 rfl (fun H locs ho => ?_)
              refine lv_iload hx hb dX9_hear_148 (lv_at hl 0 rfl) ?_
              refine lv_bipush (v := nI 6) hx hb dX9_hear_150 (by decide) ?_
              refine o_icmp_ne (tgt := 168) hx hb dX9_hear_152 (by decide) (by decide) (by decide) (fun _ => ?_) (fun c9 => absurd c9 (by decide))
              refine lv_aload_n hx hb dX9_hear_168 rfl (lv_at hl 6 rfl) ?_
              refine lv_iconst (v := nI 0) hx hb dX9_hear_169 (by decide) ?_
              refine o_put (v := .int (nI 0)) (bs' := [bX K h ar ad ck 0 (15 + l.length) (va_up (va_up (va_up (va_up (va_up (va_up (va_up F 1 (whP (ck - 1) (F 1) 400)) 2 (wrL (F 2) 0 t_)) 25 (upd (F 25) d (bI true))) 11 (upd (F 11) d (nI (cond (t_.getD 8 false) 0 fl)))) 2 (wrL u_9 15 l)) 27 (upd (F 27) d (nI (co + ldn (toN t_ 3 4) a)))) 24 (upd (F 24) d (bI true)))]) C ho 0 0 rfl rfl rfl 2 fX9_122 pX9_2 rfl rfl (Nat.le_of_ble_eq_true rfl) dX9_hear_170 rfl (fun H locs ho => ?_)
              refine lv_iload hx hb dX9_hear_173 (lv_at hl 0 rfl) ?_
              exact o_iret hQ C rfl ho u_9 rfl rfl (Nat.le_of_ble_eq_true rfl) (Nat.le_of_ble_eq_true rfl) dX9_hear_175
        · skip
          exact absurd c_8 (by omega)
      · skip
        refine lv_aload_n hx hb dX9_hear_76 rfl (lv_at hl 6 rfl) ?_
        refine o_get (v := .ref (ar 11)) C ho 0 0 rfl rfl rfl 15 fX9_43 rfl dX9_hear_77 ?_
        refine lv_iload_n hx hb dX9_hear_80 rfl (lv_at hl 5 rfl) ?_
        refine lv_iconst (v := nI 0) hx hb dX9_hear_81 (by decide) ?_
        refine o_iast (bs' := [bX K h ar ad ck a.length lo (va_up (va_up (va_up (va_up F 1 (whP (ck - 1) (F 1) 400)) 2 (wrL (F 2) 0 t_)) 25 (upd (F 25) d (bI true))) 11 (upd (F 11) d (nI 0)))]) C ho 0 12 rfl rfl 0 rfl d rfl (by omega) (by decide) dX9_hear_82 rfl (fun H locs ho => ?_)
        have e_13 : bX K h ar ad ck a.length lo (va_up (va_up (va_up (va_up F 1 (whP (ck - 1) (F 1) 400)) 2 (wrL (F 2) 0 t_)) 25 (upd (F 25) d (bI true))) 11 (upd (F 11) d (nI 0))) = bX K h ar ad ck a.length lo (va_up (va_up (va_up (va_up F 1 (whP (ck - 1) (F 1) 400)) 2 (wrL (F 2) 0 t_)) 25 (upd (F 25) d (bI true))) 11 (upd (F 11) d (nI (cond (t_.getD 8 false) 0 fl)))) := by rw [c_6, cond_true]
        have ho : ow D vwCl A s.heap H locs [bX K h ar ad ck a.length lo (va_up (va_up (va_up (va_up F 1 (whP (ck - 1) (F 1) 400)) 2 (wrL (F 2) 0 t_)) 25 (upd (F 25) d (bI true))) 11 (upd (F 11) d (nI (cond (t_.getD 8 false) 0 fl))))] := by rw [← e_13]; exact ho
        refine lv_iload_n hx hb dX9_hear_83 rfl (lv_at hl 3 rfl) ?_
        refine lv_iconst (v := nI 3) hx hb dX9_hear_84 (by decide) ?_
        refine o_icmp_ge (tgt := 93) hx hb dX9_hear_85 (by decide) (by first | omega | exact and1_lt _) (by first | omega | exact and1_lt _) (fun c_14 => ?_) (fun c_14 => ?_)
        · skip
          refine lv_aload_n hx hb dX9_hear_93 rfl (lv_at hl 6 rfl) ?_
          refine lv_iload_n hx hb dX9_hear_94 rfl (lv_at hl 5 rfl) ?_
          refine lv_iload_n hx hb dX9_hear_95 rfl (lv_at hl 3 rfl) ?_
          refine o_callV (wr := []) (rest := []) (As := [.int (nI d), .int (nI (toN t_ 3 4))]) C (c_M_loadGood la D K h ar ad ck lo (va_up (va_up (va_up (va_up F 1 (whP (ck - 1) (F 1) 400)) 2 (wrL (F 2) 0 t_)) 25 (upd (F 25) d (bI true))) 11 (upd (F 11) d (nI (cond (t_.getD 8 false) 0 fl)))) d a (ck - 1) co (toN t_ 3 4) (by first | omega | assumption | (simp only [List.length_append, List.length_cons, List.length_nil, List.length_modify, List.length_set, nb_len, rb_len, rbp_len, sl_len, slN_len, wh_len, wt_len, hd10_len, hdB_len, thr_len, ldp_len, ldB_len, tens_len, whz_len, majL_len, mf_len, tkL_len, ldY_len, fif_len, ldY_len]; omega) | decide) qa (fun i hi => whP_in hi) (by first | omega | assumption | (simp only [List.length_append, List.length_cons, List.length_nil, List.length_modify, List.length_set, nb_len, rb_len, rbp_len, sl_len, slN_len, wh_len, wt_len, hd10_len, hdB_len, thr_len, ldp_len, ldB_len, tens_len, whz_len, majL_len, mf_len, tkL_len, ldY_len, fif_len, ldY_len]; omega) | decide) (by first | omega | assumption | (simp only [List.length_append, List.length_cons, List.length_nil, List.length_modify, List.length_set, nb_len, rb_len, rbp_len, sl_len, slN_len, wh_len, wt_len, hd10_len, hdB_len, thr_len, ldp_len, ldB_len, tens_len, whz_len, majL_len, mf_len, tkL_len, ldY_len, fif_len, ldY_len]; omega) | decide) q27 qk34) kX9_172 vX9_loadGood (by decide) rfl ho [0] 1 (by decide +kernel) rfl rfl rfl rfl rfl hl.1 rfl (Nat.le_of_ble_eq_true rfl) dX9_hear_96 0 0 rfl rfl (by decide) (fun v u_15 H locs hq ho => ?_)
          obtain rfl := hq
          have ho : ow D vwCl A s.heap H locs [bX K h ar ad ck a.length (15 + (ldl (toN t_ 3 4) (ck - 1) a).length) (va_up (va_up (va_up (va_up (va_up (va_up F 1 (whP (ck - 1) (F 1) 400)) 2 (wrL (F 2) 0 t_)) 25 (upd (F 25) d (bI true))) 11 (upd (F 11) d (nI (cond (t_.getD 8 false) 0 fl)))) 2 (wrL u_15 15 (ldl (toN t_ 3 4) (ck - 1) a))) 27 (upd (F 27) d (nI (co + ldn (toN t_ 3 4) a))))] := ho
          refine W.eq (g2 := F0 m 99 ls [.int (bI (lds (toN t_ 3 4) a && ldOK (ldl (toN t_ 3 4) (ck - 1) a)))]) rfl ?_
          have e_16 : bX K h ar ad ck a.length (15 + (ldl (toN t_ 3 4) (ck - 1) a).length) (va_up (va_up (va_up (va_up (va_up (va_up F 1 (whP (ck - 1) (F 1) 400)) 2 (wrL (F 2) 0 t_)) 25 (upd (F 25) d (bI true))) 11 (upd (F 11) d (nI (cond (t_.getD 8 false) 0 fl)))) 2 (wrL u_15 15 (ldl (toN t_ 3 4) (ck - 1) a))) 27 (upd (F 27) d (nI (co + ldn (toN t_ 3 4) a)))) = bX K h ar ad ck a.length (15 + l.length) (va_up (va_up (va_up (va_up (va_up (va_up F 1 (whP (ck - 1) (F 1) 400)) 2 (wrL (F 2) 0 t_)) 25 (upd (F 25) d (bI true))) 11 (upd (F 11) d (nI (cond (t_.getD 8 false) 0 fl)))) 2 (wrL u_15 15 l)) 27 (upd (F 27) d (nI (co + ldn (toN t_ 3 4) a)))) := by rw [qlx]
          have ho : ow D vwCl A s.heap H locs [bX K h ar ad ck a.length (15 + l.length) (va_up (va_up (va_up (va_up (va_up (va_up F 1 (whP (ck - 1) (F 1) 400)) 2 (wrL (F 2) 0 t_)) 25 (upd (F 25) d (bI true))) 11 (upd (F 11) d (nI (cond (t_.getD 8 false) 0 fl)))) 2 (wrL u_15 15 l)) 27 (upd (F 27) d (nI (co + ldn (toN t_ 3 4) a))))] := by rw [← e_16]; exact ho
          refine o_ifb_eq (tgt := 123) hx hb dX9_hear_99 (by decide) (fun c_17 => ?_) (fun c_17 => ?_)
          · skip
            exact absurd (qok.symm.trans c_17) (by decide)
          · skip
            refine lv_iload hx hb dX9_hear_102 (lv_at hl 1 rfl) ?_
            refine lv_aload_n hx hb dX9_hear_104 rfl (lv_at hl 6 rfl) ?_
            refine o_get (v := .ref (ar 23)) C ho 0 0 rfl rfl rfl 27 fX9_80 rfl dX9_hear_105 ?_
            refine lv_iload_n hx hb dX9_hear_108 rfl (lv_at hl 5 rfl) ?_
            refine o_iald (v := bI lt_) C ho 0 24 rfl rfl 0 rfl d rfl (by omega) (by omega) q23 dX9_hear_109 ?_
            refine o_icmpb_ne (tgt := 118) hx hb dX9_hear_110 (by decide) (fun c_18 => ?_) (fun c_18 => ?_)
            · skip
              exact absurd qtt c_18
            · skip
              refine lv_bipush (v := nI 8) hx hb dX9_hear_113 (by decide) ?_
              refine lv_goto (tgt := 125) hx hb dX9_hear_115 (by decide) ?_
              refine lv_istore (lv' := [(6, .int (nI 8)), (5, .int (bI (t_.getD 9 false))), (4, .int (bI (t_.getD 8 false))), (3, .int (nI (toN t_ 3 4))), (2, .int (bI (hOK ad t_))), (1, .int (nI d)), (0, .ref h)]) hx hb dX9_hear_125 hl (by decide) rfl (fun ls hl => ?_)
              refine lv_iload hx hb dX9_hear_127 (lv_at hl 0 rfl) ?_
              refine lv_bipush (v := nI 6) hx hb dX9_hear_129 (by decide) ?_
              refine o_icmp_eq (tgt := 141) hx hb dX9_hear_131 (by decide) (by decide) (by decide) (fun c9 => absurd c9 (by decide)) (fun _ => ?_)
              refine lv_iload hx hb dX9_hear_134 (lv_at hl 0 rfl) ?_
              refine lv_bipush (v := nI 8) hx hb dX9_hear_136 (by decide) ?_
              refine o_icmp_ne (tgt := 148) hx hb dX9_hear_138 (by decide) (by decide) (by decide) (fun c9 => absurd c9 (by decide)) (fun _ => ?_)
              refine lv_aload_n hx hb dX9_hear_141 rfl (lv_at hl 6 rfl) ?_
              refine o_get (v := .ref (ar 24)) C ho 0 0 rfl rfl rfl 28 fX9_83 rfl dX9_hear_142 ?_
              refine lv_iload_n hx hb dX9_hear_145 rfl (lv_at hl 5 rfl) ?_
              refine lv_iconst (v := nI 1) hx hb dX9_hear_146 (by decide) ?_
              refine o_top (y := bI true) (rfl) ?_
              refine o_zast (bs' := [bX K h ar ad ck a.length (15 + l.length) (va_up (va_up (va_up (va_up (va_up (va_up (va_up F 1 (whP (ck - 1) (F 1) 400)) 2 (wrL (F 2) 0 t_)) 25 (upd (F 25) d (bI true))) 11 (upd (F 11) d (nI (cond (t_.getD 8 false) 0 fl)))) 2 (wrL u_15 15 l)) 27 (upd (F 27) d (nI (co + ldn (toN t_ 3 4) a)))) 24 (upd (F 24) d (bI true)))]) C ho 0 25 rfl rfl 3 rfl d rfl (by omega) (by decide) dX9_hear_147 rfl (fun H locs ho => ?_)
              refine lv_iload hx hb dX9_hear_148 (lv_at hl 0 rfl) ?_
              refine lv_bipush (v := nI 6) hx hb dX9_hear_150 (by decide) ?_
              refine o_icmp_ne (tgt := 168) hx hb dX9_hear_152 (by decide) (by decide) (by decide) (fun _ => ?_) (fun c9 => absurd c9 (by decide))
              refine lv_aload_n hx hb dX9_hear_168 rfl (lv_at hl 6 rfl) ?_
              refine lv_iconst (v := nI 0) hx hb dX9_hear_169 (by decide) ?_
              refine o_put (v := .int (nI 0)) (bs' := [bX K h ar ad ck 0 (15 + l.length) (va_up (va_up (va_up (va_up (va_up (va_up (va_up F 1 (whP (ck - 1) (F 1) 400)) 2 (wrL (F 2) 0 t_)) 25 (upd (F 25) d (bI true))) 11 (upd (F 11) d (nI (cond (t_.getD 8 false) 0 fl)))) 2 (wrL u_15 15 l)) 27 (upd (F 27) d (nI (co + ldn (toN t_ 3 4) a)))) 24 (upd (F 24) d (bI true)))]) C ho 0 0 rfl rfl rfl 2 fX9_122 pX9_2 rfl rfl (Nat.le_of_ble_eq_true rfl) dX9_hear_170 rfl (fun H locs ho => ?_)
              refine lv_iload hx hb dX9_hear_173 (lv_at hl 0 rfl) ?_
              exact o_iret hQ C rfl ho u_15 rfl rfl (Nat.le_of_ble_eq_true rfl) (Nat.le_of_ble_eq_true rfl) dX9_hear_175
        · skip
          exact absurd c_14 (by omega)
  · skip
    exact absurd c_1 (by omega)

set_option maxHeartbeats 4000000 in
set_option maxRecDepth 100000 in
theorem c_M_hear6A (la : Launch) (D : va_G) (K : Nat → ClassId) (h : Nat) (ar : Nat → Nat) (ad : Nat) (ck : Nat) (lo : Nat) (F : Nat → Nat → Int32) (d : Nat) (a : List Bool) (t_ : List Bool) (fl : Nat) (co : Nat) (l : List Bool) (lt_ : Bool) (n : Nat) (tn : Nat) (dr : Nat) (du : Nat) (qd : ck % 2 = d) (qck : ck < 2 ^ 29) (qk1 : 1 ≤ ck) (qad : ad < 8) (qa : ∀ i, i < a.length → F 0 i = bI (a.getD i false)) (qal : 54 ≤ a.length) (qal2 : a.length ≤ 204) (qtl : t_.length = 18) (qth : ∀ i, i < 18 → t_.getD i false = (maj (a.getD (3 * i) false) (a.getD (3 * i + 1) false) (a.getD (3 * i + 2) false) ^^ wb (ck - 1) i)) (qh : hOK ad t_ = true) (q11 : F 11 d = nI fl) (qk34 : toN t_ 3 4 = 3 ∨ toN t_ 3 4 = 4) (q27 : F 27 d = nI co) (qlx : ldl (toN t_ 3 4) (ck - 1) a = l) (qok : (lds (toN t_ 3 4) a && ldOK (ldl (toN t_ 3 4) (ck - 1) a)) = true) (q23 : F 23 d = bI lt_) (qtt : ¬ t_.getD 9 false = lt_) (qn : n = toN l 0 8 / 4) (qll : 24 + 8 * n ≤ l.length) (ql2 : l.length ≤ 150) (qn1 : 1 ≤ n) (q15 : F 15 d = nI tn) (qtn : tn ≤ 6) (q26 : F 26 d = nI dr) (qbe : l.getD 1 false = true) (q18 : F 18 d = nI du) (qdu : du ≤ 255) : MT la D K yX9_hear cX9_hear 7 (some .int) (rmL 7 0 0) [.ref h] [bX K h ar ad ck a.length lo F] (Nat → Int32) (fun v _ => v = some (.int (nI 6))) (fun u => [bX K h ar ad ck 0 (15 + l.length) (finF (va_up (va_up (va_up (va_up (va_up (va_up (va_up (va_up (va_up (va_up (va_up (va_up F 1 (whP (ck - 1) (F 1) 400)) 2 (wrL (F 2) 0 t_)) 25 (upd (F 25) d (bI true))) 11 (upd (F 11) d (nI (cond (t_.getD 8 false) 0 fl)))) 2 (wrL u 15 l)) 27 (upd (F 27) d (nI (co + ldn (toN t_ 3 4) a)))) 24 (upd (F 24) d (bI true))) 23 (upd (F 23) d (bI (t_.getD 9 false)))) 26 (upd (F 26) d (nI (dr + 1)))) 18 (upd (F 18) d (nI (toN l 8 8)))) 20 (wrN (F 20) (320 * d + 0) (slN (ldY l n) 1 (n - 1)))) 19 (upd (F 19) d (nI (0 + (n - 1))))) d (0 + (n - 1)) (toN l 8 8) tn (dr + 1))]) := by
  refine Mt.ofW [(0, .ref h)] (by decide) rfl (Nat.le_of_ble_eq_true rfl) ?_
  intro p e s m args below meth c A ls H locs Qz hQ C hin hl ho
  have hx := C.1.1
  have hb := C.1.2.1
  refine lv_aload_n hx hb dX9_hear_0 rfl (lv_at hl 0 rfl) ?_
  refine o_get (v := .int (nI a.length)) C ho 0 0 rfl rfl rfl 2 fX9_122 rfl dX9_hear_1 ?_
  refine o_if_ne (tgt := 9) hx hb dX9_hear_4 (by decide) (by omega) (fun c_1 => ?_) (fun c_1 => ?_)
  · skip
    refine lv_aload_n hx hb dX9_hear_9 rfl (lv_at hl 0 rfl) ?_
    refine o_get (v := .int (nI ck)) C ho 0 0 rfl rfl rfl 1 fX9_131 rfl dX9_hear_10 ?_
    refine lv_iconst (v := nI 1) hx hb dX9_hear_13 (by decide) ?_
    refine o_and hx hb dX9_hear_14 ?_
    refine o_top (y := nI d) (by rw [Nat.and_one_is_mod, qd]) ?_
    have q2d : d < 2 := by omega
    have ht4 := toN_lt t_ 3 4
    refine lv_istore_n (lv' := [(1, .int (nI d)), (0, .ref h)]) hx hb dX9_hear_15 rfl hl (by decide) rfl (fun ls hl => ?_)
    refine lv_aload_n hx hb dX9_hear_16 rfl (lv_at hl 1 rfl) ?_
    refine lv_aload_n hx hb dX9_hear_17 rfl (lv_at hl 1 rfl) ?_
    refine o_get (v := .int (nI ck)) C ho 0 0 rfl rfl rfl 1 fX9_131 rfl dX9_hear_18 ?_
    refine lv_iconst (v := nI 1) hx hb dX9_hear_21 (by decide) ?_
    refine o_sub hx hb dX9_hear_22 (by omega) ?_
    refine o_callV (wr := []) (rest := []) (As := [.int (nI (ck - 1))]) C (c_M_whiten la D K h ar ad ck a.length lo F (ck - 1) (by first | omega | assumption | (simp only [List.length_append, List.length_cons, List.length_nil, List.length_modify, List.length_set, nb_len, rb_len, rbp_len, sl_len, slN_len, wh_len, wt_len, hd10_len, hdB_len, thr_len, ldp_len, ldB_len, tens_len, whz_len, majL_len, mf_len, tkL_len, ldY_len, fif_len, ldY_len]; omega) | decide)) kX9_134 vX9_whiten (by decide) rfl ho [0] 1 (by decide +kernel) rfl rfl rfl rfl rfl hl.1 rfl (Nat.le_of_ble_eq_true rfl) dX9_hear_23 0 0 rfl rfl (by decide) (fun v u_2 H locs hq ho => ?_)
    obtain rfl := hq
    have ho : ow D vwCl A s.heap H locs [bX K h ar ad ck a.length lo (va_up F 1 (whP (ck - 1) (F 1) 400))] := ho
    refine W.eq (g2 := F0 m 26 ls []) rfl ?_
    refine lv_aload_n hx hb dX9_hear_26 rfl (lv_at hl 1 rfl) ?_
    refine o_callV (wr := []) (rest := []) (As := []) C (c_M_headGood la D K h ar ad ck a.length lo (va_up F 1 (whP (ck - 1) (F 1) 400)) a (ck - 1) t_ qa (fun i hi => whP_in hi) qtl qth (by first | omega | assumption | (simp only [List.length_append, List.length_cons, List.length_nil, List.length_modify, List.length_set, nb_len, rb_len, rbp_len, sl_len, slN_len, wh_len, wt_len, hd10_len, hdB_len, thr_len, ldp_len, ldB_len, tens_len, whz_len, majL_len, mf_len, tkL_len, ldY_len, fif_len, ldY_len]; omega) | decide) (by first | omega | assumption | (simp only [List.length_append, List.length_cons, List.length_nil, List.length_modify, List.length_set, nb_len, rb_len, rbp_len, sl_len, slN_len, wh_len, wt_len, hd10_len, hdB_len, thr_len, ldp_len, ldB_len, tens_len, whz_len, majL_len, mf_len, tkL_len, ldY_len, fif_len, ldY_len]; omega) | decide)) kX9_168 vX9_headGood (by decide) rfl ho [0] 1 (by decide +kernel) rfl rfl rfl rfl rfl hl.1 rfl (Nat.le_of_ble_eq_true rfl) dX9_hear_27 0 0 rfl rfl (by decide) (fun v u_3 H locs hq ho => ?_)
    obtain rfl := hq
    have ho : ow D vwCl A s.heap H locs [bX K h ar ad ck a.length lo (va_up (va_up F 1 (whP (ck - 1) (F 1) 400)) 2 (wrL (F 2) 0 t_))] := ho
    refine W.eq (g2 := F0 m 30 ls [.int (bI (hOK ad t_))]) rfl ?_
    refine lv_istore_n (lv' := [(2, .int (bI (hOK ad t_))), (1, .int (nI d)), (0, .ref h)]) hx hb dX9_hear_30 rfl hl (by decide) rfl (fun ls hl => ?_)
    refine lv_aload_n hx hb dX9_hear_31 rfl (lv_at hl 2 rfl) ?_
    refine lv_iconst (v := nI 3) hx hb dX9_hear_32 (by decide) ?_
    refine lv_iconst (v := nI 4) hx hb dX9_hear_33 (by decide) ?_
    refine o_callV (wr := []) (rest := []) (As := [.int (nI 3), .int (nI 4)]) C (c_M_number la D K h ar ad ck a.length lo (va_up (va_up F 1 (whP (ck - 1) (F 1) 400)) 2 (wrL (F 2) 0 t_)) 3 4 t_ 3 (fun i hi => rd2 (by omega) hi) (by first | omega | assumption | (simp only [List.length_append, List.length_cons, List.length_nil, List.length_modify, List.length_set, nb_len, rb_len, rbp_len, sl_len, slN_len, wh_len, wt_len, hd10_len, hdB_len, thr_len, ldp_len, ldB_len, tens_len, whz_len, majL_len, mf_len, tkL_len, ldY_len, fif_len, ldY_len]; omega) | decide) (by first | omega | assumption | (simp only [List.length_append, List.length_cons, List.length_nil, List.length_modify, List.length_set, nb_len, rb_len, rbp_len, sl_len, slN_len, wh_len, wt_len, hd10_len, hdB_len, thr_len, ldp_len, ldB_len, tens_len, whz_len, majL_len, mf_len, tkL_len, ldY_len, fif_len, ldY_len]; omega) | decide)) kX9_153 vX9_number (by decide) rfl ho [0] 1 (by decide +kernel) rfl rfl rfl rfl rfl hl.1 rfl (Nat.le_of_ble_eq_true rfl) dX9_hear_34 0 0 rfl rfl (by decide) (fun v u_4 H locs hq ho => ?_)
    obtain rfl := hq
    have ho : ow D vwCl A s.heap H locs [bX K h ar ad ck a.length lo (va_up (va_up F 1 (whP (ck - 1) (F 1) 400)) 2 (wrL (F 2) 0 t_))] := ho
    refine W.eq (g2 := F0 m 37 ls [.int (nI (toN t_ 3 4))]) rfl ?_
    refine lv_istore_n (lv' := [(3, .int (nI (toN t_ 3 4))), (2, .int (bI (hOK ad t_))), (1, .int (nI d)), (0, .ref h)]) hx hb dX9_hear_37 rfl hl (by decide) rfl (fun ls hl => ?_)
    refine lv_aload_n hx hb dX9_hear_38 rfl (lv_at hl 3 rfl) ?_
    refine o_get (v := .ref (ar 2)) C ho 0 0 rfl rfl rfl 6 fX9_16 rfl dX9_hear_39 ?_
    refine lv_bipush (v := nI 8) hx hb dX9_hear_42 (by decide) ?_
    refine o_iald (v := wrL (F 2) 0 t_ 8) C ho 0 3 rfl rfl 0 rfl 8 rfl (by omega) (by omega) rfl dX9_hear_44 ?_
    refine o_top (y := bI (t_.getD 8 false)) (wrL_in0 (by omega)) ?_
    refine lv_istore (lv' := [(4, .int (bI (t_.getD 8 false))), (3, .int (nI (toN t_ 3 4))), (2, .int (bI (hOK ad t_))), (1, .int (nI d)), (0, .ref h)]) hx hb dX9_hear_45 hl (by decide) rfl (fun ls hl => ?_)
    refine lv_aload_n hx hb dX9_hear_47 rfl (lv_at hl 4 rfl) ?_
    refine o_get (v := .ref (ar 2)) C ho 0 0 rfl rfl rfl 6 fX9_16 rfl dX9_hear_48 ?_
    refine lv_bipush (v := nI 9) hx hb dX9_hear_51 (by decide) ?_
    refine o_iald (v := wrL (F 2) 0 t_ 9) C ho 0 3 rfl rfl 0 rfl 9 rfl (by omega) (by omega) rfl dX9_hear_53 ?_
    refine o_top (y := bI (t_.getD 9 false)) (wrL_in0 (by omega)) ?_
    refine lv_istore (lv' := [(5, .int (bI (t_.getD 9 false))), (4, .int (bI (t_.getD 8 false))), (3, .int (nI (toN t_ 3 4))), (2, .int (bI (hOK ad t_))), (1, .int (nI d)), (0, .ref h)]) hx hb dX9_hear_54 hl (by decide) rfl (fun ls hl => ?_)
    refine lv_iconst (v := nI 5) hx hb dX9_hear_56 (by decide) ?_
    refine lv_istore (lv' := [(6, .int (nI 5)), (5, .int (bI (t_.getD 9 false))), (4, .int (bI (t_.getD 8 false))), (3, .int (nI (toN t_ 3 4))), (2, .int (bI (hOK ad t_))), (1, .int (nI d)), (0, .ref h)]) hx hb dX9_hear_57 hl (by decide) rfl (fun ls hl => ?_)
    refine lv_iload_n hx hb dX9_hear_59 rfl (lv_at hl 4 rfl) ?_
    refine o_ifb_eq (tgt := 168) hx hb dX9_hear_60 (by decide) (fun c_5 => ?_) (fun c_5 => ?_)
    · skip
      exact absurd (qh.symm.trans c_5) (by decide)
    · skip
      refine lv_aload_n hx hb dX9_hear_63 rfl (lv_at hl 6 rfl) ?_
      refine o_get (v := .ref (ar 25)) C ho 0 0 rfl rfl rfl 29 fX9_86 rfl dX9_hear_64 ?_
      refine lv_iload_n hx hb dX9_hear_67 rfl (lv_at hl 5 rfl) ?_
      refine lv_iconst (v := nI 1) hx hb dX9_hear_68 (by decide) ?_
      refine o_top (y := bI true) (rfl) ?_
      refine o_zast (bs' := [bX K h ar ad ck a.length lo (va_up (va_up (va_up F 1 (whP (ck - 1) (F 1) 400)) 2 (wrL (F 2) 0 t_)) 25 (upd (F 25) d (bI true)))]) C ho 0 26 rfl rfl 3 rfl d rfl (by omega) (by decide) dX9_hear_69 rfl (fun H locs ho => ?_)
      refine lv_iload hx hb dX9_hear_70 (lv_at hl 2 rfl) ?_
      refine lv_iconst (v := nI 1) hx hb dX9_hear_72 (by decide) ?_
      refine o_top (y := bI true) (rfl) ?_
      refine o_icmpb_ne (tgt := 83) hx hb dX9_hear_73 (by decide) (fun c_6 => ?_) (fun c_6 => ?_)
      · skip
        have e_7 : bX K h ar ad ck a.length lo (va_up (va_up (va_up F 1 (whP (ck - 1) (F 1) 400)) 2 (wrL (F 2) 0 t_)) 25 (upd (F 25) d (bI true))) = bX K h ar ad ck a.length lo (va_up (va_up (va_up (va_up F 1 (whP (ck - 1) (F 1) 400)) 2 (wrL (F 2) 0 t_)) 25 (upd (F 25) d (bI true))) 11 (upd (F 11) d (nI (cond (t_.getD 8 false) 0 fl)))) := by rw [Bool.eq_false_iff.mpr c_6, cond_false, upd_same q11]; exact congrArg (bX K h ar ad ck a.length lo) (up_1 rfl)
        have ho : ow D vwCl A s.heap H locs [bX K h ar ad ck a.length lo (va_up (va_up (va_up (va_up F 1 (whP (ck - 1) (F 1) 400)) 2 (wrL (F 2) 0 t_)) 25 (upd (F 25) d (bI true))) 11 (upd (F 11) d (nI (cond (t_.getD 8 false) 0 fl))))] := by rw [← e_7]; exact ho
        refine lv_iload_n hx hb dX9_hear_83 rfl (lv_at hl 3 rfl) ?_
        refine lv_iconst (v := nI 3) hx hb dX9_hear_84 (by decide) ?_
        refine o_icmp_ge (tgt := 93) hx hb dX9_hear_85 (by decide) (by first | omega | exact and1_lt _) (by first | omega | exact and1_lt _) (fun c_8 => ?_) (fun c_8 => ?_)
        · skip
          refine lv_aload_n hx hb dX9_hear_93 rfl (lv_at hl 6 rfl) ?_
          refine lv_iload_n hx hb dX9_hear_94 rfl (lv_at hl 5 rfl) ?_
          refine lv_iload_n hx hb dX9_hear_95 rfl (lv_at hl 3 rfl) ?_
          refine o_callV (wr := []) (rest := []) (As := [.int (nI d), .int (nI (toN t_ 3 4))]) C (c_M_loadGood la D K h ar ad ck lo (va_up (va_up (va_up (va_up F 1 (whP (ck - 1) (F 1) 400)) 2 (wrL (F 2) 0 t_)) 25 (upd (F 25) d (bI true))) 11 (upd (F 11) d (nI (cond (t_.getD 8 false) 0 fl)))) d a (ck - 1) co (toN t_ 3 4) (by first | omega | assumption | (simp only [List.length_append, List.length_cons, List.length_nil, List.length_modify, List.length_set, nb_len, rb_len, rbp_len, sl_len, slN_len, wh_len, wt_len, hd10_len, hdB_len, thr_len, ldp_len, ldB_len, tens_len, whz_len, majL_len, mf_len, tkL_len, ldY_len, fif_len, ldY_len]; omega) | decide) qa (fun i hi => whP_in hi) (by first | omega | assumption | (simp only [List.length_append, List.length_cons, List.length_nil, List.length_modify, List.length_set, nb_len, rb_len, rbp_len, sl_len, slN_len, wh_len, wt_len, hd10_len, hdB_len, thr_len, ldp_len, ldB_len, tens_len, whz_len, majL_len, mf_len, tkL_len, ldY_len, fif_len, ldY_len]; omega) | decide) (by first | omega | assumption | (simp only [List.length_append, List.length_cons, List.length_nil, List.length_modify, List.length_set, nb_len, rb_len, rbp_len, sl_len, slN_len, wh_len, wt_len, hd10_len, hdB_len, thr_len, ldp_len, ldB_len, tens_len, whz_len, majL_len, mf_len, tkL_len, ldY_len, fif_len, ldY_len]; omega) | decide) q27 qk34) kX9_172 vX9_loadGood (by decide) rfl ho [0] 1 (by decide +kernel) rfl rfl rfl rfl rfl hl.1 rfl (Nat.le_of_ble_eq_true rfl) dX9_hear_96 0 0 rfl rfl (by decide) (fun v u_9 H locs hq ho => ?_)
          obtain rfl := hq
          have ho : ow D vwCl A s.heap H locs [bX K h ar ad ck a.length (15 + (ldl (toN t_ 3 4) (ck - 1) a).length) (va_up (va_up (va_up (va_up (va_up (va_up F 1 (whP (ck - 1) (F 1) 400)) 2 (wrL (F 2) 0 t_)) 25 (upd (F 25) d (bI true))) 11 (upd (F 11) d (nI (cond (t_.getD 8 false) 0 fl)))) 2 (wrL u_9 15 (ldl (toN t_ 3 4) (ck - 1) a))) 27 (upd (F 27) d (nI (co + ldn (toN t_ 3 4) a))))] := ho
          refine W.eq (g2 := F0 m 99 ls [.int (bI (lds (toN t_ 3 4) a && ldOK (ldl (toN t_ 3 4) (ck - 1) a)))]) rfl ?_
          have e_10 : bX K h ar ad ck a.length (15 + (ldl (toN t_ 3 4) (ck - 1) a).length) (va_up (va_up (va_up (va_up (va_up (va_up F 1 (whP (ck - 1) (F 1) 400)) 2 (wrL (F 2) 0 t_)) 25 (upd (F 25) d (bI true))) 11 (upd (F 11) d (nI (cond (t_.getD 8 false) 0 fl)))) 2 (wrL u_9 15 (ldl (toN t_ 3 4) (ck - 1) a))) 27 (upd (F 27) d (nI (co + ldn (toN t_ 3 4) a)))) = bX K h ar ad ck a.length (15 + l.length) (va_up (va_up (va_up (va_up (va_up (va_up F 1 (whP (ck - 1) (F 1) 400)) 2 (wrL (F 2) 0 t_)) 25 (upd (F 25) d (bI true))) 11 (upd (F 11) d (nI (cond (t_.getD 8 false) 0 fl)))) 2 (wrL u_9 15 l)) 27 (upd (F 27) d (nI (co + ldn (toN t_ 3 4) a)))) := by rw [qlx]
          have ho : ow D vwCl A s.heap H locs [bX K h ar ad ck a.length (15 + l.length) (va_up (va_up (va_up (va_up (va_up (va_up F 1 (whP (ck - 1) (F 1) 400)) 2 (wrL (F 2) 0 t_)) 25 (upd (F 25) d (bI true))) 11 (upd (F 11) d (nI (cond (t_.getD 8 false) 0 fl)))) 2 (wrL u_9 15 l)) 27 (upd (F 27) d (nI (co + ldn (toN t_ 3 4) a))))] := by rw [← e_10]; exact ho
          refine o_ifb_eq (tgt := 123) hx hb dX9_hear_99 (by decide) (fun c_11 => ?_) (fun c_11 => ?_)
          · skip
            exact absurd (qok.symm.trans c_11) (by decide)
          · skip
            refine lv_iload hx hb dX9_hear_102 (lv_at hl 1 rfl) ?_
            refine lv_aload_n hx hb dX9_hear_104 rfl (lv_at hl 6 rfl) ?_
            refine o_get (v := .ref (ar 23)) C ho 0 0 rfl rfl rfl 27 fX9_80 rfl dX9_hear_105 ?_
            refine lv_iload_n hx hb dX9_hear_108 rfl (lv_at hl 5 rfl) ?_
            refine o_iald (v := bI lt_) C ho 0 24 rfl rfl 0 rfl d rfl (by omega) (by omega) q23 dX9_hear_109 ?_
            refine o_icmpb_ne (tgt := 118) hx hb dX9_hear_110 (by decide) (fun c_12 => ?_) (fun c_12 => ?_)
            · skip
              refine lv_bipush (v := nI 6) hx hb dX9_hear_118 (by decide) ?_
              refine lv_goto (tgt := 125) hx hb dX9_hear_120 (by decide) ?_
              refine lv_istore (lv' := [(6, .int (nI 6)), (5, .int (bI (t_.getD 9 false))), (4, .int (bI (t_.getD 8 false))), (3, .int (nI (toN t_ 3 4))), (2, .int (bI (hOK ad t_))), (1, .int (nI d)), (0, .ref h)]) hx hb dX9_hear_125 hl (by decide) rfl (fun ls hl => ?_)
              refine lv_iload hx hb dX9_hear_127 (lv_at hl 0 rfl) ?_
              refine lv_bipush (v := nI 6) hx hb dX9_hear_129 (by decide) ?_
              refine o_icmp_eq (tgt := 141) hx hb dX9_hear_131 (by decide) (by decide) (by decide) (fun _ => ?_) (fun c9 => absurd c9 (by decide))
              refine lv_aload_n hx hb dX9_hear_141 rfl (lv_at hl 6 rfl) ?_
              refine o_get (v := .ref (ar 24)) C ho 0 0 rfl rfl rfl 28 fX9_83 rfl dX9_hear_142 ?_
              refine lv_iload_n hx hb dX9_hear_145 rfl (lv_at hl 5 rfl) ?_
              refine lv_iconst (v := nI 1) hx hb dX9_hear_146 (by decide) ?_
              refine o_top (y := bI true) (rfl) ?_
              refine o_zast (bs' := [bX K h ar ad ck a.length (15 + l.length) (va_up (va_up (va_up (va_up (va_up (va_up (va_up F 1 (whP (ck - 1) (F 1) 400)) 2 (wrL (F 2) 0 t_)) 25 (upd (F 25) d (bI true))) 11 (upd (F 11) d (nI (cond (t_.getD 8 false) 0 fl)))) 2 (wrL u_9 15 l)) 27 (upd (F 27) d (nI (co + ldn (toN t_ 3 4) a)))) 24 (upd (F 24) d (bI true)))]) C ho 0 25 rfl rfl 3 rfl d rfl (by omega) (by decide) dX9_hear_147 rfl (fun H locs ho => ?_)
              refine lv_iload hx hb dX9_hear_148 (lv_at hl 0 rfl) ?_
              refine lv_bipush (v := nI 6) hx hb dX9_hear_150 (by decide) ?_
              refine o_icmp_ne (tgt := 168) hx hb dX9_hear_152 (by decide) (by decide) (by decide) (fun c9 => absurd c9 (by decide)) (fun _ => ?_)
              refine lv_aload_n hx hb dX9_hear_155 rfl (lv_at hl 6 rfl) ?_
              refine o_get (v := .ref (ar 23)) C ho 0 0 rfl rfl rfl 27 fX9_80 rfl dX9_hear_156 ?_
              refine lv_iload_n hx hb dX9_hear_159 rfl (lv_at hl 5 rfl) ?_
              refine lv_iload hx hb dX9_hear_160 (lv_at hl 1 rfl) ?_
              refine o_iast (bs' := [bX K h ar ad ck a.length (15 + l.length) (va_up (va_up (va_up (va_up (va_up (va_up (va_up (va_up F 1 (whP (ck - 1) (F 1) 400)) 2 (wrL (F 2) 0 t_)) 25 (upd (F 25) d (bI true))) 11 (upd (F 11) d (nI (cond (t_.getD 8 false) 0 fl)))) 2 (wrL u_9 15 l)) 27 (upd (F 27) d (nI (co + ldn (toN t_ 3 4) a)))) 24 (upd (F 24) d (bI true))) 23 (upd (F 23) d (bI (t_.getD 9 false))))]) C ho 0 24 rfl rfl 0 rfl d rfl (by omega) (by decide) dX9_hear_162 rfl (fun H locs ho => ?_)
              refine lv_aload_n hx hb dX9_hear_163 rfl (lv_at hl 6 rfl) ?_
              refine lv_iload_n hx hb dX9_hear_164 rfl (lv_at hl 5 rfl) ?_
              refine o_callV (wr := []) (rest := []) (As := [.int (nI d)]) C (c_M_useA la D K h ar ad ck a.length (15 + l.length) (va_up (va_up (va_up (va_up (va_up (va_up (va_up (va_up F 1 (whP (ck - 1) (F 1) 400)) 2 (wrL (F 2) 0 t_)) 25 (upd (F 25) d (bI true))) 11 (upd (F 11) d (nI (cond (t_.getD 8 false) 0 fl)))) 2 (wrL u_9 15 l)) 27 (upd (F 27) d (nI (co + ldn (toN t_ 3 4) a)))) 24 (upd (F 24) d (bI true))) 23 (upd (F 23) d (bI (t_.getD 9 false)))) d l n tn dr du (by first | omega | assumption | (simp only [List.length_append, List.length_cons, List.length_nil, List.length_modify, List.length_set, nb_len, rb_len, rbp_len, sl_len, slN_len, wh_len, wt_len, hd10_len, hdB_len, thr_len, ldp_len, ldB_len, tens_len, whz_len, majL_len, mf_len, tkL_len, ldY_len, fif_len, ldY_len]; omega) | decide) (fun i hi => wrL_in hi) qn qll ql2 qn1 q15 qtn q26 qbe q18 qdu) kX9_175 vX9_use (by decide) rfl ho [0] 1 (by decide +kernel) rfl rfl rfl rfl rfl hl.1 rfl (Nat.le_of_ble_eq_true rfl) dX9_hear_165 0 0 rfl rfl (by decide) (fun v u_13 H locs hq ho => ?_)
              obtain rfl := hq
              have ho : ow D vwCl A s.heap H locs [bX K h ar ad ck a.length (15 + l.length) (finF (va_up (va_up (va_up (va_up (va_up (va_up (va_up (va_up (va_up (va_up (va_up (va_up F 1 (whP (ck - 1) (F 1) 400)) 2 (wrL (F 2) 0 t_)) 25 (upd (F 25) d (bI true))) 11 (upd (F 11) d (nI (cond (t_.getD 8 false) 0 fl)))) 2 (wrL u_9 15 l)) 27 (upd (F 27) d (nI (co + ldn (toN t_ 3 4) a)))) 24 (upd (F 24) d (bI true))) 23 (upd (F 23) d (bI (t_.getD 9 false)))) 26 (upd (F 26) d (nI (dr + 1)))) 18 (upd (F 18) d (nI (toN l 8 8)))) 20 (wrN (F 20) (320 * d + 0) (slN (ldY l n) 1 (n - 1)))) 19 (upd (F 19) d (nI (0 + (n - 1))))) d (0 + (n - 1)) (toN l 8 8) tn (dr + 1))] := ho
              refine W.eq (g2 := F0 m 168 ls []) rfl ?_
              refine lv_aload_n hx hb dX9_hear_168 rfl (lv_at hl 6 rfl) ?_
              refine lv_iconst (v := nI 0) hx hb dX9_hear_169 (by decide) ?_
              refine o_put (v := .int (nI 0)) (bs' := [bX K h ar ad ck 0 (15 + l.length) (finF (va_up (va_up (va_up (va_up (va_up (va_up (va_up (va_up (va_up (va_up (va_up (va_up F 1 (whP (ck - 1) (F 1) 400)) 2 (wrL (F 2) 0 t_)) 25 (upd (F 25) d (bI true))) 11 (upd (F 11) d (nI (cond (t_.getD 8 false) 0 fl)))) 2 (wrL u_9 15 l)) 27 (upd (F 27) d (nI (co + ldn (toN t_ 3 4) a)))) 24 (upd (F 24) d (bI true))) 23 (upd (F 23) d (bI (t_.getD 9 false)))) 26 (upd (F 26) d (nI (dr + 1)))) 18 (upd (F 18) d (nI (toN l 8 8)))) 20 (wrN (F 20) (320 * d + 0) (slN (ldY l n) 1 (n - 1)))) 19 (upd (F 19) d (nI (0 + (n - 1))))) d (0 + (n - 1)) (toN l 8 8) tn (dr + 1))]) C ho 0 0 rfl rfl rfl 2 fX9_122 pX9_2 rfl rfl (Nat.le_of_ble_eq_true rfl) dX9_hear_170 rfl (fun H locs ho => ?_)
              refine lv_iload hx hb dX9_hear_173 (lv_at hl 0 rfl) ?_
              exact o_iret hQ C rfl ho u_9 rfl rfl (Nat.le_of_ble_eq_true rfl) (Nat.le_of_ble_eq_true rfl) dX9_hear_175
            · skip
              exact absurd c_12 qtt
        · skip
          exact absurd c_8 (by omega)
      · skip
        refine lv_aload_n hx hb dX9_hear_76 rfl (lv_at hl 6 rfl) ?_
        refine o_get (v := .ref (ar 11)) C ho 0 0 rfl rfl rfl 15 fX9_43 rfl dX9_hear_77 ?_
        refine lv_iload_n hx hb dX9_hear_80 rfl (lv_at hl 5 rfl) ?_
        refine lv_iconst (v := nI 0) hx hb dX9_hear_81 (by decide) ?_
        refine o_iast (bs' := [bX K h ar ad ck a.length lo (va_up (va_up (va_up (va_up F 1 (whP (ck - 1) (F 1) 400)) 2 (wrL (F 2) 0 t_)) 25 (upd (F 25) d (bI true))) 11 (upd (F 11) d (nI 0)))]) C ho 0 12 rfl rfl 0 rfl d rfl (by omega) (by decide) dX9_hear_82 rfl (fun H locs ho => ?_)
        have e_14 : bX K h ar ad ck a.length lo (va_up (va_up (va_up (va_up F 1 (whP (ck - 1) (F 1) 400)) 2 (wrL (F 2) 0 t_)) 25 (upd (F 25) d (bI true))) 11 (upd (F 11) d (nI 0))) = bX K h ar ad ck a.length lo (va_up (va_up (va_up (va_up F 1 (whP (ck - 1) (F 1) 400)) 2 (wrL (F 2) 0 t_)) 25 (upd (F 25) d (bI true))) 11 (upd (F 11) d (nI (cond (t_.getD 8 false) 0 fl)))) := by rw [c_6, cond_true]
        have ho : ow D vwCl A s.heap H locs [bX K h ar ad ck a.length lo (va_up (va_up (va_up (va_up F 1 (whP (ck - 1) (F 1) 400)) 2 (wrL (F 2) 0 t_)) 25 (upd (F 25) d (bI true))) 11 (upd (F 11) d (nI (cond (t_.getD 8 false) 0 fl))))] := by rw [← e_14]; exact ho
        refine lv_iload_n hx hb dX9_hear_83 rfl (lv_at hl 3 rfl) ?_
        refine lv_iconst (v := nI 3) hx hb dX9_hear_84 (by decide) ?_
        refine o_icmp_ge (tgt := 93) hx hb dX9_hear_85 (by decide) (by first | omega | exact and1_lt _) (by first | omega | exact and1_lt _) (fun c_15 => ?_) (fun c_15 => ?_)
        · skip
          refine lv_aload_n hx hb dX9_hear_93 rfl (lv_at hl 6 rfl) ?_
          refine lv_iload_n hx hb dX9_hear_94 rfl (lv_at hl 5 rfl) ?_
          refine lv_iload_n hx hb dX9_hear_95 rfl (lv_at hl 3 rfl) ?_
          refine o_callV (wr := []) (rest := []) (As := [.int (nI d), .int (nI (toN t_ 3 4))]) C (c_M_loadGood la D K h ar ad ck lo (va_up (va_up (va_up (va_up F 1 (whP (ck - 1) (F 1) 400)) 2 (wrL (F 2) 0 t_)) 25 (upd (F 25) d (bI true))) 11 (upd (F 11) d (nI (cond (t_.getD 8 false) 0 fl)))) d a (ck - 1) co (toN t_ 3 4) (by first | omega | assumption | (simp only [List.length_append, List.length_cons, List.length_nil, List.length_modify, List.length_set, nb_len, rb_len, rbp_len, sl_len, slN_len, wh_len, wt_len, hd10_len, hdB_len, thr_len, ldp_len, ldB_len, tens_len, whz_len, majL_len, mf_len, tkL_len, ldY_len, fif_len, ldY_len]; omega) | decide) qa (fun i hi => whP_in hi) (by first | omega | assumption | (simp only [List.length_append, List.length_cons, List.length_nil, List.length_modify, List.length_set, nb_len, rb_len, rbp_len, sl_len, slN_len, wh_len, wt_len, hd10_len, hdB_len, thr_len, ldp_len, ldB_len, tens_len, whz_len, majL_len, mf_len, tkL_len, ldY_len, fif_len, ldY_len]; omega) | decide) (by first | omega | assumption | (simp only [List.length_append, List.length_cons, List.length_nil, List.length_modify, List.length_set, nb_len, rb_len, rbp_len, sl_len, slN_len, wh_len, wt_len, hd10_len, hdB_len, thr_len, ldp_len, ldB_len, tens_len, whz_len, majL_len, mf_len, tkL_len, ldY_len, fif_len, ldY_len]; omega) | decide) q27 qk34) kX9_172 vX9_loadGood (by decide) rfl ho [0] 1 (by decide +kernel) rfl rfl rfl rfl rfl hl.1 rfl (Nat.le_of_ble_eq_true rfl) dX9_hear_96 0 0 rfl rfl (by decide) (fun v u_16 H locs hq ho => ?_)
          obtain rfl := hq
          have ho : ow D vwCl A s.heap H locs [bX K h ar ad ck a.length (15 + (ldl (toN t_ 3 4) (ck - 1) a).length) (va_up (va_up (va_up (va_up (va_up (va_up F 1 (whP (ck - 1) (F 1) 400)) 2 (wrL (F 2) 0 t_)) 25 (upd (F 25) d (bI true))) 11 (upd (F 11) d (nI (cond (t_.getD 8 false) 0 fl)))) 2 (wrL u_16 15 (ldl (toN t_ 3 4) (ck - 1) a))) 27 (upd (F 27) d (nI (co + ldn (toN t_ 3 4) a))))] := ho
          refine W.eq (g2 := F0 m 99 ls [.int (bI (lds (toN t_ 3 4) a && ldOK (ldl (toN t_ 3 4) (ck - 1) a)))]) rfl ?_
          have e_17 : bX K h ar ad ck a.length (15 + (ldl (toN t_ 3 4) (ck - 1) a).length) (va_up (va_up (va_up (va_up (va_up (va_up F 1 (whP (ck - 1) (F 1) 400)) 2 (wrL (F 2) 0 t_)) 25 (upd (F 25) d (bI true))) 11 (upd (F 11) d (nI (cond (t_.getD 8 false) 0 fl)))) 2 (wrL u_16 15 (ldl (toN t_ 3 4) (ck - 1) a))) 27 (upd (F 27) d (nI (co + ldn (toN t_ 3 4) a)))) = bX K h ar ad ck a.length (15 + l.length) (va_up (va_up (va_up (va_up (va_up (va_up F 1 (whP (ck - 1) (F 1) 400)) 2 (wrL (F 2) 0 t_)) 25 (upd (F 25) d (bI true))) 11 (upd (F 11) d (nI (cond (t_.getD 8 false) 0 fl)))) 2 (wrL u_16 15 l)) 27 (upd (F 27) d (nI (co + ldn (toN t_ 3 4) a)))) := by rw [qlx]
          have ho : ow D vwCl A s.heap H locs [bX K h ar ad ck a.length (15 + l.length) (va_up (va_up (va_up (va_up (va_up (va_up F 1 (whP (ck - 1) (F 1) 400)) 2 (wrL (F 2) 0 t_)) 25 (upd (F 25) d (bI true))) 11 (upd (F 11) d (nI (cond (t_.getD 8 false) 0 fl)))) 2 (wrL u_16 15 l)) 27 (upd (F 27) d (nI (co + ldn (toN t_ 3 4) a))))] := by rw [← e_17]; exact ho
          refine o_ifb_eq (tgt := 123) hx hb dX9_hear_99 (by decide) (fun c_18 => ?_) (fun c_18 => ?_)
          · skip
            exact absurd (qok.symm.trans c_18) (by decide)
          · skip
            refine lv_iload hx hb dX9_hear_102 (lv_at hl 1 rfl) ?_
            refine lv_aload_n hx hb dX9_hear_104 rfl (lv_at hl 6 rfl) ?_
            refine o_get (v := .ref (ar 23)) C ho 0 0 rfl rfl rfl 27 fX9_80 rfl dX9_hear_105 ?_
            refine lv_iload_n hx hb dX9_hear_108 rfl (lv_at hl 5 rfl) ?_
            refine o_iald (v := bI lt_) C ho 0 24 rfl rfl 0 rfl d rfl (by omega) (by omega) q23 dX9_hear_109 ?_
            refine o_icmpb_ne (tgt := 118) hx hb dX9_hear_110 (by decide) (fun c_19 => ?_) (fun c_19 => ?_)
            · skip
              refine lv_bipush (v := nI 6) hx hb dX9_hear_118 (by decide) ?_
              refine lv_goto (tgt := 125) hx hb dX9_hear_120 (by decide) ?_
              refine lv_istore (lv' := [(6, .int (nI 6)), (5, .int (bI (t_.getD 9 false))), (4, .int (bI (t_.getD 8 false))), (3, .int (nI (toN t_ 3 4))), (2, .int (bI (hOK ad t_))), (1, .int (nI d)), (0, .ref h)]) hx hb dX9_hear_125 hl (by decide) rfl (fun ls hl => ?_)
              refine lv_iload hx hb dX9_hear_127 (lv_at hl 0 rfl) ?_
              refine lv_bipush (v := nI 6) hx hb dX9_hear_129 (by decide) ?_
              refine o_icmp_eq (tgt := 141) hx hb dX9_hear_131 (by decide) (by decide) (by decide) (fun _ => ?_) (fun c9 => absurd c9 (by decide))
              refine lv_aload_n hx hb dX9_hear_141 rfl (lv_at hl 6 rfl) ?_
              refine o_get (v := .ref (ar 24)) C ho 0 0 rfl rfl rfl 28 fX9_83 rfl dX9_hear_142 ?_
              refine lv_iload_n hx hb dX9_hear_145 rfl (lv_at hl 5 rfl) ?_
              refine lv_iconst (v := nI 1) hx hb dX9_hear_146 (by decide) ?_
              refine o_top (y := bI true) (rfl) ?_
              refine o_zast (bs' := [bX K h ar ad ck a.length (15 + l.length) (va_up (va_up (va_up (va_up (va_up (va_up (va_up F 1 (whP (ck - 1) (F 1) 400)) 2 (wrL (F 2) 0 t_)) 25 (upd (F 25) d (bI true))) 11 (upd (F 11) d (nI (cond (t_.getD 8 false) 0 fl)))) 2 (wrL u_16 15 l)) 27 (upd (F 27) d (nI (co + ldn (toN t_ 3 4) a)))) 24 (upd (F 24) d (bI true)))]) C ho 0 25 rfl rfl 3 rfl d rfl (by omega) (by decide) dX9_hear_147 rfl (fun H locs ho => ?_)
              refine lv_iload hx hb dX9_hear_148 (lv_at hl 0 rfl) ?_
              refine lv_bipush (v := nI 6) hx hb dX9_hear_150 (by decide) ?_
              refine o_icmp_ne (tgt := 168) hx hb dX9_hear_152 (by decide) (by decide) (by decide) (fun c9 => absurd c9 (by decide)) (fun _ => ?_)
              refine lv_aload_n hx hb dX9_hear_155 rfl (lv_at hl 6 rfl) ?_
              refine o_get (v := .ref (ar 23)) C ho 0 0 rfl rfl rfl 27 fX9_80 rfl dX9_hear_156 ?_
              refine lv_iload_n hx hb dX9_hear_159 rfl (lv_at hl 5 rfl) ?_
              refine lv_iload hx hb dX9_hear_160 (lv_at hl 1 rfl) ?_
              refine o_iast (bs' := [bX K h ar ad ck a.length (15 + l.length) (va_up (va_up (va_up (va_up (va_up (va_up (va_up (va_up F 1 (whP (ck - 1) (F 1) 400)) 2 (wrL (F 2) 0 t_)) 25 (upd (F 25) d (bI true))) 11 (upd (F 11) d (nI (cond (t_.getD 8 false) 0 fl)))) 2 (wrL u_16 15 l)) 27 (upd (F 27) d (nI (co + ldn (toN t_ 3 4) a)))) 24 (upd (F 24) d (bI true))) 23 (upd (F 23) d (bI (t_.getD 9 false))))]) C ho 0 24 rfl rfl 0 rfl d rfl (by omega) (by decide) dX9_hear_162 rfl (fun H locs ho => ?_)
              refine lv_aload_n hx hb dX9_hear_163 rfl (lv_at hl 6 rfl) ?_
              refine lv_iload_n hx hb dX9_hear_164 rfl (lv_at hl 5 rfl) ?_
              refine o_callV (wr := []) (rest := []) (As := [.int (nI d)]) C (c_M_useA la D K h ar ad ck a.length (15 + l.length) (va_up (va_up (va_up (va_up (va_up (va_up (va_up (va_up F 1 (whP (ck - 1) (F 1) 400)) 2 (wrL (F 2) 0 t_)) 25 (upd (F 25) d (bI true))) 11 (upd (F 11) d (nI (cond (t_.getD 8 false) 0 fl)))) 2 (wrL u_16 15 l)) 27 (upd (F 27) d (nI (co + ldn (toN t_ 3 4) a)))) 24 (upd (F 24) d (bI true))) 23 (upd (F 23) d (bI (t_.getD 9 false)))) d l n tn dr du (by first | omega | assumption | (simp only [List.length_append, List.length_cons, List.length_nil, List.length_modify, List.length_set, nb_len, rb_len, rbp_len, sl_len, slN_len, wh_len, wt_len, hd10_len, hdB_len, thr_len, ldp_len, ldB_len, tens_len, whz_len, majL_len, mf_len, tkL_len, ldY_len, fif_len, ldY_len]; omega) | decide) (fun i hi => wrL_in hi) qn qll ql2 qn1 q15 qtn q26 qbe q18 qdu) kX9_175 vX9_use (by decide) rfl ho [0] 1 (by decide +kernel) rfl rfl rfl rfl rfl hl.1 rfl (Nat.le_of_ble_eq_true rfl) dX9_hear_165 0 0 rfl rfl (by decide) (fun v u_20 H locs hq ho => ?_)
              obtain rfl := hq
              have ho : ow D vwCl A s.heap H locs [bX K h ar ad ck a.length (15 + l.length) (finF (va_up (va_up (va_up (va_up (va_up (va_up (va_up (va_up (va_up (va_up (va_up (va_up F 1 (whP (ck - 1) (F 1) 400)) 2 (wrL (F 2) 0 t_)) 25 (upd (F 25) d (bI true))) 11 (upd (F 11) d (nI (cond (t_.getD 8 false) 0 fl)))) 2 (wrL u_16 15 l)) 27 (upd (F 27) d (nI (co + ldn (toN t_ 3 4) a)))) 24 (upd (F 24) d (bI true))) 23 (upd (F 23) d (bI (t_.getD 9 false)))) 26 (upd (F 26) d (nI (dr + 1)))) 18 (upd (F 18) d (nI (toN l 8 8)))) 20 (wrN (F 20) (320 * d + 0) (slN (ldY l n) 1 (n - 1)))) 19 (upd (F 19) d (nI (0 + (n - 1))))) d (0 + (n - 1)) (toN l 8 8) tn (dr + 1))] := ho
              refine W.eq (g2 := F0 m 168 ls []) rfl ?_
              refine lv_aload_n hx hb dX9_hear_168 rfl (lv_at hl 6 rfl) ?_
              refine lv_iconst (v := nI 0) hx hb dX9_hear_169 (by decide) ?_
              refine o_put (v := .int (nI 0)) (bs' := [bX K h ar ad ck 0 (15 + l.length) (finF (va_up (va_up (va_up (va_up (va_up (va_up (va_up (va_up (va_up (va_up (va_up (va_up F 1 (whP (ck - 1) (F 1) 400)) 2 (wrL (F 2) 0 t_)) 25 (upd (F 25) d (bI true))) 11 (upd (F 11) d (nI (cond (t_.getD 8 false) 0 fl)))) 2 (wrL u_16 15 l)) 27 (upd (F 27) d (nI (co + ldn (toN t_ 3 4) a)))) 24 (upd (F 24) d (bI true))) 23 (upd (F 23) d (bI (t_.getD 9 false)))) 26 (upd (F 26) d (nI (dr + 1)))) 18 (upd (F 18) d (nI (toN l 8 8)))) 20 (wrN (F 20) (320 * d + 0) (slN (ldY l n) 1 (n - 1)))) 19 (upd (F 19) d (nI (0 + (n - 1))))) d (0 + (n - 1)) (toN l 8 8) tn (dr + 1))]) C ho 0 0 rfl rfl rfl 2 fX9_122 pX9_2 rfl rfl (Nat.le_of_ble_eq_true rfl) dX9_hear_170 rfl (fun H locs ho => ?_)
              refine lv_iload hx hb dX9_hear_173 (lv_at hl 0 rfl) ?_
              exact o_iret hQ C rfl ho u_16 rfl rfl (Nat.le_of_ble_eq_true rfl) (Nat.le_of_ble_eq_true rfl) dX9_hear_175
            · skip
              exact absurd c_19 qtt
        · skip
          exact absurd c_15 (by omega)
  · skip
    exact absurd c_1 (by omega)

set_option maxHeartbeats 4000000 in
set_option maxRecDepth 100000 in
theorem c_M_hear6B (la : Launch) (D : va_G) (K : Nat → ClassId) (h : Nat) (ar : Nat → Nat) (ad : Nat) (ck : Nat) (lo : Nat) (F : Nat → Nat → Int32) (d : Nat) (a : List Bool) (t_ : List Bool) (fl : Nat) (co : Nat) (l : List Bool) (lt_ : Bool) (n : Nat) (tn : Nat) (dr : Nat) (qd : ck % 2 = d) (qck : ck < 2 ^ 29) (qk1 : 1 ≤ ck) (qad : ad < 8) (qa : ∀ i, i < a.length → F 0 i = bI (a.getD i false)) (qal : 54 ≤ a.length) (qal2 : a.length ≤ 204) (qtl : t_.length = 18) (qth : ∀ i, i < 18 → t_.getD i false = (maj (a.getD (3 * i) false) (a.getD (3 * i + 1) false) (a.getD (3 * i + 2) false) ^^ wb (ck - 1) i)) (qh : hOK ad t_ = true) (q11 : F 11 d = nI fl) (qk34 : toN t_ 3 4 = 3 ∨ toN t_ 3 4 = 4) (q27 : F 27 d = nI co) (qlx : ldl (toN t_ 3 4) (ck - 1) a = l) (qok : (lds (toN t_ 3 4) a && ldOK (ldl (toN t_ 3 4) (ck - 1) a)) = true) (q23 : F 23 d = bI lt_) (qtt : ¬ t_.getD 9 false = lt_) (qn : n = toN l 0 8 / 4) (qll : 24 + 8 * n ≤ l.length) (ql2 : l.length ≤ 150) (qn1 : 1 ≤ n) (q15 : F 15 d = nI tn) (qtn : tn ≤ 6) (q26 : F 26 d = nI dr) (qbe : l.getD 1 false = true) (q18 : F 18 d = -1) : MT la D K yX9_hear cX9_hear 7 (some .int) (rmL 7 0 0) [.ref h] [bX K h ar ad ck a.length lo F] (Nat → Int32) (fun v _ => v = some (.int (nI 6))) (fun u => [bX K h ar ad ck 0 (15 + l.length) (finF (va_up (va_up (va_up (va_up (va_up (va_up (va_up (va_up (va_up (va_up (va_up F 1 (whP (ck - 1) (F 1) 400)) 2 (wrL (F 2) 0 t_)) 25 (upd (F 25) d (bI true))) 11 (upd (F 11) d (nI (cond (t_.getD 8 false) 0 fl)))) 2 (wrL u 15 l)) 27 (upd (F 27) d (nI (co + ldn (toN t_ 3 4) a)))) 24 (upd (F 24) d (bI true))) 23 (upd (F 23) d (bI (t_.getD 9 false)))) 18 (upd (F 18) d (nI (toN l 8 8)))) 20 (wrN (F 20) (320 * d + 0) (slN (ldY l n) 1 (n - 1)))) 19 (upd (F 19) d (nI (0 + (n - 1))))) d (0 + (n - 1)) (toN l 8 8) tn dr)]) := by
  refine Mt.ofW [(0, .ref h)] (by decide) rfl (Nat.le_of_ble_eq_true rfl) ?_
  intro p e s m args below meth c A ls H locs Qz hQ C hin hl ho
  have hx := C.1.1
  have hb := C.1.2.1
  refine lv_aload_n hx hb dX9_hear_0 rfl (lv_at hl 0 rfl) ?_
  refine o_get (v := .int (nI a.length)) C ho 0 0 rfl rfl rfl 2 fX9_122 rfl dX9_hear_1 ?_
  refine o_if_ne (tgt := 9) hx hb dX9_hear_4 (by decide) (by omega) (fun c_1 => ?_) (fun c_1 => ?_)
  · skip
    refine lv_aload_n hx hb dX9_hear_9 rfl (lv_at hl 0 rfl) ?_
    refine o_get (v := .int (nI ck)) C ho 0 0 rfl rfl rfl 1 fX9_131 rfl dX9_hear_10 ?_
    refine lv_iconst (v := nI 1) hx hb dX9_hear_13 (by decide) ?_
    refine o_and hx hb dX9_hear_14 ?_
    refine o_top (y := nI d) (by rw [Nat.and_one_is_mod, qd]) ?_
    have q2d : d < 2 := by omega
    have ht4 := toN_lt t_ 3 4
    refine lv_istore_n (lv' := [(1, .int (nI d)), (0, .ref h)]) hx hb dX9_hear_15 rfl hl (by decide) rfl (fun ls hl => ?_)
    refine lv_aload_n hx hb dX9_hear_16 rfl (lv_at hl 1 rfl) ?_
    refine lv_aload_n hx hb dX9_hear_17 rfl (lv_at hl 1 rfl) ?_
    refine o_get (v := .int (nI ck)) C ho 0 0 rfl rfl rfl 1 fX9_131 rfl dX9_hear_18 ?_
    refine lv_iconst (v := nI 1) hx hb dX9_hear_21 (by decide) ?_
    refine o_sub hx hb dX9_hear_22 (by omega) ?_
    refine o_callV (wr := []) (rest := []) (As := [.int (nI (ck - 1))]) C (c_M_whiten la D K h ar ad ck a.length lo F (ck - 1) (by first | omega | assumption | (simp only [List.length_append, List.length_cons, List.length_nil, List.length_modify, List.length_set, nb_len, rb_len, rbp_len, sl_len, slN_len, wh_len, wt_len, hd10_len, hdB_len, thr_len, ldp_len, ldB_len, tens_len, whz_len, majL_len, mf_len, tkL_len, ldY_len, fif_len, ldY_len]; omega) | decide)) kX9_134 vX9_whiten (by decide) rfl ho [0] 1 (by decide +kernel) rfl rfl rfl rfl rfl hl.1 rfl (Nat.le_of_ble_eq_true rfl) dX9_hear_23 0 0 rfl rfl (by decide) (fun v u_2 H locs hq ho => ?_)
    obtain rfl := hq
    have ho : ow D vwCl A s.heap H locs [bX K h ar ad ck a.length lo (va_up F 1 (whP (ck - 1) (F 1) 400))] := ho
    refine W.eq (g2 := F0 m 26 ls []) rfl ?_
    refine lv_aload_n hx hb dX9_hear_26 rfl (lv_at hl 1 rfl) ?_
    refine o_callV (wr := []) (rest := []) (As := []) C (c_M_headGood la D K h ar ad ck a.length lo (va_up F 1 (whP (ck - 1) (F 1) 400)) a (ck - 1) t_ qa (fun i hi => whP_in hi) qtl qth (by first | omega | assumption | (simp only [List.length_append, List.length_cons, List.length_nil, List.length_modify, List.length_set, nb_len, rb_len, rbp_len, sl_len, slN_len, wh_len, wt_len, hd10_len, hdB_len, thr_len, ldp_len, ldB_len, tens_len, whz_len, majL_len, mf_len, tkL_len, ldY_len, fif_len, ldY_len]; omega) | decide) (by first | omega | assumption | (simp only [List.length_append, List.length_cons, List.length_nil, List.length_modify, List.length_set, nb_len, rb_len, rbp_len, sl_len, slN_len, wh_len, wt_len, hd10_len, hdB_len, thr_len, ldp_len, ldB_len, tens_len, whz_len, majL_len, mf_len, tkL_len, ldY_len, fif_len, ldY_len]; omega) | decide)) kX9_168 vX9_headGood (by decide) rfl ho [0] 1 (by decide +kernel) rfl rfl rfl rfl rfl hl.1 rfl (Nat.le_of_ble_eq_true rfl) dX9_hear_27 0 0 rfl rfl (by decide) (fun v u_3 H locs hq ho => ?_)
    obtain rfl := hq
    have ho : ow D vwCl A s.heap H locs [bX K h ar ad ck a.length lo (va_up (va_up F 1 (whP (ck - 1) (F 1) 400)) 2 (wrL (F 2) 0 t_))] := ho
    refine W.eq (g2 := F0 m 30 ls [.int (bI (hOK ad t_))]) rfl ?_
    refine lv_istore_n (lv' := [(2, .int (bI (hOK ad t_))), (1, .int (nI d)), (0, .ref h)]) hx hb dX9_hear_30 rfl hl (by decide) rfl (fun ls hl => ?_)
    refine lv_aload_n hx hb dX9_hear_31 rfl (lv_at hl 2 rfl) ?_
    refine lv_iconst (v := nI 3) hx hb dX9_hear_32 (by decide) ?_
    refine lv_iconst (v := nI 4) hx hb dX9_hear_33 (by decide) ?_
    refine o_callV (wr := []) (rest := []) (As := [.int (nI 3), .int (nI 4)]) C (c_M_number la D K h ar ad ck a.length lo (va_up (va_up F 1 (whP (ck - 1) (F 1) 400)) 2 (wrL (F 2) 0 t_)) 3 4 t_ 3 (fun i hi => rd2 (by omega) hi) (by first | omega | assumption | (simp only [List.length_append, List.length_cons, List.length_nil, List.length_modify, List.length_set, nb_len, rb_len, rbp_len, sl_len, slN_len, wh_len, wt_len, hd10_len, hdB_len, thr_len, ldp_len, ldB_len, tens_len, whz_len, majL_len, mf_len, tkL_len, ldY_len, fif_len, ldY_len]; omega) | decide) (by first | omega | assumption | (simp only [List.length_append, List.length_cons, List.length_nil, List.length_modify, List.length_set, nb_len, rb_len, rbp_len, sl_len, slN_len, wh_len, wt_len, hd10_len, hdB_len, thr_len, ldp_len, ldB_len, tens_len, whz_len, majL_len, mf_len, tkL_len, ldY_len, fif_len, ldY_len]; omega) | decide)) kX9_153 vX9_number (by decide) rfl ho [0] 1 (by decide +kernel) rfl rfl rfl rfl rfl hl.1 rfl (Nat.le_of_ble_eq_true rfl) dX9_hear_34 0 0 rfl rfl (by decide) (fun v u_4 H locs hq ho => ?_)
    obtain rfl := hq
    have ho : ow D vwCl A s.heap H locs [bX K h ar ad ck a.length lo (va_up (va_up F 1 (whP (ck - 1) (F 1) 400)) 2 (wrL (F 2) 0 t_))] := ho
    refine W.eq (g2 := F0 m 37 ls [.int (nI (toN t_ 3 4))]) rfl ?_
    refine lv_istore_n (lv' := [(3, .int (nI (toN t_ 3 4))), (2, .int (bI (hOK ad t_))), (1, .int (nI d)), (0, .ref h)]) hx hb dX9_hear_37 rfl hl (by decide) rfl (fun ls hl => ?_)
    refine lv_aload_n hx hb dX9_hear_38 rfl (lv_at hl 3 rfl) ?_
    refine o_get (v := .ref (ar 2)) C ho 0 0 rfl rfl rfl 6 fX9_16 rfl dX9_hear_39 ?_
    refine lv_bipush (v := nI 8) hx hb dX9_hear_42 (by decide) ?_
    refine o_iald (v := wrL (F 2) 0 t_ 8) C ho 0 3 rfl rfl 0 rfl 8 rfl (by omega) (by omega) rfl dX9_hear_44 ?_
    refine o_top (y := bI (t_.getD 8 false)) (wrL_in0 (by omega)) ?_
    refine lv_istore (lv' := [(4, .int (bI (t_.getD 8 false))), (3, .int (nI (toN t_ 3 4))), (2, .int (bI (hOK ad t_))), (1, .int (nI d)), (0, .ref h)]) hx hb dX9_hear_45 hl (by decide) rfl (fun ls hl => ?_)
    refine lv_aload_n hx hb dX9_hear_47 rfl (lv_at hl 4 rfl) ?_
    refine o_get (v := .ref (ar 2)) C ho 0 0 rfl rfl rfl 6 fX9_16 rfl dX9_hear_48 ?_
    refine lv_bipush (v := nI 9) hx hb dX9_hear_51 (by decide) ?_
    refine o_iald (v := wrL (F 2) 0 t_ 9) C ho 0 3 rfl rfl 0 rfl 9 rfl (by omega) (by omega) rfl dX9_hear_53 ?_
    refine o_top (y := bI (t_.getD 9 false)) (wrL_in0 (by omega)) ?_
    refine lv_istore (lv' := [(5, .int (bI (t_.getD 9 false))), (4, .int (bI (t_.getD 8 false))), (3, .int (nI (toN t_ 3 4))), (2, .int (bI (hOK ad t_))), (1, .int (nI d)), (0, .ref h)]) hx hb dX9_hear_54 hl (by decide) rfl (fun ls hl => ?_)
    refine lv_iconst (v := nI 5) hx hb dX9_hear_56 (by decide) ?_
    refine lv_istore (lv' := [(6, .int (nI 5)), (5, .int (bI (t_.getD 9 false))), (4, .int (bI (t_.getD 8 false))), (3, .int (nI (toN t_ 3 4))), (2, .int (bI (hOK ad t_))), (1, .int (nI d)), (0, .ref h)]) hx hb dX9_hear_57 hl (by decide) rfl (fun ls hl => ?_)
    refine lv_iload_n hx hb dX9_hear_59 rfl (lv_at hl 4 rfl) ?_
    refine o_ifb_eq (tgt := 168) hx hb dX9_hear_60 (by decide) (fun c_5 => ?_) (fun c_5 => ?_)
    · skip
      exact absurd (qh.symm.trans c_5) (by decide)
    · skip
      refine lv_aload_n hx hb dX9_hear_63 rfl (lv_at hl 6 rfl) ?_
      refine o_get (v := .ref (ar 25)) C ho 0 0 rfl rfl rfl 29 fX9_86 rfl dX9_hear_64 ?_
      refine lv_iload_n hx hb dX9_hear_67 rfl (lv_at hl 5 rfl) ?_
      refine lv_iconst (v := nI 1) hx hb dX9_hear_68 (by decide) ?_
      refine o_top (y := bI true) (rfl) ?_
      refine o_zast (bs' := [bX K h ar ad ck a.length lo (va_up (va_up (va_up F 1 (whP (ck - 1) (F 1) 400)) 2 (wrL (F 2) 0 t_)) 25 (upd (F 25) d (bI true)))]) C ho 0 26 rfl rfl 3 rfl d rfl (by omega) (by decide) dX9_hear_69 rfl (fun H locs ho => ?_)
      refine lv_iload hx hb dX9_hear_70 (lv_at hl 2 rfl) ?_
      refine lv_iconst (v := nI 1) hx hb dX9_hear_72 (by decide) ?_
      refine o_top (y := bI true) (rfl) ?_
      refine o_icmpb_ne (tgt := 83) hx hb dX9_hear_73 (by decide) (fun c_6 => ?_) (fun c_6 => ?_)
      · skip
        have e_7 : bX K h ar ad ck a.length lo (va_up (va_up (va_up F 1 (whP (ck - 1) (F 1) 400)) 2 (wrL (F 2) 0 t_)) 25 (upd (F 25) d (bI true))) = bX K h ar ad ck a.length lo (va_up (va_up (va_up (va_up F 1 (whP (ck - 1) (F 1) 400)) 2 (wrL (F 2) 0 t_)) 25 (upd (F 25) d (bI true))) 11 (upd (F 11) d (nI (cond (t_.getD 8 false) 0 fl)))) := by rw [Bool.eq_false_iff.mpr c_6, cond_false, upd_same q11]; exact congrArg (bX K h ar ad ck a.length lo) (up_1 rfl)
        have ho : ow D vwCl A s.heap H locs [bX K h ar ad ck a.length lo (va_up (va_up (va_up (va_up F 1 (whP (ck - 1) (F 1) 400)) 2 (wrL (F 2) 0 t_)) 25 (upd (F 25) d (bI true))) 11 (upd (F 11) d (nI (cond (t_.getD 8 false) 0 fl))))] := by rw [← e_7]; exact ho
        refine lv_iload_n hx hb dX9_hear_83 rfl (lv_at hl 3 rfl) ?_
        refine lv_iconst (v := nI 3) hx hb dX9_hear_84 (by decide) ?_
        refine o_icmp_ge (tgt := 93) hx hb dX9_hear_85 (by decide) (by first | omega | exact and1_lt _) (by first | omega | exact and1_lt _) (fun c_8 => ?_) (fun c_8 => ?_)
        · skip
          refine lv_aload_n hx hb dX9_hear_93 rfl (lv_at hl 6 rfl) ?_
          refine lv_iload_n hx hb dX9_hear_94 rfl (lv_at hl 5 rfl) ?_
          refine lv_iload_n hx hb dX9_hear_95 rfl (lv_at hl 3 rfl) ?_
          refine o_callV (wr := []) (rest := []) (As := [.int (nI d), .int (nI (toN t_ 3 4))]) C (c_M_loadGood la D K h ar ad ck lo (va_up (va_up (va_up (va_up F 1 (whP (ck - 1) (F 1) 400)) 2 (wrL (F 2) 0 t_)) 25 (upd (F 25) d (bI true))) 11 (upd (F 11) d (nI (cond (t_.getD 8 false) 0 fl)))) d a (ck - 1) co (toN t_ 3 4) (by first | omega | assumption | (simp only [List.length_append, List.length_cons, List.length_nil, List.length_modify, List.length_set, nb_len, rb_len, rbp_len, sl_len, slN_len, wh_len, wt_len, hd10_len, hdB_len, thr_len, ldp_len, ldB_len, tens_len, whz_len, majL_len, mf_len, tkL_len, ldY_len, fif_len, ldY_len]; omega) | decide) qa (fun i hi => whP_in hi) (by first | omega | assumption | (simp only [List.length_append, List.length_cons, List.length_nil, List.length_modify, List.length_set, nb_len, rb_len, rbp_len, sl_len, slN_len, wh_len, wt_len, hd10_len, hdB_len, thr_len, ldp_len, ldB_len, tens_len, whz_len, majL_len, mf_len, tkL_len, ldY_len, fif_len, ldY_len]; omega) | decide) (by first | omega | assumption | (simp only [List.length_append, List.length_cons, List.length_nil, List.length_modify, List.length_set, nb_len, rb_len, rbp_len, sl_len, slN_len, wh_len, wt_len, hd10_len, hdB_len, thr_len, ldp_len, ldB_len, tens_len, whz_len, majL_len, mf_len, tkL_len, ldY_len, fif_len, ldY_len]; omega) | decide) q27 qk34) kX9_172 vX9_loadGood (by decide) rfl ho [0] 1 (by decide +kernel) rfl rfl rfl rfl rfl hl.1 rfl (Nat.le_of_ble_eq_true rfl) dX9_hear_96 0 0 rfl rfl (by decide) (fun v u_9 H locs hq ho => ?_)
          obtain rfl := hq
          have ho : ow D vwCl A s.heap H locs [bX K h ar ad ck a.length (15 + (ldl (toN t_ 3 4) (ck - 1) a).length) (va_up (va_up (va_up (va_up (va_up (va_up F 1 (whP (ck - 1) (F 1) 400)) 2 (wrL (F 2) 0 t_)) 25 (upd (F 25) d (bI true))) 11 (upd (F 11) d (nI (cond (t_.getD 8 false) 0 fl)))) 2 (wrL u_9 15 (ldl (toN t_ 3 4) (ck - 1) a))) 27 (upd (F 27) d (nI (co + ldn (toN t_ 3 4) a))))] := ho
          refine W.eq (g2 := F0 m 99 ls [.int (bI (lds (toN t_ 3 4) a && ldOK (ldl (toN t_ 3 4) (ck - 1) a)))]) rfl ?_
          have e_10 : bX K h ar ad ck a.length (15 + (ldl (toN t_ 3 4) (ck - 1) a).length) (va_up (va_up (va_up (va_up (va_up (va_up F 1 (whP (ck - 1) (F 1) 400)) 2 (wrL (F 2) 0 t_)) 25 (upd (F 25) d (bI true))) 11 (upd (F 11) d (nI (cond (t_.getD 8 false) 0 fl)))) 2 (wrL u_9 15 (ldl (toN t_ 3 4) (ck - 1) a))) 27 (upd (F 27) d (nI (co + ldn (toN t_ 3 4) a)))) = bX K h ar ad ck a.length (15 + l.length) (va_up (va_up (va_up (va_up (va_up (va_up F 1 (whP (ck - 1) (F 1) 400)) 2 (wrL (F 2) 0 t_)) 25 (upd (F 25) d (bI true))) 11 (upd (F 11) d (nI (cond (t_.getD 8 false) 0 fl)))) 2 (wrL u_9 15 l)) 27 (upd (F 27) d (nI (co + ldn (toN t_ 3 4) a)))) := by rw [qlx]
          have ho : ow D vwCl A s.heap H locs [bX K h ar ad ck a.length (15 + l.length) (va_up (va_up (va_up (va_up (va_up (va_up F 1 (whP (ck - 1) (F 1) 400)) 2 (wrL (F 2) 0 t_)) 25 (upd (F 25) d (bI true))) 11 (upd (F 11) d (nI (cond (t_.getD 8 false) 0 fl)))) 2 (wrL u_9 15 l)) 27 (upd (F 27) d (nI (co + ldn (toN t_ 3 4) a))))] := by rw [← e_10]; exact ho
          refine o_ifb_eq (tgt := 123) hx hb dX9_hear_99 (by decide) (fun c_11 => ?_) (fun c_11 => ?_)
          · skip
            exact absurd (qok.symm.trans c_11) (by decide)
          · skip
            refine lv_iload hx hb dX9_hear_102 (lv_at hl 1 rfl) ?_
            refine lv_aload_n hx hb dX9_hear_104 rfl (lv_at hl 6 rfl) ?_
            refine o_get (v := .ref (ar 23)) C ho 0 0 rfl rfl rfl 27 fX9_80 rfl dX9_hear_105 ?_
            refine lv_iload_n hx hb dX9_hear_108 rfl (lv_at hl 5 rfl) ?_
            refine o_iald (v := bI lt_) C ho 0 24 rfl rfl 0 rfl d rfl (by omega) (by omega) q23 dX9_hear_109 ?_
            refine o_icmpb_ne (tgt := 118) hx hb dX9_hear_110 (by decide) (fun c_12 => ?_) (fun c_12 => ?_)
            · skip
              refine lv_bipush (v := nI 6) hx hb dX9_hear_118 (by decide) ?_
              refine lv_goto (tgt := 125) hx hb dX9_hear_120 (by decide) ?_
              refine lv_istore (lv' := [(6, .int (nI 6)), (5, .int (bI (t_.getD 9 false))), (4, .int (bI (t_.getD 8 false))), (3, .int (nI (toN t_ 3 4))), (2, .int (bI (hOK ad t_))), (1, .int (nI d)), (0, .ref h)]) hx hb dX9_hear_125 hl (by decide) rfl (fun ls hl => ?_)
              refine lv_iload hx hb dX9_hear_127 (lv_at hl 0 rfl) ?_
              refine lv_bipush (v := nI 6) hx hb dX9_hear_129 (by decide) ?_
              refine o_icmp_eq (tgt := 141) hx hb dX9_hear_131 (by decide) (by decide) (by decide) (fun _ => ?_) (fun c9 => absurd c9 (by decide))
              refine lv_aload_n hx hb dX9_hear_141 rfl (lv_at hl 6 rfl) ?_
              refine o_get (v := .ref (ar 24)) C ho 0 0 rfl rfl rfl 28 fX9_83 rfl dX9_hear_142 ?_
              refine lv_iload_n hx hb dX9_hear_145 rfl (lv_at hl 5 rfl) ?_
              refine lv_iconst (v := nI 1) hx hb dX9_hear_146 (by decide) ?_
              refine o_top (y := bI true) (rfl) ?_
              refine o_zast (bs' := [bX K h ar ad ck a.length (15 + l.length) (va_up (va_up (va_up (va_up (va_up (va_up (va_up F 1 (whP (ck - 1) (F 1) 400)) 2 (wrL (F 2) 0 t_)) 25 (upd (F 25) d (bI true))) 11 (upd (F 11) d (nI (cond (t_.getD 8 false) 0 fl)))) 2 (wrL u_9 15 l)) 27 (upd (F 27) d (nI (co + ldn (toN t_ 3 4) a)))) 24 (upd (F 24) d (bI true)))]) C ho 0 25 rfl rfl 3 rfl d rfl (by omega) (by decide) dX9_hear_147 rfl (fun H locs ho => ?_)
              refine lv_iload hx hb dX9_hear_148 (lv_at hl 0 rfl) ?_
              refine lv_bipush (v := nI 6) hx hb dX9_hear_150 (by decide) ?_
              refine o_icmp_ne (tgt := 168) hx hb dX9_hear_152 (by decide) (by decide) (by decide) (fun c9 => absurd c9 (by decide)) (fun _ => ?_)
              refine lv_aload_n hx hb dX9_hear_155 rfl (lv_at hl 6 rfl) ?_
              refine o_get (v := .ref (ar 23)) C ho 0 0 rfl rfl rfl 27 fX9_80 rfl dX9_hear_156 ?_
              refine lv_iload_n hx hb dX9_hear_159 rfl (lv_at hl 5 rfl) ?_
              refine lv_iload hx hb dX9_hear_160 (lv_at hl 1 rfl) ?_
              refine o_iast (bs' := [bX K h ar ad ck a.length (15 + l.length) (va_up (va_up (va_up (va_up (va_up (va_up (va_up (va_up F 1 (whP (ck - 1) (F 1) 400)) 2 (wrL (F 2) 0 t_)) 25 (upd (F 25) d (bI true))) 11 (upd (F 11) d (nI (cond (t_.getD 8 false) 0 fl)))) 2 (wrL u_9 15 l)) 27 (upd (F 27) d (nI (co + ldn (toN t_ 3 4) a)))) 24 (upd (F 24) d (bI true))) 23 (upd (F 23) d (bI (t_.getD 9 false))))]) C ho 0 24 rfl rfl 0 rfl d rfl (by omega) (by decide) dX9_hear_162 rfl (fun H locs ho => ?_)
              refine lv_aload_n hx hb dX9_hear_163 rfl (lv_at hl 6 rfl) ?_
              refine lv_iload_n hx hb dX9_hear_164 rfl (lv_at hl 5 rfl) ?_
              refine o_callV (wr := []) (rest := []) (As := [.int (nI d)]) C (c_M_useB la D K h ar ad ck a.length (15 + l.length) (va_up (va_up (va_up (va_up (va_up (va_up (va_up (va_up F 1 (whP (ck - 1) (F 1) 400)) 2 (wrL (F 2) 0 t_)) 25 (upd (F 25) d (bI true))) 11 (upd (F 11) d (nI (cond (t_.getD 8 false) 0 fl)))) 2 (wrL u_9 15 l)) 27 (upd (F 27) d (nI (co + ldn (toN t_ 3 4) a)))) 24 (upd (F 24) d (bI true))) 23 (upd (F 23) d (bI (t_.getD 9 false)))) d l n tn dr (by first | omega | assumption | (simp only [List.length_append, List.length_cons, List.length_nil, List.length_modify, List.length_set, nb_len, rb_len, rbp_len, sl_len, slN_len, wh_len, wt_len, hd10_len, hdB_len, thr_len, ldp_len, ldB_len, tens_len, whz_len, majL_len, mf_len, tkL_len, ldY_len, fif_len, ldY_len]; omega) | decide) (fun i hi => wrL_in hi) qn qll ql2 qn1 q15 qtn q26 qbe q18) kX9_175 vX9_use (by decide) rfl ho [0] 1 (by decide +kernel) rfl rfl rfl rfl rfl hl.1 rfl (Nat.le_of_ble_eq_true rfl) dX9_hear_165 0 0 rfl rfl (by decide) (fun v u_13 H locs hq ho => ?_)
              obtain rfl := hq
              have ho : ow D vwCl A s.heap H locs [bX K h ar ad ck a.length (15 + l.length) (finF (va_up (va_up (va_up (va_up (va_up (va_up (va_up (va_up (va_up (va_up (va_up F 1 (whP (ck - 1) (F 1) 400)) 2 (wrL (F 2) 0 t_)) 25 (upd (F 25) d (bI true))) 11 (upd (F 11) d (nI (cond (t_.getD 8 false) 0 fl)))) 2 (wrL u_9 15 l)) 27 (upd (F 27) d (nI (co + ldn (toN t_ 3 4) a)))) 24 (upd (F 24) d (bI true))) 23 (upd (F 23) d (bI (t_.getD 9 false)))) 18 (upd (F 18) d (nI (toN l 8 8)))) 20 (wrN (F 20) (320 * d + 0) (slN (ldY l n) 1 (n - 1)))) 19 (upd (F 19) d (nI (0 + (n - 1))))) d (0 + (n - 1)) (toN l 8 8) tn dr)] := ho
              refine W.eq (g2 := F0 m 168 ls []) rfl ?_
              refine lv_aload_n hx hb dX9_hear_168 rfl (lv_at hl 6 rfl) ?_
              refine lv_iconst (v := nI 0) hx hb dX9_hear_169 (by decide) ?_
              refine o_put (v := .int (nI 0)) (bs' := [bX K h ar ad ck 0 (15 + l.length) (finF (va_up (va_up (va_up (va_up (va_up (va_up (va_up (va_up (va_up (va_up (va_up F 1 (whP (ck - 1) (F 1) 400)) 2 (wrL (F 2) 0 t_)) 25 (upd (F 25) d (bI true))) 11 (upd (F 11) d (nI (cond (t_.getD 8 false) 0 fl)))) 2 (wrL u_9 15 l)) 27 (upd (F 27) d (nI (co + ldn (toN t_ 3 4) a)))) 24 (upd (F 24) d (bI true))) 23 (upd (F 23) d (bI (t_.getD 9 false)))) 18 (upd (F 18) d (nI (toN l 8 8)))) 20 (wrN (F 20) (320 * d + 0) (slN (ldY l n) 1 (n - 1)))) 19 (upd (F 19) d (nI (0 + (n - 1))))) d (0 + (n - 1)) (toN l 8 8) tn dr)]) C ho 0 0 rfl rfl rfl 2 fX9_122 pX9_2 rfl rfl (Nat.le_of_ble_eq_true rfl) dX9_hear_170 rfl (fun H locs ho => ?_)
              refine lv_iload hx hb dX9_hear_173 (lv_at hl 0 rfl) ?_
              exact o_iret hQ C rfl ho u_9 rfl rfl (Nat.le_of_ble_eq_true rfl) (Nat.le_of_ble_eq_true rfl) dX9_hear_175
            · skip
              exact absurd c_12 qtt
        · skip
          exact absurd c_8 (by omega)
      · skip
        refine lv_aload_n hx hb dX9_hear_76 rfl (lv_at hl 6 rfl) ?_
        refine o_get (v := .ref (ar 11)) C ho 0 0 rfl rfl rfl 15 fX9_43 rfl dX9_hear_77 ?_
        refine lv_iload_n hx hb dX9_hear_80 rfl (lv_at hl 5 rfl) ?_
        refine lv_iconst (v := nI 0) hx hb dX9_hear_81 (by decide) ?_
        refine o_iast (bs' := [bX K h ar ad ck a.length lo (va_up (va_up (va_up (va_up F 1 (whP (ck - 1) (F 1) 400)) 2 (wrL (F 2) 0 t_)) 25 (upd (F 25) d (bI true))) 11 (upd (F 11) d (nI 0)))]) C ho 0 12 rfl rfl 0 rfl d rfl (by omega) (by decide) dX9_hear_82 rfl (fun H locs ho => ?_)
        have e_14 : bX K h ar ad ck a.length lo (va_up (va_up (va_up (va_up F 1 (whP (ck - 1) (F 1) 400)) 2 (wrL (F 2) 0 t_)) 25 (upd (F 25) d (bI true))) 11 (upd (F 11) d (nI 0))) = bX K h ar ad ck a.length lo (va_up (va_up (va_up (va_up F 1 (whP (ck - 1) (F 1) 400)) 2 (wrL (F 2) 0 t_)) 25 (upd (F 25) d (bI true))) 11 (upd (F 11) d (nI (cond (t_.getD 8 false) 0 fl)))) := by rw [c_6, cond_true]
        have ho : ow D vwCl A s.heap H locs [bX K h ar ad ck a.length lo (va_up (va_up (va_up (va_up F 1 (whP (ck - 1) (F 1) 400)) 2 (wrL (F 2) 0 t_)) 25 (upd (F 25) d (bI true))) 11 (upd (F 11) d (nI (cond (t_.getD 8 false) 0 fl))))] := by rw [← e_14]; exact ho
        refine lv_iload_n hx hb dX9_hear_83 rfl (lv_at hl 3 rfl) ?_
        refine lv_iconst (v := nI 3) hx hb dX9_hear_84 (by decide) ?_
        refine o_icmp_ge (tgt := 93) hx hb dX9_hear_85 (by decide) (by first | omega | exact and1_lt _) (by first | omega | exact and1_lt _) (fun c_15 => ?_) (fun c_15 => ?_)
        · skip
          refine lv_aload_n hx hb dX9_hear_93 rfl (lv_at hl 6 rfl) ?_
          refine lv_iload_n hx hb dX9_hear_94 rfl (lv_at hl 5 rfl) ?_
          refine lv_iload_n hx hb dX9_hear_95 rfl (lv_at hl 3 rfl) ?_
          refine o_callV (wr := []) (rest := []) (As := [.int (nI d), .int (nI (toN t_ 3 4))]) C (c_M_loadGood la D K h ar ad ck lo (va_up (va_up (va_up (va_up F 1 (whP (ck - 1) (F 1) 400)) 2 (wrL (F 2) 0 t_)) 25 (upd (F 25) d (bI true))) 11 (upd (F 11) d (nI (cond (t_.getD 8 false) 0 fl)))) d a (ck - 1) co (toN t_ 3 4) (by first | omega | assumption | (simp only [List.length_append, List.length_cons, List.length_nil, List.length_modify, List.length_set, nb_len, rb_len, rbp_len, sl_len, slN_len, wh_len, wt_len, hd10_len, hdB_len, thr_len, ldp_len, ldB_len, tens_len, whz_len, majL_len, mf_len, tkL_len, ldY_len, fif_len, ldY_len]; omega) | decide) qa (fun i hi => whP_in hi) (by first | omega | assumption | (simp only [List.length_append, List.length_cons, List.length_nil, List.length_modify, List.length_set, nb_len, rb_len, rbp_len, sl_len, slN_len, wh_len, wt_len, hd10_len, hdB_len, thr_len, ldp_len, ldB_len, tens_len, whz_len, majL_len, mf_len, tkL_len, ldY_len, fif_len, ldY_len]; omega) | decide) (by first | omega | assumption | (simp only [List.length_append, List.length_cons, List.length_nil, List.length_modify, List.length_set, nb_len, rb_len, rbp_len, sl_len, slN_len, wh_len, wt_len, hd10_len, hdB_len, thr_len, ldp_len, ldB_len, tens_len, whz_len, majL_len, mf_len, tkL_len, ldY_len, fif_len, ldY_len]; omega) | decide) q27 qk34) kX9_172 vX9_loadGood (by decide) rfl ho [0] 1 (by decide +kernel) rfl rfl rfl rfl rfl hl.1 rfl (Nat.le_of_ble_eq_true rfl) dX9_hear_96 0 0 rfl rfl (by decide) (fun v u_16 H locs hq ho => ?_)
          obtain rfl := hq
          have ho : ow D vwCl A s.heap H locs [bX K h ar ad ck a.length (15 + (ldl (toN t_ 3 4) (ck - 1) a).length) (va_up (va_up (va_up (va_up (va_up (va_up F 1 (whP (ck - 1) (F 1) 400)) 2 (wrL (F 2) 0 t_)) 25 (upd (F 25) d (bI true))) 11 (upd (F 11) d (nI (cond (t_.getD 8 false) 0 fl)))) 2 (wrL u_16 15 (ldl (toN t_ 3 4) (ck - 1) a))) 27 (upd (F 27) d (nI (co + ldn (toN t_ 3 4) a))))] := ho
          refine W.eq (g2 := F0 m 99 ls [.int (bI (lds (toN t_ 3 4) a && ldOK (ldl (toN t_ 3 4) (ck - 1) a)))]) rfl ?_
          have e_17 : bX K h ar ad ck a.length (15 + (ldl (toN t_ 3 4) (ck - 1) a).length) (va_up (va_up (va_up (va_up (va_up (va_up F 1 (whP (ck - 1) (F 1) 400)) 2 (wrL (F 2) 0 t_)) 25 (upd (F 25) d (bI true))) 11 (upd (F 11) d (nI (cond (t_.getD 8 false) 0 fl)))) 2 (wrL u_16 15 (ldl (toN t_ 3 4) (ck - 1) a))) 27 (upd (F 27) d (nI (co + ldn (toN t_ 3 4) a)))) = bX K h ar ad ck a.length (15 + l.length) (va_up (va_up (va_up (va_up (va_up (va_up F 1 (whP (ck - 1) (F 1) 400)) 2 (wrL (F 2) 0 t_)) 25 (upd (F 25) d (bI true))) 11 (upd (F 11) d (nI (cond (t_.getD 8 false) 0 fl)))) 2 (wrL u_16 15 l)) 27 (upd (F 27) d (nI (co + ldn (toN t_ 3 4) a)))) := by rw [qlx]
          have ho : ow D vwCl A s.heap H locs [bX K h ar ad ck a.length (15 + l.length) (va_up (va_up (va_up (va_up (va_up (va_up F 1 (whP (ck - 1) (F 1) 400)) 2 (wrL (F 2) 0 t_)) 25 (upd (F 25) d (bI true))) 11 (upd (F 11) d (nI (cond (t_.getD 8 false) 0 fl)))) 2 (wrL u_16 15 l)) 27 (upd (F 27) d (nI (co + ldn (toN t_ 3 4) a))))] := by rw [← e_17]; exact ho
          refine o_ifb_eq (tgt := 123) hx hb dX9_hear_99 (by decide) (fun c_18 => ?_) (fun c_18 => ?_)
          · skip
            exact absurd (qok.symm.trans c_18) (by decide)
          · skip
            refine lv_iload hx hb dX9_hear_102 (lv_at hl 1 rfl) ?_
            refine lv_aload_n hx hb dX9_hear_104 rfl (lv_at hl 6 rfl) ?_
            refine o_get (v := .ref (ar 23)) C ho 0 0 rfl rfl rfl 27 fX9_80 rfl dX9_hear_105 ?_
            refine lv_iload_n hx hb dX9_hear_108 rfl (lv_at hl 5 rfl) ?_
            refine o_iald (v := bI lt_) C ho 0 24 rfl rfl 0 rfl d rfl (by omega) (by omega) q23 dX9_hear_109 ?_
            refine o_icmpb_ne (tgt := 118) hx hb dX9_hear_110 (by decide) (fun c_19 => ?_) (fun c_19 => ?_)
            · skip
              refine lv_bipush (v := nI 6) hx hb dX9_hear_118 (by decide) ?_
              refine lv_goto (tgt := 125) hx hb dX9_hear_120 (by decide) ?_
              refine lv_istore (lv' := [(6, .int (nI 6)), (5, .int (bI (t_.getD 9 false))), (4, .int (bI (t_.getD 8 false))), (3, .int (nI (toN t_ 3 4))), (2, .int (bI (hOK ad t_))), (1, .int (nI d)), (0, .ref h)]) hx hb dX9_hear_125 hl (by decide) rfl (fun ls hl => ?_)
              refine lv_iload hx hb dX9_hear_127 (lv_at hl 0 rfl) ?_
              refine lv_bipush (v := nI 6) hx hb dX9_hear_129 (by decide) ?_
              refine o_icmp_eq (tgt := 141) hx hb dX9_hear_131 (by decide) (by decide) (by decide) (fun _ => ?_) (fun c9 => absurd c9 (by decide))
              refine lv_aload_n hx hb dX9_hear_141 rfl (lv_at hl 6 rfl) ?_
              refine o_get (v := .ref (ar 24)) C ho 0 0 rfl rfl rfl 28 fX9_83 rfl dX9_hear_142 ?_
              refine lv_iload_n hx hb dX9_hear_145 rfl (lv_at hl 5 rfl) ?_
              refine lv_iconst (v := nI 1) hx hb dX9_hear_146 (by decide) ?_
              refine o_top (y := bI true) (rfl) ?_
              refine o_zast (bs' := [bX K h ar ad ck a.length (15 + l.length) (va_up (va_up (va_up (va_up (va_up (va_up (va_up F 1 (whP (ck - 1) (F 1) 400)) 2 (wrL (F 2) 0 t_)) 25 (upd (F 25) d (bI true))) 11 (upd (F 11) d (nI (cond (t_.getD 8 false) 0 fl)))) 2 (wrL u_16 15 l)) 27 (upd (F 27) d (nI (co + ldn (toN t_ 3 4) a)))) 24 (upd (F 24) d (bI true)))]) C ho 0 25 rfl rfl 3 rfl d rfl (by omega) (by decide) dX9_hear_147 rfl (fun H locs ho => ?_)
              refine lv_iload hx hb dX9_hear_148 (lv_at hl 0 rfl) ?_
              refine lv_bipush (v := nI 6) hx hb dX9_hear_150 (by decide) ?_
              refine o_icmp_ne (tgt := 168) hx hb dX9_hear_152 (by decide) (by decide) (by decide) (fun c9 => absurd c9 (by decide)) (fun _ => ?_)
              refine lv_aload_n hx hb dX9_hear_155 rfl (lv_at hl 6 rfl) ?_
              refine o_get (v := .ref (ar 23)) C ho 0 0 rfl rfl rfl 27 fX9_80 rfl dX9_hear_156 ?_
              refine lv_iload_n hx hb dX9_hear_159 rfl (lv_at hl 5 rfl) ?_
              refine lv_iload hx hb dX9_hear_160 (lv_at hl 1 rfl) ?_
              refine o_iast (bs' := [bX K h ar ad ck a.length (15 + l.length) (va_up (va_up (va_up (va_up (va_up (va_up (va_up (va_up F 1 (whP (ck - 1) (F 1) 400)) 2 (wrL (F 2) 0 t_)) 25 (upd (F 25) d (bI true))) 11 (upd (F 11) d (nI (cond (t_.getD 8 false) 0 fl)))) 2 (wrL u_16 15 l)) 27 (upd (F 27) d (nI (co + ldn (toN t_ 3 4) a)))) 24 (upd (F 24) d (bI true))) 23 (upd (F 23) d (bI (t_.getD 9 false))))]) C ho 0 24 rfl rfl 0 rfl d rfl (by omega) (by decide) dX9_hear_162 rfl (fun H locs ho => ?_)
              refine lv_aload_n hx hb dX9_hear_163 rfl (lv_at hl 6 rfl) ?_
              refine lv_iload_n hx hb dX9_hear_164 rfl (lv_at hl 5 rfl) ?_
              refine o_callV (wr := []) (rest := []) (As := [.int (nI d)]) C (c_M_useB la D K h ar ad ck a.length (15 + l.length) (va_up (va_up (va_up (va_up (va_up (va_up (va_up (va_up F 1 (whP (ck - 1) (F 1) 400)) 2 (wrL (F 2) 0 t_)) 25 (upd (F 25) d (bI true))) 11 (upd (F 11) d (nI (cond (t_.getD 8 false) 0 fl)))) 2 (wrL u_16 15 l)) 27 (upd (F 27) d (nI (co + ldn (toN t_ 3 4) a)))) 24 (upd (F 24) d (bI true))) 23 (upd (F 23) d (bI (t_.getD 9 false)))) d l n tn dr (by first | omega | assumption | (simp only [List.length_append, List.length_cons, List.length_nil, List.length_modify, List.length_set, nb_len, rb_len, rbp_len, sl_len, slN_len, wh_len, wt_len, hd10_len, hdB_len, thr_len, ldp_len, ldB_len, tens_len, whz_len, majL_len, mf_len, tkL_len, ldY_len, fif_len, ldY_len]; omega) | decide) (fun i hi => wrL_in hi) qn qll ql2 qn1 q15 qtn q26 qbe q18) kX9_175 vX9_use (by decide) rfl ho [0] 1 (by decide +kernel) rfl rfl rfl rfl rfl hl.1 rfl (Nat.le_of_ble_eq_true rfl) dX9_hear_165 0 0 rfl rfl (by decide) (fun v u_20 H locs hq ho => ?_)
              obtain rfl := hq
              have ho : ow D vwCl A s.heap H locs [bX K h ar ad ck a.length (15 + l.length) (finF (va_up (va_up (va_up (va_up (va_up (va_up (va_up (va_up (va_up (va_up (va_up F 1 (whP (ck - 1) (F 1) 400)) 2 (wrL (F 2) 0 t_)) 25 (upd (F 25) d (bI true))) 11 (upd (F 11) d (nI (cond (t_.getD 8 false) 0 fl)))) 2 (wrL u_16 15 l)) 27 (upd (F 27) d (nI (co + ldn (toN t_ 3 4) a)))) 24 (upd (F 24) d (bI true))) 23 (upd (F 23) d (bI (t_.getD 9 false)))) 18 (upd (F 18) d (nI (toN l 8 8)))) 20 (wrN (F 20) (320 * d + 0) (slN (ldY l n) 1 (n - 1)))) 19 (upd (F 19) d (nI (0 + (n - 1))))) d (0 + (n - 1)) (toN l 8 8) tn dr)] := ho
              refine W.eq (g2 := F0 m 168 ls []) rfl ?_
              refine lv_aload_n hx hb dX9_hear_168 rfl (lv_at hl 6 rfl) ?_
              refine lv_iconst (v := nI 0) hx hb dX9_hear_169 (by decide) ?_
              refine o_put (v := .int (nI 0)) (bs' := [bX K h ar ad ck 0 (15 + l.length) (finF (va_up (va_up (va_up (va_up (va_up (va_up (va_up (va_up (va_up (va_up (va_up F 1 (whP (ck - 1) (F 1) 400)) 2 (wrL (F 2) 0 t_)) 25 (upd (F 25) d (bI true))) 11 (upd (F 11) d (nI (cond (t_.getD 8 false) 0 fl)))) 2 (wrL u_16 15 l)) 27 (upd (F 27) d (nI (co + ldn (toN t_ 3 4) a)))) 24 (upd (F 24) d (bI true))) 23 (upd (F 23) d (bI (t_.getD 9 false)))) 18 (upd (F 18) d (nI (toN l 8 8)))) 20 (wrN (F 20) (320 * d + 0) (slN (ldY l n) 1 (n - 1)))) 19 (upd (F 19) d (nI (0 + (n - 1))))) d (0 + (n - 1)) (toN l 8 8) tn dr)]) C ho 0 0 rfl rfl rfl 2 fX9_122 pX9_2 rfl rfl (Nat.le_of_ble_eq_true rfl) dX9_hear_170 rfl (fun H locs ho => ?_)
              refine lv_iload hx hb dX9_hear_173 (lv_at hl 0 rfl) ?_
              exact o_iret hQ C rfl ho u_16 rfl rfl (Nat.le_of_ble_eq_true rfl) (Nat.le_of_ble_eq_true rfl) dX9_hear_175
            · skip
              exact absurd c_19 qtt
        · skip
          exact absurd c_15 (by omega)
  · skip
    exact absurd c_1 (by omega)

set_option maxHeartbeats 4000000 in
set_option maxRecDepth 100000 in
theorem c_M_hear6C (la : Launch) (D : va_G) (K : Nat → ClassId) (h : Nat) (ar : Nat → Nat) (ad : Nat) (ck : Nat) (lo : Nat) (F : Nat → Nat → Int32) (d : Nat) (a : List Bool) (t_ : List Bool) (fl : Nat) (co : Nat) (l : List Bool) (lt_ : Bool) (n : Nat) (tn : Nat) (dr : Nat) (du : Nat) (g0 : Nat) (qd : ck % 2 = d) (qck : ck < 2 ^ 29) (qk1 : 1 ≤ ck) (qad : ad < 8) (qa : ∀ i, i < a.length → F 0 i = bI (a.getD i false)) (qal : 54 ≤ a.length) (qal2 : a.length ≤ 204) (qtl : t_.length = 18) (qth : ∀ i, i < 18 → t_.getD i false = (maj (a.getD (3 * i) false) (a.getD (3 * i + 1) false) (a.getD (3 * i + 2) false) ^^ wb (ck - 1) i)) (qh : hOK ad t_ = true) (q11 : F 11 d = nI fl) (qk34 : toN t_ 3 4 = 3 ∨ toN t_ 3 4 = 4) (q27 : F 27 d = nI co) (qlx : ldl (toN t_ 3 4) (ck - 1) a = l) (qok : (lds (toN t_ 3 4) a && ldOK (ldl (toN t_ 3 4) (ck - 1) a)) = true) (q23 : F 23 d = bI lt_) (qtt : ¬ t_.getD 9 false = lt_) (qn : n = toN l 0 8 / 4) (qll : 24 + 8 * n ≤ l.length) (ql2 : l.length ≤ 150) (qn1 : 1 ≤ n) (q15 : F 15 d = nI tn) (qtn : tn ≤ 6) (q26 : F 26 d = nI dr) (qbe : l.getD 1 false = false) (q18 : F 18 d = nI du) (qdu : du ≤ 255) (q19 : F 19 d = nI g0) (qg0 : g0 ≤ 255) : MT la D K yX9_hear cX9_hear 7 (some .int) (rmL 7 0 0) [.ref h] [bX K h ar ad ck a.length lo F] (Nat → Int32) (fun v _ => v = some (.int (nI 6))) (fun u => [bX K h ar ad ck 0 (15 + l.length) (finF (va_up (va_up (va_up (va_up (va_up (va_up (va_up (va_up (va_up (va_up F 1 (whP (ck - 1) (F 1) 400)) 2 (wrL (F 2) 0 t_)) 25 (upd (F 25) d (bI true))) 11 (upd (F 11) d (nI (cond (t_.getD 8 false) 0 fl)))) 2 (wrL u 15 l)) 27 (upd (F 27) d (nI (co + ldn (toN t_ 3 4) a)))) 24 (upd (F 24) d (bI true))) 23 (upd (F 23) d (bI (t_.getD 9 false)))) 20 (wrN (F 20) (320 * d + g0) (slN (ldY l n) 0 (n - 0)))) 19 (upd (F 19) d (nI (g0 + (n - 0))))) d (g0 + (n - 0)) du tn dr)]) := by
  refine Mt.ofW [(0, .ref h)] (by decide) rfl (Nat.le_of_ble_eq_true rfl) ?_
  intro p e s m args below meth c A ls H locs Qz hQ C hin hl ho
  have hx := C.1.1
  have hb := C.1.2.1
  refine lv_aload_n hx hb dX9_hear_0 rfl (lv_at hl 0 rfl) ?_
  refine o_get (v := .int (nI a.length)) C ho 0 0 rfl rfl rfl 2 fX9_122 rfl dX9_hear_1 ?_
  refine o_if_ne (tgt := 9) hx hb dX9_hear_4 (by decide) (by omega) (fun c_1 => ?_) (fun c_1 => ?_)
  · skip
    refine lv_aload_n hx hb dX9_hear_9 rfl (lv_at hl 0 rfl) ?_
    refine o_get (v := .int (nI ck)) C ho 0 0 rfl rfl rfl 1 fX9_131 rfl dX9_hear_10 ?_
    refine lv_iconst (v := nI 1) hx hb dX9_hear_13 (by decide) ?_
    refine o_and hx hb dX9_hear_14 ?_
    refine o_top (y := nI d) (by rw [Nat.and_one_is_mod, qd]) ?_
    have q2d : d < 2 := by omega
    have ht4 := toN_lt t_ 3 4
    refine lv_istore_n (lv' := [(1, .int (nI d)), (0, .ref h)]) hx hb dX9_hear_15 rfl hl (by decide) rfl (fun ls hl => ?_)
    refine lv_aload_n hx hb dX9_hear_16 rfl (lv_at hl 1 rfl) ?_
    refine lv_aload_n hx hb dX9_hear_17 rfl (lv_at hl 1 rfl) ?_
    refine o_get (v := .int (nI ck)) C ho 0 0 rfl rfl rfl 1 fX9_131 rfl dX9_hear_18 ?_
    refine lv_iconst (v := nI 1) hx hb dX9_hear_21 (by decide) ?_
    refine o_sub hx hb dX9_hear_22 (by omega) ?_
    refine o_callV (wr := []) (rest := []) (As := [.int (nI (ck - 1))]) C (c_M_whiten la D K h ar ad ck a.length lo F (ck - 1) (by first | omega | assumption | (simp only [List.length_append, List.length_cons, List.length_nil, List.length_modify, List.length_set, nb_len, rb_len, rbp_len, sl_len, slN_len, wh_len, wt_len, hd10_len, hdB_len, thr_len, ldp_len, ldB_len, tens_len, whz_len, majL_len, mf_len, tkL_len, ldY_len, fif_len, ldY_len]; omega) | decide)) kX9_134 vX9_whiten (by decide) rfl ho [0] 1 (by decide +kernel) rfl rfl rfl rfl rfl hl.1 rfl (Nat.le_of_ble_eq_true rfl) dX9_hear_23 0 0 rfl rfl (by decide) (fun v u_2 H locs hq ho => ?_)
    obtain rfl := hq
    have ho : ow D vwCl A s.heap H locs [bX K h ar ad ck a.length lo (va_up F 1 (whP (ck - 1) (F 1) 400))] := ho
    refine W.eq (g2 := F0 m 26 ls []) rfl ?_
    refine lv_aload_n hx hb dX9_hear_26 rfl (lv_at hl 1 rfl) ?_
    refine o_callV (wr := []) (rest := []) (As := []) C (c_M_headGood la D K h ar ad ck a.length lo (va_up F 1 (whP (ck - 1) (F 1) 400)) a (ck - 1) t_ qa (fun i hi => whP_in hi) qtl qth (by first | omega | assumption | (simp only [List.length_append, List.length_cons, List.length_nil, List.length_modify, List.length_set, nb_len, rb_len, rbp_len, sl_len, slN_len, wh_len, wt_len, hd10_len, hdB_len, thr_len, ldp_len, ldB_len, tens_len, whz_len, majL_len, mf_len, tkL_len, ldY_len, fif_len, ldY_len]; omega) | decide) (by first | omega | assumption | (simp only [List.length_append, List.length_cons, List.length_nil, List.length_modify, List.length_set, nb_len, rb_len, rbp_len, sl_len, slN_len, wh_len, wt_len, hd10_len, hdB_len, thr_len, ldp_len, ldB_len, tens_len, whz_len, majL_len, mf_len, tkL_len, ldY_len, fif_len, ldY_len]; omega) | decide)) kX9_168 vX9_headGood (by decide) rfl ho [0] 1 (by decide +kernel) rfl rfl rfl rfl rfl hl.1 rfl (Nat.le_of_ble_eq_true rfl) dX9_hear_27 0 0 rfl rfl (by decide) (fun v u_3 H locs hq ho => ?_)
    obtain rfl := hq
    have ho : ow D vwCl A s.heap H locs [bX K h ar ad ck a.length lo (va_up (va_up F 1 (whP (ck - 1) (F 1) 400)) 2 (wrL (F 2) 0 t_))] := ho
    refine W.eq (g2 := F0 m 30 ls [.int (bI (hOK ad t_))]) rfl ?_
    refine lv_istore_n (lv' := [(2, .int (bI (hOK ad t_))), (1, .int (nI d)), (0, .ref h)]) hx hb dX9_hear_30 rfl hl (by decide) rfl (fun ls hl => ?_)
    refine lv_aload_n hx hb dX9_hear_31 rfl (lv_at hl 2 rfl) ?_
    refine lv_iconst (v := nI 3) hx hb dX9_hear_32 (by decide) ?_
    refine lv_iconst (v := nI 4) hx hb dX9_hear_33 (by decide) ?_
    refine o_callV (wr := []) (rest := []) (As := [.int (nI 3), .int (nI 4)]) C (c_M_number la D K h ar ad ck a.length lo (va_up (va_up F 1 (whP (ck - 1) (F 1) 400)) 2 (wrL (F 2) 0 t_)) 3 4 t_ 3 (fun i hi => rd2 (by omega) hi) (by first | omega | assumption | (simp only [List.length_append, List.length_cons, List.length_nil, List.length_modify, List.length_set, nb_len, rb_len, rbp_len, sl_len, slN_len, wh_len, wt_len, hd10_len, hdB_len, thr_len, ldp_len, ldB_len, tens_len, whz_len, majL_len, mf_len, tkL_len, ldY_len, fif_len, ldY_len]; omega) | decide) (by first | omega | assumption | (simp only [List.length_append, List.length_cons, List.length_nil, List.length_modify, List.length_set, nb_len, rb_len, rbp_len, sl_len, slN_len, wh_len, wt_len, hd10_len, hdB_len, thr_len, ldp_len, ldB_len, tens_len, whz_len, majL_len, mf_len, tkL_len, ldY_len, fif_len, ldY_len]; omega) | decide)) kX9_153 vX9_number (by decide) rfl ho [0] 1 (by decide +kernel) rfl rfl rfl rfl rfl hl.1 rfl (Nat.le_of_ble_eq_true rfl) dX9_hear_34 0 0 rfl rfl (by decide) (fun v u_4 H locs hq ho => ?_)
    obtain rfl := hq
    have ho : ow D vwCl A s.heap H locs [bX K h ar ad ck a.length lo (va_up (va_up F 1 (whP (ck - 1) (F 1) 400)) 2 (wrL (F 2) 0 t_))] := ho
    refine W.eq (g2 := F0 m 37 ls [.int (nI (toN t_ 3 4))]) rfl ?_
    refine lv_istore_n (lv' := [(3, .int (nI (toN t_ 3 4))), (2, .int (bI (hOK ad t_))), (1, .int (nI d)), (0, .ref h)]) hx hb dX9_hear_37 rfl hl (by decide) rfl (fun ls hl => ?_)
    refine lv_aload_n hx hb dX9_hear_38 rfl (lv_at hl 3 rfl) ?_
    refine o_get (v := .ref (ar 2)) C ho 0 0 rfl rfl rfl 6 fX9_16 rfl dX9_hear_39 ?_
    refine lv_bipush (v := nI 8) hx hb dX9_hear_42 (by decide) ?_
    refine o_iald (v := wrL (F 2) 0 t_ 8) C ho 0 3 rfl rfl 0 rfl 8 rfl (by omega) (by omega) rfl dX9_hear_44 ?_
    refine o_top (y := bI (t_.getD 8 false)) (wrL_in0 (by omega)) ?_
    refine lv_istore (lv' := [(4, .int (bI (t_.getD 8 false))), (3, .int (nI (toN t_ 3 4))), (2, .int (bI (hOK ad t_))), (1, .int (nI d)), (0, .ref h)]) hx hb dX9_hear_45 hl (by decide) rfl (fun ls hl => ?_)
    refine lv_aload_n hx hb dX9_hear_47 rfl (lv_at hl 4 rfl) ?_
    refine o_get (v := .ref (ar 2)) C ho 0 0 rfl rfl rfl 6 fX9_16 rfl dX9_hear_48 ?_
    refine lv_bipush (v := nI 9) hx hb dX9_hear_51 (by decide) ?_
    refine o_iald (v := wrL (F 2) 0 t_ 9) C ho 0 3 rfl rfl 0 rfl 9 rfl (by omega) (by omega) rfl dX9_hear_53 ?_
    refine o_top (y := bI (t_.getD 9 false)) (wrL_in0 (by omega)) ?_
    refine lv_istore (lv' := [(5, .int (bI (t_.getD 9 false))), (4, .int (bI (t_.getD 8 false))), (3, .int (nI (toN t_ 3 4))), (2, .int (bI (hOK ad t_))), (1, .int (nI d)), (0, .ref h)]) hx hb dX9_hear_54 hl (by decide) rfl (fun ls hl => ?_)
    refine lv_iconst (v := nI 5) hx hb dX9_hear_56 (by decide) ?_
    refine lv_istore (lv' := [(6, .int (nI 5)), (5, .int (bI (t_.getD 9 false))), (4, .int (bI (t_.getD 8 false))), (3, .int (nI (toN t_ 3 4))), (2, .int (bI (hOK ad t_))), (1, .int (nI d)), (0, .ref h)]) hx hb dX9_hear_57 hl (by decide) rfl (fun ls hl => ?_)
    refine lv_iload_n hx hb dX9_hear_59 rfl (lv_at hl 4 rfl) ?_
    refine o_ifb_eq (tgt := 168) hx hb dX9_hear_60 (by decide) (fun c_5 => ?_) (fun c_5 => ?_)
    · skip
      exact absurd (qh.symm.trans c_5) (by decide)
    · skip
      refine lv_aload_n hx hb dX9_hear_63 rfl (lv_at hl 6 rfl) ?_
      refine o_get (v := .ref (ar 25)) C ho 0 0 rfl rfl rfl 29 fX9_86 rfl dX9_hear_64 ?_
      refine lv_iload_n hx hb dX9_hear_67 rfl (lv_at hl 5 rfl) ?_
      refine lv_iconst (v := nI 1) hx hb dX9_hear_68 (by decide) ?_
      refine o_top (y := bI true) (rfl) ?_
      refine o_zast (bs' := [bX K h ar ad ck a.length lo (va_up (va_up (va_up F 1 (whP (ck - 1) (F 1) 400)) 2 (wrL (F 2) 0 t_)) 25 (upd (F 25) d (bI true)))]) C ho 0 26 rfl rfl 3 rfl d rfl (by omega) (by decide) dX9_hear_69 rfl (fun H locs ho => ?_)
      refine lv_iload hx hb dX9_hear_70 (lv_at hl 2 rfl) ?_
      refine lv_iconst (v := nI 1) hx hb dX9_hear_72 (by decide) ?_
      refine o_top (y := bI true) (rfl) ?_
      refine o_icmpb_ne (tgt := 83) hx hb dX9_hear_73 (by decide) (fun c_6 => ?_) (fun c_6 => ?_)
      · skip
        have e_7 : bX K h ar ad ck a.length lo (va_up (va_up (va_up F 1 (whP (ck - 1) (F 1) 400)) 2 (wrL (F 2) 0 t_)) 25 (upd (F 25) d (bI true))) = bX K h ar ad ck a.length lo (va_up (va_up (va_up (va_up F 1 (whP (ck - 1) (F 1) 400)) 2 (wrL (F 2) 0 t_)) 25 (upd (F 25) d (bI true))) 11 (upd (F 11) d (nI (cond (t_.getD 8 false) 0 fl)))) := by rw [Bool.eq_false_iff.mpr c_6, cond_false, upd_same q11]; exact congrArg (bX K h ar ad ck a.length lo) (up_1 rfl)
        have ho : ow D vwCl A s.heap H locs [bX K h ar ad ck a.length lo (va_up (va_up (va_up (va_up F 1 (whP (ck - 1) (F 1) 400)) 2 (wrL (F 2) 0 t_)) 25 (upd (F 25) d (bI true))) 11 (upd (F 11) d (nI (cond (t_.getD 8 false) 0 fl))))] := by rw [← e_7]; exact ho
        refine lv_iload_n hx hb dX9_hear_83 rfl (lv_at hl 3 rfl) ?_
        refine lv_iconst (v := nI 3) hx hb dX9_hear_84 (by decide) ?_
        refine o_icmp_ge (tgt := 93) hx hb dX9_hear_85 (by decide) (by first | omega | exact and1_lt _) (by first | omega | exact and1_lt _) (fun c_8 => ?_) (fun c_8 => ?_)
        · skip
          refine lv_aload_n hx hb dX9_hear_93 rfl (lv_at hl 6 rfl) ?_
          refine lv_iload_n hx hb dX9_hear_94 rfl (lv_at hl 5 rfl) ?_
          refine lv_iload_n hx hb dX9_hear_95 rfl (lv_at hl 3 rfl) ?_
          refine o_callV (wr := []) (rest := []) (As := [.int (nI d), .int (nI (toN t_ 3 4))]) C (c_M_loadGood la D K h ar ad ck lo (va_up (va_up (va_up (va_up F 1 (whP (ck - 1) (F 1) 400)) 2 (wrL (F 2) 0 t_)) 25 (upd (F 25) d (bI true))) 11 (upd (F 11) d (nI (cond (t_.getD 8 false) 0 fl)))) d a (ck - 1) co (toN t_ 3 4) (by first | omega | assumption | (simp only [List.length_append, List.length_cons, List.length_nil, List.length_modify, List.length_set, nb_len, rb_len, rbp_len, sl_len, slN_len, wh_len, wt_len, hd10_len, hdB_len, thr_len, ldp_len, ldB_len, tens_len, whz_len, majL_len, mf_len, tkL_len, ldY_len, fif_len, ldY_len]; omega) | decide) qa (fun i hi => whP_in hi) (by first | omega | assumption | (simp only [List.length_append, List.length_cons, List.length_nil, List.length_modify, List.length_set, nb_len, rb_len, rbp_len, sl_len, slN_len, wh_len, wt_len, hd10_len, hdB_len, thr_len, ldp_len, ldB_len, tens_len, whz_len, majL_len, mf_len, tkL_len, ldY_len, fif_len, ldY_len]; omega) | decide) (by first | omega | assumption | (simp only [List.length_append, List.length_cons, List.length_nil, List.length_modify, List.length_set, nb_len, rb_len, rbp_len, sl_len, slN_len, wh_len, wt_len, hd10_len, hdB_len, thr_len, ldp_len, ldB_len, tens_len, whz_len, majL_len, mf_len, tkL_len, ldY_len, fif_len, ldY_len]; omega) | decide) q27 qk34) kX9_172 vX9_loadGood (by decide) rfl ho [0] 1 (by decide +kernel) rfl rfl rfl rfl rfl hl.1 rfl (Nat.le_of_ble_eq_true rfl) dX9_hear_96 0 0 rfl rfl (by decide) (fun v u_9 H locs hq ho => ?_)
          obtain rfl := hq
          have ho : ow D vwCl A s.heap H locs [bX K h ar ad ck a.length (15 + (ldl (toN t_ 3 4) (ck - 1) a).length) (va_up (va_up (va_up (va_up (va_up (va_up F 1 (whP (ck - 1) (F 1) 400)) 2 (wrL (F 2) 0 t_)) 25 (upd (F 25) d (bI true))) 11 (upd (F 11) d (nI (cond (t_.getD 8 false) 0 fl)))) 2 (wrL u_9 15 (ldl (toN t_ 3 4) (ck - 1) a))) 27 (upd (F 27) d (nI (co + ldn (toN t_ 3 4) a))))] := ho
          refine W.eq (g2 := F0 m 99 ls [.int (bI (lds (toN t_ 3 4) a && ldOK (ldl (toN t_ 3 4) (ck - 1) a)))]) rfl ?_
          have e_10 : bX K h ar ad ck a.length (15 + (ldl (toN t_ 3 4) (ck - 1) a).length) (va_up (va_up (va_up (va_up (va_up (va_up F 1 (whP (ck - 1) (F 1) 400)) 2 (wrL (F 2) 0 t_)) 25 (upd (F 25) d (bI true))) 11 (upd (F 11) d (nI (cond (t_.getD 8 false) 0 fl)))) 2 (wrL u_9 15 (ldl (toN t_ 3 4) (ck - 1) a))) 27 (upd (F 27) d (nI (co + ldn (toN t_ 3 4) a)))) = bX K h ar ad ck a.length (15 + l.length) (va_up (va_up (va_up (va_up (va_up (va_up F 1 (whP (ck - 1) (F 1) 400)) 2 (wrL (F 2) 0 t_)) 25 (upd (F 25) d (bI true))) 11 (upd (F 11) d (nI (cond (t_.getD 8 false) 0 fl)))) 2 (wrL u_9 15 l)) 27 (upd (F 27) d (nI (co + ldn (toN t_ 3 4) a)))) := by rw [qlx]
          have ho : ow D vwCl A s.heap H locs [bX K h ar ad ck a.length (15 + l.length) (va_up (va_up (va_up (va_up (va_up (va_up F 1 (whP (ck - 1) (F 1) 400)) 2 (wrL (F 2) 0 t_)) 25 (upd (F 25) d (bI true))) 11 (upd (F 11) d (nI (cond (t_.getD 8 false) 0 fl)))) 2 (wrL u_9 15 l)) 27 (upd (F 27) d (nI (co + ldn (toN t_ 3 4) a))))] := by rw [← e_10]; exact ho
          refine o_ifb_eq (tgt := 123) hx hb dX9_hear_99 (by decide) (fun c_11 => ?_) (fun c_11 => ?_)
          · skip
            exact absurd (qok.symm.trans c_11) (by decide)
          · skip
            refine lv_iload hx hb dX9_hear_102 (lv_at hl 1 rfl) ?_
            refine lv_aload_n hx hb dX9_hear_104 rfl (lv_at hl 6 rfl) ?_
            refine o_get (v := .ref (ar 23)) C ho 0 0 rfl rfl rfl 27 fX9_80 rfl dX9_hear_105 ?_
            refine lv_iload_n hx hb dX9_hear_108 rfl (lv_at hl 5 rfl) ?_
            refine o_iald (v := bI lt_) C ho 0 24 rfl rfl 0 rfl d rfl (by omega) (by omega) q23 dX9_hear_109 ?_
            refine o_icmpb_ne (tgt := 118) hx hb dX9_hear_110 (by decide) (fun c_12 => ?_) (fun c_12 => ?_)
            · skip
              refine lv_bipush (v := nI 6) hx hb dX9_hear_118 (by decide) ?_
              refine lv_goto (tgt := 125) hx hb dX9_hear_120 (by decide) ?_
              refine lv_istore (lv' := [(6, .int (nI 6)), (5, .int (bI (t_.getD 9 false))), (4, .int (bI (t_.getD 8 false))), (3, .int (nI (toN t_ 3 4))), (2, .int (bI (hOK ad t_))), (1, .int (nI d)), (0, .ref h)]) hx hb dX9_hear_125 hl (by decide) rfl (fun ls hl => ?_)
              refine lv_iload hx hb dX9_hear_127 (lv_at hl 0 rfl) ?_
              refine lv_bipush (v := nI 6) hx hb dX9_hear_129 (by decide) ?_
              refine o_icmp_eq (tgt := 141) hx hb dX9_hear_131 (by decide) (by decide) (by decide) (fun _ => ?_) (fun c9 => absurd c9 (by decide))
              refine lv_aload_n hx hb dX9_hear_141 rfl (lv_at hl 6 rfl) ?_
              refine o_get (v := .ref (ar 24)) C ho 0 0 rfl rfl rfl 28 fX9_83 rfl dX9_hear_142 ?_
              refine lv_iload_n hx hb dX9_hear_145 rfl (lv_at hl 5 rfl) ?_
              refine lv_iconst (v := nI 1) hx hb dX9_hear_146 (by decide) ?_
              refine o_top (y := bI true) (rfl) ?_
              refine o_zast (bs' := [bX K h ar ad ck a.length (15 + l.length) (va_up (va_up (va_up (va_up (va_up (va_up (va_up F 1 (whP (ck - 1) (F 1) 400)) 2 (wrL (F 2) 0 t_)) 25 (upd (F 25) d (bI true))) 11 (upd (F 11) d (nI (cond (t_.getD 8 false) 0 fl)))) 2 (wrL u_9 15 l)) 27 (upd (F 27) d (nI (co + ldn (toN t_ 3 4) a)))) 24 (upd (F 24) d (bI true)))]) C ho 0 25 rfl rfl 3 rfl d rfl (by omega) (by decide) dX9_hear_147 rfl (fun H locs ho => ?_)
              refine lv_iload hx hb dX9_hear_148 (lv_at hl 0 rfl) ?_
              refine lv_bipush (v := nI 6) hx hb dX9_hear_150 (by decide) ?_
              refine o_icmp_ne (tgt := 168) hx hb dX9_hear_152 (by decide) (by decide) (by decide) (fun c9 => absurd c9 (by decide)) (fun _ => ?_)
              refine lv_aload_n hx hb dX9_hear_155 rfl (lv_at hl 6 rfl) ?_
              refine o_get (v := .ref (ar 23)) C ho 0 0 rfl rfl rfl 27 fX9_80 rfl dX9_hear_156 ?_
              refine lv_iload_n hx hb dX9_hear_159 rfl (lv_at hl 5 rfl) ?_
              refine lv_iload hx hb dX9_hear_160 (lv_at hl 1 rfl) ?_
              refine o_iast (bs' := [bX K h ar ad ck a.length (15 + l.length) (va_up (va_up (va_up (va_up (va_up (va_up (va_up (va_up F 1 (whP (ck - 1) (F 1) 400)) 2 (wrL (F 2) 0 t_)) 25 (upd (F 25) d (bI true))) 11 (upd (F 11) d (nI (cond (t_.getD 8 false) 0 fl)))) 2 (wrL u_9 15 l)) 27 (upd (F 27) d (nI (co + ldn (toN t_ 3 4) a)))) 24 (upd (F 24) d (bI true))) 23 (upd (F 23) d (bI (t_.getD 9 false))))]) C ho 0 24 rfl rfl 0 rfl d rfl (by omega) (by decide) dX9_hear_162 rfl (fun H locs ho => ?_)
              refine lv_aload_n hx hb dX9_hear_163 rfl (lv_at hl 6 rfl) ?_
              refine lv_iload_n hx hb dX9_hear_164 rfl (lv_at hl 5 rfl) ?_
              refine o_callV (wr := []) (rest := []) (As := [.int (nI d)]) C (c_M_useC la D K h ar ad ck a.length (15 + l.length) (va_up (va_up (va_up (va_up (va_up (va_up (va_up (va_up F 1 (whP (ck - 1) (F 1) 400)) 2 (wrL (F 2) 0 t_)) 25 (upd (F 25) d (bI true))) 11 (upd (F 11) d (nI (cond (t_.getD 8 false) 0 fl)))) 2 (wrL u_9 15 l)) 27 (upd (F 27) d (nI (co + ldn (toN t_ 3 4) a)))) 24 (upd (F 24) d (bI true))) 23 (upd (F 23) d (bI (t_.getD 9 false)))) d l n tn dr du g0 (by first | omega | assumption | (simp only [List.length_append, List.length_cons, List.length_nil, List.length_modify, List.length_set, nb_len, rb_len, rbp_len, sl_len, slN_len, wh_len, wt_len, hd10_len, hdB_len, thr_len, ldp_len, ldB_len, tens_len, whz_len, majL_len, mf_len, tkL_len, ldY_len, fif_len, ldY_len]; omega) | decide) (fun i hi => wrL_in hi) qn qll ql2 qn1 q15 qtn q26 qbe q18 qdu q19 qg0) kX9_175 vX9_use (by decide) rfl ho [0] 1 (by decide +kernel) rfl rfl rfl rfl rfl hl.1 rfl (Nat.le_of_ble_eq_true rfl) dX9_hear_165 0 0 rfl rfl (by decide) (fun v u_13 H locs hq ho => ?_)
              obtain rfl := hq
              have ho : ow D vwCl A s.heap H locs [bX K h ar ad ck a.length (15 + l.length) (finF (va_up (va_up (va_up (va_up (va_up (va_up (va_up (va_up (va_up (va_up F 1 (whP (ck - 1) (F 1) 400)) 2 (wrL (F 2) 0 t_)) 25 (upd (F 25) d (bI true))) 11 (upd (F 11) d (nI (cond (t_.getD 8 false) 0 fl)))) 2 (wrL u_9 15 l)) 27 (upd (F 27) d (nI (co + ldn (toN t_ 3 4) a)))) 24 (upd (F 24) d (bI true))) 23 (upd (F 23) d (bI (t_.getD 9 false)))) 20 (wrN (F 20) (320 * d + g0) (slN (ldY l n) 0 (n - 0)))) 19 (upd (F 19) d (nI (g0 + (n - 0))))) d (g0 + (n - 0)) du tn dr)] := ho
              refine W.eq (g2 := F0 m 168 ls []) rfl ?_
              refine lv_aload_n hx hb dX9_hear_168 rfl (lv_at hl 6 rfl) ?_
              refine lv_iconst (v := nI 0) hx hb dX9_hear_169 (by decide) ?_
              refine o_put (v := .int (nI 0)) (bs' := [bX K h ar ad ck 0 (15 + l.length) (finF (va_up (va_up (va_up (va_up (va_up (va_up (va_up (va_up (va_up (va_up F 1 (whP (ck - 1) (F 1) 400)) 2 (wrL (F 2) 0 t_)) 25 (upd (F 25) d (bI true))) 11 (upd (F 11) d (nI (cond (t_.getD 8 false) 0 fl)))) 2 (wrL u_9 15 l)) 27 (upd (F 27) d (nI (co + ldn (toN t_ 3 4) a)))) 24 (upd (F 24) d (bI true))) 23 (upd (F 23) d (bI (t_.getD 9 false)))) 20 (wrN (F 20) (320 * d + g0) (slN (ldY l n) 0 (n - 0)))) 19 (upd (F 19) d (nI (g0 + (n - 0))))) d (g0 + (n - 0)) du tn dr)]) C ho 0 0 rfl rfl rfl 2 fX9_122 pX9_2 rfl rfl (Nat.le_of_ble_eq_true rfl) dX9_hear_170 rfl (fun H locs ho => ?_)
              refine lv_iload hx hb dX9_hear_173 (lv_at hl 0 rfl) ?_
              exact o_iret hQ C rfl ho u_9 rfl rfl (Nat.le_of_ble_eq_true rfl) (Nat.le_of_ble_eq_true rfl) dX9_hear_175
            · skip
              exact absurd c_12 qtt
        · skip
          exact absurd c_8 (by omega)
      · skip
        refine lv_aload_n hx hb dX9_hear_76 rfl (lv_at hl 6 rfl) ?_
        refine o_get (v := .ref (ar 11)) C ho 0 0 rfl rfl rfl 15 fX9_43 rfl dX9_hear_77 ?_
        refine lv_iload_n hx hb dX9_hear_80 rfl (lv_at hl 5 rfl) ?_
        refine lv_iconst (v := nI 0) hx hb dX9_hear_81 (by decide) ?_
        refine o_iast (bs' := [bX K h ar ad ck a.length lo (va_up (va_up (va_up (va_up F 1 (whP (ck - 1) (F 1) 400)) 2 (wrL (F 2) 0 t_)) 25 (upd (F 25) d (bI true))) 11 (upd (F 11) d (nI 0)))]) C ho 0 12 rfl rfl 0 rfl d rfl (by omega) (by decide) dX9_hear_82 rfl (fun H locs ho => ?_)
        have e_14 : bX K h ar ad ck a.length lo (va_up (va_up (va_up (va_up F 1 (whP (ck - 1) (F 1) 400)) 2 (wrL (F 2) 0 t_)) 25 (upd (F 25) d (bI true))) 11 (upd (F 11) d (nI 0))) = bX K h ar ad ck a.length lo (va_up (va_up (va_up (va_up F 1 (whP (ck - 1) (F 1) 400)) 2 (wrL (F 2) 0 t_)) 25 (upd (F 25) d (bI true))) 11 (upd (F 11) d (nI (cond (t_.getD 8 false) 0 fl)))) := by rw [c_6, cond_true]
        have ho : ow D vwCl A s.heap H locs [bX K h ar ad ck a.length lo (va_up (va_up (va_up (va_up F 1 (whP (ck - 1) (F 1) 400)) 2 (wrL (F 2) 0 t_)) 25 (upd (F 25) d (bI true))) 11 (upd (F 11) d (nI (cond (t_.getD 8 false) 0 fl))))] := by rw [← e_14]; exact ho
        refine lv_iload_n hx hb dX9_hear_83 rfl (lv_at hl 3 rfl) ?_
        refine lv_iconst (v := nI 3) hx hb dX9_hear_84 (by decide) ?_
        refine o_icmp_ge (tgt := 93) hx hb dX9_hear_85 (by decide) (by first | omega | exact and1_lt _) (by first | omega | exact and1_lt _) (fun c_15 => ?_) (fun c_15 => ?_)
        · skip
          refine lv_aload_n hx hb dX9_hear_93 rfl (lv_at hl 6 rfl) ?_
          refine lv_iload_n hx hb dX9_hear_94 rfl (lv_at hl 5 rfl) ?_
          refine lv_iload_n hx hb dX9_hear_95 rfl (lv_at hl 3 rfl) ?_
          refine o_callV (wr := []) (rest := []) (As := [.int (nI d), .int (nI (toN t_ 3 4))]) C (c_M_loadGood la D K h ar ad ck lo (va_up (va_up (va_up (va_up F 1 (whP (ck - 1) (F 1) 400)) 2 (wrL (F 2) 0 t_)) 25 (upd (F 25) d (bI true))) 11 (upd (F 11) d (nI (cond (t_.getD 8 false) 0 fl)))) d a (ck - 1) co (toN t_ 3 4) (by first | omega | assumption | (simp only [List.length_append, List.length_cons, List.length_nil, List.length_modify, List.length_set, nb_len, rb_len, rbp_len, sl_len, slN_len, wh_len, wt_len, hd10_len, hdB_len, thr_len, ldp_len, ldB_len, tens_len, whz_len, majL_len, mf_len, tkL_len, ldY_len, fif_len, ldY_len]; omega) | decide) qa (fun i hi => whP_in hi) (by first | omega | assumption | (simp only [List.length_append, List.length_cons, List.length_nil, List.length_modify, List.length_set, nb_len, rb_len, rbp_len, sl_len, slN_len, wh_len, wt_len, hd10_len, hdB_len, thr_len, ldp_len, ldB_len, tens_len, whz_len, majL_len, mf_len, tkL_len, ldY_len, fif_len, ldY_len]; omega) | decide) (by first | omega | assumption | (simp only [List.length_append, List.length_cons, List.length_nil, List.length_modify, List.length_set, nb_len, rb_len, rbp_len, sl_len, slN_len, wh_len, wt_len, hd10_len, hdB_len, thr_len, ldp_len, ldB_len, tens_len, whz_len, majL_len, mf_len, tkL_len, ldY_len, fif_len, ldY_len]; omega) | decide) q27 qk34) kX9_172 vX9_loadGood (by decide) rfl ho [0] 1 (by decide +kernel) rfl rfl rfl rfl rfl hl.1 rfl (Nat.le_of_ble_eq_true rfl) dX9_hear_96 0 0 rfl rfl (by decide) (fun v u_16 H locs hq ho => ?_)
          obtain rfl := hq
          have ho : ow D vwCl A s.heap H locs [bX K h ar ad ck a.length (15 + (ldl (toN t_ 3 4) (ck - 1) a).length) (va_up (va_up (va_up (va_up (va_up (va_up F 1 (whP (ck - 1) (F 1) 400)) 2 (wrL (F 2) 0 t_)) 25 (upd (F 25) d (bI true))) 11 (upd (F 11) d (nI (cond (t_.getD 8 false) 0 fl)))) 2 (wrL u_16 15 (ldl (toN t_ 3 4) (ck - 1) a))) 27 (upd (F 27) d (nI (co + ldn (toN t_ 3 4) a))))] := ho
          refine W.eq (g2 := F0 m 99 ls [.int (bI (lds (toN t_ 3 4) a && ldOK (ldl (toN t_ 3 4) (ck - 1) a)))]) rfl ?_
          have e_17 : bX K h ar ad ck a.length (15 + (ldl (toN t_ 3 4) (ck - 1) a).length) (va_up (va_up (va_up (va_up (va_up (va_up F 1 (whP (ck - 1) (F 1) 400)) 2 (wrL (F 2) 0 t_)) 25 (upd (F 25) d (bI true))) 11 (upd (F 11) d (nI (cond (t_.getD 8 false) 0 fl)))) 2 (wrL u_16 15 (ldl (toN t_ 3 4) (ck - 1) a))) 27 (upd (F 27) d (nI (co + ldn (toN t_ 3 4) a)))) = bX K h ar ad ck a.length (15 + l.length) (va_up (va_up (va_up (va_up (va_up (va_up F 1 (whP (ck - 1) (F 1) 400)) 2 (wrL (F 2) 0 t_)) 25 (upd (F 25) d (bI true))) 11 (upd (F 11) d (nI (cond (t_.getD 8 false) 0 fl)))) 2 (wrL u_16 15 l)) 27 (upd (F 27) d (nI (co + ldn (toN t_ 3 4) a)))) := by rw [qlx]
          have ho : ow D vwCl A s.heap H locs [bX K h ar ad ck a.length (15 + l.length) (va_up (va_up (va_up (va_up (va_up (va_up F 1 (whP (ck - 1) (F 1) 400)) 2 (wrL (F 2) 0 t_)) 25 (upd (F 25) d (bI true))) 11 (upd (F 11) d (nI (cond (t_.getD 8 false) 0 fl)))) 2 (wrL u_16 15 l)) 27 (upd (F 27) d (nI (co + ldn (toN t_ 3 4) a))))] := by rw [← e_17]; exact ho
          refine o_ifb_eq (tgt := 123) hx hb dX9_hear_99 (by decide) (fun c_18 => ?_) (fun c_18 => ?_)
          · skip
            exact absurd (qok.symm.trans c_18) (by decide)
          · skip
            refine lv_iload hx hb dX9_hear_102 (lv_at hl 1 rfl) ?_
            refine lv_aload_n hx hb dX9_hear_104 rfl (lv_at hl 6 rfl) ?_
            refine o_get (v := .ref (ar 23)) C ho 0 0 rfl rfl rfl 27 fX9_80 rfl dX9_hear_105 ?_
            refine lv_iload_n hx hb dX9_hear_108 rfl (lv_at hl 5 rfl) ?_
            refine o_iald (v := bI lt_) C ho 0 24 rfl rfl 0 rfl d rfl (by omega) (by omega) q23 dX9_hear_109 ?_
            refine o_icmpb_ne (tgt := 118) hx hb dX9_hear_110 (by decide) (fun c_19 => ?_) (fun c_19 => ?_)
            · skip
              refine lv_bipush (v := nI 6) hx hb dX9_hear_118 (by decide) ?_
              refine lv_goto (tgt := 125) hx hb dX9_hear_120 (by decide) ?_
              refine lv_istore (lv' := [(6, .int (nI 6)), (5, .int (bI (t_.getD 9 false))), (4, .int (bI (t_.getD 8 false))), (3, .int (nI (toN t_ 3 4))), (2, .int (bI (hOK ad t_))), (1, .int (nI d)), (0, .ref h)]) hx hb dX9_hear_125 hl (by decide) rfl (fun ls hl => ?_)
              refine lv_iload hx hb dX9_hear_127 (lv_at hl 0 rfl) ?_
              refine lv_bipush (v := nI 6) hx hb dX9_hear_129 (by decide) ?_
              refine o_icmp_eq (tgt := 141) hx hb dX9_hear_131 (by decide) (by decide) (by decide) (fun _ => ?_) (fun c9 => absurd c9 (by decide))
              refine lv_aload_n hx hb dX9_hear_141 rfl (lv_at hl 6 rfl) ?_
              refine o_get (v := .ref (ar 24)) C ho 0 0 rfl rfl rfl 28 fX9_83 rfl dX9_hear_142 ?_
              refine lv_iload_n hx hb dX9_hear_145 rfl (lv_at hl 5 rfl) ?_
              refine lv_iconst (v := nI 1) hx hb dX9_hear_146 (by decide) ?_
              refine o_top (y := bI true) (rfl) ?_
              refine o_zast (bs' := [bX K h ar ad ck a.length (15 + l.length) (va_up (va_up (va_up (va_up (va_up (va_up (va_up F 1 (whP (ck - 1) (F 1) 400)) 2 (wrL (F 2) 0 t_)) 25 (upd (F 25) d (bI true))) 11 (upd (F 11) d (nI (cond (t_.getD 8 false) 0 fl)))) 2 (wrL u_16 15 l)) 27 (upd (F 27) d (nI (co + ldn (toN t_ 3 4) a)))) 24 (upd (F 24) d (bI true)))]) C ho 0 25 rfl rfl 3 rfl d rfl (by omega) (by decide) dX9_hear_147 rfl (fun H locs ho => ?_)
              refine lv_iload hx hb dX9_hear_148 (lv_at hl 0 rfl) ?_
              refine lv_bipush (v := nI 6) hx hb dX9_hear_150 (by decide) ?_
              refine o_icmp_ne (tgt := 168) hx hb dX9_hear_152 (by decide) (by decide) (by decide) (fun c9 => absurd c9 (by decide)) (fun _ => ?_)
              refine lv_aload_n hx hb dX9_hear_155 rfl (lv_at hl 6 rfl) ?_
              refine o_get (v := .ref (ar 23)) C ho 0 0 rfl rfl rfl 27 fX9_80 rfl dX9_hear_156 ?_
              refine lv_iload_n hx hb dX9_hear_159 rfl (lv_at hl 5 rfl) ?_
              refine lv_iload hx hb dX9_hear_160 (lv_at hl 1 rfl) ?_
              refine o_iast (bs' := [bX K h ar ad ck a.length (15 + l.length) (va_up (va_up (va_up (va_up (va_up (va_up (va_up (va_up F 1 (whP (ck - 1) (F 1) 400)) 2 (wrL (F 2) 0 t_)) 25 (upd (F 25) d (bI true))) 11 (upd (F 11) d (nI (cond (t_.getD 8 false) 0 fl)))) 2 (wrL u_16 15 l)) 27 (upd (F 27) d (nI (co + ldn (toN t_ 3 4) a)))) 24 (upd (F 24) d (bI true))) 23 (upd (F 23) d (bI (t_.getD 9 false))))]) C ho 0 24 rfl rfl 0 rfl d rfl (by omega) (by decide) dX9_hear_162 rfl (fun H locs ho => ?_)
              refine lv_aload_n hx hb dX9_hear_163 rfl (lv_at hl 6 rfl) ?_
              refine lv_iload_n hx hb dX9_hear_164 rfl (lv_at hl 5 rfl) ?_
              refine o_callV (wr := []) (rest := []) (As := [.int (nI d)]) C (c_M_useC la D K h ar ad ck a.length (15 + l.length) (va_up (va_up (va_up (va_up (va_up (va_up (va_up (va_up F 1 (whP (ck - 1) (F 1) 400)) 2 (wrL (F 2) 0 t_)) 25 (upd (F 25) d (bI true))) 11 (upd (F 11) d (nI (cond (t_.getD 8 false) 0 fl)))) 2 (wrL u_16 15 l)) 27 (upd (F 27) d (nI (co + ldn (toN t_ 3 4) a)))) 24 (upd (F 24) d (bI true))) 23 (upd (F 23) d (bI (t_.getD 9 false)))) d l n tn dr du g0 (by first | omega | assumption | (simp only [List.length_append, List.length_cons, List.length_nil, List.length_modify, List.length_set, nb_len, rb_len, rbp_len, sl_len, slN_len, wh_len, wt_len, hd10_len, hdB_len, thr_len, ldp_len, ldB_len, tens_len, whz_len, majL_len, mf_len, tkL_len, ldY_len, fif_len, ldY_len]; omega) | decide) (fun i hi => wrL_in hi) qn qll ql2 qn1 q15 qtn q26 qbe q18 qdu q19 qg0) kX9_175 vX9_use (by decide) rfl ho [0] 1 (by decide +kernel) rfl rfl rfl rfl rfl hl.1 rfl (Nat.le_of_ble_eq_true rfl) dX9_hear_165 0 0 rfl rfl (by decide) (fun v u_20 H locs hq ho => ?_)
              obtain rfl := hq
              have ho : ow D vwCl A s.heap H locs [bX K h ar ad ck a.length (15 + l.length) (finF (va_up (va_up (va_up (va_up (va_up (va_up (va_up (va_up (va_up (va_up F 1 (whP (ck - 1) (F 1) 400)) 2 (wrL (F 2) 0 t_)) 25 (upd (F 25) d (bI true))) 11 (upd (F 11) d (nI (cond (t_.getD 8 false) 0 fl)))) 2 (wrL u_16 15 l)) 27 (upd (F 27) d (nI (co + ldn (toN t_ 3 4) a)))) 24 (upd (F 24) d (bI true))) 23 (upd (F 23) d (bI (t_.getD 9 false)))) 20 (wrN (F 20) (320 * d + g0) (slN (ldY l n) 0 (n - 0)))) 19 (upd (F 19) d (nI (g0 + (n - 0))))) d (g0 + (n - 0)) du tn dr)] := ho
              refine W.eq (g2 := F0 m 168 ls []) rfl ?_
              refine lv_aload_n hx hb dX9_hear_168 rfl (lv_at hl 6 rfl) ?_
              refine lv_iconst (v := nI 0) hx hb dX9_hear_169 (by decide) ?_
              refine o_put (v := .int (nI 0)) (bs' := [bX K h ar ad ck 0 (15 + l.length) (finF (va_up (va_up (va_up (va_up (va_up (va_up (va_up (va_up (va_up (va_up F 1 (whP (ck - 1) (F 1) 400)) 2 (wrL (F 2) 0 t_)) 25 (upd (F 25) d (bI true))) 11 (upd (F 11) d (nI (cond (t_.getD 8 false) 0 fl)))) 2 (wrL u_16 15 l)) 27 (upd (F 27) d (nI (co + ldn (toN t_ 3 4) a)))) 24 (upd (F 24) d (bI true))) 23 (upd (F 23) d (bI (t_.getD 9 false)))) 20 (wrN (F 20) (320 * d + g0) (slN (ldY l n) 0 (n - 0)))) 19 (upd (F 19) d (nI (g0 + (n - 0))))) d (g0 + (n - 0)) du tn dr)]) C ho 0 0 rfl rfl rfl 2 fX9_122 pX9_2 rfl rfl (Nat.le_of_ble_eq_true rfl) dX9_hear_170 rfl (fun H locs ho => ?_)
              refine lv_iload hx hb dX9_hear_173 (lv_at hl 0 rfl) ?_
              exact o_iret hQ C rfl ho u_16 rfl rfl (Nat.le_of_ble_eq_true rfl) (Nat.le_of_ble_eq_true rfl) dX9_hear_175
            · skip
              exact absurd c_19 qtt
        · skip
          exact absurd c_15 (by omega)
  · skip
    exact absurd c_1 (by omega)

set_option maxHeartbeats 4000000 in
set_option maxRecDepth 100000 in
theorem c_M_hear6D (la : Launch) (D : va_G) (K : Nat → ClassId) (h : Nat) (ar : Nat → Nat) (ad : Nat) (ck : Nat) (lo : Nat) (F : Nat → Nat → Int32) (d : Nat) (a : List Bool) (t_ : List Bool) (fl : Nat) (co : Nat) (l : List Bool) (lt_ : Bool) (n : Nat) (tn : Nat) (dr : Nat) (qd : ck % 2 = d) (qck : ck < 2 ^ 29) (qk1 : 1 ≤ ck) (qad : ad < 8) (qa : ∀ i, i < a.length → F 0 i = bI (a.getD i false)) (qal : 54 ≤ a.length) (qal2 : a.length ≤ 204) (qtl : t_.length = 18) (qth : ∀ i, i < 18 → t_.getD i false = (maj (a.getD (3 * i) false) (a.getD (3 * i + 1) false) (a.getD (3 * i + 2) false) ^^ wb (ck - 1) i)) (qh : hOK ad t_ = true) (q11 : F 11 d = nI fl) (qk34 : toN t_ 3 4 = 3 ∨ toN t_ 3 4 = 4) (q27 : F 27 d = nI co) (qlx : ldl (toN t_ 3 4) (ck - 1) a = l) (qok : (lds (toN t_ 3 4) a && ldOK (ldl (toN t_ 3 4) (ck - 1) a)) = true) (q23 : F 23 d = bI lt_) (qtt : ¬ t_.getD 9 false = lt_) (qn : n = toN l 0 8 / 4) (qll : 24 + 8 * n ≤ l.length) (ql2 : l.length ≤ 150) (qn1 : 1 ≤ n) (q15 : F 15 d = nI tn) (qtn : tn ≤ 6) (q26 : F 26 d = nI dr) (qbe : l.getD 1 false = false) (q18 : F 18 d = -1) : MT la D K yX9_hear cX9_hear 7 (some .int) (rmL 7 0 0) [.ref h] [bX K h ar ad ck a.length lo F] (Nat → Int32) (fun v _ => v = some (.int (nI 6))) (fun u => [bX K h ar ad ck 0 (15 + l.length) (va_up (va_up (va_up (va_up (va_up (va_up (va_up (va_up F 1 (whP (ck - 1) (F 1) 400)) 2 (wrL (F 2) 0 t_)) 25 (upd (F 25) d (bI true))) 11 (upd (F 11) d (nI (cond (t_.getD 8 false) 0 fl)))) 2 (wrL u 15 l)) 27 (upd (F 27) d (nI (co + ldn (toN t_ 3 4) a)))) 24 (upd (F 24) d (bI true))) 23 (upd (F 23) d (bI (t_.getD 9 false))))]) := by
  refine Mt.ofW [(0, .ref h)] (by decide) rfl (Nat.le_of_ble_eq_true rfl) ?_
  intro p e s m args below meth c A ls H locs Qz hQ C hin hl ho
  have hx := C.1.1
  have hb := C.1.2.1
  refine lv_aload_n hx hb dX9_hear_0 rfl (lv_at hl 0 rfl) ?_
  refine o_get (v := .int (nI a.length)) C ho 0 0 rfl rfl rfl 2 fX9_122 rfl dX9_hear_1 ?_
  refine o_if_ne (tgt := 9) hx hb dX9_hear_4 (by decide) (by omega) (fun c_1 => ?_) (fun c_1 => ?_)
  · skip
    refine lv_aload_n hx hb dX9_hear_9 rfl (lv_at hl 0 rfl) ?_
    refine o_get (v := .int (nI ck)) C ho 0 0 rfl rfl rfl 1 fX9_131 rfl dX9_hear_10 ?_
    refine lv_iconst (v := nI 1) hx hb dX9_hear_13 (by decide) ?_
    refine o_and hx hb dX9_hear_14 ?_
    refine o_top (y := nI d) (by rw [Nat.and_one_is_mod, qd]) ?_
    have q2d : d < 2 := by omega
    have ht4 := toN_lt t_ 3 4
    refine lv_istore_n (lv' := [(1, .int (nI d)), (0, .ref h)]) hx hb dX9_hear_15 rfl hl (by decide) rfl (fun ls hl => ?_)
    refine lv_aload_n hx hb dX9_hear_16 rfl (lv_at hl 1 rfl) ?_
    refine lv_aload_n hx hb dX9_hear_17 rfl (lv_at hl 1 rfl) ?_
    refine o_get (v := .int (nI ck)) C ho 0 0 rfl rfl rfl 1 fX9_131 rfl dX9_hear_18 ?_
    refine lv_iconst (v := nI 1) hx hb dX9_hear_21 (by decide) ?_
    refine o_sub hx hb dX9_hear_22 (by omega) ?_
    refine o_callV (wr := []) (rest := []) (As := [.int (nI (ck - 1))]) C (c_M_whiten la D K h ar ad ck a.length lo F (ck - 1) (by first | omega | assumption | (simp only [List.length_append, List.length_cons, List.length_nil, List.length_modify, List.length_set, nb_len, rb_len, rbp_len, sl_len, slN_len, wh_len, wt_len, hd10_len, hdB_len, thr_len, ldp_len, ldB_len, tens_len, whz_len, majL_len, mf_len, tkL_len, ldY_len, fif_len, ldY_len]; omega) | decide)) kX9_134 vX9_whiten (by decide) rfl ho [0] 1 (by decide +kernel) rfl rfl rfl rfl rfl hl.1 rfl (Nat.le_of_ble_eq_true rfl) dX9_hear_23 0 0 rfl rfl (by decide) (fun v u_2 H locs hq ho => ?_)
    obtain rfl := hq
    have ho : ow D vwCl A s.heap H locs [bX K h ar ad ck a.length lo (va_up F 1 (whP (ck - 1) (F 1) 400))] := ho
    refine W.eq (g2 := F0 m 26 ls []) rfl ?_
    refine lv_aload_n hx hb dX9_hear_26 rfl (lv_at hl 1 rfl) ?_
    refine o_callV (wr := []) (rest := []) (As := []) C (c_M_headGood la D K h ar ad ck a.length lo (va_up F 1 (whP (ck - 1) (F 1) 400)) a (ck - 1) t_ qa (fun i hi => whP_in hi) qtl qth (by first | omega | assumption | (simp only [List.length_append, List.length_cons, List.length_nil, List.length_modify, List.length_set, nb_len, rb_len, rbp_len, sl_len, slN_len, wh_len, wt_len, hd10_len, hdB_len, thr_len, ldp_len, ldB_len, tens_len, whz_len, majL_len, mf_len, tkL_len, ldY_len, fif_len, ldY_len]; omega) | decide) (by first | omega | assumption | (simp only [List.length_append, List.length_cons, List.length_nil, List.length_modify, List.length_set, nb_len, rb_len, rbp_len, sl_len, slN_len, wh_len, wt_len, hd10_len, hdB_len, thr_len, ldp_len, ldB_len, tens_len, whz_len, majL_len, mf_len, tkL_len, ldY_len, fif_len, ldY_len]; omega) | decide)) kX9_168 vX9_headGood (by decide) rfl ho [0] 1 (by decide +kernel) rfl rfl rfl rfl rfl hl.1 rfl (Nat.le_of_ble_eq_true rfl) dX9_hear_27 0 0 rfl rfl (by decide) (fun v u_3 H locs hq ho => ?_)
    obtain rfl := hq
    have ho : ow D vwCl A s.heap H locs [bX K h ar ad ck a.length lo (va_up (va_up F 1 (whP (ck - 1) (F 1) 400)) 2 (wrL (F 2) 0 t_))] := ho
    refine W.eq (g2 := F0 m 30 ls [.int (bI (hOK ad t_))]) rfl ?_
    refine lv_istore_n (lv' := [(2, .int (bI (hOK ad t_))), (1, .int (nI d)), (0, .ref h)]) hx hb dX9_hear_30 rfl hl (by decide) rfl (fun ls hl => ?_)
    refine lv_aload_n hx hb dX9_hear_31 rfl (lv_at hl 2 rfl) ?_
    refine lv_iconst (v := nI 3) hx hb dX9_hear_32 (by decide) ?_
    refine lv_iconst (v := nI 4) hx hb dX9_hear_33 (by decide) ?_
    refine o_callV (wr := []) (rest := []) (As := [.int (nI 3), .int (nI 4)]) C (c_M_number la D K h ar ad ck a.length lo (va_up (va_up F 1 (whP (ck - 1) (F 1) 400)) 2 (wrL (F 2) 0 t_)) 3 4 t_ 3 (fun i hi => rd2 (by omega) hi) (by first | omega | assumption | (simp only [List.length_append, List.length_cons, List.length_nil, List.length_modify, List.length_set, nb_len, rb_len, rbp_len, sl_len, slN_len, wh_len, wt_len, hd10_len, hdB_len, thr_len, ldp_len, ldB_len, tens_len, whz_len, majL_len, mf_len, tkL_len, ldY_len, fif_len, ldY_len]; omega) | decide) (by first | omega | assumption | (simp only [List.length_append, List.length_cons, List.length_nil, List.length_modify, List.length_set, nb_len, rb_len, rbp_len, sl_len, slN_len, wh_len, wt_len, hd10_len, hdB_len, thr_len, ldp_len, ldB_len, tens_len, whz_len, majL_len, mf_len, tkL_len, ldY_len, fif_len, ldY_len]; omega) | decide)) kX9_153 vX9_number (by decide) rfl ho [0] 1 (by decide +kernel) rfl rfl rfl rfl rfl hl.1 rfl (Nat.le_of_ble_eq_true rfl) dX9_hear_34 0 0 rfl rfl (by decide) (fun v u_4 H locs hq ho => ?_)
    obtain rfl := hq
    have ho : ow D vwCl A s.heap H locs [bX K h ar ad ck a.length lo (va_up (va_up F 1 (whP (ck - 1) (F 1) 400)) 2 (wrL (F 2) 0 t_))] := ho
    refine W.eq (g2 := F0 m 37 ls [.int (nI (toN t_ 3 4))]) rfl ?_
    refine lv_istore_n (lv' := [(3, .int (nI (toN t_ 3 4))), (2, .int (bI (hOK ad t_))), (1, .int (nI d)), (0, .ref h)]) hx hb dX9_hear_37 rfl hl (by decide) rfl (fun ls hl => ?_)
    refine lv_aload_n hx hb dX9_hear_38 rfl (lv_at hl 3 rfl) ?_
    refine o_get (v := .ref (ar 2)) C ho 0 0 rfl rfl rfl 6 fX9_16 rfl dX9_hear_39 ?_
    refine lv_bipush (v := nI 8) hx hb dX9_hear_42 (by decide) ?_
    refine o_iald (v := wrL (F 2) 0 t_ 8) C ho 0 3 rfl rfl 0 rfl 8 rfl (by omega) (by omega) rfl dX9_hear_44 ?_
    refine o_top (y := bI (t_.getD 8 false)) (wrL_in0 (by omega)) ?_
    refine lv_istore (lv' := [(4, .int (bI (t_.getD 8 false))), (3, .int (nI (toN t_ 3 4))), (2, .int (bI (hOK ad t_))), (1, .int (nI d)), (0, .ref h)]) hx hb dX9_hear_45 hl (by decide) rfl (fun ls hl => ?_)
    refine lv_aload_n hx hb dX9_hear_47 rfl (lv_at hl 4 rfl) ?_
    refine o_get (v := .ref (ar 2)) C ho 0 0 rfl rfl rfl 6 fX9_16 rfl dX9_hear_48 ?_
    refine lv_bipush (v := nI 9) hx hb dX9_hear_51 (by decide) ?_
    refine o_iald (v := wrL (F 2) 0 t_ 9) C ho 0 3 rfl rfl 0 rfl 9 rfl (by omega) (by omega) rfl dX9_hear_53 ?_
    refine o_top (y := bI (t_.getD 9 false)) (wrL_in0 (by omega)) ?_
    refine lv_istore (lv' := [(5, .int (bI (t_.getD 9 false))), (4, .int (bI (t_.getD 8 false))), (3, .int (nI (toN t_ 3 4))), (2, .int (bI (hOK ad t_))), (1, .int (nI d)), (0, .ref h)]) hx hb dX9_hear_54 hl (by decide) rfl (fun ls hl => ?_)
    refine lv_iconst (v := nI 5) hx hb dX9_hear_56 (by decide) ?_
    refine lv_istore (lv' := [(6, .int (nI 5)), (5, .int (bI (t_.getD 9 false))), (4, .int (bI (t_.getD 8 false))), (3, .int (nI (toN t_ 3 4))), (2, .int (bI (hOK ad t_))), (1, .int (nI d)), (0, .ref h)]) hx hb dX9_hear_57 hl (by decide) rfl (fun ls hl => ?_)
    refine lv_iload_n hx hb dX9_hear_59 rfl (lv_at hl 4 rfl) ?_
    refine o_ifb_eq (tgt := 168) hx hb dX9_hear_60 (by decide) (fun c_5 => ?_) (fun c_5 => ?_)
    · skip
      exact absurd (qh.symm.trans c_5) (by decide)
    · skip
      refine lv_aload_n hx hb dX9_hear_63 rfl (lv_at hl 6 rfl) ?_
      refine o_get (v := .ref (ar 25)) C ho 0 0 rfl rfl rfl 29 fX9_86 rfl dX9_hear_64 ?_
      refine lv_iload_n hx hb dX9_hear_67 rfl (lv_at hl 5 rfl) ?_
      refine lv_iconst (v := nI 1) hx hb dX9_hear_68 (by decide) ?_
      refine o_top (y := bI true) (rfl) ?_
      refine o_zast (bs' := [bX K h ar ad ck a.length lo (va_up (va_up (va_up F 1 (whP (ck - 1) (F 1) 400)) 2 (wrL (F 2) 0 t_)) 25 (upd (F 25) d (bI true)))]) C ho 0 26 rfl rfl 3 rfl d rfl (by omega) (by decide) dX9_hear_69 rfl (fun H locs ho => ?_)
      refine lv_iload hx hb dX9_hear_70 (lv_at hl 2 rfl) ?_
      refine lv_iconst (v := nI 1) hx hb dX9_hear_72 (by decide) ?_
      refine o_top (y := bI true) (rfl) ?_
      refine o_icmpb_ne (tgt := 83) hx hb dX9_hear_73 (by decide) (fun c_6 => ?_) (fun c_6 => ?_)
      · skip
        have e_7 : bX K h ar ad ck a.length lo (va_up (va_up (va_up F 1 (whP (ck - 1) (F 1) 400)) 2 (wrL (F 2) 0 t_)) 25 (upd (F 25) d (bI true))) = bX K h ar ad ck a.length lo (va_up (va_up (va_up (va_up F 1 (whP (ck - 1) (F 1) 400)) 2 (wrL (F 2) 0 t_)) 25 (upd (F 25) d (bI true))) 11 (upd (F 11) d (nI (cond (t_.getD 8 false) 0 fl)))) := by rw [Bool.eq_false_iff.mpr c_6, cond_false, upd_same q11]; exact congrArg (bX K h ar ad ck a.length lo) (up_1 rfl)
        have ho : ow D vwCl A s.heap H locs [bX K h ar ad ck a.length lo (va_up (va_up (va_up (va_up F 1 (whP (ck - 1) (F 1) 400)) 2 (wrL (F 2) 0 t_)) 25 (upd (F 25) d (bI true))) 11 (upd (F 11) d (nI (cond (t_.getD 8 false) 0 fl))))] := by rw [← e_7]; exact ho
        refine lv_iload_n hx hb dX9_hear_83 rfl (lv_at hl 3 rfl) ?_
        refine lv_iconst (v := nI 3) hx hb dX9_hear_84 (by decide) ?_
        refine o_icmp_ge (tgt := 93) hx hb dX9_hear_85 (by decide) (by first | omega | exact and1_lt _) (by first | omega | exact and1_lt _) (fun c_8 => ?_) (fun c_8 => ?_)
        · skip
          refine lv_aload_n hx hb dX9_hear_93 rfl (lv_at hl 6 rfl) ?_
          refine lv_iload_n hx hb dX9_hear_94 rfl (lv_at hl 5 rfl) ?_
          refine lv_iload_n hx hb dX9_hear_95 rfl (lv_at hl 3 rfl) ?_
          refine o_callV (wr := []) (rest := []) (As := [.int (nI d), .int (nI (toN t_ 3 4))]) C (c_M_loadGood la D K h ar ad ck lo (va_up (va_up (va_up (va_up F 1 (whP (ck - 1) (F 1) 400)) 2 (wrL (F 2) 0 t_)) 25 (upd (F 25) d (bI true))) 11 (upd (F 11) d (nI (cond (t_.getD 8 false) 0 fl)))) d a (ck - 1) co (toN t_ 3 4) (by first | omega | assumption | (simp only [List.length_append, List.length_cons, List.length_nil, List.length_modify, List.length_set, nb_len, rb_len, rbp_len, sl_len, slN_len, wh_len, wt_len, hd10_len, hdB_len, thr_len, ldp_len, ldB_len, tens_len, whz_len, majL_len, mf_len, tkL_len, ldY_len, fif_len, ldY_len]; omega) | decide) qa (fun i hi => whP_in hi) (by first | omega | assumption | (simp only [List.length_append, List.length_cons, List.length_nil, List.length_modify, List.length_set, nb_len, rb_len, rbp_len, sl_len, slN_len, wh_len, wt_len, hd10_len, hdB_len, thr_len, ldp_len, ldB_len, tens_len, whz_len, majL_len, mf_len, tkL_len, ldY_len, fif_len, ldY_len]; omega) | decide) (by first | omega | assumption | (simp only [List.length_append, List.length_cons, List.length_nil, List.length_modify, List.length_set, nb_len, rb_len, rbp_len, sl_len, slN_len, wh_len, wt_len, hd10_len, hdB_len, thr_len, ldp_len, ldB_len, tens_len, whz_len, majL_len, mf_len, tkL_len, ldY_len, fif_len, ldY_len]; omega) | decide) q27 qk34) kX9_172 vX9_loadGood (by decide) rfl ho [0] 1 (by decide +kernel) rfl rfl rfl rfl rfl hl.1 rfl (Nat.le_of_ble_eq_true rfl) dX9_hear_96 0 0 rfl rfl (by decide) (fun v u_9 H locs hq ho => ?_)
          obtain rfl := hq
          have ho : ow D vwCl A s.heap H locs [bX K h ar ad ck a.length (15 + (ldl (toN t_ 3 4) (ck - 1) a).length) (va_up (va_up (va_up (va_up (va_up (va_up F 1 (whP (ck - 1) (F 1) 400)) 2 (wrL (F 2) 0 t_)) 25 (upd (F 25) d (bI true))) 11 (upd (F 11) d (nI (cond (t_.getD 8 false) 0 fl)))) 2 (wrL u_9 15 (ldl (toN t_ 3 4) (ck - 1) a))) 27 (upd (F 27) d (nI (co + ldn (toN t_ 3 4) a))))] := ho
          refine W.eq (g2 := F0 m 99 ls [.int (bI (lds (toN t_ 3 4) a && ldOK (ldl (toN t_ 3 4) (ck - 1) a)))]) rfl ?_
          have e_10 : bX K h ar ad ck a.length (15 + (ldl (toN t_ 3 4) (ck - 1) a).length) (va_up (va_up (va_up (va_up (va_up (va_up F 1 (whP (ck - 1) (F 1) 400)) 2 (wrL (F 2) 0 t_)) 25 (upd (F 25) d (bI true))) 11 (upd (F 11) d (nI (cond (t_.getD 8 false) 0 fl)))) 2 (wrL u_9 15 (ldl (toN t_ 3 4) (ck - 1) a))) 27 (upd (F 27) d (nI (co + ldn (toN t_ 3 4) a)))) = bX K h ar ad ck a.length (15 + l.length) (va_up (va_up (va_up (va_up (va_up (va_up F 1 (whP (ck - 1) (F 1) 400)) 2 (wrL (F 2) 0 t_)) 25 (upd (F 25) d (bI true))) 11 (upd (F 11) d (nI (cond (t_.getD 8 false) 0 fl)))) 2 (wrL u_9 15 l)) 27 (upd (F 27) d (nI (co + ldn (toN t_ 3 4) a)))) := by rw [qlx]
          have ho : ow D vwCl A s.heap H locs [bX K h ar ad ck a.length (15 + l.length) (va_up (va_up (va_up (va_up (va_up (va_up F 1 (whP (ck - 1) (F 1) 400)) 2 (wrL (F 2) 0 t_)) 25 (upd (F 25) d (bI true))) 11 (upd (F 11) d (nI (cond (t_.getD 8 false) 0 fl)))) 2 (wrL u_9 15 l)) 27 (upd (F 27) d (nI (co + ldn (toN t_ 3 4) a))))] := by rw [← e_10]; exact ho
          refine o_ifb_eq (tgt := 123) hx hb dX9_hear_99 (by decide) (fun c_11 => ?_) (fun c_11 => ?_)
          · skip
            exact absurd (qok.symm.trans c_11) (by decide)
          · skip
            refine lv_iload hx hb dX9_hear_102 (lv_at hl 1 rfl) ?_
            refine lv_aload_n hx hb dX9_hear_104 rfl (lv_at hl 6 rfl) ?_
            refine o_get (v := .ref (ar 23)) C ho 0 0 rfl rfl rfl 27 fX9_80 rfl dX9_hear_105 ?_
            refine lv_iload_n hx hb dX9_hear_108 rfl (lv_at hl 5 rfl) ?_
            refine o_iald (v := bI lt_) C ho 0 24 rfl rfl 0 rfl d rfl (by omega) (by omega) q23 dX9_hear_109 ?_
            refine o_icmpb_ne (tgt := 118) hx hb dX9_hear_110 (by decide) (fun c_12 => ?_) (fun c_12 => ?_)
            · skip
              refine lv_bipush (v := nI 6) hx hb dX9_hear_118 (by decide) ?_
              refine lv_goto (tgt := 125) hx hb dX9_hear_120 (by decide) ?_
              refine lv_istore (lv' := [(6, .int (nI 6)), (5, .int (bI (t_.getD 9 false))), (4, .int (bI (t_.getD 8 false))), (3, .int (nI (toN t_ 3 4))), (2, .int (bI (hOK ad t_))), (1, .int (nI d)), (0, .ref h)]) hx hb dX9_hear_125 hl (by decide) rfl (fun ls hl => ?_)
              refine lv_iload hx hb dX9_hear_127 (lv_at hl 0 rfl) ?_
              refine lv_bipush (v := nI 6) hx hb dX9_hear_129 (by decide) ?_
              refine o_icmp_eq (tgt := 141) hx hb dX9_hear_131 (by decide) (by decide) (by decide) (fun _ => ?_) (fun c9 => absurd c9 (by decide))
              refine lv_aload_n hx hb dX9_hear_141 rfl (lv_at hl 6 rfl) ?_
              refine o_get (v := .ref (ar 24)) C ho 0 0 rfl rfl rfl 28 fX9_83 rfl dX9_hear_142 ?_
              refine lv_iload_n hx hb dX9_hear_145 rfl (lv_at hl 5 rfl) ?_
              refine lv_iconst (v := nI 1) hx hb dX9_hear_146 (by decide) ?_
              refine o_top (y := bI true) (rfl) ?_
              refine o_zast (bs' := [bX K h ar ad ck a.length (15 + l.length) (va_up (va_up (va_up (va_up (va_up (va_up (va_up F 1 (whP (ck - 1) (F 1) 400)) 2 (wrL (F 2) 0 t_)) 25 (upd (F 25) d (bI true))) 11 (upd (F 11) d (nI (cond (t_.getD 8 false) 0 fl)))) 2 (wrL u_9 15 l)) 27 (upd (F 27) d (nI (co + ldn (toN t_ 3 4) a)))) 24 (upd (F 24) d (bI true)))]) C ho 0 25 rfl rfl 3 rfl d rfl (by omega) (by decide) dX9_hear_147 rfl (fun H locs ho => ?_)
              refine lv_iload hx hb dX9_hear_148 (lv_at hl 0 rfl) ?_
              refine lv_bipush (v := nI 6) hx hb dX9_hear_150 (by decide) ?_
              refine o_icmp_ne (tgt := 168) hx hb dX9_hear_152 (by decide) (by decide) (by decide) (fun c9 => absurd c9 (by decide)) (fun _ => ?_)
              refine lv_aload_n hx hb dX9_hear_155 rfl (lv_at hl 6 rfl) ?_
              refine o_get (v := .ref (ar 23)) C ho 0 0 rfl rfl rfl 27 fX9_80 rfl dX9_hear_156 ?_
              refine lv_iload_n hx hb dX9_hear_159 rfl (lv_at hl 5 rfl) ?_
              refine lv_iload hx hb dX9_hear_160 (lv_at hl 1 rfl) ?_
              refine o_iast (bs' := [bX K h ar ad ck a.length (15 + l.length) (va_up (va_up (va_up (va_up (va_up (va_up (va_up (va_up F 1 (whP (ck - 1) (F 1) 400)) 2 (wrL (F 2) 0 t_)) 25 (upd (F 25) d (bI true))) 11 (upd (F 11) d (nI (cond (t_.getD 8 false) 0 fl)))) 2 (wrL u_9 15 l)) 27 (upd (F 27) d (nI (co + ldn (toN t_ 3 4) a)))) 24 (upd (F 24) d (bI true))) 23 (upd (F 23) d (bI (t_.getD 9 false))))]) C ho 0 24 rfl rfl 0 rfl d rfl (by omega) (by decide) dX9_hear_162 rfl (fun H locs ho => ?_)
              refine lv_aload_n hx hb dX9_hear_163 rfl (lv_at hl 6 rfl) ?_
              refine lv_iload_n hx hb dX9_hear_164 rfl (lv_at hl 5 rfl) ?_
              refine o_callV (wr := []) (rest := []) (As := [.int (nI d)]) C (c_M_useD la D K h ar ad ck a.length (15 + l.length) (va_up (va_up (va_up (va_up (va_up (va_up (va_up (va_up F 1 (whP (ck - 1) (F 1) 400)) 2 (wrL (F 2) 0 t_)) 25 (upd (F 25) d (bI true))) 11 (upd (F 11) d (nI (cond (t_.getD 8 false) 0 fl)))) 2 (wrL u_9 15 l)) 27 (upd (F 27) d (nI (co + ldn (toN t_ 3 4) a)))) 24 (upd (F 24) d (bI true))) 23 (upd (F 23) d (bI (t_.getD 9 false)))) d l n tn dr (by first | omega | assumption | (simp only [List.length_append, List.length_cons, List.length_nil, List.length_modify, List.length_set, nb_len, rb_len, rbp_len, sl_len, slN_len, wh_len, wt_len, hd10_len, hdB_len, thr_len, ldp_len, ldB_len, tens_len, whz_len, majL_len, mf_len, tkL_len, ldY_len, fif_len, ldY_len]; omega) | decide) (fun i hi => wrL_in hi) qn qll ql2 qn1 q15 qtn q26 qbe q18) kX9_175 vX9_use (by decide) rfl ho [0] 1 (by decide +kernel) rfl rfl rfl rfl rfl hl.1 rfl (Nat.le_of_ble_eq_true rfl) dX9_hear_165 0 0 rfl rfl (by decide) (fun v u_13 H locs hq ho => ?_)
              obtain rfl := hq
              have ho : ow D vwCl A s.heap H locs [bX K h ar ad ck a.length (15 + l.length) (va_up (va_up (va_up (va_up (va_up (va_up (va_up (va_up F 1 (whP (ck - 1) (F 1) 400)) 2 (wrL (F 2) 0 t_)) 25 (upd (F 25) d (bI true))) 11 (upd (F 11) d (nI (cond (t_.getD 8 false) 0 fl)))) 2 (wrL u_9 15 l)) 27 (upd (F 27) d (nI (co + ldn (toN t_ 3 4) a)))) 24 (upd (F 24) d (bI true))) 23 (upd (F 23) d (bI (t_.getD 9 false))))] := ho
              refine W.eq (g2 := F0 m 168 ls []) rfl ?_
              refine lv_aload_n hx hb dX9_hear_168 rfl (lv_at hl 6 rfl) ?_
              refine lv_iconst (v := nI 0) hx hb dX9_hear_169 (by decide) ?_
              refine o_put (v := .int (nI 0)) (bs' := [bX K h ar ad ck 0 (15 + l.length) (va_up (va_up (va_up (va_up (va_up (va_up (va_up (va_up F 1 (whP (ck - 1) (F 1) 400)) 2 (wrL (F 2) 0 t_)) 25 (upd (F 25) d (bI true))) 11 (upd (F 11) d (nI (cond (t_.getD 8 false) 0 fl)))) 2 (wrL u_9 15 l)) 27 (upd (F 27) d (nI (co + ldn (toN t_ 3 4) a)))) 24 (upd (F 24) d (bI true))) 23 (upd (F 23) d (bI (t_.getD 9 false))))]) C ho 0 0 rfl rfl rfl 2 fX9_122 pX9_2 rfl rfl (Nat.le_of_ble_eq_true rfl) dX9_hear_170 rfl (fun H locs ho => ?_)
              refine lv_iload hx hb dX9_hear_173 (lv_at hl 0 rfl) ?_
              exact o_iret hQ C rfl ho u_9 rfl rfl (Nat.le_of_ble_eq_true rfl) (Nat.le_of_ble_eq_true rfl) dX9_hear_175
            · skip
              exact absurd c_12 qtt
        · skip
          exact absurd c_8 (by omega)
      · skip
        refine lv_aload_n hx hb dX9_hear_76 rfl (lv_at hl 6 rfl) ?_
        refine o_get (v := .ref (ar 11)) C ho 0 0 rfl rfl rfl 15 fX9_43 rfl dX9_hear_77 ?_
        refine lv_iload_n hx hb dX9_hear_80 rfl (lv_at hl 5 rfl) ?_
        refine lv_iconst (v := nI 0) hx hb dX9_hear_81 (by decide) ?_
        refine o_iast (bs' := [bX K h ar ad ck a.length lo (va_up (va_up (va_up (va_up F 1 (whP (ck - 1) (F 1) 400)) 2 (wrL (F 2) 0 t_)) 25 (upd (F 25) d (bI true))) 11 (upd (F 11) d (nI 0)))]) C ho 0 12 rfl rfl 0 rfl d rfl (by omega) (by decide) dX9_hear_82 rfl (fun H locs ho => ?_)
        have e_14 : bX K h ar ad ck a.length lo (va_up (va_up (va_up (va_up F 1 (whP (ck - 1) (F 1) 400)) 2 (wrL (F 2) 0 t_)) 25 (upd (F 25) d (bI true))) 11 (upd (F 11) d (nI 0))) = bX K h ar ad ck a.length lo (va_up (va_up (va_up (va_up F 1 (whP (ck - 1) (F 1) 400)) 2 (wrL (F 2) 0 t_)) 25 (upd (F 25) d (bI true))) 11 (upd (F 11) d (nI (cond (t_.getD 8 false) 0 fl)))) := by rw [c_6, cond_true]
        have ho : ow D vwCl A s.heap H locs [bX K h ar ad ck a.length lo (va_up (va_up (va_up (va_up F 1 (whP (ck - 1) (F 1) 400)) 2 (wrL (F 2) 0 t_)) 25 (upd (F 25) d (bI true))) 11 (upd (F 11) d (nI (cond (t_.getD 8 false) 0 fl))))] := by rw [← e_14]; exact ho
        refine lv_iload_n hx hb dX9_hear_83 rfl (lv_at hl 3 rfl) ?_
        refine lv_iconst (v := nI 3) hx hb dX9_hear_84 (by decide) ?_
        refine o_icmp_ge (tgt := 93) hx hb dX9_hear_85 (by decide) (by first | omega | exact and1_lt _) (by first | omega | exact and1_lt _) (fun c_15 => ?_) (fun c_15 => ?_)
        · skip
          refine lv_aload_n hx hb dX9_hear_93 rfl (lv_at hl 6 rfl) ?_
          refine lv_iload_n hx hb dX9_hear_94 rfl (lv_at hl 5 rfl) ?_
          refine lv_iload_n hx hb dX9_hear_95 rfl (lv_at hl 3 rfl) ?_
          refine o_callV (wr := []) (rest := []) (As := [.int (nI d), .int (nI (toN t_ 3 4))]) C (c_M_loadGood la D K h ar ad ck lo (va_up (va_up (va_up (va_up F 1 (whP (ck - 1) (F 1) 400)) 2 (wrL (F 2) 0 t_)) 25 (upd (F 25) d (bI true))) 11 (upd (F 11) d (nI (cond (t_.getD 8 false) 0 fl)))) d a (ck - 1) co (toN t_ 3 4) (by first | omega | assumption | (simp only [List.length_append, List.length_cons, List.length_nil, List.length_modify, List.length_set, nb_len, rb_len, rbp_len, sl_len, slN_len, wh_len, wt_len, hd10_len, hdB_len, thr_len, ldp_len, ldB_len, tens_len, whz_len, majL_len, mf_len, tkL_len, ldY_len, fif_len, ldY_len]; omega) | decide) qa (fun i hi => whP_in hi) (by first | omega | assumption | (simp only [List.length_append, List.length_cons, List.length_nil, List.length_modify, List.length_set, nb_len, rb_len, rbp_len, sl_len, slN_len, wh_len, wt_len, hd10_len, hdB_len, thr_len, ldp_len, ldB_len, tens_len, whz_len, majL_len, mf_len, tkL_len, ldY_len, fif_len, ldY_len]; omega) | decide) (by first | omega | assumption | (simp only [List.length_append, List.length_cons, List.length_nil, List.length_modify, List.length_set, nb_len, rb_len, rbp_len, sl_len, slN_len, wh_len, wt_len, hd10_len, hdB_len, thr_len, ldp_len, ldB_len, tens_len, whz_len, majL_len, mf_len, tkL_len, ldY_len, fif_len, ldY_len]; omega) | decide) q27 qk34) kX9_172 vX9_loadGood (by decide) rfl ho [0] 1 (by decide +kernel) rfl rfl rfl rfl rfl hl.1 rfl (Nat.le_of_ble_eq_true rfl) dX9_hear_96 0 0 rfl rfl (by decide) (fun v u_16 H locs hq ho => ?_)
          obtain rfl := hq
          have ho : ow D vwCl A s.heap H locs [bX K h ar ad ck a.length (15 + (ldl (toN t_ 3 4) (ck - 1) a).length) (va_up (va_up (va_up (va_up (va_up (va_up F 1 (whP (ck - 1) (F 1) 400)) 2 (wrL (F 2) 0 t_)) 25 (upd (F 25) d (bI true))) 11 (upd (F 11) d (nI (cond (t_.getD 8 false) 0 fl)))) 2 (wrL u_16 15 (ldl (toN t_ 3 4) (ck - 1) a))) 27 (upd (F 27) d (nI (co + ldn (toN t_ 3 4) a))))] := ho
          refine W.eq (g2 := F0 m 99 ls [.int (bI (lds (toN t_ 3 4) a && ldOK (ldl (toN t_ 3 4) (ck - 1) a)))]) rfl ?_
          have e_17 : bX K h ar ad ck a.length (15 + (ldl (toN t_ 3 4) (ck - 1) a).length) (va_up (va_up (va_up (va_up (va_up (va_up F 1 (whP (ck - 1) (F 1) 400)) 2 (wrL (F 2) 0 t_)) 25 (upd (F 25) d (bI true))) 11 (upd (F 11) d (nI (cond (t_.getD 8 false) 0 fl)))) 2 (wrL u_16 15 (ldl (toN t_ 3 4) (ck - 1) a))) 27 (upd (F 27) d (nI (co + ldn (toN t_ 3 4) a)))) = bX K h ar ad ck a.length (15 + l.length) (va_up (va_up (va_up (va_up (va_up (va_up F 1 (whP (ck - 1) (F 1) 400)) 2 (wrL (F 2) 0 t_)) 25 (upd (F 25) d (bI true))) 11 (upd (F 11) d (nI (cond (t_.getD 8 false) 0 fl)))) 2 (wrL u_16 15 l)) 27 (upd (F 27) d (nI (co + ldn (toN t_ 3 4) a)))) := by rw [qlx]
          have ho : ow D vwCl A s.heap H locs [bX K h ar ad ck a.length (15 + l.length) (va_up (va_up (va_up (va_up (va_up (va_up F 1 (whP (ck - 1) (F 1) 400)) 2 (wrL (F 2) 0 t_)) 25 (upd (F 25) d (bI true))) 11 (upd (F 11) d (nI (cond (t_.getD 8 false) 0 fl)))) 2 (wrL u_16 15 l)) 27 (upd (F 27) d (nI (co + ldn (toN t_ 3 4) a))))] := by rw [← e_17]; exact ho
          refine o_ifb_eq (tgt := 123) hx hb dX9_hear_99 (by decide) (fun c_18 => ?_) (fun c_18 => ?_)
          · skip
            exact absurd (qok.symm.trans c_18) (by decide)
          · skip
            refine lv_iload hx hb dX9_hear_102 (lv_at hl 1 rfl) ?_
            refine lv_aload_n hx hb dX9_hear_104 rfl (lv_at hl 6 rfl) ?_
            refine o_get (v := .ref (ar 23)) C ho 0 0 rfl rfl rfl 27 fX9_80 rfl dX9_hear_105 ?_
            refine lv_iload_n hx hb dX9_hear_108 rfl (lv_at hl 5 rfl) ?_
            refine o_iald (v := bI lt_) C ho 0 24 rfl rfl 0 rfl d rfl (by omega) (by omega) q23 dX9_hear_109 ?_
            refine o_icmpb_ne (tgt := 118) hx hb dX9_hear_110 (by decide) (fun c_19 => ?_) (fun c_19 => ?_)
            · skip
              refine lv_bipush (v := nI 6) hx hb dX9_hear_118 (by decide) ?_
              refine lv_goto (tgt := 125) hx hb dX9_hear_120 (by decide) ?_
              refine lv_istore (lv' := [(6, .int (nI 6)), (5, .int (bI (t_.getD 9 false))), (4, .int (bI (t_.getD 8 false))), (3, .int (nI (toN t_ 3 4))), (2, .int (bI (hOK ad t_))), (1, .int (nI d)), (0, .ref h)]) hx hb dX9_hear_125 hl (by decide) rfl (fun ls hl => ?_)
              refine lv_iload hx hb dX9_hear_127 (lv_at hl 0 rfl) ?_
              refine lv_bipush (v := nI 6) hx hb dX9_hear_129 (by decide) ?_
              refine o_icmp_eq (tgt := 141) hx hb dX9_hear_131 (by decide) (by decide) (by decide) (fun _ => ?_) (fun c9 => absurd c9 (by decide))
              refine lv_aload_n hx hb dX9_hear_141 rfl (lv_at hl 6 rfl) ?_
              refine o_get (v := .ref (ar 24)) C ho 0 0 rfl rfl rfl 28 fX9_83 rfl dX9_hear_142 ?_
              refine lv_iload_n hx hb dX9_hear_145 rfl (lv_at hl 5 rfl) ?_
              refine lv_iconst (v := nI 1) hx hb dX9_hear_146 (by decide) ?_
              refine o_top (y := bI true) (rfl) ?_
              refine o_zast (bs' := [bX K h ar ad ck a.length (15 + l.length) (va_up (va_up (va_up (va_up (va_up (va_up (va_up F 1 (whP (ck - 1) (F 1) 400)) 2 (wrL (F 2) 0 t_)) 25 (upd (F 25) d (bI true))) 11 (upd (F 11) d (nI (cond (t_.getD 8 false) 0 fl)))) 2 (wrL u_16 15 l)) 27 (upd (F 27) d (nI (co + ldn (toN t_ 3 4) a)))) 24 (upd (F 24) d (bI true)))]) C ho 0 25 rfl rfl 3 rfl d rfl (by omega) (by decide) dX9_hear_147 rfl (fun H locs ho => ?_)
              refine lv_iload hx hb dX9_hear_148 (lv_at hl 0 rfl) ?_
              refine lv_bipush (v := nI 6) hx hb dX9_hear_150 (by decide) ?_
              refine o_icmp_ne (tgt := 168) hx hb dX9_hear_152 (by decide) (by decide) (by decide) (fun c9 => absurd c9 (by decide)) (fun _ => ?_)
              refine lv_aload_n hx hb dX9_hear_155 rfl (lv_at hl 6 rfl) ?_
              refine o_get (v := .ref (ar 23)) C ho 0 0 rfl rfl rfl 27 fX9_80 rfl dX9_hear_156 ?_
              refine lv_iload_n hx hb dX9_hear_159 rfl (lv_at hl 5 rfl) ?_
              refine lv_iload hx hb dX9_hear_160 (lv_at hl 1 rfl) ?_
              refine o_iast (bs' := [bX K h ar ad ck a.length (15 + l.length) (va_up (va_up (va_up (va_up (va_up (va_up (va_up (va_up F 1 (whP (ck - 1) (F 1) 400)) 2 (wrL (F 2) 0 t_)) 25 (upd (F 25) d (bI true))) 11 (upd (F 11) d (nI (cond (t_.getD 8 false) 0 fl)))) 2 (wrL u_16 15 l)) 27 (upd (F 27) d (nI (co + ldn (toN t_ 3 4) a)))) 24 (upd (F 24) d (bI true))) 23 (upd (F 23) d (bI (t_.getD 9 false))))]) C ho 0 24 rfl rfl 0 rfl d rfl (by omega) (by decide) dX9_hear_162 rfl (fun H locs ho => ?_)
              refine lv_aload_n hx hb dX9_hear_163 rfl (lv_at hl 6 rfl) ?_
              refine lv_iload_n hx hb dX9_hear_164 rfl (lv_at hl 5 rfl) ?_
              refine o_callV (wr := []) (rest := []) (As := [.int (nI d)]) C (c_M_useD la D K h ar ad ck a.length (15 + l.length) (va_up (va_up (va_up (va_up (va_up (va_up (va_up (va_up F 1 (whP (ck - 1) (F 1) 400)) 2 (wrL (F 2) 0 t_)) 25 (upd (F 25) d (bI true))) 11 (upd (F 11) d (nI (cond (t_.getD 8 false) 0 fl)))) 2 (wrL u_16 15 l)) 27 (upd (F 27) d (nI (co + ldn (toN t_ 3 4) a)))) 24 (upd (F 24) d (bI true))) 23 (upd (F 23) d (bI (t_.getD 9 false)))) d l n tn dr (by first | omega | assumption | (simp only [List.length_append, List.length_cons, List.length_nil, List.length_modify, List.length_set, nb_len, rb_len, rbp_len, sl_len, slN_len, wh_len, wt_len, hd10_len, hdB_len, thr_len, ldp_len, ldB_len, tens_len, whz_len, majL_len, mf_len, tkL_len, ldY_len, fif_len, ldY_len]; omega) | decide) (fun i hi => wrL_in hi) qn qll ql2 qn1 q15 qtn q26 qbe q18) kX9_175 vX9_use (by decide) rfl ho [0] 1 (by decide +kernel) rfl rfl rfl rfl rfl hl.1 rfl (Nat.le_of_ble_eq_true rfl) dX9_hear_165 0 0 rfl rfl (by decide) (fun v u_20 H locs hq ho => ?_)
              obtain rfl := hq
              have ho : ow D vwCl A s.heap H locs [bX K h ar ad ck a.length (15 + l.length) (va_up (va_up (va_up (va_up (va_up (va_up (va_up (va_up F 1 (whP (ck - 1) (F 1) 400)) 2 (wrL (F 2) 0 t_)) 25 (upd (F 25) d (bI true))) 11 (upd (F 11) d (nI (cond (t_.getD 8 false) 0 fl)))) 2 (wrL u_16 15 l)) 27 (upd (F 27) d (nI (co + ldn (toN t_ 3 4) a)))) 24 (upd (F 24) d (bI true))) 23 (upd (F 23) d (bI (t_.getD 9 false))))] := ho
              refine W.eq (g2 := F0 m 168 ls []) rfl ?_
              refine lv_aload_n hx hb dX9_hear_168 rfl (lv_at hl 6 rfl) ?_
              refine lv_iconst (v := nI 0) hx hb dX9_hear_169 (by decide) ?_
              refine o_put (v := .int (nI 0)) (bs' := [bX K h ar ad ck 0 (15 + l.length) (va_up (va_up (va_up (va_up (va_up (va_up (va_up (va_up F 1 (whP (ck - 1) (F 1) 400)) 2 (wrL (F 2) 0 t_)) 25 (upd (F 25) d (bI true))) 11 (upd (F 11) d (nI (cond (t_.getD 8 false) 0 fl)))) 2 (wrL u_16 15 l)) 27 (upd (F 27) d (nI (co + ldn (toN t_ 3 4) a)))) 24 (upd (F 24) d (bI true))) 23 (upd (F 23) d (bI (t_.getD 9 false))))]) C ho 0 0 rfl rfl rfl 2 fX9_122 pX9_2 rfl rfl (Nat.le_of_ble_eq_true rfl) dX9_hear_170 rfl (fun H locs ho => ?_)
              refine lv_iload hx hb dX9_hear_173 (lv_at hl 0 rfl) ?_
              exact o_iret hQ C rfl ho u_16 rfl rfl (Nat.le_of_ble_eq_true rfl) (Nat.le_of_ble_eq_true rfl) dX9_hear_175
            · skip
              exact absurd c_19 qtt
        · skip
          exact absurd c_15 (by omega)
  · skip
    exact absurd c_1 (by omega)
