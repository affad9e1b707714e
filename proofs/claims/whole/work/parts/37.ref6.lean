set_option maxHeartbeats 4000000 in
set_option maxRecDepth 100000 in
theorem c_M_sendBits0 (la : Launch) (D : va_G) (K : Nat → ClassId) (h : Nat) (ar : Nat → Nat) (ad : Nat) (ck : Nat) (bi : Nat) (lo : Nat) (F : Nat → Nat → Int32) (c_ : Nat) (hB : List Bool) (L : List Bool) (kd : Nat) (qw : ∀ i, i < 400 → F 1 i = bI (wb c_ i)) (qh : ∀ i, i < 18 → F 2 i = bI (hB.getD i false)) (qhl : hB.length = 18) (qk : kd < 3) : MT la D K yX9_sendBits cX9_sendBits 7 none (rmL 2 0 0) [.ref h, .int (nI kd)] [bX K h ar ad ck bi lo F] Unit (fun v _ => v = none) (fun _ => [bX K h ar ad ck 54 lo (va_up F 0 (wrL (F 0) 0 (thr (whz hB (wt c_) 0) 54)))]) := by
  refine Mt.ofW [(0, .ref h), (1, .int (nI kd))] (by decide) rfl (Nat.le_of_ble_eq_true rfl) ?_
  intro p e s m args below meth c A ls H locs Qz hQ C hin hl ho
  have hx := C.1.1
  have hb := C.1.2.1
  refine lv_aload_n hx hb dX9_sendBits_0 rfl (lv_at hl 0 rfl) ?_
  refine lv_iconst (v := nI 0) hx hb dX9_sendBits_1 (by decide) ?_
  refine o_put (v := .int (nI 0)) (bs' := [bX K h ar ad ck 0 lo F]) C ho 0 0 rfl rfl rfl 2 fX9_122 pX9_2 rfl rfl (Nat.le_of_ble_eq_true rfl) dX9_sendBits_2 rfl (fun H locs ho => ?_)
  refine lv_iconst (v := nI 0) hx hb dX9_sendBits_5 (by decide) ?_
  refine lv_istore_n (lv' := [(2, .int (nI 0)), (0, .ref h), (1, .int (nI kd))]) hx hb dX9_sendBits_6 rfl hl (by decide) rfl (fun ls hl => ?_)
  have e_1 : bX K h ar ad ck 0 lo F = bX K h ar ad ck 0 lo (va_up F 0 (wrL (F 0) 0 (thr (whz hB (wt c_) 0) 0))) := by rw [show thr (whz hB (wt c_) 0) 0 = [] from rfl, wrL_nil, up_self]
  have ho : ow D vwCl A s.heap H locs [bX K h ar ad ck 0 lo (va_up F 0 (wrL (F 0) 0 (thr (whz hB (wt c_) 0) 0)))] := by rw [← e_1]; exact ho
  have LP7 : ∀ (fuel : Nat) (i : Nat) (_ : 54 - i < fuel) (_ : i ≤ 54) (H : Heap) (locs : List Loc) (ls : Array Slot) (_ : ow D vwCl A s.heap H locs [bX K h ar ad ck i lo (va_up F 0 (wrL (F 0) 0 (thr (whz hB (wt c_) 0) i)))]) (_ : lv_has ls 7 [(0, .ref h), (1, .int (nI kd)), (2, .int (nI i))]), W p la e (rmL 2 0 0) s m args below meth c H locs 0 0 Qz (F0 m 7 ls []) := by
    intro fuel
    induction fuel with
    | zero => intro i h0; exact absurd h0 (Nat.not_lt_zero _)
    | succ fuel ih7 =>
      intro i hfu hi H locs ls ho hl
      refine lv_iload_n hx hb dX9_sendBits_7 rfl (lv_at hl 2 rfl) ?_
      refine lv_bipush (v := nI 54) hx hb dX9_sendBits_8 (by decide) ?_
      refine o_icmp_ge (tgt := 40) hx hb dX9_sendBits_10 (by decide) (by first | omega | exact and1_lt _) (by first | omega | exact and1_lt _) (fun c_2 => ?_) (fun c_2 => ?_)
      · skip
        have e_3 : bX K h ar ad ck i lo (va_up F 0 (wrL (F 0) 0 (thr (whz hB (wt c_) 0) i))) = bX K h ar ad ck 54 lo (va_up F 0 (wrL (F 0) 0 (thr (whz hB (wt c_) 0) 54))) := by rw [show i = 54 by omega]
        have ho : ow D vwCl A s.heap H locs [bX K h ar ad ck 54 lo (va_up F 0 (wrL (F 0) 0 (thr (whz hB (wt c_) 0) 54)))] := by rw [← e_3]; exact ho
        refine lv_iload_n hx hb dX9_sendBits_40 rfl (lv_at hl 1 rfl) ?_
        refine lv_iconst (v := nI 3) hx hb dX9_sendBits_41 (by decide) ?_
        refine o_icmp_ge (tgt := 46) hx hb dX9_sendBits_42 (by decide) (by first | omega | exact and1_lt _) (by first | omega | exact and1_lt _) (fun c_4 => ?_) (fun c_4 => ?_)
        · skip
          exact absurd c_4 (by omega)
        · skip
          exact o_vret hQ C ho () rfl rfl (Nat.le_of_ble_eq_true rfl) (Nat.le_of_ble_eq_true rfl) dX9_sendBits_45
      · skip
        refine lv_aload_n hx hb dX9_sendBits_13 rfl (lv_at hl 0 rfl) ?_
        refine lv_aload_n hx hb dX9_sendBits_14 rfl (lv_at hl 0 rfl) ?_
        refine o_get (v := .ref (ar 2)) C ho 0 0 rfl rfl rfl 6 fX9_16 rfl dX9_sendBits_15 ?_
        refine lv_iload_n hx hb dX9_sendBits_18 rfl (lv_at hl 2 rfl) ?_
        refine lv_iconst (v := nI 3) hx hb dX9_sendBits_19 (by decide) ?_
        refine o_div hx hb dX9_sendBits_20 (by omega) (by omega) (by omega) ?_
        refine o_iald (v := F 2 (i / 3)) C ho 0 3 rfl rfl 0 rfl (i / 3) rfl (by omega) (by omega) rfl dX9_sendBits_21 ?_
        refine o_top (y := bI (hB.getD (i / 3) false)) (qh _ (by omega)) ?_
        refine lv_aload_n hx hb dX9_sendBits_22 rfl (lv_at hl 0 rfl) ?_
        refine o_get (v := .ref (ar 1)) C ho 0 0 rfl rfl rfl 4 fX9_13 rfl dX9_sendBits_23 ?_
        refine lv_iload_n hx hb dX9_sendBits_26 rfl (lv_at hl 2 rfl) ?_
        refine lv_iconst (v := nI 3) hx hb dX9_sendBits_27 (by decide) ?_
        refine o_div hx hb dX9_sendBits_28 (by omega) (by omega) (by omega) ?_
        refine o_iald (v := F 1 (i / 3)) C ho 0 2 rfl rfl 0 rfl (i / 3) rfl (by omega) (by omega) rfl dX9_sendBits_29 ?_
        refine o_top (y := bI (wb c_ (i / 3))) (qw _ (by omega)) ?_
        refine o_xorb hx hb dX9_sendBits_30 ?_
        refine o_top (y := bI ((whz hB (wt c_) 0).getD (i / 3) false)) (by rw [whz_getD (by omega) (by omega), Nat.zero_add]) ?_
        refine o_callV (wr := []) (rest := []) (As := [.int (bI ((whz hB (wt c_) 0).getD (i / 3) false))]) C (c_M_push la D K h ar ad ck i lo (va_up F 0 (wrL (F 0) 0 (thr (whz hB (wt c_) 0) i))) ((whz hB (wt c_) 0).getD (i / 3) false) (by first | omega | assumption | (simp only [List.length_append, List.length_cons, List.length_nil, List.length_modify, List.length_set, nb_len, rb_len, rbp_len, sl_len, slN_len, wh_len, wt_len, hd10_len, hdB_len, thr_len, ldp_len, ldB_len, tens_len, whz_len, majL_len, mf_len, tkL_len, ldY_len, fif_len, ldY_len]; omega) | decide)) kX9_125 vX9_push (by decide) rfl ho [0] 1 (by decide +kernel) rfl rfl rfl rfl rfl hl.1 rfl (Nat.le_of_ble_eq_true rfl) dX9_sendBits_31 0 0 rfl rfl (by decide) (fun v u_5 H locs hq ho => ?_)
        obtain rfl := hq
        have ho : ow D vwCl A s.heap H locs [bX K h ar ad ck (i + 1) lo (va_up (va_up F 0 (wrL (F 0) 0 (thr (whz hB (wt c_) 0) i))) 0 (upd (wrL (F 0) 0 (thr (whz hB (wt c_) 0) i)) i (bI ((whz hB (wt c_) 0).getD (i / 3) false))))] := ho
        refine W.eq (g2 := F0 m 34 ls []) rfl ?_
        have e_6 : bX K h ar ad ck (i + 1) lo (va_up (va_up F 0 (wrL (F 0) 0 (thr (whz hB (wt c_) 0) i))) 0 (upd (wrL (F 0) 0 (thr (whz hB (wt c_) 0) i)) i (bI ((whz hB (wt c_) 0).getD (i / 3) false)))) = bX K h ar ad ck (i + 1) lo (va_up F 0 (wrL (F 0) 0 (thr (whz hB (wt c_) 0) (i + 1)))) := by rw [bx_uu, wrL_push0 (thr_len _ _).symm, thr_succ]
        have ho : ow D vwCl A s.heap H locs [bX K h ar ad ck (i + 1) lo (va_up F 0 (wrL (F 0) 0 (thr (whz hB (wt c_) 0) (i + 1))))] := by rw [← e_6]; exact ho
        refine lv_iinc (v := nI (i + 1)) (lv' := [(2, .int (nI (i + 1))), (0, .ref h), (1, .int (nI kd))]) hx hb dX9_sendBits_34 hl (k := 2) rfl (iincN _ _) (by decide) rfl (fun ls hl => ?_)
        refine lv_goto (tgt := 7) hx hb dX9_sendBits_37 (by decide) ?_
        exact ih7 (i + 1) (by omega) (by omega) _ _ _ ho (lv_sub hl [1, 2, 0] rfl)
  exact LP7 (54 - 0 + 1) 0 (Nat.lt_succ_self _) (by omega) _ _ _ ho (lv_sub hl [1, 2, 0] rfl)

set_option maxHeartbeats 4000000 in
set_option maxRecDepth 100000 in
theorem c_M_sendBits4 (la : Launch) (D : va_G) (K : Nat → ClassId) (h : Nat) (ar : Nat → Nat) (ad : Nat) (ck : Nat) (bi : Nat) (lo : Nat) (F : Nat → Nat → Int32) (c_ : Nat) (hB : List Bool) (L : List Bool) (qw : ∀ i, i < 400 → F 1 i = bI (wb c_ i)) (qh : ∀ i, i < 18 → F 2 i = bI (hB.getD i false)) (qhl : hB.length = 18) (ql : ∀ i, i < L.length → F 2 (18 + i) = bI (L.getD i false)) (qlo : lo = 18 + L.length) (qll : L.length ≤ 128) : MT la D K yX9_sendBits cX9_sendBits 7 none (rmL 2 0 0) [.ref h, .int (nI 4)] [bX K h ar ad ck bi lo F] (Nat → Int32) (fun v _ => v = none) (fun u => [bX K h ar ad ck (54 + L.length) lo (va_up (va_up F 0 (wrL (F 0) 0 (thr (whz hB (wt c_) 0) 54 ++ sl (whz L (wt c_) 18) 0 L.length))) 2 (u))]) := by
  refine Mt.ofW [(0, .ref h), (1, .int (nI 4))] (by decide) rfl (Nat.le_of_ble_eq_true rfl) ?_
  intro p e s m args below meth c A ls H locs Qz hQ C hin hl ho
  have hx := C.1.1
  have hb := C.1.2.1
  refine lv_aload_n hx hb dX9_sendBits_0 rfl (lv_at hl 0 rfl) ?_
  refine lv_iconst (v := nI 0) hx hb dX9_sendBits_1 (by decide) ?_
  refine o_put (v := .int (nI 0)) (bs' := [bX K h ar ad ck 0 lo F]) C ho 0 0 rfl rfl rfl 2 fX9_122 pX9_2 rfl rfl (Nat.le_of_ble_eq_true rfl) dX9_sendBits_2 rfl (fun H locs ho => ?_)
  refine lv_iconst (v := nI 0) hx hb dX9_sendBits_5 (by decide) ?_
  refine lv_istore_n (lv' := [(2, .int (nI 0)), (0, .ref h), (1, .int (nI 4))]) hx hb dX9_sendBits_6 rfl hl (by decide) rfl (fun ls hl => ?_)
  have e_1 : bX K h ar ad ck 0 lo F = bX K h ar ad ck 0 lo (va_up F 0 (wrL (F 0) 0 (thr (whz hB (wt c_) 0) 0))) := by rw [show thr (whz hB (wt c_) 0) 0 = [] from rfl, wrL_nil, up_self]
  have ho : ow D vwCl A s.heap H locs [bX K h ar ad ck 0 lo (va_up F 0 (wrL (F 0) 0 (thr (whz hB (wt c_) 0) 0)))] := by rw [← e_1]; exact ho
  have LP7 : ∀ (fuel : Nat) (i : Nat) (_ : 54 - i < fuel) (_ : i ≤ 54) (H : Heap) (locs : List Loc) (ls : Array Slot) (_ : ow D vwCl A s.heap H locs [bX K h ar ad ck i lo (va_up F 0 (wrL (F 0) 0 (thr (whz hB (wt c_) 0) i)))]) (_ : lv_has ls 7 [(0, .ref h), (1, .int (nI 4)), (2, .int (nI i))]), W p la e (rmL 2 0 0) s m args below meth c H locs 0 0 Qz (F0 m 7 ls []) := by
    intro fuel
    induction fuel with
    | zero => intro i h0; exact absurd h0 (Nat.not_lt_zero _)
    | succ fuel ih7 =>
      intro i hfu hi H locs ls ho hl
      refine lv_iload_n hx hb dX9_sendBits_7 rfl (lv_at hl 2 rfl) ?_
      refine lv_bipush (v := nI 54) hx hb dX9_sendBits_8 (by decide) ?_
      refine o_icmp_ge (tgt := 40) hx hb dX9_sendBits_10 (by decide) (by first | omega | exact and1_lt _) (by first | omega | exact and1_lt _) (fun c_2 => ?_) (fun c_2 => ?_)
      · skip
        have e_3 : bX K h ar ad ck i lo (va_up F 0 (wrL (F 0) 0 (thr (whz hB (wt c_) 0) i))) = bX K h ar ad ck 54 lo (va_up F 0 (wrL (F 0) 0 (thr (whz hB (wt c_) 0) 54))) := by rw [show i = 54 by omega]
        have ho : ow D vwCl A s.heap H locs [bX K h ar ad ck 54 lo (va_up F 0 (wrL (F 0) 0 (thr (whz hB (wt c_) 0) 54)))] := by rw [← e_3]; exact ho
        refine lv_iload_n hx hb dX9_sendBits_40 rfl (lv_at hl 1 rfl) ?_
        refine lv_iconst (v := nI 3) hx hb dX9_sendBits_41 (by decide) ?_
        refine o_icmp_ge (tgt := 46) hx hb dX9_sendBits_42 (by decide) (by decide) (by decide) (fun _ => ?_) (fun c9 => absurd c9 (by decide))
        refine lv_aload_n hx hb dX9_sendBits_46 rfl (lv_at hl 0 rfl) ?_
        refine o_get (v := .int (nI lo)) C ho 0 0 rfl rfl rfl 5 fX9_103 rfl dX9_sendBits_47 ?_
        refine lv_bipush (v := nI 18) hx hb dX9_sendBits_50 (by decide) ?_
        refine o_sub hx hb dX9_sendBits_52 (by omega) ?_
        refine o_top (y := nI L.length) (congrArg nI (by omega)) ?_
        refine lv_istore_n (lv' := [(2, .int (nI L.length)), (0, .ref h), (1, .int (nI 4))]) hx hb dX9_sendBits_53 rfl hl (by decide) rfl (fun ls hl => ?_)
        refine lv_iconst (v := nI 0) hx hb dX9_sendBits_54 (by decide) ?_
        refine lv_istore_n (lv' := [(3, .int (nI 0)), (2, .int (nI L.length)), (0, .ref h), (1, .int (nI 4))]) hx hb dX9_sendBits_55 rfl hl (by decide) rfl (fun ls hl => ?_)
        have e_4 : bX K h ar ad ck 54 lo (va_up F 0 (wrL (F 0) 0 (thr (whz hB (wt c_) 0) 54))) = bX K h ar ad ck 54 lo (va_up (va_up F 0 (wrL (F 0) 0 (thr (whz hB (wt c_) 0) 54))) 2 (wrL (F 2) 0 (sl (whz L (wt c_) 18) 0 0))) := by rw [sl_0, wrL_nil]; exact congrArg (bX K h ar ad ck 54 lo) (up_1 rfl)
        have ho : ow D vwCl A s.heap H locs [bX K h ar ad ck 54 lo (va_up (va_up F 0 (wrL (F 0) 0 (thr (whz hB (wt c_) 0) 54))) 2 (wrL (F 2) 0 (sl (whz L (wt c_) 18) 0 0)))] := by rw [← e_4]; exact ho
        have LP56 : ∀ (fuel : Nat) (i : Nat) (_ : L.length - i < fuel) (_ : i ≤ L.length) (H : Heap) (locs : List Loc) (ls : Array Slot) (_ : ow D vwCl A s.heap H locs [bX K h ar ad ck 54 lo (va_up (va_up F 0 (wrL (F 0) 0 (thr (whz hB (wt c_) 0) 54))) 2 (wrL (F 2) 0 (sl (whz L (wt c_) 18) 0 i)))]) (_ : lv_has ls 7 [(0, .ref h), (1, .int (nI 4)), (2, .int (nI L.length)), (3, .int (nI i))]), W p la e (rmL 2 0 0) s m args below meth c H locs 0 0 Qz (F0 m 56 ls []) := by
          intro fuel
          induction fuel with
          | zero => intro i h0; exact absurd h0 (Nat.not_lt_zero _)
          | succ fuel ih56 =>
            intro i hfu hi H locs ls ho hl
            refine lv_iload_n hx hb dX9_sendBits_56 rfl (lv_at hl 3 rfl) ?_
            refine lv_iload_n hx hb dX9_sendBits_57 rfl (lv_at hl 2 rfl) ?_
            refine o_icmp_ge (tgt := 92) hx hb dX9_sendBits_58 (by decide) (by first | omega | exact and1_lt _) (by first | omega | exact and1_lt _) (fun c_5 => ?_) (fun c_5 => ?_)
            · skip
              have e_6 : bX K h ar ad ck 54 lo (va_up (va_up F 0 (wrL (F 0) 0 (thr (whz hB (wt c_) 0) 54))) 2 (wrL (F 2) 0 (sl (whz L (wt c_) 18) 0 i))) = bX K h ar ad ck 54 lo (va_up (va_up F 0 (wrL (F 0) 0 (thr (whz hB (wt c_) 0) 54))) 2 (wrL (F 2) 0 (sl (whz L (wt c_) 18) 0 L.length))) := by rw [show i = L.length by omega]
              have ho : ow D vwCl A s.heap H locs [bX K h ar ad ck 54 lo (va_up (va_up F 0 (wrL (F 0) 0 (thr (whz hB (wt c_) 0) 54))) 2 (wrL (F 2) 0 (sl (whz L (wt c_) 18) 0 L.length)))] := by rw [← e_6]; exact ho
              refine lv_iload_n hx hb dX9_sendBits_92 rfl (lv_at hl 1 rfl) ?_
              refine lv_iconst (v := nI 4) hx hb dX9_sendBits_93 (by decide) ?_
              refine o_icmp_ne (tgt := 121) hx hb dX9_sendBits_94 (by decide) (by decide) (by decide) (fun c9 => absurd c9 (by decide)) (fun _ => ?_)
              refine lv_iconst (v := nI 0) hx hb dX9_sendBits_97 (by decide) ?_
              refine lv_istore_n (lv' := [(3, .int (nI 0)), (0, .ref h), (1, .int (nI 4)), (2, .int (nI L.length))]) hx hb dX9_sendBits_98 rfl hl (by decide) rfl (fun ls hl => ?_)
              have e_7 : bX K h ar ad ck 54 lo (va_up (va_up F 0 (wrL (F 0) 0 (thr (whz hB (wt c_) 0) 54))) 2 (wrL (F 2) 0 (sl (whz L (wt c_) 18) 0 L.length))) = bX K h ar ad ck (54 + 0) lo (va_up (va_up F 0 (wrL (F 0) 0 (thr (whz hB (wt c_) 0) 54 ++ sl (whz L (wt c_) 18) 0 0))) 2 (wrL (F 2) 0 (sl (whz L (wt c_) 18) 0 L.length))) := by rw [sl_0, List.append_nil]
              have ho : ow D vwCl A s.heap H locs [bX K h ar ad ck (54 + 0) lo (va_up (va_up F 0 (wrL (F 0) 0 (thr (whz hB (wt c_) 0) 54 ++ sl (whz L (wt c_) 18) 0 0))) 2 (wrL (F 2) 0 (sl (whz L (wt c_) 18) 0 L.length)))] := by rw [← e_7]; exact ho
              have LP99 : ∀ (fuel : Nat) (i : Nat) (_ : L.length - i < fuel) (_ : i ≤ L.length) (H : Heap) (locs : List Loc) (ls : Array Slot) (_ : ow D vwCl A s.heap H locs [bX K h ar ad ck (54 + i) lo (va_up (va_up F 0 (wrL (F 0) 0 (thr (whz hB (wt c_) 0) 54 ++ sl (whz L (wt c_) 18) 0 i))) 2 (wrL (F 2) 0 (sl (whz L (wt c_) 18) 0 L.length)))]) (_ : lv_has ls 7 [(0, .ref h), (2, .int (nI L.length)), (3, .int (nI i))]), W p la e (rmL 2 0 0) s m args below meth c H locs 0 0 Qz (F0 m 99 ls []) := by
                intro fuel
                induction fuel with
                | zero => intro i h0; exact absurd h0 (Nat.not_lt_zero _)
                | succ fuel ih99 =>
                  intro i hfu hi H locs ls ho hl
                  refine lv_iload_n hx hb dX9_sendBits_99 rfl (lv_at hl 2 rfl) ?_
                  refine lv_iload_n hx hb dX9_sendBits_100 rfl (lv_at hl 1 rfl) ?_
                  refine o_icmp_ge (tgt := 120) hx hb dX9_sendBits_101 (by decide) (by first | omega | exact and1_lt _) (by first | omega | exact and1_lt _) (fun c_8 => ?_) (fun c_8 => ?_)
                  · skip
                    exact o_vret hQ C ho (wrL (F 2) 0 (sl (whz L (wt c_) 18) 0 L.length)) rfl (by rw [show i = L.length by omega]) (Nat.le_of_ble_eq_true rfl) (Nat.le_of_ble_eq_true rfl) dX9_sendBits_120
                  · skip
                    refine lv_aload_n hx hb dX9_sendBits_104 rfl (lv_at hl 0 rfl) ?_
                    refine lv_aload_n hx hb dX9_sendBits_105 rfl (lv_at hl 0 rfl) ?_
                    refine o_get (v := .ref (ar 2)) C ho 0 0 rfl rfl rfl 6 fX9_16 rfl dX9_sendBits_106 ?_
                    refine lv_iload_n hx hb dX9_sendBits_109 rfl (lv_at hl 2 rfl) ?_
                    refine o_iald (v := wrL (F 2) 0 (sl (whz L (wt c_) 18) 0 L.length) i) C ho 0 3 rfl rfl 0 rfl i rfl (by omega) (by omega) rfl dX9_sendBits_110 ?_
                    refine o_top (y := bI ((whz L (wt c_) 18).getD i false)) (by rw [wrL_in0 (by rw [sl_len]; omega), sl_getD (by omega), Nat.zero_add]) ?_
                    refine o_callV (wr := []) (rest := []) (As := [.int (bI ((whz L (wt c_) 18).getD i false))]) C (c_M_push la D K h ar ad ck (54 + i) lo (va_up (va_up F 0 (wrL (F 0) 0 (thr (whz hB (wt c_) 0) 54 ++ sl (whz L (wt c_) 18) 0 i))) 2 (wrL (F 2) 0 (sl (whz L (wt c_) 18) 0 L.length))) ((whz L (wt c_) 18).getD i false) (by first | omega | assumption | (simp only [List.length_append, List.length_cons, List.length_nil, List.length_modify, List.length_set, nb_len, rb_len, rbp_len, sl_len, slN_len, wh_len, wt_len, hd10_len, hdB_len, thr_len, ldp_len, ldB_len, tens_len, whz_len, majL_len, mf_len, tkL_len, ldY_len, fif_len, ldY_len]; omega) | decide)) kX9_125 vX9_push (by decide) rfl ho [0] 1 (by decide +kernel) rfl rfl rfl rfl rfl hl.1 rfl (Nat.le_of_ble_eq_true rfl) dX9_sendBits_111 0 0 rfl rfl (by decide) (fun v u_9 H locs hq ho => ?_)
                    obtain rfl := hq
                    have ho : ow D vwCl A s.heap H locs [bX K h ar ad ck ((54 + i) + 1) lo (va_up (va_up (va_up F 0 (wrL (F 0) 0 (thr (whz hB (wt c_) 0) 54 ++ sl (whz L (wt c_) 18) 0 i))) 2 (wrL (F 2) 0 (sl (whz L (wt c_) 18) 0 L.length))) 0 (upd (wrL (F 0) 0 (thr (whz hB (wt c_) 0) 54 ++ sl (whz L (wt c_) 18) 0 i)) (54 + i) (bI ((whz L (wt c_) 18).getD i false))))] := ho
                    refine W.eq (g2 := F0 m 114 ls []) rfl ?_
                    have e_10 : bX K h ar ad ck ((54 + i) + 1) lo (va_up (va_up (va_up F 0 (wrL (F 0) 0 (thr (whz hB (wt c_) 0) 54 ++ sl (whz L (wt c_) 18) 0 i))) 2 (wrL (F 2) 0 (sl (whz L (wt c_) 18) 0 L.length))) 0 (upd (wrL (F 0) 0 (thr (whz hB (wt c_) 0) 54 ++ sl (whz L (wt c_) 18) 0 i)) (54 + i) (bI ((whz L (wt c_) 18).getD i false)))) = bX K h ar ad ck (54 + (i + 1)) lo (va_up (va_up F 0 (wrL (F 0) 0 (thr (whz hB (wt c_) 0) 54 ++ sl (whz L (wt c_) 18) 0 (i + 1)))) 2 (wrL (F 2) 0 (sl (whz L (wt c_) 18) 0 L.length))) := by rw [up_c02, wrL_push0 (by rw [List.length_append, thr_len, sl_len]), sl_succ, Nat.zero_add, List.append_assoc] <;> rfl
                    have ho : ow D vwCl A s.heap H locs [bX K h ar ad ck (54 + (i + 1)) lo (va_up (va_up F 0 (wrL (F 0) 0 (thr (whz hB (wt c_) 0) 54 ++ sl (whz L (wt c_) 18) 0 (i + 1)))) 2 (wrL (F 2) 0 (sl (whz L (wt c_) 18) 0 L.length)))] := by rw [← e_10]; exact ho
                    refine lv_iinc (v := nI (i + 1)) (lv' := [(3, .int (nI (i + 1))), (0, .ref h), (2, .int (nI L.length))]) hx hb dX9_sendBits_114 hl (k := 2) rfl (iincN _ _) (by decide) rfl (fun ls hl => ?_)
                    refine lv_goto (tgt := 99) hx hb dX9_sendBits_117 (by decide) ?_
                    exact ih99 (i + 1) (by omega) (by omega) _ _ _ ho (lv_sub hl [1, 2, 0] rfl)
              exact LP99 (L.length - 0 + 1) 0 (Nat.lt_succ_self _) (by omega) _ _ _ ho (lv_sub hl [1, 3, 0] rfl)
            · skip
              refine lv_aload_n hx hb dX9_sendBits_61 rfl (lv_at hl 0 rfl) ?_
              refine o_get (v := .ref (ar 2)) C ho 0 0 rfl rfl rfl 6 fX9_16 rfl dX9_sendBits_62 ?_
              refine lv_iload_n hx hb dX9_sendBits_65 rfl (lv_at hl 3 rfl) ?_
              refine lv_aload_n hx hb dX9_sendBits_66 rfl (lv_at hl 0 rfl) ?_
              refine o_get (v := .ref (ar 2)) C ho 0 0 rfl rfl rfl 6 fX9_16 rfl dX9_sendBits_67 ?_
              refine lv_bipush (v := nI 18) hx hb dX9_sendBits_70 (by decide) ?_
              refine lv_iload_n hx hb dX9_sendBits_72 rfl (lv_at hl 3 rfl) ?_
              refine o_add hx hb dX9_sendBits_73 ?_
              refine o_iald (v := wrL (F 2) 0 (sl (whz L (wt c_) 18) 0 i) (18 + i)) C ho 0 3 rfl rfl 0 rfl (18 + i) rfl (by omega) (by omega) rfl dX9_sendBits_74 ?_
              refine o_top (y := bI (L.getD i false)) (by rw [wrL_hi (by rw [sl_len]; omega)]; exact ql _ (by omega)) ?_
              refine lv_aload_n hx hb dX9_sendBits_75 rfl (lv_at hl 0 rfl) ?_
              refine o_get (v := .ref (ar 1)) C ho 0 0 rfl rfl rfl 4 fX9_13 rfl dX9_sendBits_76 ?_
              refine lv_bipush (v := nI 18) hx hb dX9_sendBits_79 (by decide) ?_
              refine lv_iload_n hx hb dX9_sendBits_81 rfl (lv_at hl 3 rfl) ?_
              refine o_add hx hb dX9_sendBits_82 ?_
              refine o_iald (v := F 1 (18 + i)) C ho 0 2 rfl rfl 0 rfl (18 + i) rfl (by omega) (by omega) rfl dX9_sendBits_83 ?_
              refine o_top (y := bI (wb c_ (18 + i))) (qw _ (by omega)) ?_
              refine o_xorb hx hb dX9_sendBits_84 ?_
              refine o_top (y := bI ((whz L (wt c_) 18).getD i false)) (by rw [whz_getD (by omega) (by omega)]) ?_
              refine o_iast (bs' := [bX K h ar ad ck 54 lo (va_up (va_up (va_up F 0 (wrL (F 0) 0 (thr (whz hB (wt c_) 0) 54))) 2 (wrL (F 2) 0 (sl (whz L (wt c_) 18) 0 i))) 2 (upd (wrL (F 2) 0 (sl (whz L (wt c_) 18) 0 i)) i (bI ((whz L (wt c_) 18).getD i false))))]) C ho 0 3 rfl rfl 0 rfl i rfl (by omega) (by decide) dX9_sendBits_85 rfl (fun H locs ho => ?_)
              have e_11 : bX K h ar ad ck 54 lo (va_up (va_up (va_up F 0 (wrL (F 0) 0 (thr (whz hB (wt c_) 0) 54))) 2 (wrL (F 2) 0 (sl (whz L (wt c_) 18) 0 i))) 2 (upd (wrL (F 2) 0 (sl (whz L (wt c_) 18) 0 i)) i (bI ((whz L (wt c_) 18).getD i false)))) = bX K h ar ad ck 54 lo (va_up (va_up F 0 (wrL (F 0) 0 (thr (whz hB (wt c_) 0) 54))) 2 (wrL (F 2) 0 (sl (whz L (wt c_) 18) 0 (i + 1)))) := by rw [bx_uu, wrL_push0 (sl_len _ _ _).symm, sl_succ, Nat.zero_add]
              have ho : ow D vwCl A s.heap H locs [bX K h ar ad ck 54 lo (va_up (va_up F 0 (wrL (F 0) 0 (thr (whz hB (wt c_) 0) 54))) 2 (wrL (F 2) 0 (sl (whz L (wt c_) 18) 0 (i + 1))))] := by rw [← e_11]; exact ho
              refine lv_iinc (v := nI (i + 1)) (lv' := [(3, .int (nI (i + 1))), (0, .ref h), (1, .int (nI 4)), (2, .int (nI L.length))]) hx hb dX9_sendBits_86 hl (k := 3) rfl (iincN _ _) (by decide) rfl (fun ls hl => ?_)
              refine lv_goto (tgt := 56) hx hb dX9_sendBits_89 (by decide) ?_
              exact ih56 (i + 1) (by omega) (by omega) _ _ _ ho (lv_sub hl [1, 2, 3, 0] rfl)
        exact LP56 (L.length - 0 + 1) 0 (Nat.lt_succ_self _) (by omega) _ _ _ ho (lv_sub hl [2, 3, 1, 0] rfl)
      · skip
        refine lv_aload_n hx hb dX9_sendBits_13 rfl (lv_at hl 0 rfl) ?_
        refine lv_aload_n hx hb dX9_sendBits_14 rfl (lv_at hl 0 rfl) ?_
        refine o_get (v := .ref (ar 2)) C ho 0 0 rfl rfl rfl 6 fX9_16 rfl dX9_sendBits_15 ?_
        refine lv_iload_n hx hb dX9_sendBits_18 rfl (lv_at hl 2 rfl) ?_
        refine lv_iconst (v := nI 3) hx hb dX9_sendBits_19 (by decide) ?_
        refine o_div hx hb dX9_sendBits_20 (by omega) (by omega) (by omega) ?_
        refine o_iald (v := F 2 (i / 3)) C ho 0 3 rfl rfl 0 rfl (i / 3) rfl (by omega) (by omega) rfl dX9_sendBits_21 ?_
        refine o_top (y := bI (hB.getD (i / 3) false)) (qh _ (by omega)) ?_
        refine lv_aload_n hx hb dX9_sendBits_22 rfl (lv_at hl 0 rfl) ?_
        refine o_get (v := .ref (ar 1)) C ho 0 0 rfl rfl rfl 4 fX9_13 rfl dX9_sendBits_23 ?_
        refine lv_iload_n hx hb dX9_sendBits_26 rfl (lv_at hl 2 rfl) ?_
        refine lv_iconst (v := nI 3) hx hb dX9_sendBits_27 (by decide) ?_
        refine o_div hx hb dX9_sendBits_28 (by omega) (by omega) (by omega) ?_
        refine o_iald (v := F 1 (i / 3)) C ho 0 2 rfl rfl 0 rfl (i / 3) rfl (by omega) (by omega) rfl dX9_sendBits_29 ?_
        refine o_top (y := bI (wb c_ (i / 3))) (qw _ (by omega)) ?_
        refine o_xorb hx hb dX9_sendBits_30 ?_
        refine o_top (y := bI ((whz hB (wt c_) 0).getD (i / 3) false)) (by rw [whz_getD (by omega) (by omega), Nat.zero_add]) ?_
        refine o_callV (wr := []) (rest := []) (As := [.int (bI ((whz hB (wt c_) 0).getD (i / 3) false))]) C (c_M_push la D K h ar ad ck i lo (va_up F 0 (wrL (F 0) 0 (thr (whz hB (wt c_) 0) i))) ((whz hB (wt c_) 0).getD (i / 3) false) (by first | omega | assumption | (simp only [List.length_append, List.length_cons, List.length_nil, List.length_modify, List.length_set, nb_len, rb_len, rbp_len, sl_len, slN_len, wh_len, wt_len, hd10_len, hdB_len, thr_len, ldp_len, ldB_len, tens_len, whz_len, majL_len, mf_len, tkL_len, ldY_len, fif_len, ldY_len]; omega) | decide)) kX9_125 vX9_push (by decide) rfl ho [0] 1 (by decide +kernel) rfl rfl rfl rfl rfl hl.1 rfl (Nat.le_of_ble_eq_true rfl) dX9_sendBits_31 0 0 rfl rfl (by decide) (fun v u_12 H locs hq ho => ?_)
        obtain rfl := hq
        have ho : ow D vwCl A s.heap H locs [bX K h ar ad ck (i + 1) lo (va_up (va_up F 0 (wrL (F 0) 0 (thr (whz hB (wt c_) 0) i))) 0 (upd (wrL (F 0) 0 (thr (whz hB (wt c_) 0) i)) i (bI ((whz hB (wt c_) 0).getD (i / 3) false))))] := ho
        refine W.eq (g2 := F0 m 34 ls []) rfl ?_
        have e_13 : bX K h ar ad ck (i + 1) lo (va_up (va_up F 0 (wrL (F 0) 0 (thr (whz hB (wt c_) 0) i))) 0 (upd (wrL (F 0) 0 (thr (whz hB (wt c_) 0) i)) i (bI ((whz hB (wt c_) 0).getD (i / 3) false)))) = bX K h ar ad ck (i + 1) lo (va_up F 0 (wrL (F 0) 0 (thr (whz hB (wt c_) 0) (i + 1)))) := by rw [bx_uu, wrL_push0 (thr_len _ _).symm, thr_succ]
        have ho : ow D vwCl A s.heap H locs [bX K h ar ad ck (i + 1) lo (va_up F 0 (wrL (F 0) 0 (thr (whz hB (wt c_) 0) (i + 1))))] := by rw [← e_13]; exact ho
        refine lv_iinc (v := nI (i + 1)) (lv' := [(2, .int (nI (i + 1))), (0, .ref h), (1, .int (nI 4))]) hx hb dX9_sendBits_34 hl (k := 2) rfl (iincN _ _) (by decide) rfl (fun ls hl => ?_)
        refine lv_goto (tgt := 7) hx hb dX9_sendBits_37 (by decide) ?_
        exact ih7 (i + 1) (by omega) (by omega) _ _ _ ho (lv_sub hl [1, 2, 0] rfl)
  exact LP7 (54 - 0 + 1) 0 (Nat.lt_succ_self _) (by omega) _ _ _ ho (lv_sub hl [1, 2, 0] rfl)

set_option maxHeartbeats 4000000 in
set_option maxRecDepth 100000 in
theorem c_M_sendBits3 (la : Launch) (D : va_G) (K : Nat → ClassId) (h : Nat) (ar : Nat → Nat) (ad : Nat) (ck : Nat) (bi : Nat) (lo : Nat) (F : Nat → Nat → Int32) (c_ : Nat) (hB : List Bool) (L : List Bool) (qw : ∀ i, i < 400 → F 1 i = bI (wb c_ i)) (qh : ∀ i, i < 18 → F 2 i = bI (hB.getD i false)) (qhl : hB.length = 18) (ql : ∀ i, i < L.length → F 2 (18 + i) = bI (L.getD i false)) (qlo : lo = 18 + L.length) (qll : L.length ≤ 100) : MT la D K yX9_sendBits cX9_sendBits 7 none (rmL 3 0 0) [.ref h, .int (nI 3)] [bX K h ar ad ck bi lo F] (Nat → Int32) (fun v _ => v = none) (fun u => [bX K h ar ad ck (54 + 15 * ((L.length + 9) / 10)) lo (va_up (va_up F 0 (wrL (F 0) 0 (thr (whz hB (wt c_) 0) 54 ++ tens (whz L (wt c_) 18) ((L.length + 9) / 10)))) 2 (u))]) := by
  refine Mt.ofW [(0, .ref h), (1, .int (nI 3))] (by decide) rfl (Nat.le_of_ble_eq_true rfl) ?_
  intro p e s m args below meth c A ls H locs Qz hQ C hin hl ho
  have hx := C.1.1
  have hb := C.1.2.1
  refine lv_aload_n hx hb dX9_sendBits_0 rfl (lv_at hl 0 rfl) ?_
  refine lv_iconst (v := nI 0) hx hb dX9_sendBits_1 (by decide) ?_
  refine o_put (v := .int (nI 0)) (bs' := [bX K h ar ad ck 0 lo F]) C ho 0 0 rfl rfl rfl 2 fX9_122 pX9_2 rfl rfl (Nat.le_of_ble_eq_true rfl) dX9_sendBits_2 rfl (fun H locs ho => ?_)
  refine lv_iconst (v := nI 0) hx hb dX9_sendBits_5 (by decide) ?_
  refine lv_istore_n (lv' := [(2, .int (nI 0)), (0, .ref h), (1, .int (nI 3))]) hx hb dX9_sendBits_6 rfl hl (by decide) rfl (fun ls hl => ?_)
  have e_1 : bX K h ar ad ck 0 lo F = bX K h ar ad ck 0 lo (va_up F 0 (wrL (F 0) 0 (thr (whz hB (wt c_) 0) 0))) := by rw [show thr (whz hB (wt c_) 0) 0 = [] from rfl, wrL_nil, up_self]
  have ho : ow D vwCl A s.heap H locs [bX K h ar ad ck 0 lo (va_up F 0 (wrL (F 0) 0 (thr (whz hB (wt c_) 0) 0)))] := by rw [← e_1]; exact ho
  have LP7 : ∀ (fuel : Nat) (i : Nat) (_ : 54 - i < fuel) (_ : i ≤ 54) (H : Heap) (locs : List Loc) (ls : Array Slot) (_ : ow D vwCl A s.heap H locs [bX K h ar ad ck i lo (va_up F 0 (wrL (F 0) 0 (thr (whz hB (wt c_) 0) i)))]) (_ : lv_has ls 7 [(0, .ref h), (1, .int (nI 3)), (2, .int (nI i))]), W p la e (rmL 3 0 0) s m args below meth c H locs 0 0 Qz (F0 m 7 ls []) := by
    intro fuel
    induction fuel with
    | zero => intro i h0; exact absurd h0 (Nat.not_lt_zero _)
    | succ fuel ih7 =>
      intro i hfu hi H locs ls ho hl
      refine lv_iload_n hx hb dX9_sendBits_7 rfl (lv_at hl 2 rfl) ?_
      refine lv_bipush (v := nI 54) hx hb dX9_sendBits_8 (by decide) ?_
      refine o_icmp_ge (tgt := 40) hx hb dX9_sendBits_10 (by decide) (by first | omega | exact and1_lt _) (by first | omega | exact and1_lt _) (fun c_2 => ?_) (fun c_2 => ?_)
      · skip
        have e_3 : bX K h ar ad ck i lo (va_up F 0 (wrL (F 0) 0 (thr (whz hB (wt c_) 0) i))) = bX K h ar ad ck 54 lo (va_up F 0 (wrL (F 0) 0 (thr (whz hB (wt c_) 0) 54))) := by rw [show i = 54 by omega]
        have ho : ow D vwCl A s.heap H locs [bX K h ar ad ck 54 lo (va_up F 0 (wrL (F 0) 0 (thr (whz hB (wt c_) 0) 54)))] := by rw [← e_3]; exact ho
        refine lv_iload_n hx hb dX9_sendBits_40 rfl (lv_at hl 1 rfl) ?_
        refine lv_iconst (v := nI 3) hx hb dX9_sendBits_41 (by decide) ?_
        refine o_icmp_ge (tgt := 46) hx hb dX9_sendBits_42 (by decide) (by decide) (by decide) (fun _ => ?_) (fun c9 => absurd c9 (by decide))
        refine lv_aload_n hx hb dX9_sendBits_46 rfl (lv_at hl 0 rfl) ?_
        refine o_get (v := .int (nI lo)) C ho 0 0 rfl rfl rfl 5 fX9_103 rfl dX9_sendBits_47 ?_
        refine lv_bipush (v := nI 18) hx hb dX9_sendBits_50 (by decide) ?_
        refine o_sub hx hb dX9_sendBits_52 (by omega) ?_
        refine o_top (y := nI L.length) (congrArg nI (by omega)) ?_
        refine lv_istore_n (lv' := [(2, .int (nI L.length)), (0, .ref h), (1, .int (nI 3))]) hx hb dX9_sendBits_53 rfl hl (by decide) rfl (fun ls hl => ?_)
        refine lv_iconst (v := nI 0) hx hb dX9_sendBits_54 (by decide) ?_
        refine lv_istore_n (lv' := [(3, .int (nI 0)), (2, .int (nI L.length)), (0, .ref h), (1, .int (nI 3))]) hx hb dX9_sendBits_55 rfl hl (by decide) rfl (fun ls hl => ?_)
        have e_4 : bX K h ar ad ck 54 lo (va_up F 0 (wrL (F 0) 0 (thr (whz hB (wt c_) 0) 54))) = bX K h ar ad ck 54 lo (va_up (va_up F 0 (wrL (F 0) 0 (thr (whz hB (wt c_) 0) 54))) 2 (wrL (F 2) 0 (sl (whz L (wt c_) 18) 0 0))) := by rw [sl_0, wrL_nil]; exact congrArg (bX K h ar ad ck 54 lo) (up_1 rfl)
        have ho : ow D vwCl A s.heap H locs [bX K h ar ad ck 54 lo (va_up (va_up F 0 (wrL (F 0) 0 (thr (whz hB (wt c_) 0) 54))) 2 (wrL (F 2) 0 (sl (whz L (wt c_) 18) 0 0)))] := by rw [← e_4]; exact ho
        have LP56 : ∀ (fuel : Nat) (i : Nat) (_ : L.length - i < fuel) (_ : i ≤ L.length) (H : Heap) (locs : List Loc) (ls : Array Slot) (_ : ow D vwCl A s.heap H locs [bX K h ar ad ck 54 lo (va_up (va_up F 0 (wrL (F 0) 0 (thr (whz hB (wt c_) 0) 54))) 2 (wrL (F 2) 0 (sl (whz L (wt c_) 18) 0 i)))]) (_ : lv_has ls 7 [(0, .ref h), (1, .int (nI 3)), (2, .int (nI L.length)), (3, .int (nI i))]), W p la e (rmL 3 0 0) s m args below meth c H locs 0 0 Qz (F0 m 56 ls []) := by
          intro fuel
          induction fuel with
          | zero => intro i h0; exact absurd h0 (Nat.not_lt_zero _)
          | succ fuel ih56 =>
            intro i hfu hi H locs ls ho hl
            refine lv_iload_n hx hb dX9_sendBits_56 rfl (lv_at hl 3 rfl) ?_
            refine lv_iload_n hx hb dX9_sendBits_57 rfl (lv_at hl 2 rfl) ?_
            refine o_icmp_ge (tgt := 92) hx hb dX9_sendBits_58 (by decide) (by first | omega | exact and1_lt _) (by first | omega | exact and1_lt _) (fun c_5 => ?_) (fun c_5 => ?_)
            · skip
              have e_6 : bX K h ar ad ck 54 lo (va_up (va_up F 0 (wrL (F 0) 0 (thr (whz hB (wt c_) 0) 54))) 2 (wrL (F 2) 0 (sl (whz L (wt c_) 18) 0 i))) = bX K h ar ad ck 54 lo (va_up (va_up F 0 (wrL (F 0) 0 (thr (whz hB (wt c_) 0) 54))) 2 (wrL (F 2) 0 (sl (whz L (wt c_) 18) 0 L.length))) := by rw [show i = L.length by omega]
              have ho : ow D vwCl A s.heap H locs [bX K h ar ad ck 54 lo (va_up (va_up F 0 (wrL (F 0) 0 (thr (whz hB (wt c_) 0) 54))) 2 (wrL (F 2) 0 (sl (whz L (wt c_) 18) 0 L.length)))] := by rw [← e_6]; exact ho
              refine lv_iload_n hx hb dX9_sendBits_92 rfl (lv_at hl 1 rfl) ?_
              refine lv_iconst (v := nI 4) hx hb dX9_sendBits_93 (by decide) ?_
              refine o_icmp_ne (tgt := 121) hx hb dX9_sendBits_94 (by decide) (by decide) (by decide) (fun _ => ?_) (fun c9 => absurd c9 (by decide))
              refine lv_iload_n hx hb dX9_sendBits_121 rfl (lv_at hl 2 rfl) ?_
              refine lv_bipush (v := nI 9) hx hb dX9_sendBits_122 (by decide) ?_
              refine o_add hx hb dX9_sendBits_124 ?_
              refine lv_bipush (v := nI 10) hx hb dX9_sendBits_125 (by decide) ?_
              refine o_div hx hb dX9_sendBits_127 (by omega) (by omega) (by omega) ?_
              refine lv_istore_n (lv' := [(3, .int (nI ((L.length + 9) / 10))), (0, .ref h), (1, .int (nI 3)), (2, .int (nI L.length))]) hx hb dX9_sendBits_128 rfl hl (by decide) rfl (fun ls hl => ?_)
              refine lv_iload_n hx hb dX9_sendBits_129 rfl (lv_at hl 3 rfl) ?_
              refine lv_istore (lv' := [(4, .int (nI L.length)), (3, .int (nI ((L.length + 9) / 10))), (0, .ref h), (1, .int (nI 3)), (2, .int (nI L.length))]) hx hb dX9_sendBits_130 hl (by decide) rfl (fun ls hl => ?_)
              have LP132 : ∀ (fuel : Nat) (i : Nat) (_ : 10 * ((L.length + 9) / 10) - i < fuel) (_ : L.length ≤ i) (_ : i ≤ 10 * ((L.length + 9) / 10)) (H : Heap) (locs : List Loc) (ls : Array Slot) (_ : ow D vwCl A s.heap H locs [bX K h ar ad ck 54 lo (va_up (va_up F 0 (wrL (F 0) 0 (thr (whz hB (wt c_) 0) 54))) 2 (wrL (F 2) 0 (sl (whz L (wt c_) 18) 0 i)))]) (_ : lv_has ls 7 [(0, .ref h), (3, .int (nI ((L.length + 9) / 10))), (4, .int (nI i))]), W p la e (rmL 3 0 0) s m args below meth c H locs 0 0 Qz (F0 m 132 ls []) := by
                intro fuel
                induction fuel with
                | zero => intro i h0; exact absurd h0 (Nat.not_lt_zero _)
                | succ fuel ih132 =>
                  intro i hfu hi hi2 H locs ls ho hl
                  refine lv_iload hx hb dX9_sendBits_132 (lv_at hl 2 rfl) ?_
                  refine lv_bipush (v := nI 10) hx hb dX9_sendBits_134 (by decide) ?_
                  refine lv_iload_n hx hb dX9_sendBits_136 rfl (lv_at hl 1 rfl) ?_
                  refine o_mul hx hb dX9_sendBits_137 ?_
                  refine o_icmp_ge (tgt := 155) hx hb dX9_sendBits_138 (by decide) (by first | omega | exact and1_lt _) (by first | omega | exact and1_lt _) (fun c_7 => ?_) (fun c_7 => ?_)
                  · skip
                    refine lv_iconst (v := nI 0) hx hb dX9_sendBits_155 (by decide) ?_
                    refine lv_istore (lv' := [(4, .int (nI 0)), (0, .ref h), (3, .int (nI ((L.length + 9) / 10)))]) hx hb dX9_sendBits_156 hl (by decide) rfl (fun ls hl => ?_)
                    have e_8 : bX K h ar ad ck 54 lo (va_up (va_up F 0 (wrL (F 0) 0 (thr (whz hB (wt c_) 0) 54))) 2 (wrL (F 2) 0 (sl (whz L (wt c_) 18) 0 i))) = bX K h ar ad ck (54 + 15 * 0) lo (va_up (va_up F 0 (wrL (F 0) 0 (thr (whz hB (wt c_) 0) 54 ++ tens (whz L (wt c_) 18) 0))) 2 (wrL (F 2) 0 (sl (whz L (wt c_) 18) 0 (10 * ((L.length + 9) / 10))))) := by rw [show tens (whz L (wt c_) 18) 0 = [] from rfl, List.append_nil, show i = 10 * ((L.length + 9) / 10) by omega]
                    have ho : ow D vwCl A s.heap H locs [bX K h ar ad ck (54 + 15 * 0) lo (va_up (va_up F 0 (wrL (F 0) 0 (thr (whz hB (wt c_) 0) 54 ++ tens (whz L (wt c_) 18) 0))) 2 (wrL (F 2) 0 (sl (whz L (wt c_) 18) 0 (10 * ((L.length + 9) / 10)))))] := by rw [← e_8]; exact ho
                    have LP158 : ∀ (fuel : Nat) (t : Nat) (_ : (L.length + 9) / 10 - t < fuel) (_ : t ≤ (L.length + 9) / 10) (H : Heap) (locs : List Loc) (ls : Array Slot) (_ : ow D vwCl A s.heap H locs [bX K h ar ad ck (54 + 15 * t) lo (va_up (va_up F 0 (wrL (F 0) 0 (thr (whz hB (wt c_) 0) 54 ++ tens (whz L (wt c_) 18) t))) 2 (wrL (F 2) 0 (sl (whz L (wt c_) 18) 0 (10 * ((L.length + 9) / 10)))))]) (_ : lv_has ls 7 [(0, .ref h), (3, .int (nI ((L.length + 9) / 10))), (4, .int (nI t))]), W p la e (rmL 3 0 0) s m args below meth c H locs 0 0 Qz (F0 m 158 ls []) := by
                      intro fuel
                      induction fuel with
                      | zero => intro t h0; exact absurd h0 (Nat.not_lt_zero _)
                      | succ fuel ih158 =>
                        intro t hfu ht H locs ls ho hl
                        refine lv_iload hx hb dX9_sendBits_158 (lv_at hl 2 rfl) ?_
                        refine lv_iload_n hx hb dX9_sendBits_160 rfl (lv_at hl 1 rfl) ?_
                        refine o_icmp_ge (tgt := 250) hx hb dX9_sendBits_161 (by decide) (by first | omega | exact and1_lt _) (by first | omega | exact and1_lt _) (fun c_9 => ?_) (fun c_9 => ?_)
                        · skip
                          exact o_vret hQ C ho (wrL (F 2) 0 (sl (whz L (wt c_) 18) 0 (10 * ((L.length + 9) / 10)))) rfl (by rw [show (L.length + 9) / 10 = t by omega]) (Nat.le_of_ble_eq_true rfl) (Nat.le_of_ble_eq_true rfl) dX9_sendBits_250
                        · skip
                          refine lv_iconst (v := nI 0) hx hb dX9_sendBits_164 (by decide) ?_
                          refine lv_istore (lv' := [(5, .int (nI 0)), (0, .ref h), (3, .int (nI ((L.length + 9) / 10))), (4, .int (nI t))]) hx hb dX9_sendBits_165 hl (by decide) rfl (fun ls hl => ?_)
                          have e_10 : bX K h ar ad ck (54 + 15 * t) lo (va_up (va_up F 0 (wrL (F 0) 0 (thr (whz hB (wt c_) 0) 54 ++ tens (whz L (wt c_) 18) t))) 2 (wrL (F 2) 0 (sl (whz L (wt c_) 18) 0 (10 * ((L.length + 9) / 10))))) = bX K h ar ad ck (54 + 15 * t + 0) lo (va_up (va_up F 0 (wrL (F 0) 0 ((thr (whz hB (wt c_) 0) 54 ++ tens (whz L (wt c_) 18) t) ++ sl (whz L (wt c_) 18) (10 * t) 0))) 2 (wrL (F 2) 0 (sl (whz L (wt c_) 18) 0 (10 * ((L.length + 9) / 10))))) := by rw [sl_0, List.append_nil] <;> rfl
                          have ho : ow D vwCl A s.heap H locs [bX K h ar ad ck (54 + 15 * t + 0) lo (va_up (va_up F 0 (wrL (F 0) 0 ((thr (whz hB (wt c_) 0) 54 ++ tens (whz L (wt c_) 18) t) ++ sl (whz L (wt c_) 18) (10 * t) 0))) 2 (wrL (F 2) 0 (sl (whz L (wt c_) 18) 0 (10 * ((L.length + 9) / 10)))))] := by rw [← e_10]; exact ho
                          have LP167 : ∀ (fuel : Nat) (i : Nat) (_ : 10 - i < fuel) (_ : i ≤ 10) (H : Heap) (locs : List Loc) (ls : Array Slot) (_ : ow D vwCl A s.heap H locs [bX K h ar ad ck (54 + 15 * t + i) lo (va_up (va_up F 0 (wrL (F 0) 0 ((thr (whz hB (wt c_) 0) 54 ++ tens (whz L (wt c_) 18) t) ++ sl (whz L (wt c_) 18) (10 * t) i))) 2 (wrL (F 2) 0 (sl (whz L (wt c_) 18) 0 (10 * ((L.length + 9) / 10)))))]) (_ : lv_has ls 7 [(0, .ref h), (3, .int (nI ((L.length + 9) / 10))), (4, .int (nI t)), (5, .int (nI i))]), W p la e (rmL 3 0 0) s m args below meth c H locs 0 0 Qz (F0 m 167 ls []) := by
                            intro fuel
                            induction fuel with
                            | zero => intro i h0; exact absurd h0 (Nat.not_lt_zero _)
                            | succ fuel ih167 =>
                              intro i hfu hi H locs ls ho hl
                              refine lv_iload hx hb dX9_sendBits_167 (lv_at hl 3 rfl) ?_
                              refine lv_bipush (v := nI 10) hx hb dX9_sendBits_169 (by decide) ?_
                              refine o_icmp_ge (tgt := 197) hx hb dX9_sendBits_171 (by decide) (by first | omega | exact and1_lt _) (by first | omega | exact and1_lt _) (fun c_11 => ?_) (fun c_11 => ?_)
                              · skip
                                have e_12 : bX K h ar ad ck (54 + 15 * t + i) lo (va_up (va_up F 0 (wrL (F 0) 0 ((thr (whz hB (wt c_) 0) 54 ++ tens (whz L (wt c_) 18) t) ++ sl (whz L (wt c_) 18) (10 * t) i))) 2 (wrL (F 2) 0 (sl (whz L (wt c_) 18) 0 (10 * ((L.length + 9) / 10))))) = bX K h ar ad ck (54 + 15 * t + 10) lo (va_up (va_up F 0 (wrL (F 0) 0 ((thr (whz hB (wt c_) 0) 54 ++ tens (whz L (wt c_) 18) t) ++ sl (whz L (wt c_) 18) (10 * t) 10))) 2 (wrL (F 2) 0 (sl (whz L (wt c_) 18) 0 (10 * ((L.length + 9) / 10))))) := by rw [show i = 10 by omega]
                                have ho : ow D vwCl A s.heap H locs [bX K h ar ad ck (54 + 15 * t + 10) lo (va_up (va_up F 0 (wrL (F 0) 0 ((thr (whz hB (wt c_) 0) 54 ++ tens (whz L (wt c_) 18) t) ++ sl (whz L (wt c_) 18) (10 * t) 10))) 2 (wrL (F 2) 0 (sl (whz L (wt c_) 18) 0 (10 * ((L.length + 9) / 10)))))] := by rw [← e_12]; exact ho
                                have hcr := crc53 (sl (whz L (wt c_) 18) (10 * t) 10)
                                refine lv_aload_n hx hb dX9_sendBits_197 rfl (lv_at hl 0 rfl) ?_
                                refine lv_bipush (v := nI 10) hx hb dX9_sendBits_198 (by decide) ?_
                                refine lv_iload hx hb dX9_sendBits_200 (lv_at hl 2 rfl) ?_
                                refine o_mul hx hb dX9_sendBits_202 ?_
                                refine lv_bipush (v := nI 10) hx hb dX9_sendBits_203 (by decide) ?_
                                refine lv_iload hx hb dX9_sendBits_205 (lv_at hl 2 rfl) ?_
                                refine o_mul hx hb dX9_sendBits_207 ?_
                                refine lv_bipush (v := nI 10) hx hb dX9_sendBits_208 (by decide) ?_
                                refine o_add hx hb dX9_sendBits_210 ?_
                                refine lv_bipush (v := nI 53) hx hb dX9_sendBits_211 (by decide) ?_
                                refine lv_iconst (v := nI 5) hx hb dX9_sendBits_213 (by decide) ?_
                                refine o_callV (wr := []) (rest := []) (As := [.int (nI (10 * t)), .int (nI ((10 * t) + 10)), .int (nI 53), .int (nI 5)]) C (c_M_rem la D K h ar ad ck (54 + 15 * t + 10) lo (va_up (va_up F 0 (wrL (F 0) 0 ((thr (whz hB (wt c_) 0) 54 ++ tens (whz L (wt c_) 18) t) ++ sl (whz L (wt c_) 18) (10 * t) 10))) 2 (wrL (F 2) 0 (sl (whz L (wt c_) 18) 0 (10 * ((L.length + 9) / 10))))) (10 * t) ((10 * t) + 10) 53 5 (sl (whz L (wt c_) 18) (10 * t) 10) (fun i hi => by rw [sl_len] at hi; rw [va_up_self, wrL_in0 (by rw [sl_len]; omega), sl_getD (by omega), sl_getD hi, Nat.zero_add]) (by rw [sl_len]) (by first | omega | assumption | (simp only [List.length_append, List.length_cons, List.length_nil, List.length_modify, List.length_set, nb_len, rb_len, rbp_len, sl_len, slN_len, wh_len, wt_len, hd10_len, hdB_len, thr_len, ldp_len, ldB_len, tens_len, whz_len, majL_len, mf_len, tkL_len, ldY_len, fif_len, ldY_len]; omega) | decide) (by first | omega | assumption | (simp only [List.length_append, List.length_cons, List.length_nil, List.length_modify, List.length_set, nb_len, rb_len, rbp_len, sl_len, slN_len, wh_len, wt_len, hd10_len, hdB_len, thr_len, ldp_len, ldB_len, tens_len, whz_len, majL_len, mf_len, tkL_len, ldY_len, fif_len, ldY_len]; omega) | decide) (by first | omega | assumption | (simp only [List.length_append, List.length_cons, List.length_nil, List.length_modify, List.length_set, nb_len, rb_len, rbp_len, sl_len, slN_len, wh_len, wt_len, hd10_len, hdB_len, thr_len, ldp_len, ldB_len, tens_len, whz_len, majL_len, mf_len, tkL_len, ldY_len, fif_len, ldY_len]; omega) | decide) (by first | omega | assumption | (simp only [List.length_append, List.length_cons, List.length_nil, List.length_modify, List.length_set, nb_len, rb_len, rbp_len, sl_len, slN_len, wh_len, wt_len, hd10_len, hdB_len, thr_len, ldp_len, ldB_len, tens_len, whz_len, majL_len, mf_len, tkL_len, ldY_len, fif_len, ldY_len]; omega) | decide) (by decide) (by decide) pw53) kX9_110 vX9_rem (by decide) rfl ho [0] 1 (by decide +kernel) rfl rfl rfl rfl rfl hl.1 rfl (Nat.le_of_ble_eq_true rfl) dX9_sendBits_214 0 0 rfl rfl (by decide) (fun v u_13 H locs hq ho => ?_)
                                obtain rfl := hq
                                have ho : ow D vwCl A s.heap H locs [bX K h ar ad ck (54 + 15 * t + 10) lo (va_up (va_up F 0 (wrL (F 0) 0 ((thr (whz hB (wt c_) 0) 54 ++ tens (whz L (wt c_) 18) t) ++ sl (whz L (wt c_) 18) (10 * t) 10))) 2 (wrL (F 2) 0 (sl (whz L (wt c_) 18) 0 (10 * ((L.length + 9) / 10)))))] := ho
                                refine W.eq (g2 := F0 m 217 ls [.int (nI (crc 53 5 (sl (whz L (wt c_) 18) (10 * t) 10)))]) rfl ?_
                                refine lv_istore (lv' := [(5, .int (nI (crc 53 5 (sl (whz L (wt c_) 18) (10 * t) 10)))), (0, .ref h), (3, .int (nI ((L.length + 9) / 10))), (4, .int (nI t))]) hx hb dX9_sendBits_217 hl (by decide) rfl (fun ls hl => ?_)
                                refine lv_iconst (v := nI 4) hx hb dX9_sendBits_219 (by decide) ?_
                                refine lv_istore (lv' := [(6, .int (nI 4)), (5, .int (nI (crc 53 5 (sl (whz L (wt c_) 18) (10 * t) 10)))), (0, .ref h), (3, .int (nI ((L.length + 9) / 10))), (4, .int (nI t))]) hx hb dX9_sendBits_220 hl (by decide) rfl (fun ls hl => ?_)
                                have e_14 : bX K h ar ad ck (54 + 15 * t + 10) lo (va_up (va_up F 0 (wrL (F 0) 0 ((thr (whz hB (wt c_) 0) 54 ++ tens (whz L (wt c_) 18) t) ++ sl (whz L (wt c_) 18) (10 * t) 10))) 2 (wrL (F 2) 0 (sl (whz L (wt c_) 18) 0 (10 * ((L.length + 9) / 10))))) = bX K h ar ad ck (54 + 15 * t + 10 + 0) lo (va_up (va_up F 0 (wrL (F 0) 0 (((thr (whz hB (wt c_) 0) 54 ++ tens (whz L (wt c_) 18) t) ++ sl (whz L (wt c_) 18) (10 * t) 10) ++ rbp (crc 53 5 (sl (whz L (wt c_) 18) (10 * t) 10)) 5 0))) 2 (wrL (F 2) 0 (sl (whz L (wt c_) 18) 0 (10 * ((L.length + 9) / 10))))) := by rw [show rbp (crc 53 5 (sl (whz L (wt c_) 18) (10 * t) 10)) 5 0 = [] from rfl, List.append_nil] <;> rfl
                                have ho : ow D vwCl A s.heap H locs [bX K h ar ad ck (54 + 15 * t + 10 + 0) lo (va_up (va_up F 0 (wrL (F 0) 0 (((thr (whz hB (wt c_) 0) 54 ++ tens (whz L (wt c_) 18) t) ++ sl (whz L (wt c_) 18) (10 * t) 10) ++ rbp (crc 53 5 (sl (whz L (wt c_) 18) (10 * t) 10)) 5 0))) 2 (wrL (F 2) 0 (sl (whz L (wt c_) 18) 0 (10 * ((L.length + 9) / 10)))))] := by rw [← e_14]; exact ho
                                have LP222 : ∀ (fuel : Nat) (k : Nat) (x : Int32) (_ : 5 - k < fuel) (_ : k ≤ 5) (_ : x = nI (5 - k) - 1) (H : Heap) (locs : List Loc) (ls : Array Slot) (_ : ow D vwCl A s.heap H locs [bX K h ar ad ck (54 + 15 * t + 10 + k) lo (va_up (va_up F 0 (wrL (F 0) 0 (((thr (whz hB (wt c_) 0) 54 ++ tens (whz L (wt c_) 18) t) ++ sl (whz L (wt c_) 18) (10 * t) 10) ++ rbp (crc 53 5 (sl (whz L (wt c_) 18) (10 * t) 10)) 5 k))) 2 (wrL (F 2) 0 (sl (whz L (wt c_) 18) 0 (10 * ((L.length + 9) / 10)))))]) (_ : lv_has ls 7 [(0, .ref h), (3, .int (nI ((L.length + 9) / 10))), (4, .int (nI t)), (5, .int (nI (crc 53 5 (sl (whz L (wt c_) 18) (10 * t) 10)))), (6, .int x)]), W p la e (rmL 3 0 0) s m args below meth c H locs 0 0 Qz (F0 m 222 ls []) := by
                                  intro fuel
                                  induction fuel with
                                  | zero => intro k x h0; exact absurd h0 (Nat.not_lt_zero _)
                                  | succ fuel ih222 =>
                                    intro k x hfu hk hx1 H locs ls ho hl
                                    refine lv_iload hx hb dX9_sendBits_222 (lv_at hl 4 rfl) ?_
                                    refine lv_if_lt (tgt := 244) hx hb dX9_sendBits_224 (by decide) (fun c_15 => ?_) (fun c_15 => ?_)
                                    · skip
                                      have hk2 := dec_lt (hx1 ▸ c_15) (by omega)
                                      have e_16 : bX K h ar ad ck (54 + 15 * t + 10 + k) lo (va_up (va_up F 0 (wrL (F 0) 0 (((thr (whz hB (wt c_) 0) 54 ++ tens (whz L (wt c_) 18) t) ++ sl (whz L (wt c_) 18) (10 * t) 10) ++ rbp (crc 53 5 (sl (whz L (wt c_) 18) (10 * t) 10)) 5 k))) 2 (wrL (F 2) 0 (sl (whz L (wt c_) 18) 0 (10 * ((L.length + 9) / 10))))) = bX K h ar ad ck (54 + 15 * (t + 1)) lo (va_up (va_up F 0 (wrL (F 0) 0 (thr (whz hB (wt c_) 0) 54 ++ tens (whz L (wt c_) 18) (t + 1)))) 2 (wrL (F 2) 0 (sl (whz L (wt c_) 18) 0 (10 * ((L.length + 9) / 10))))) := by rw [show k = 5 by omega, tens_succ, f15_sl]; simp only [List.append_assoc, rb] <;> rfl
                                      have ho : ow D vwCl A s.heap H locs [bX K h ar ad ck (54 + 15 * (t + 1)) lo (va_up (va_up F 0 (wrL (F 0) 0 (thr (whz hB (wt c_) 0) 54 ++ tens (whz L (wt c_) 18) (t + 1)))) 2 (wrL (F 2) 0 (sl (whz L (wt c_) 18) 0 (10 * ((L.length + 9) / 10)))))] := by rw [← e_16]; exact ho
                                      refine lv_iinc (v := nI (t + 1)) (lv' := [(4, .int (nI (t + 1))), (0, .ref h), (3, .int (nI ((L.length + 9) / 10))), (5, .int (nI (crc 53 5 (sl (whz L (wt c_) 18) (10 * t) 10)))), (6, .int x)]) hx hb dX9_sendBits_244 hl (k := 2) rfl (iincN _ _) (by decide) rfl (fun ls hl => ?_)
                                      refine lv_goto (tgt := 158) hx hb dX9_sendBits_247 (by decide) ?_
                                      exact ih158 (t + 1) (by omega) (by omega) _ _ _ ho (lv_sub hl [1, 2, 0] rfl)
                                    · skip
                                      obtain ⟨hk3, hk4⟩ := dec_ge (hx1 ▸ c_15) (by omega)
                                      have hx5 : x = nI (5 - 1 - k) := by rw [hx1, hk4, show 5 - k - 1 = 5 - 1 - k by omega]
                                      subst hx5
                                      refine lv_aload_n hx hb dX9_sendBits_227 rfl (lv_at hl 0 rfl) ?_
                                      refine lv_iload hx hb dX9_sendBits_228 (lv_at hl 3 rfl) ?_
                                      refine lv_iload hx hb dX9_sendBits_230 (lv_at hl 4 rfl) ?_
                                      refine o_shr hx hb dX9_sendBits_232 (by omega) (by omega) ?_
                                      refine lv_iconst (v := nI 1) hx hb dX9_sendBits_233 (by decide) ?_
                                      refine o_and hx hb dX9_sendBits_234 ?_
                                      refine o_top (y := bI ((crc 53 5 (sl (whz L (wt c_) 18) (10 * t) 10)).testBit (5 - 1 - k))) (by rw [bit_N, bit_shr]) ?_
                                      refine o_callV (wr := []) (rest := []) (As := [.int (bI ((crc 53 5 (sl (whz L (wt c_) 18) (10 * t) 10)).testBit (5 - 1 - k)))]) C (c_M_push la D K h ar ad ck (54 + 15 * t + 10 + k) lo (va_up (va_up F 0 (wrL (F 0) 0 (((thr (whz hB (wt c_) 0) 54 ++ tens (whz L (wt c_) 18) t) ++ sl (whz L (wt c_) 18) (10 * t) 10) ++ rbp (crc 53 5 (sl (whz L (wt c_) 18) (10 * t) 10)) 5 k))) 2 (wrL (F 2) 0 (sl (whz L (wt c_) 18) 0 (10 * ((L.length + 9) / 10))))) ((crc 53 5 (sl (whz L (wt c_) 18) (10 * t) 10)).testBit (5 - 1 - k)) (by first | omega | assumption | (simp only [List.length_append, List.length_cons, List.length_nil, List.length_modify, List.length_set, nb_len, rb_len, rbp_len, sl_len, slN_len, wh_len, wt_len, hd10_len, hdB_len, thr_len, ldp_len, ldB_len, tens_len, whz_len, majL_len, mf_len, tkL_len, ldY_len, fif_len, ldY_len]; omega) | decide)) kX9_125 vX9_push (by decide) rfl ho [0] 1 (by decide +kernel) rfl rfl rfl rfl rfl hl.1 rfl (Nat.le_of_ble_eq_true rfl) dX9_sendBits_235 0 0 rfl rfl (by decide) (fun v u_17 H locs hq ho => ?_)
                                      obtain rfl := hq
                                      have ho : ow D vwCl A s.heap H locs [bX K h ar ad ck ((54 + 15 * t + 10 + k) + 1) lo (va_up (va_up (va_up F 0 (wrL (F 0) 0 (((thr (whz hB (wt c_) 0) 54 ++ tens (whz L (wt c_) 18) t) ++ sl (whz L (wt c_) 18) (10 * t) 10) ++ rbp (crc 53 5 (sl (whz L (wt c_) 18) (10 * t) 10)) 5 k))) 2 (wrL (F 2) 0 (sl (whz L (wt c_) 18) 0 (10 * ((L.length + 9) / 10))))) 0 (upd (wrL (F 0) 0 (((thr (whz hB (wt c_) 0) 54 ++ tens (whz L (wt c_) 18) t) ++ sl (whz L (wt c_) 18) (10 * t) 10) ++ rbp (crc 53 5 (sl (whz L (wt c_) 18) (10 * t) 10)) 5 k)) (54 + 15 * t + 10 + k) (bI ((crc 53 5 (sl (whz L (wt c_) 18) (10 * t) 10)).testBit (5 - 1 - k)))))] := ho
                                      refine W.eq (g2 := F0 m 238 ls []) rfl ?_
                                      have e_18 : bX K h ar ad ck ((54 + 15 * t + 10 + k) + 1) lo (va_up (va_up (va_up F 0 (wrL (F 0) 0 (((thr (whz hB (wt c_) 0) 54 ++ tens (whz L (wt c_) 18) t) ++ sl (whz L (wt c_) 18) (10 * t) 10) ++ rbp (crc 53 5 (sl (whz L (wt c_) 18) (10 * t) 10)) 5 k))) 2 (wrL (F 2) 0 (sl (whz L (wt c_) 18) 0 (10 * ((L.length + 9) / 10))))) 0 (upd (wrL (F 0) 0 (((thr (whz hB (wt c_) 0) 54 ++ tens (whz L (wt c_) 18) t) ++ sl (whz L (wt c_) 18) (10 * t) 10) ++ rbp (crc 53 5 (sl (whz L (wt c_) 18) (10 * t) 10)) 5 k)) (54 + 15 * t + 10 + k) (bI ((crc 53 5 (sl (whz L (wt c_) 18) (10 * t) 10)).testBit (5 - 1 - k))))) = bX K h ar ad ck (54 + 15 * t + 10 + (k + 1)) lo (va_up (va_up F 0 (wrL (F 0) 0 (((thr (whz hB (wt c_) 0) 54 ++ tens (whz L (wt c_) 18) t) ++ sl (whz L (wt c_) 18) (10 * t) 10) ++ rbp (crc 53 5 (sl (whz L (wt c_) 18) (10 * t) 10)) 5 (k + 1)))) 2 (wrL (F 2) 0 (sl (whz L (wt c_) 18) 0 (10 * ((L.length + 9) / 10))))) := by rw [up_c02, wrL_push0 (by simp only [List.length_append, thr_len, tens_len, sl_len, rbp_len] <;> omega), rbp_succ, List.append_assoc] <;> rfl
                                      have ho : ow D vwCl A s.heap H locs [bX K h ar ad ck (54 + 15 * t + 10 + (k + 1)) lo (va_up (va_up F 0 (wrL (F 0) 0 (((thr (whz hB (wt c_) 0) 54 ++ tens (whz L (wt c_) 18) t) ++ sl (whz L (wt c_) 18) (10 * t) 10) ++ rbp (crc 53 5 (sl (whz L (wt c_) 18) (10 * t) 10)) 5 (k + 1)))) 2 (wrL (F 2) 0 (sl (whz L (wt c_) 18) 0 (10 * ((L.length + 9) / 10)))))] := by rw [← e_18]; exact ho
                                      refine lv_iinc (v := nI (5 - 1 - k) - 1) (lv' := [(6, .int (nI (5 - 1 - k) - 1)), (0, .ref h), (3, .int (nI ((L.length + 9) / 10))), (4, .int (nI t)), (5, .int (nI (crc 53 5 (sl (whz L (wt c_) 18) (10 * t) 10))))]) hx hb dX9_sendBits_238 hl (k := 4) rfl (iincM _) (by decide) rfl (fun ls hl => ?_)
                                      refine lv_goto (tgt := 222) hx hb dX9_sendBits_241 (by decide) ?_
                                      exact ih222 (k + 1) (nI (5 - 1 - k) - 1) (by omega) (by omega) (by rw [show 5 - 1 - k = 5 - (k + 1) by omega]) _ _ _ ho (lv_sub hl [1, 2, 3, 4, 0] rfl)
                                exact LP222 (5 - 0 + 1) 0 (nI 4) (Nat.lt_succ_self _) (by omega) rfl _ _ _ ho (lv_sub hl [2, 3, 4, 1, 0] rfl)
                              · skip
                                refine lv_aload_n hx hb dX9_sendBits_174 rfl (lv_at hl 0 rfl) ?_
                                refine lv_aload_n hx hb dX9_sendBits_175 rfl (lv_at hl 0 rfl) ?_
                                refine o_get (v := .ref (ar 2)) C ho 0 0 rfl rfl rfl 6 fX9_16 rfl dX9_sendBits_176 ?_
                                refine lv_bipush (v := nI 10) hx hb dX9_sendBits_179 (by decide) ?_
                                refine lv_iload hx hb dX9_sendBits_181 (lv_at hl 2 rfl) ?_
                                refine o_mul hx hb dX9_sendBits_183 ?_
                                refine lv_iload hx hb dX9_sendBits_184 (lv_at hl 3 rfl) ?_
                                refine o_add hx hb dX9_sendBits_186 ?_
                                refine o_iald (v := wrL (F 2) 0 (sl (whz L (wt c_) 18) 0 (10 * ((L.length + 9) / 10))) ((10 * t) + i)) C ho 0 3 rfl rfl 0 rfl ((10 * t) + i) rfl (by omega) (by omega) rfl dX9_sendBits_187 ?_
                                refine o_top (y := bI ((whz L (wt c_) 18).getD (10 * t + i) false)) (by rw [wrL_in0 (by rw [sl_len]; omega), sl_getD (by omega), Nat.zero_add]) ?_
                                refine o_callV (wr := []) (rest := []) (As := [.int (bI ((whz L (wt c_) 18).getD (10 * t + i) false))]) C (c_M_push la D K h ar ad ck (54 + 15 * t + i) lo (va_up (va_up F 0 (wrL (F 0) 0 ((thr (whz hB (wt c_) 0) 54 ++ tens (whz L (wt c_) 18) t) ++ sl (whz L (wt c_) 18) (10 * t) i))) 2 (wrL (F 2) 0 (sl (whz L (wt c_) 18) 0 (10 * ((L.length + 9) / 10))))) ((whz L (wt c_) 18).getD (10 * t + i) false) (by first | omega | assumption | (simp only [List.length_append, List.length_cons, List.length_nil, List.length_modify, List.length_set, nb_len, rb_len, rbp_len, sl_len, slN_len, wh_len, wt_len, hd10_len, hdB_len, thr_len, ldp_len, ldB_len, tens_len, whz_len, majL_len, mf_len, tkL_len, ldY_len, fif_len, ldY_len]; omega) | decide)) kX9_125 vX9_push (by decide) rfl ho [0] 1 (by decide +kernel) rfl rfl rfl rfl rfl hl.1 rfl (Nat.le_of_ble_eq_true rfl) dX9_sendBits_188 0 0 rfl rfl (by decide) (fun v u_19 H locs hq ho => ?_)
                                obtain rfl := hq
                                have ho : ow D vwCl A s.heap H locs [bX K h ar ad ck ((54 + 15 * t + i) + 1) lo (va_up (va_up (va_up F 0 (wrL (F 0) 0 ((thr (whz hB (wt c_) 0) 54 ++ tens (whz L (wt c_) 18) t) ++ sl (whz L (wt c_) 18) (10 * t) i))) 2 (wrL (F 2) 0 (sl (whz L (wt c_) 18) 0 (10 * ((L.length + 9) / 10))))) 0 (upd (wrL (F 0) 0 ((thr (whz hB (wt c_) 0) 54 ++ tens (whz L (wt c_) 18) t) ++ sl (whz L (wt c_) 18) (10 * t) i)) (54 + 15 * t + i) (bI ((whz L (wt c_) 18).getD (10 * t + i) false))))] := ho
                                refine W.eq (g2 := F0 m 191 ls []) rfl ?_
                                have e_20 : bX K h ar ad ck ((54 + 15 * t + i) + 1) lo (va_up (va_up (va_up F 0 (wrL (F 0) 0 ((thr (whz hB (wt c_) 0) 54 ++ tens (whz L (wt c_) 18) t) ++ sl (whz L (wt c_) 18) (10 * t) i))) 2 (wrL (F 2) 0 (sl (whz L (wt c_) 18) 0 (10 * ((L.length + 9) / 10))))) 0 (upd (wrL (F 0) 0 ((thr (whz hB (wt c_) 0) 54 ++ tens (whz L (wt c_) 18) t) ++ sl (whz L (wt c_) 18) (10 * t) i)) (54 + 15 * t + i) (bI ((whz L (wt c_) 18).getD (10 * t + i) false)))) = bX K h ar ad ck (54 + 15 * t + (i + 1)) lo (va_up (va_up F 0 (wrL (F 0) 0 ((thr (whz hB (wt c_) 0) 54 ++ tens (whz L (wt c_) 18) t) ++ sl (whz L (wt c_) 18) (10 * t) (i + 1)))) 2 (wrL (F 2) 0 (sl (whz L (wt c_) 18) 0 (10 * ((L.length + 9) / 10))))) := by rw [up_c02, wrL_push0 (by simp only [List.length_append, thr_len, tens_len, sl_len, rbp_len] <;> omega), sl_succ, List.append_assoc] <;> rfl
                                have ho : ow D vwCl A s.heap H locs [bX K h ar ad ck (54 + 15 * t + (i + 1)) lo (va_up (va_up F 0 (wrL (F 0) 0 ((thr (whz hB (wt c_) 0) 54 ++ tens (whz L (wt c_) 18) t) ++ sl (whz L (wt c_) 18) (10 * t) (i + 1)))) 2 (wrL (F 2) 0 (sl (whz L (wt c_) 18) 0 (10 * ((L.length + 9) / 10)))))] := by rw [← e_20]; exact ho
                                refine lv_iinc (v := nI (i + 1)) (lv' := [(5, .int (nI (i + 1))), (0, .ref h), (3, .int (nI ((L.length + 9) / 10))), (4, .int (nI t))]) hx hb dX9_sendBits_191 hl (k := 3) rfl (iincN _ _) (by decide) rfl (fun ls hl => ?_)
                                refine lv_goto (tgt := 167) hx hb dX9_sendBits_194 (by decide) ?_
                                exact ih167 (i + 1) (by omega) (by omega) _ _ _ ho (lv_sub hl [1, 2, 3, 0] rfl)
                          exact LP167 (10 - 0 + 1) 0 (Nat.lt_succ_self _) (by omega) _ _ _ ho (lv_sub hl [1, 2, 3, 0] rfl)
                    exact LP158 ((L.length + 9) / 10 - 0 + 1) 0 (Nat.lt_succ_self _) (by omega) _ _ _ ho (lv_sub hl [1, 2, 0] rfl)
                  · skip
                    refine lv_aload_n hx hb dX9_sendBits_141 rfl (lv_at hl 0 rfl) ?_
                    refine o_get (v := .ref (ar 2)) C ho 0 0 rfl rfl rfl 6 fX9_16 rfl dX9_sendBits_142 ?_
                    refine lv_iload hx hb dX9_sendBits_145 (lv_at hl 2 rfl) ?_
                    refine lv_iconst (v := nI 0) hx hb dX9_sendBits_147 (by decide) ?_
                    refine o_top (y := bI ((whz L (wt c_) 18).getD i false)) (by rw [getD_out (by rw [whz_len]; omega)] <;> rfl) ?_
                    refine o_iast (bs' := [bX K h ar ad ck 54 lo (va_up (va_up (va_up F 0 (wrL (F 0) 0 (thr (whz hB (wt c_) 0) 54))) 2 (wrL (F 2) 0 (sl (whz L (wt c_) 18) 0 i))) 2 (upd (wrL (F 2) 0 (sl (whz L (wt c_) 18) 0 i)) i (bI ((whz L (wt c_) 18).getD i false))))]) C ho 0 3 rfl rfl 0 rfl i rfl (by omega) (by decide) dX9_sendBits_148 rfl (fun H locs ho => ?_)
                    have e_21 : bX K h ar ad ck 54 lo (va_up (va_up (va_up F 0 (wrL (F 0) 0 (thr (whz hB (wt c_) 0) 54))) 2 (wrL (F 2) 0 (sl (whz L (wt c_) 18) 0 i))) 2 (upd (wrL (F 2) 0 (sl (whz L (wt c_) 18) 0 i)) i (bI ((whz L (wt c_) 18).getD i false)))) = bX K h ar ad ck 54 lo (va_up (va_up F 0 (wrL (F 0) 0 (thr (whz hB (wt c_) 0) 54))) 2 (wrL (F 2) 0 (sl (whz L (wt c_) 18) 0 (i + 1)))) := by rw [bx_uu, wrL_push0 (sl_len _ _ _).symm, sl_succ, Nat.zero_add]
                    have ho : ow D vwCl A s.heap H locs [bX K h ar ad ck 54 lo (va_up (va_up F 0 (wrL (F 0) 0 (thr (whz hB (wt c_) 0) 54))) 2 (wrL (F 2) 0 (sl (whz L (wt c_) 18) 0 (i + 1))))] := by rw [← e_21]; exact ho
                    refine lv_iinc (v := nI (i + 1)) (lv' := [(4, .int (nI (i + 1))), (0, .ref h), (3, .int (nI ((L.length + 9) / 10)))]) hx hb dX9_sendBits_149 hl (k := 2) rfl (iincN _ _) (by decide) rfl (fun ls hl => ?_)
                    refine lv_goto (tgt := 132) hx hb dX9_sendBits_152 (by decide) ?_
                    exact ih132 (i + 1) (by omega) (by omega) (by omega) _ _ _ ho (lv_sub hl [1, 2, 0] rfl)
              exact LP132 (10 * ((L.length + 9) / 10) - L.length + 1) L.length (Nat.lt_succ_self _) (by omega) (by omega) _ _ _ ho (lv_sub hl [2, 1, 0] rfl)
            · skip
              refine lv_aload_n hx hb dX9_sendBits_61 rfl (lv_at hl 0 rfl) ?_
              refine o_get (v := .ref (ar 2)) C ho 0 0 rfl rfl rfl 6 fX9_16 rfl dX9_sendBits_62 ?_
              refine lv_iload_n hx hb dX9_sendBits_65 rfl (lv_at hl 3 rfl) ?_
              refine lv_aload_n hx hb dX9_sendBits_66 rfl (lv_at hl 0 rfl) ?_
              refine o_get (v := .ref (ar 2)) C ho 0 0 rfl rfl rfl 6 fX9_16 rfl dX9_sendBits_67 ?_
              refine lv_bipush (v := nI 18) hx hb dX9_sendBits_70 (by decide) ?_
              refine lv_iload_n hx hb dX9_sendBits_72 rfl (lv_at hl 3 rfl) ?_
              refine o_add hx hb dX9_sendBits_73 ?_
              refine o_iald (v := wrL (F 2) 0 (sl (whz L (wt c_) 18) 0 i) (18 + i)) C ho 0 3 rfl rfl 0 rfl (18 + i) rfl (by omega) (by omega) rfl dX9_sendBits_74 ?_
              refine o_top (y := bI (L.getD i false)) (by rw [wrL_hi (by rw [sl_len]; omega)]; exact ql _ (by omega)) ?_
              refine lv_aload_n hx hb dX9_sendBits_75 rfl (lv_at hl 0 rfl) ?_
              refine o_get (v := .ref (ar 1)) C ho 0 0 rfl rfl rfl 4 fX9_13 rfl dX9_sendBits_76 ?_
              refine lv_bipush (v := nI 18) hx hb dX9_sendBits_79 (by decide) ?_
              refine lv_iload_n hx hb dX9_sendBits_81 rfl (lv_at hl 3 rfl) ?_
              refine o_add hx hb dX9_sendBits_82 ?_
              refine o_iald (v := F 1 (18 + i)) C ho 0 2 rfl rfl 0 rfl (18 + i) rfl (by omega) (by omega) rfl dX9_sendBits_83 ?_
              refine o_top (y := bI (wb c_ (18 + i))) (qw _ (by omega)) ?_
              refine o_xorb hx hb dX9_sendBits_84 ?_
              refine o_top (y := bI ((whz L (wt c_) 18).getD i false)) (by rw [whz_getD (by omega) (by omega)]) ?_
              refine o_iast (bs' := [bX K h ar ad ck 54 lo (va_up (va_up (va_up F 0 (wrL (F 0) 0 (thr (whz hB (wt c_) 0) 54))) 2 (wrL (F 2) 0 (sl (whz L (wt c_) 18) 0 i))) 2 (upd (wrL (F 2) 0 (sl (whz L (wt c_) 18) 0 i)) i (bI ((whz L (wt c_) 18).getD i false))))]) C ho 0 3 rfl rfl 0 rfl i rfl (by omega) (by decide) dX9_sendBits_85 rfl (fun H locs ho => ?_)
              have e_22 : bX K h ar ad ck 54 lo (va_up (va_up (va_up F 0 (wrL (F 0) 0 (thr (whz hB (wt c_) 0) 54))) 2 (wrL (F 2) 0 (sl (whz L (wt c_) 18) 0 i))) 2 (upd (wrL (F 2) 0 (sl (whz L (wt c_) 18) 0 i)) i (bI ((whz L (wt c_) 18).getD i false)))) = bX K h ar ad ck 54 lo (va_up (va_up F 0 (wrL (F 0) 0 (thr (whz hB (wt c_) 0) 54))) 2 (wrL (F 2) 0 (sl (whz L (wt c_) 18) 0 (i + 1)))) := by rw [bx_uu, wrL_push0 (sl_len _ _ _).symm, sl_succ, Nat.zero_add]
              have ho : ow D vwCl A s.heap H locs [bX K h ar ad ck 54 lo (va_up (va_up F 0 (wrL (F 0) 0 (thr (whz hB (wt c_) 0) 54))) 2 (wrL (F 2) 0 (sl (whz L (wt c_) 18) 0 (i + 1))))] := by rw [← e_22]; exact ho
              refine lv_iinc (v := nI (i + 1)) (lv' := [(3, .int (nI (i + 1))), (0, .ref h), (1, .int (nI 3)), (2, .int (nI L.length))]) hx hb dX9_sendBits_86 hl (k := 3) rfl (iincN _ _) (by decide) rfl (fun ls hl => ?_)
              refine lv_goto (tgt := 56) hx hb dX9_sendBits_89 (by decide) ?_
              exact ih56 (i + 1) (by omega) (by omega) _ _ _ ho (lv_sub hl [1, 2, 3, 0] rfl)
        exact LP56 (L.length - 0 + 1) 0 (Nat.lt_succ_self _) (by omega) _ _ _ ho (lv_sub hl [2, 3, 1, 0] rfl)
      · skip
        refine lv_aload_n hx hb dX9_sendBits_13 rfl (lv_at hl 0 rfl) ?_
        refine lv_aload_n hx hb dX9_sendBits_14 rfl (lv_at hl 0 rfl) ?_
        refine o_get (v := .ref (ar 2)) C ho 0 0 rfl rfl rfl 6 fX9_16 rfl dX9_sendBits_15 ?_
        refine lv_iload_n hx hb dX9_sendBits_18 rfl (lv_at hl 2 rfl) ?_
        refine lv_iconst (v := nI 3) hx hb dX9_sendBits_19 (by decide) ?_
        refine o_div hx hb dX9_sendBits_20 (by omega) (by omega) (by omega) ?_
        refine o_iald (v := F 2 (i / 3)) C ho 0 3 rfl rfl 0 rfl (i / 3) rfl (by omega) (by omega) rfl dX9_sendBits_21 ?_
        refine o_top (y := bI (hB.getD (i / 3) false)) (qh _ (by omega)) ?_
        refine lv_aload_n hx hb dX9_sendBits_22 rfl (lv_at hl 0 rfl) ?_
        refine o_get (v := .ref (ar 1)) C ho 0 0 rfl rfl rfl 4 fX9_13 rfl dX9_sendBits_23 ?_
        refine lv_iload_n hx hb dX9_sendBits_26 rfl (lv_at hl 2 rfl) ?_
        refine lv_iconst (v := nI 3) hx hb dX9_sendBits_27 (by decide) ?_
        refine o_div hx hb dX9_sendBits_28 (by omega) (by omega) (by omega) ?_
        refine o_iald (v := F 1 (i / 3)) C ho 0 2 rfl rfl 0 rfl (i / 3) rfl (by omega) (by omega) rfl dX9_sendBits_29 ?_
        refine o_top (y := bI (wb c_ (i / 3))) (qw _ (by omega)) ?_
        refine o_xorb hx hb dX9_sendBits_30 ?_
        refine o_top (y := bI ((whz hB (wt c_) 0).getD (i / 3) false)) (by rw [whz_getD (by omega) (by omega), Nat.zero_add]) ?_
        refine o_callV (wr := []) (rest := []) (As := [.int (bI ((whz hB (wt c_) 0).getD (i / 3) false))]) C (c_M_push la D K h ar ad ck i lo (va_up F 0 (wrL (F 0) 0 (thr (whz hB (wt c_) 0) i))) ((whz hB (wt c_) 0).getD (i / 3) false) (by first | omega | assumption | (simp only [List.length_append, List.length_cons, List.length_nil, List.length_modify, List.length_set, nb_len, rb_len, rbp_len, sl_len, slN_len, wh_len, wt_len, hd10_len, hdB_len, thr_len, ldp_len, ldB_len, tens_len, whz_len, majL_len, mf_len, tkL_len, ldY_len, fif_len, ldY_len]; omega) | decide)) kX9_125 vX9_push (by decide) rfl ho [0] 1 (by decide +kernel) rfl rfl rfl rfl rfl hl.1 rfl (Nat.le_of_ble_eq_true rfl) dX9_sendBits_31 0 0 rfl rfl (by decide) (fun v u_23 H locs hq ho => ?_)
        obtain rfl := hq
        have ho : ow D vwCl A s.heap H locs [bX K h ar ad ck (i + 1) lo (va_up (va_up F 0 (wrL (F 0) 0 (thr (whz hB (wt c_) 0) i))) 0 (upd (wrL (F 0) 0 (thr (whz hB (wt c_) 0) i)) i (bI ((whz hB (wt c_) 0).getD (i / 3) false))))] := ho
        refine W.eq (g2 := F0 m 34 ls []) rfl ?_
        have e_24 : bX K h ar ad ck (i + 1) lo (va_up (va_up F 0 (wrL (F 0) 0 (thr (whz hB (wt c_) 0) i))) 0 (upd (wrL (F 0) 0 (thr (whz hB (wt c_) 0) i)) i (bI ((whz hB (wt c_) 0).getD (i / 3) false)))) = bX K h ar ad ck (i + 1) lo (va_up F 0 (wrL (F 0) 0 (thr (whz hB (wt c_) 0) (i + 1)))) := by rw [bx_uu, wrL_push0 (thr_len _ _).symm, thr_succ]
        have ho : ow D vwCl A s.heap H locs [bX K h ar ad ck (i + 1) lo (va_up F 0 (wrL (F 0) 0 (thr (whz hB (wt c_) 0) (i + 1))))] := by rw [← e_24]; exact ho
        refine lv_iinc (v := nI (i + 1)) (lv' := [(2, .int (nI (i + 1))), (0, .ref h), (1, .int (nI 3))]) hx hb dX9_sendBits_34 hl (k := 2) rfl (iincN _ _) (by decide) rfl (fun ls hl => ?_)
        refine lv_goto (tgt := 7) hx hb dX9_sendBits_37 (by decide) ?_
        exact ih7 (i + 1) (by omega) (by omega) _ _ _ ho (lv_sub hl [1, 2, 0] rfl)
  exact LP7 (54 - 0 + 1) 0 (Nat.lt_succ_self _) (by omega) _ _ _ ho (lv_sub hl [1, 2, 0] rfl)
