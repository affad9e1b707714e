set_option maxHeartbeats 4000000 in
set_option maxRecDepth 100000 in
theorem c_M_headGood (la : Launch) (D : va_G) (K : Nat → ClassId) (h : Nat) (ar : Nat → Nat) (ad : Nat) (ck : Nat) (bi : Nat) (lo : Nat) (F : Nat → Nat → Int32) (a : List Bool) (c_ : Nat) (t_ : List Bool) (qa : ∀ i, i < a.length → F 0 i = bI (a.getD i false)) (qw : ∀ i, i < 400 → F 1 i = bI (wb c_ i)) (qtl : t_.length = 18) (qth : ∀ i, i < 18 → t_.getD i false = (maj (a.getD (3 * i) false) (a.getD (3 * i + 1) false) (a.getD (3 * i + 2) false) ^^ wb c_ i)) (qal : 54 ≤ a.length) (qad : ad < 8) : MT la D K yX9_headGood cX9_headGood 3 (some .boolean) (rmL 4 0 0) [.ref h] [bX K h ar ad ck bi lo F] Unit (fun v _ => v = some (.int (bI (hOK ad t_)))) (fun _ => [bX K h ar ad ck bi lo (va_up F 2 (wrL (F 2) 0 t_))]) := by
  refine Mt.ofW [(0, .ref h)] (by decide) rfl (Nat.le_of_ble_eq_true rfl) ?_
  intro p e s m args below meth c A ls H locs Qz hQ C hin hl ho
  have hx := C.1.1
  have hb := C.1.2.1
  refine lv_iconst (v := nI 0) hx hb dX9_headGood_0 (by decide) ?_
  refine lv_istore_n (lv' := [(1, .int (nI 0)), (0, .ref h)]) hx hb dX9_headGood_1 rfl hl (by decide) rfl (fun ls hl => ?_)
  have e_1 : bX K h ar ad ck bi lo F = bX K h ar ad ck bi lo (va_up F 2 (wrL (F 2) 0 (sl t_ 0 0))) := by rw [sl_0, wrL_nil, up_self]
  have ho : ow D vwCl A s.heap H locs [bX K h ar ad ck bi lo (va_up F 2 (wrL (F 2) 0 (sl t_ 0 0)))] := by rw [← e_1]; exact ho
  have LP2 : ∀ (fuel : Nat) (i : Nat) (_ : 18 - i < fuel) (_ : i ≤ 18) (H : Heap) (locs : List Loc) (ls : Array Slot) (_ : ow D vwCl A s.heap H locs [bX K h ar ad ck bi lo (va_up F 2 (wrL (F 2) 0 (sl t_ 0 i)))]) (_ : lv_has ls 3 [(0, .ref h), (1, .int (nI i))]), W p la e (rmL 4 0 0) s m args below meth c H locs 0 0 Qz (F0 m 2 ls []) := by
    intro fuel
    induction fuel with
    | zero => intro i h0; exact absurd h0 (Nat.not_lt_zero _)
    | succ fuel ih2 =>
      intro i hfu hi H locs ls ho hl
      refine lv_iload_n hx hb dX9_headGood_2 rfl (lv_at hl 1 rfl) ?_
      refine lv_bipush (v := nI 18) hx hb dX9_headGood_3 (by decide) ?_
      refine o_icmp_ge (tgt := 68) hx hb dX9_headGood_5 (by decide) (by first | omega | exact and1_lt _) (by first | omega | exact and1_lt _) (fun c_2 => ?_) (fun c_2 => ?_)
      · skip
        have e_3 : bX K h ar ad ck bi lo (va_up F 2 (wrL (F 2) 0 (sl t_ 0 i))) = bX K h ar ad ck bi lo (va_up F 2 (wrL (F 2) 0 t_)) := by rw [show i = 18 by omega, ← qtl, sl_all]
        have ho : ow D vwCl A s.heap H locs [bX K h ar ad ck bi lo (va_up F 2 (wrL (F 2) 0 t_))] := by rw [← e_3]; exact ho
        have ht1 := toN_lt (t_) 0 3
        have ht2 := toN_lt (t_) 3 4
        refine lv_aload_n hx hb dX9_headGood_68 rfl (lv_at hl 0 rfl) ?_
        refine lv_iconst (v := nI 0) hx hb dX9_headGood_69 (by decide) ?_
        refine lv_bipush (v := nI 10) hx hb dX9_headGood_70 (by decide) ?_
        refine lv_sipush (v := nI 423) hx hb dX9_headGood_72 (by decide) ?_
        refine lv_bipush (v := nI 8) hx hb dX9_headGood_75 (by decide) ?_
        refine o_callV (wr := []) (rest := []) (As := [.int (nI 0), .int (nI 10), .int (nI 423), .int (nI 8)]) C (c_M_remStands la D K h ar ad ck bi lo (va_up F 2 (wrL (F 2) 0 t_)) 0 10 423 8 (sl (t_) 0 10) (sl (t_) 10 8) (fun i hi => rd0 (by rw [qtl]; omega) hi) (by rw [sl_len]) (by first | omega | assumption | (simp only [List.length_append, List.length_cons, List.length_nil, List.length_modify, List.length_set, nb_len, rb_len, rbp_len, sl_len, slN_len, wh_len, wt_len, hd10_len, hdB_len, thr_len, ldp_len, ldB_len, tens_len, whz_len, majL_len, mf_len, tkL_len, ldY_len, fif_len, ldY_len]; omega) | decide) (by first | omega | assumption | (simp only [List.length_append, List.length_cons, List.length_nil, List.length_modify, List.length_set, nb_len, rb_len, rbp_len, sl_len, slN_len, wh_len, wt_len, hd10_len, hdB_len, thr_len, ldp_len, ldB_len, tens_len, whz_len, majL_len, mf_len, tkL_len, ldY_len, fif_len, ldY_len]; omega) | decide) (by first | omega | assumption | (simp only [List.length_append, List.length_cons, List.length_nil, List.length_modify, List.length_set, nb_len, rb_len, rbp_len, sl_len, slN_len, wh_len, wt_len, hd10_len, hdB_len, thr_len, ldp_len, ldB_len, tens_len, whz_len, majL_len, mf_len, tkL_len, ldY_len, fif_len, ldY_len]; omega) | decide) (by first | omega | assumption | (simp only [List.length_append, List.length_cons, List.length_nil, List.length_modify, List.length_set, nb_len, rb_len, rbp_len, sl_len, slN_len, wh_len, wt_len, hd10_len, hdB_len, thr_len, ldp_len, ldB_len, tens_len, whz_len, majL_len, mf_len, tkL_len, ldY_len, fif_len, ldY_len]; omega) | decide) (by decide) (by decide) pw423 (fun i hi => rd1 (by rw [qtl]; omega) hi) (sl_len _ _ _) (by first | omega | assumption | (simp only [List.length_append, List.length_cons, List.length_nil, List.length_modify, List.length_set, nb_len, rb_len, rbp_len, sl_len, slN_len, wh_len, wt_len, hd10_len, hdB_len, thr_len, ldp_len, ldB_len, tens_len, whz_len, majL_len, mf_len, tkL_len, ldY_len, fif_len, ldY_len]; omega) | decide)) kX9_149 vX9_remStands (by decide) rfl ho [0] 1 (by decide +kernel) rfl rfl rfl rfl rfl hl.1 rfl (Nat.le_of_ble_eq_true rfl) dX9_headGood_77 0 0 rfl rfl (by decide) (fun v u_4 H locs hq ho => ?_)
        obtain rfl := hq
        have ho : ow D vwCl A s.heap H locs [bX K h ar ad ck bi lo (va_up F 2 (wrL (F 2) 0 t_))] := ho
        refine W.eq (g2 := F0 m 80 ls [.int (bI (decide ((sl (t_) 10 8) = rb (crc 423 8 (sl (t_) 0 10)) 8)))]) rfl ?_
        refine o_ifb_eq (tgt := 125) hx hb dX9_headGood_80 (by decide) (fun c_5 => ?_) (fun c_5 => ?_)
        · skip
          refine lv_iconst (v := nI 0) hx hb dX9_headGood_125 (by decide) ?_
          exact o_iret hQ C rfl ho () (by unfold hOK; rw [c_5]; rfl) rfl (Nat.le_of_ble_eq_true rfl) (Nat.le_of_ble_eq_true rfl) dX9_headGood_126
        · skip
          refine lv_aload_n hx hb dX9_headGood_83 rfl (lv_at hl 0 rfl) ?_
          refine lv_iconst (v := nI 0) hx hb dX9_headGood_84 (by decide) ?_
          refine lv_iconst (v := nI 3) hx hb dX9_headGood_85 (by decide) ?_
          refine o_callV (wr := []) (rest := []) (As := [.int (nI 0), .int (nI 3)]) C (c_M_number la D K h ar ad ck bi lo (va_up F 2 (wrL (F 2) 0 t_)) 0 3 t_ 0 (fun i hi => rd2 (by rw [qtl]; omega) hi) (by first | omega | assumption | (simp only [List.length_append, List.length_cons, List.length_nil, List.length_modify, List.length_set, nb_len, rb_len, rbp_len, sl_len, slN_len, wh_len, wt_len, hd10_len, hdB_len, thr_len, ldp_len, ldB_len, tens_len, whz_len, majL_len, mf_len, tkL_len, ldY_len, fif_len, ldY_len]; omega) | decide) (by first | omega | assumption | (simp only [List.length_append, List.length_cons, List.length_nil, List.length_modify, List.length_set, nb_len, rb_len, rbp_len, sl_len, slN_len, wh_len, wt_len, hd10_len, hdB_len, thr_len, ldp_len, ldB_len, tens_len, whz_len, majL_len, mf_len, tkL_len, ldY_len, fif_len, ldY_len]; omega) | decide)) kX9_153 vX9_number (by decide) rfl ho [0] 1 (by decide +kernel) rfl rfl rfl rfl rfl hl.1 rfl (Nat.le_of_ble_eq_true rfl) dX9_headGood_86 0 0 rfl rfl (by decide) (fun v u_6 H locs hq ho => ?_)
          obtain rfl := hq
          have ho : ow D vwCl A s.heap H locs [bX K h ar ad ck bi lo (va_up F 2 (wrL (F 2) 0 t_))] := ho
          refine W.eq (g2 := F0 m 89 ls [.int (nI (toN t_ 0 3))]) rfl ?_
          refine lv_aload_n hx hb dX9_headGood_89 rfl (lv_at hl 0 rfl) ?_
          refine o_get (v := .int (nI ad)) C ho 0 0 rfl rfl rfl 0 fX9_95 rfl dX9_headGood_90 ?_
          refine o_icmp_ne (tgt := 125) hx hb dX9_headGood_93 (by decide) (by first | omega | exact and1_lt _) (by first | omega | exact and1_lt _) (fun c_7 => ?_) (fun c_7 => ?_)
          · skip
            refine lv_iconst (v := nI 0) hx hb dX9_headGood_125 (by decide) ?_
            exact o_iret hQ C rfl ho () (by unfold hOK; rw [c_5, decide_eq_false c_7]; rfl) rfl (Nat.le_of_ble_eq_true rfl) (Nat.le_of_ble_eq_true rfl) dX9_headGood_126
          · skip
            refine lv_aload_n hx hb dX9_headGood_96 rfl (lv_at hl 0 rfl) ?_
            refine o_get (v := .ref (ar 2)) C ho 0 0 rfl rfl rfl 6 fX9_16 rfl dX9_headGood_97 ?_
            refine lv_bipush (v := nI 7) hx hb dX9_headGood_100 (by decide) ?_
            refine o_iald (v := wrL (F 2) 0 t_ 7) C ho 0 3 rfl rfl 0 rfl 7 rfl (by omega) (by omega) rfl dX9_headGood_102 ?_
            refine o_top (y := bI ((t_).getD 7 false)) (wrL_in0 (by omega)) ?_
            refine lv_iconst (v := nI 1) hx hb dX9_headGood_103 (by decide) ?_
            refine o_top (y := bI true) (rfl) ?_
            refine o_icmpb_ne (tgt := 125) hx hb dX9_headGood_104 (by decide) (fun c_8 => ?_) (fun c_8 => ?_)
            · skip
              refine lv_iconst (v := nI 0) hx hb dX9_headGood_125 (by decide) ?_
              exact o_iret hQ C rfl ho () (by unfold hOK; rw [c_5, decide_eq_true c_7, Bool.eq_false_iff.mpr c_8]; rfl) rfl (Nat.le_of_ble_eq_true rfl) (Nat.le_of_ble_eq_true rfl) dX9_headGood_126
            · skip
              refine lv_aload_n hx hb dX9_headGood_107 rfl (lv_at hl 0 rfl) ?_
              refine lv_iconst (v := nI 3) hx hb dX9_headGood_108 (by decide) ?_
              refine lv_iconst (v := nI 4) hx hb dX9_headGood_109 (by decide) ?_
              refine o_callV (wr := []) (rest := []) (As := [.int (nI 3), .int (nI 4)]) C (c_M_number la D K h ar ad ck bi lo (va_up F 2 (wrL (F 2) 0 t_)) 3 4 t_ 3 (fun i hi => rd2 (by rw [qtl]; omega) hi) (by first | omega | assumption | (simp only [List.length_append, List.length_cons, List.length_nil, List.length_modify, List.length_set, nb_len, rb_len, rbp_len, sl_len, slN_len, wh_len, wt_len, hd10_len, hdB_len, thr_len, ldp_len, ldB_len, tens_len, whz_len, majL_len, mf_len, tkL_len, ldY_len, fif_len, ldY_len]; omega) | decide) (by first | omega | assumption | (simp only [List.length_append, List.length_cons, List.length_nil, List.length_modify, List.length_set, nb_len, rb_len, rbp_len, sl_len, slN_len, wh_len, wt_len, hd10_len, hdB_len, thr_len, ldp_len, ldB_len, tens_len, whz_len, majL_len, mf_len, tkL_len, ldY_len, fif_len, ldY_len]; omega) | decide)) kX9_153 vX9_number (by decide) rfl ho [0] 1 (by decide +kernel) rfl rfl rfl rfl rfl hl.1 rfl (Nat.le_of_ble_eq_true rfl) dX9_headGood_110 0 0 rfl rfl (by decide) (fun v u_9 H locs hq ho => ?_)
              obtain rfl := hq
              have ho : ow D vwCl A s.heap H locs [bX K h ar ad ck bi lo (va_up F 2 (wrL (F 2) 0 t_))] := ho
              refine W.eq (g2 := F0 m 113 ls [.int (nI (toN t_ 3 4))]) rfl ?_
              refine lv_iconst (v := nI 1) hx hb dX9_headGood_113 (by decide) ?_
              refine lv_iconst (v := nI 4) hx hb dX9_headGood_114 (by decide) ?_
              refine o_callS (wr := [bX K h ar ad ck bi lo (va_up F 2 (wrL (F 2) 0 t_))]) (rest := []) (As := [.int (nI (toN t_ 3 4)), .int (nI 1), .int (nI 4)]) C (c_M_in la D K (toN t_ 3 4) 1 4 (by first | omega | assumption | (simp only [List.length_append, List.length_cons, List.length_nil, List.length_modify, List.length_set, nb_len, rb_len, rbp_len, sl_len, slN_len, wh_len, wt_len, hd10_len, hdB_len, thr_len, ldp_len, ldB_len, tens_len, whz_len, majL_len, mf_len, tkL_len, ldY_len, fif_len, ldY_len]; omega) | decide) (by first | omega | assumption | (simp only [List.length_append, List.length_cons, List.length_nil, List.length_modify, List.length_set, nb_len, rb_len, rbp_len, sl_len, slN_len, wh_len, wt_len, hd10_len, hdB_len, thr_len, ldp_len, ldB_len, tens_len, whz_len, majL_len, mf_len, tkL_len, ldY_len, fif_len, ldY_len]; omega) | decide) (by first | omega | assumption | (simp only [List.length_append, List.length_cons, List.length_nil, List.length_modify, List.length_set, nb_len, rb_len, rbp_len, sl_len, slN_len, wh_len, wt_len, hd10_len, hdB_len, thr_len, ldp_len, ldB_len, tens_len, whz_len, majL_len, mf_len, tkL_len, ldY_len, fif_len, ldY_len]; omega) | decide)) kX9_99 vX9_in (by decide) rfl ho [0] 1 (by decide +kernel) rfl rfl hl.1 rfl (Nat.le_of_ble_eq_true rfl) dX9_headGood_115 0 0 rfl rfl (by decide) (fun v u_10 H locs hq ho => ?_)
              obtain rfl := hq
              have ho : ow D vwCl A s.heap H locs [bX K h ar ad ck bi lo (va_up F 2 (wrL (F 2) 0 t_))] := ho
              refine W.eq (g2 := F0 m 118 ls [.int (bI (decide (1 ≤ (toN t_ 3 4) ∧ (toN t_ 3 4) ≤ 4)))]) rfl ?_
              refine o_ifb_eq (tgt := 125) hx hb dX9_headGood_118 (by decide) (fun c_11 => ?_) (fun c_11 => ?_)
              · skip
                refine lv_iconst (v := nI 0) hx hb dX9_headGood_125 (by decide) ?_
                exact o_iret hQ C rfl ho () (by unfold hOK; rw [c_5, decide_eq_true c_7, c_8, ← Bool.decide_and, c_11]; rfl) rfl (Nat.le_of_ble_eq_true rfl) (Nat.le_of_ble_eq_true rfl) dX9_headGood_126
              · skip
                refine lv_iconst (v := nI 1) hx hb dX9_headGood_121 (by decide) ?_
                refine lv_goto (tgt := 126) hx hb dX9_headGood_122 (by decide) ?_
                exact o_iret hQ C rfl ho () (by unfold hOK; rw [c_5, decide_eq_true c_7, c_8, ← Bool.decide_and, c_11]; rfl) rfl (Nat.le_of_ble_eq_true rfl) (Nat.le_of_ble_eq_true rfl) dX9_headGood_126
      · skip
        refine lv_aload_n hx hb dX9_headGood_8 rfl (lv_at hl 0 rfl) ?_
        refine o_get (v := .ref (ar 0)) C ho 0 0 rfl rfl rfl 3 fX9_7 rfl dX9_headGood_9 ?_
        refine lv_iconst (v := nI 3) hx hb dX9_headGood_12 (by decide) ?_
        refine lv_iload_n hx hb dX9_headGood_13 rfl (lv_at hl 1 rfl) ?_
        refine o_mul hx hb dX9_headGood_14 ?_
        refine o_iald (v := F 0 (3 * i)) C ho 0 1 rfl rfl 0 rfl (3 * i) rfl (by omega) (by omega) rfl dX9_headGood_15 ?_
        refine o_top (y := nI ((a.getD (3 * i) false).toNat)) (by rw [qa _ (by omega), bI_N]) ?_
        refine lv_aload_n hx hb dX9_headGood_16 rfl (lv_at hl 0 rfl) ?_
        refine o_get (v := .ref (ar 0)) C ho 0 0 rfl rfl rfl 3 fX9_7 rfl dX9_headGood_17 ?_
        refine lv_iconst (v := nI 3) hx hb dX9_headGood_20 (by decide) ?_
        refine lv_iload_n hx hb dX9_headGood_21 rfl (lv_at hl 1 rfl) ?_
        refine o_mul hx hb dX9_headGood_22 ?_
        refine lv_iconst (v := nI 1) hx hb dX9_headGood_23 (by decide) ?_
        refine o_add hx hb dX9_headGood_24 ?_
        refine o_iald (v := F 0 ((3 * i) + 1)) C ho 0 1 rfl rfl 0 rfl ((3 * i) + 1) rfl (by omega) (by omega) rfl dX9_headGood_25 ?_
        refine o_top (y := nI ((a.getD (3 * i + 1) false).toNat)) (by rw [qa _ (by omega), bI_N]) ?_
        refine o_add hx hb dX9_headGood_26 ?_
        refine lv_aload_n hx hb dX9_headGood_27 rfl (lv_at hl 0 rfl) ?_
        refine o_get (v := .ref (ar 0)) C ho 0 0 rfl rfl rfl 3 fX9_7 rfl dX9_headGood_28 ?_
        refine lv_iconst (v := nI 3) hx hb dX9_headGood_31 (by decide) ?_
        refine lv_iload_n hx hb dX9_headGood_32 rfl (lv_at hl 1 rfl) ?_
        refine o_mul hx hb dX9_headGood_33 ?_
        refine lv_iconst (v := nI 2) hx hb dX9_headGood_34 (by decide) ?_
        refine o_add hx hb dX9_headGood_35 ?_
        refine o_iald (v := F 0 ((3 * i) + 2)) C ho 0 1 rfl rfl 0 rfl ((3 * i) + 2) rfl (by omega) (by omega) rfl dX9_headGood_36 ?_
        refine o_top (y := nI ((a.getD (3 * i + 2) false).toNat)) (by rw [qa _ (by omega), bI_N]) ?_
        refine o_add hx hb dX9_headGood_37 ?_
        have hb1 := Bool.toNat_le (a.getD (3 * i) false)
        have hb2 := Bool.toNat_le (a.getD (3 * i + 1) false)
        have hb3 := Bool.toNat_le (a.getD (3 * i + 2) false)
        refine lv_istore_n (lv' := [(2, .int (nI ((((a.getD (3 * i) false).toNat) + ((a.getD (3 * i + 1) false).toNat)) + ((a.getD (3 * i + 2) false).toNat)))), (0, .ref h), (1, .int (nI i))]) hx hb dX9_headGood_38 rfl hl (by decide) rfl (fun ls hl => ?_)
        refine lv_aload_n hx hb dX9_headGood_39 rfl (lv_at hl 1 rfl) ?_
        refine o_get (v := .ref (ar 2)) C ho 0 0 rfl rfl rfl 6 fX9_16 rfl dX9_headGood_40 ?_
        refine lv_iload_n hx hb dX9_headGood_43 rfl (lv_at hl 2 rfl) ?_
        refine lv_iload_n hx hb dX9_headGood_44 rfl (lv_at hl 0 rfl) ?_
        refine lv_iconst (v := nI 1) hx hb dX9_headGood_45 (by decide) ?_
        refine o_icmp_le (tgt := 53) hx hb dX9_headGood_46 (by decide) (by first | omega | exact and1_lt _) (by first | omega | exact and1_lt _) (fun c_12 => ?_) (fun c_12 => ?_)
        · skip
          refine lv_iconst (v := nI 0) hx hb dX9_headGood_53 (by decide) ?_
          refine o_top (y := bI (maj (a.getD (3 * i) false) (a.getD (3 * i + 1) false) (a.getD (3 * i + 2) false))) (by rw [maj, decide_eq_false (by omega)]; rfl) ?_
          refine lv_aload_n hx hb dX9_headGood_54 rfl (lv_at hl 1 rfl) ?_
          refine o_get (v := .ref (ar 1)) C ho 0 0 rfl rfl rfl 4 fX9_13 rfl dX9_headGood_55 ?_
          refine lv_iload_n hx hb dX9_headGood_58 rfl (lv_at hl 2 rfl) ?_
          refine o_iald (v := F 1 i) C ho 0 2 rfl rfl 0 rfl i rfl (by omega) (by omega) rfl dX9_headGood_59 ?_
          refine o_top (y := bI (wb c_ i)) (qw _ (by omega)) ?_
          refine o_xorb hx hb dX9_headGood_60 ?_
          refine o_top (y := bI ((t_).getD i false)) (by rw [qth i (by omega)]) ?_
          refine o_iast (bs' := [bX K h ar ad ck bi lo (va_up (va_up F 2 (wrL (F 2) 0 (sl t_ 0 i))) 2 (upd (wrL (F 2) 0 (sl t_ 0 i)) i (bI ((t_).getD i false))))]) C ho 0 3 rfl rfl 0 rfl i rfl (by omega) (by decide) dX9_headGood_61 rfl (fun H locs ho => ?_)
          have e_13 : bX K h ar ad ck bi lo (va_up (va_up F 2 (wrL (F 2) 0 (sl t_ 0 i))) 2 (upd (wrL (F 2) 0 (sl t_ 0 i)) i (bI ((t_).getD i false)))) = bX K h ar ad ck bi lo (va_up F 2 (wrL (F 2) 0 (sl t_ 0 (i + 1)))) := by rw [bx_uu, wrL_push0 (sl_len _ _ _).symm, sl_succ, Nat.zero_add]
          have ho : ow D vwCl A s.heap H locs [bX K h ar ad ck bi lo (va_up F 2 (wrL (F 2) 0 (sl t_ 0 (i + 1))))] := by rw [← e_13]; exact ho
          refine lv_iinc (v := nI (i + 1)) (lv' := [(1, .int (nI (i + 1))), (2, .int (nI ((((a.getD (3 * i) false).toNat) + ((a.getD (3 * i + 1) false).toNat)) + ((a.getD (3 * i + 2) false).toNat)))), (0, .ref h)]) hx hb dX9_headGood_62 hl (k := 2) rfl (iincN _ _) (by decide) rfl (fun ls hl => ?_)
          refine lv_goto (tgt := 2) hx hb dX9_headGood_65 (by decide) ?_
          exact ih2 (i + 1) (by omega) (by omega) _ _ _ ho (lv_sub hl [2, 0] rfl)
        · skip
          refine lv_iconst (v := nI 1) hx hb dX9_headGood_49 (by decide) ?_
          refine lv_goto (tgt := 54) hx hb dX9_headGood_50 (by decide) ?_
          refine o_top (y := bI (maj (a.getD (3 * i) false) (a.getD (3 * i + 1) false) (a.getD (3 * i + 2) false))) (by rw [maj, decide_eq_true (by omega)]; rfl) ?_
          refine lv_aload_n hx hb dX9_headGood_54 rfl (lv_at hl 1 rfl) ?_
          refine o_get (v := .ref (ar 1)) C ho 0 0 rfl rfl rfl 4 fX9_13 rfl dX9_headGood_55 ?_
          refine lv_iload_n hx hb dX9_headGood_58 rfl (lv_at hl 2 rfl) ?_
          refine o_iald (v := F 1 i) C ho 0 2 rfl rfl 0 rfl i rfl (by omega) (by omega) rfl dX9_headGood_59 ?_
          refine o_top (y := bI (wb c_ i)) (qw _ (by omega)) ?_
          refine o_xorb hx hb dX9_headGood_60 ?_
          refine o_top (y := bI ((t_).getD i false)) (by rw [qth i (by omega)]) ?_
          refine o_iast (bs' := [bX K h ar ad ck bi lo (va_up (va_up F 2 (wrL (F 2) 0 (sl t_ 0 i))) 2 (upd (wrL (F 2) 0 (sl t_ 0 i)) i (bI ((t_).getD i false))))]) C ho 0 3 rfl rfl 0 rfl i rfl (by omega) (by decide) dX9_headGood_61 rfl (fun H locs ho => ?_)
          have e_14 : bX K h ar ad ck bi lo (va_up (va_up F 2 (wrL (F 2) 0 (sl t_ 0 i))) 2 (upd (wrL (F 2) 0 (sl t_ 0 i)) i (bI ((t_).getD i false)))) = bX K h ar ad ck bi lo (va_up F 2 (wrL (F 2) 0 (sl t_ 0 (i + 1)))) := by rw [bx_uu, wrL_push0 (sl_len _ _ _).symm, sl_succ, Nat.zero_add]
          have ho : ow D vwCl A s.heap H locs [bX K h ar ad ck bi lo (va_up F 2 (wrL (F 2) 0 (sl t_ 0 (i + 1))))] := by rw [← e_14]; exact ho
          refine lv_iinc (v := nI (i + 1)) (lv' := [(1, .int (nI (i + 1))), (2, .int (nI ((((a.getD (3 * i) false).toNat) + ((a.getD (3 * i + 1) false).toNat)) + ((a.getD (3 * i + 2) false).toNat)))), (0, .ref h)]) hx hb dX9_headGood_62 hl (k := 2) rfl (iincN _ _) (by decide) rfl (fun ls hl => ?_)
          refine lv_goto (tgt := 2) hx hb dX9_headGood_65 (by decide) ?_
          exact ih2 (i + 1) (by omega) (by omega) _ _ _ ho (lv_sub hl [2, 0] rfl)
  exact LP2 (18 - 0 + 1) 0 (Nat.lt_succ_self _) (by omega) _ _ _ ho (lv_sub hl [1, 0] rfl)

set_option maxHeartbeats 4000000 in
set_option maxRecDepth 100000 in
theorem c_M_mended (la : Launch) (D : va_G) (K : Nat → ClassId) (h : Nat) (ar : Nat → Nat) (ad : Nat) (ck : Nat) (bi : Nat) (lo : Nat) (F : Nat → Nat → Int32) (d : Nat) (f : List Bool) (co : Nat) (q2d : d < 2) (qf : ∀ i, i < 15 → F 2 i = bI (f.getD i false)) (qfl : f.length = 15) (q27 : F 27 d = nI co) : MT la D K yX9_mended cX9_mended 3 (some .boolean) (rmL 4 0 0) [.ref h, .int (nI d)] [bX K h ar ad ck bi lo F] Unit (fun v _ => v = some (.int (bI (hl5 f || (mnd f).isSome)))) (fun _ => [bX K h ar ad ck bi lo (va_up (va_up F 2 (wrL (F 2) 0 (fx f))) 27 (upd (F 27) d (nI (co + (if hl5 f = true then 0 else (mnd f).isSome.toNat)))))]) := by
  refine Mt.ofW [(0, .ref h), (1, .int (nI d))] (by decide) rfl (Nat.le_of_ble_eq_true rfl) ?_
  intro p e s m args below meth c A ls H locs Qz hQ C hin hl ho
  have hx := C.1.1
  have hb := C.1.2.1
  have e_1 : bX K h ar ad ck bi lo F = bX K h ar ad ck bi lo (va_up F 2 (wrL (F 2) 0 (f))) := by rw [wrL_same (by rw [qfl]; exact qf), up_self]
  have ho : ow D vwCl A s.heap H locs [bX K h ar ad ck bi lo (va_up F 2 (wrL (F 2) 0 (f)))] := by rw [← e_1]; exact ho
  refine lv_aload_n hx hb dX9_mended_0 rfl (lv_at hl 0 rfl) ?_
  refine lv_iconst (v := nI 0) hx hb dX9_mended_1 (by decide) ?_
  refine lv_bipush (v := nI 10) hx hb dX9_mended_2 (by decide) ?_
  refine lv_bipush (v := nI 53) hx hb dX9_mended_4 (by decide) ?_
  refine lv_iconst (v := nI 5) hx hb dX9_mended_6 (by decide) ?_
  refine o_callV (wr := []) (rest := []) (As := [.int (nI 0), .int (nI 10), .int (nI 53), .int (nI 5)]) C (c_M_remStands la D K h ar ad ck bi lo (va_up F 2 (wrL (F 2) 0 (f))) 0 10 53 5 (sl (f) 0 10) (sl (f) 10 5) (fun i hi => rd0 (by rw [qfl]; omega) hi) (by rw [sl_len]) (by first | omega | assumption | (simp only [List.length_append, List.length_cons, List.length_nil, List.length_modify, List.length_set, nb_len, rb_len, rbp_len, sl_len, slN_len, wh_len, wt_len, hd10_len, hdB_len, thr_len, ldp_len, ldB_len, tens_len, whz_len, majL_len, mf_len, tkL_len, ldY_len, fif_len, ldY_len]; omega) | decide) (by first | omega | assumption | (simp only [List.length_append, List.length_cons, List.length_nil, List.length_modify, List.length_set, nb_len, rb_len, rbp_len, sl_len, slN_len, wh_len, wt_len, hd10_len, hdB_len, thr_len, ldp_len, ldB_len, tens_len, whz_len, majL_len, mf_len, tkL_len, ldY_len, fif_len, ldY_len]; omega) | decide) (by first | omega | assumption | (simp only [List.length_append, List.length_cons, List.length_nil, List.length_modify, List.length_set, nb_len, rb_len, rbp_len, sl_len, slN_len, wh_len, wt_len, hd10_len, hdB_len, thr_len, ldp_len, ldB_len, tens_len, whz_len, majL_len, mf_len, tkL_len, ldY_len, fif_len, ldY_len]; omega) | decide) (by first | omega | assumption | (simp only [List.length_append, List.length_cons, List.length_nil, List.length_modify, List.length_set, nb_len, rb_len, rbp_len, sl_len, slN_len, wh_len, wt_len, hd10_len, hdB_len, thr_len, ldp_len, ldB_len, tens_len, whz_len, majL_len, mf_len, tkL_len, ldY_len, fif_len, ldY_len]; omega) | decide) (by decide) (by decide) pw53 (fun i hi => rd1 (by rw [qfl]; omega) hi) (sl_len _ _ _) (by first | omega | assumption | (simp only [List.length_append, List.length_cons, List.length_nil, List.length_modify, List.length_set, nb_len, rb_len, rbp_len, sl_len, slN_len, wh_len, wt_len, hd10_len, hdB_len, thr_len, ldp_len, ldB_len, tens_len, whz_len, majL_len, mf_len, tkL_len, ldY_len, fif_len, ldY_len]; omega) | decide)) kX9_149 vX9_remStands (by decide) rfl ho [0] 1 (by decide +kernel) rfl rfl rfl rfl rfl hl.1 rfl (Nat.le_of_ble_eq_true rfl) dX9_mended_7 0 0 rfl rfl (by decide) (fun v u_2 H locs hq ho => ?_)
  obtain rfl := hq
  have ho : ow D vwCl A s.heap H locs [bX K h ar ad ck bi lo (va_up F 2 (wrL (F 2) 0 (f)))] := ho
  refine W.eq (g2 := F0 m 10 ls [.int (bI (decide ((sl (f) 10 5) = rb (crc 53 5 (sl (f) 0 10)) 5)))]) rfl ?_
  refine o_ifb_eq (tgt := 15) hx hb dX9_mended_10 (by decide) (fun c_3 => ?_) (fun c_3 => ?_)
  · skip
    have ch : hl5 f = false := c_3
    refine lv_iconst (v := nI 0) hx hb dX9_mended_15 (by decide) ?_
    refine lv_istore_n (lv' := [(2, .int (nI 0)), (0, .ref h), (1, .int (nI d))]) hx hb dX9_mended_16 rfl hl (by decide) rfl (fun ls hl => ?_)
    have LP17 : ∀ (fuel : Nat) (i : Nat) (_ : 15 - i < fuel) (_ : i ≤ 15) (_ : ∀ j, j < i → hl5 (f.modify j (fun b => !b)) = false) (H : Heap) (locs : List Loc) (ls : Array Slot) (_ : ow D vwCl A s.heap H locs [bX K h ar ad ck bi lo (va_up F 2 (wrL (F 2) 0 (f)))]) (_ : lv_has ls 3 [(0, .ref h), (1, .int (nI d)), (2, .int (nI i))]), W p la e (rmL 4 0 0) s m args below meth c H locs 0 0 Qz (F0 m 17 ls []) := by
      intro fuel
      induction fuel with
      | zero => intro i h0; exact absurd h0 (Nat.not_lt_zero _)
      | succ fuel ih17 =>
        intro i hfu hi hj H locs ls ho hl
        refine lv_iload_n hx hb dX9_mended_17 rfl (lv_at hl 2 rfl) ?_
        refine lv_bipush (v := nI 15) hx hb dX9_mended_18 (by decide) ?_
        refine o_icmp_ge (tgt := 82) hx hb dX9_mended_20 (by decide) (by first | omega | exact and1_lt _) (by first | omega | exact and1_lt _) (fun c_4 => ?_) (fun c_4 => ?_)
        · skip
          have hm := mnd_none (fun j h => hj j (by omega))
          refine lv_iconst (v := nI 0) hx hb dX9_mended_82 (by decide) ?_
          exact o_iret hQ C rfl ho () (by rw [ch, hm]; rfl) (by rw [fx_m ch, show mf f = f by unfold mf; rw [hm], if_neg (by rw [ch]; decide), hm, show co + (none : Option Nat).isSome.toNat = co from rfl, upd_same q27]; exact congrArg (fun z => [bX K h ar ad ck bi lo z]) (up_1 rfl)) (Nat.le_of_ble_eq_true rfl) (Nat.le_of_ble_eq_true rfl) dX9_mended_83
        · skip
          refine lv_aload_n hx hb dX9_mended_23 rfl (lv_at hl 0 rfl) ?_
          refine o_get (v := .ref (ar 2)) C ho 0 0 rfl rfl rfl 6 fX9_16 rfl dX9_mended_24 ?_
          refine lv_iload_n hx hb dX9_mended_27 rfl (lv_at hl 2 rfl) ?_
          refine lv_iconst (v := nI 1) hx hb dX9_mended_28 (by decide) ?_
          refine lv_aload_n hx hb dX9_mended_29 rfl (lv_at hl 0 rfl) ?_
          refine o_get (v := .ref (ar 2)) C ho 0 0 rfl rfl rfl 6 fX9_16 rfl dX9_mended_30 ?_
          refine lv_iload_n hx hb dX9_mended_33 rfl (lv_at hl 2 rfl) ?_
          refine o_iald (v := wrL (F 2) 0 (f) i) C ho 0 3 rfl rfl 0 rfl i rfl (by omega) (by omega) rfl dX9_mended_34 ?_
          refine o_top (y := bI (f.getD i false)) (wrL_in0 (by omega)) ?_
          refine lv_isub hx hb dX9_mended_35 ?_
          refine o_top (y := bI (!f.getD i false)) (bI_sub _) ?_
          refine o_iast (bs' := [bX K h ar ad ck bi lo (va_up (va_up F 2 (wrL (F 2) 0 (f))) 2 (upd (wrL (F 2) 0 (f)) i (bI (!f.getD i false))))]) C ho 0 3 rfl rfl 0 rfl i rfl (by omega) (by decide) dX9_mended_36 rfl (fun H locs ho => ?_)
          have e_5 : bX K h ar ad ck bi lo (va_up (va_up F 2 (wrL (F 2) 0 (f))) 2 (upd (wrL (F 2) 0 (f)) i (bI (!f.getD i false)))) = bX K h ar ad ck bi lo (va_up F 2 (wrL (F 2) 0 (f.modify i (fun b => !b)))) := by rw [bx_uu, wrL_flip (by omega)]
          have ho : ow D vwCl A s.heap H locs [bX K h ar ad ck bi lo (va_up F 2 (wrL (F 2) 0 (f.modify i (fun b => !b))))] := by rw [← e_5]; exact ho
          refine lv_aload_n hx hb dX9_mended_37 rfl (lv_at hl 0 rfl) ?_
          refine lv_iconst (v := nI 0) hx hb dX9_mended_38 (by decide) ?_
          refine lv_bipush (v := nI 10) hx hb dX9_mended_39 (by decide) ?_
          refine lv_bipush (v := nI 53) hx hb dX9_mended_41 (by decide) ?_
          refine lv_iconst (v := nI 5) hx hb dX9_mended_43 (by decide) ?_
          refine o_callV (wr := []) (rest := []) (As := [.int (nI 0), .int (nI 10), .int (nI 53), .int (nI 5)]) C (c_M_remStands la D K h ar ad ck bi lo (va_up F 2 (wrL (F 2) 0 (f.modify i (fun b => !b)))) 0 10 53 5 (sl (f.modify i (fun b => !b)) 0 10) (sl (f.modify i (fun b => !b)) 10 5) (fun i hi => rd0 (by rw [List.length_modify, qfl]; omega) hi) (by rw [sl_len]) (by first | omega | assumption | (simp only [List.length_append, List.length_cons, List.length_nil, List.length_modify, List.length_set, nb_len, rb_len, rbp_len, sl_len, slN_len, wh_len, wt_len, hd10_len, hdB_len, thr_len, ldp_len, ldB_len, tens_len, whz_len, majL_len, mf_len, tkL_len, ldY_len, fif_len, ldY_len]; omega) | decide) (by first | omega | assumption | (simp only [List.length_append, List.length_cons, List.length_nil, List.length_modify, List.length_set, nb_len, rb_len, rbp_len, sl_len, slN_len, wh_len, wt_len, hd10_len, hdB_len, thr_len, ldp_len, ldB_len, tens_len, whz_len, majL_len, mf_len, tkL_len, ldY_len, fif_len, ldY_len]; omega) | decide) (by first | omega | assumption | (simp only [List.length_append, List.length_cons, List.length_nil, List.length_modify, List.length_set, nb_len, rb_len, rbp_len, sl_len, slN_len, wh_len, wt_len, hd10_len, hdB_len, thr_len, ldp_len, ldB_len, tens_len, whz_len, majL_len, mf_len, tkL_len, ldY_len, fif_len, ldY_len]; omega) | decide) (by first | omega | assumption | (simp only [List.length_append, List.length_cons, List.length_nil, List.length_modify, List.length_set, nb_len, rb_len, rbp_len, sl_len, slN_len, wh_len, wt_len, hd10_len, hdB_len, thr_len, ldp_len, ldB_len, tens_len, whz_len, majL_len, mf_len, tkL_len, ldY_len, fif_len, ldY_len]; omega) | decide) (by decide) (by decide) pw53 (fun i hi => rd1 (by rw [List.length_modify, qfl]; omega) hi) (sl_len _ _ _) (by first | omega | assumption | (simp only [List.length_append, List.length_cons, List.length_nil, List.length_modify, List.length_set, nb_len, rb_len, rbp_len, sl_len, slN_len, wh_len, wt_len, hd10_len, hdB_len, thr_len, ldp_len, ldB_len, tens_len, whz_len, majL_len, mf_len, tkL_len, ldY_len, fif_len, ldY_len]; omega) | decide)) kX9_149 vX9_remStands (by decide) rfl ho [0] 1 (by decide +kernel) rfl rfl rfl rfl rfl hl.1 rfl (Nat.le_of_ble_eq_true rfl) dX9_mended_44 0 0 rfl rfl (by decide) (fun v u_6 H locs hq ho => ?_)
          obtain rfl := hq
          have ho : ow D vwCl A s.heap H locs [bX K h ar ad ck bi lo (va_up F 2 (wrL (F 2) 0 (f.modify i (fun b => !b))))] := ho
          refine W.eq (g2 := F0 m 47 ls [.int (bI (decide ((sl (f.modify i (fun b => !b)) 10 5) = rb (crc 53 5 (sl (f.modify i (fun b => !b)) 0 10)) 5)))]) rfl ?_
          refine o_ifb_eq (tgt := 62) hx hb dX9_mended_47 (by decide) (fun c_7 => ?_) (fun c_7 => ?_)
          · skip
            have cz := c_7
            refine lv_aload_n hx hb dX9_mended_62 rfl (lv_at hl 0 rfl) ?_
            refine o_get (v := .ref (ar 2)) C ho 0 0 rfl rfl rfl 6 fX9_16 rfl dX9_mended_63 ?_
            refine lv_iload_n hx hb dX9_mended_66 rfl (lv_at hl 2 rfl) ?_
            refine lv_iconst (v := nI 1) hx hb dX9_mended_67 (by decide) ?_
            refine lv_aload_n hx hb dX9_mended_68 rfl (lv_at hl 0 rfl) ?_
            refine o_get (v := .ref (ar 2)) C ho 0 0 rfl rfl rfl 6 fX9_16 rfl dX9_mended_69 ?_
            refine lv_iload_n hx hb dX9_mended_72 rfl (lv_at hl 2 rfl) ?_
            refine o_iald (v := wrL (F 2) 0 (f.modify i (fun b => !b)) i) C ho 0 3 rfl rfl 0 rfl i rfl (by omega) (by omega) rfl dX9_mended_73 ?_
            refine o_top (y := bI ((f.modify i (fun b => !b)).getD i false)) (wrL_in0 (by rw [List.length_modify]; omega)) ?_
            refine lv_isub hx hb dX9_mended_74 ?_
            refine o_top (y := bI (!(f.modify i (fun b => !b)).getD i false)) (bI_sub _) ?_
            refine o_iast (bs' := [bX K h ar ad ck bi lo (va_up (va_up F 2 (wrL (F 2) 0 (f.modify i (fun b => !b)))) 2 (upd (wrL (F 2) 0 (f.modify i (fun b => !b))) i (bI (!(f.modify i (fun b => !b)).getD i false))))]) C ho 0 3 rfl rfl 0 rfl i rfl (by omega) (by decide) dX9_mended_75 rfl (fun H locs ho => ?_)
            have e_8 : bX K h ar ad ck bi lo (va_up (va_up F 2 (wrL (F 2) 0 (f.modify i (fun b => !b)))) 2 (upd (wrL (F 2) 0 (f.modify i (fun b => !b))) i (bI (!(f.modify i (fun b => !b)).getD i false)))) = bX K h ar ad ck bi lo (va_up F 2 (wrL (F 2) 0 (f))) := by rw [bx_uu, wrL_flip (by rw [List.length_modify]; omega), mod_mod]
            have ho : ow D vwCl A s.heap H locs [bX K h ar ad ck bi lo (va_up F 2 (wrL (F 2) 0 (f)))] := by rw [← e_8]; exact ho
            refine lv_iinc (v := nI (i + 1)) (lv' := [(2, .int (nI (i + 1))), (0, .ref h), (1, .int (nI d))]) hx hb dX9_mended_76 hl (k := 2) rfl (iincN _ _) (by decide) rfl (fun ls hl => ?_)
            refine lv_goto (tgt := 17) hx hb dX9_mended_79 (by decide) ?_
            exact ih17 (i + 1) (by omega) (by omega) (lt_s hj cz) _ _ _ ho (lv_sub hl [1, 2, 0] rfl)
          · skip
            have hm := mnd_some (by omega) hj c_7
            refine lv_aload_n hx hb dX9_mended_50 rfl (lv_at hl 0 rfl) ?_
            refine o_get (v := .ref (ar 27)) C ho 0 0 rfl rfl rfl 31 fX9_92 rfl dX9_mended_51 ?_
            refine lv_iload_n hx hb dX9_mended_54 rfl (lv_at hl 1 rfl) ?_
            refine lv_dup2_11 hx hb dX9_mended_55 rfl rfl ?_
            refine o_iald (v := nI co) C ho 0 28 rfl rfl 0 rfl d rfl (by omega) (by omega) q27 dX9_mended_56 ?_
            refine lv_iconst (v := nI 1) hx hb dX9_mended_57 (by decide) ?_
            refine o_add hx hb dX9_mended_58 ?_
            refine o_iast (bs' := [bX K h ar ad ck bi lo (va_up (va_up F 2 (wrL (F 2) 0 (f.modify i (fun b => !b)))) 27 (upd (F 27) d (nI (co + 1))))]) C ho 0 28 rfl rfl 0 rfl d rfl (by omega) (by decide) dX9_mended_59 rfl (fun H locs ho => ?_)
            refine lv_iconst (v := nI 1) hx hb dX9_mended_60 (by decide) ?_
            exact o_iret hQ C rfl ho () (by rw [ch, hm]; rfl) (by rw [fx_m ch, show mf f = f.modify i (fun b => !b) by unfold mf; rw [hm], if_neg (by rw [ch]; decide), hm]; rfl) (Nat.le_of_ble_eq_true rfl) (Nat.le_of_ble_eq_true rfl) dX9_mended_61
    exact LP17 (15 - 0 + 1) 0 (Nat.lt_succ_self _) (by omega) lt_0 _ _ _ ho (lv_sub hl [1, 2, 0] rfl)
  · skip
    have ch : hl5 f = true := c_3
    refine lv_iconst (v := nI 1) hx hb dX9_mended_13 (by decide) ?_
    exact o_iret hQ C rfl ho () (by rw [ch]; rfl) (by rw [fx_h ch, if_pos ch, Nat.add_zero, upd_same q27]; exact congrArg (fun z => [bX K h ar ad ck bi lo z]) (up_1 rfl)) (Nat.le_of_ble_eq_true rfl) (Nat.le_of_ble_eq_true rfl) dX9_mended_14

set_option maxHeartbeats 4000000 in
set_option maxRecDepth 100000 in
theorem c_M_loadBits3 (la : Launch) (D : va_G) (K : Nat → ClassId) (h : Nat) (ar : Nat → Nat) (ad : Nat) (ck : Nat) (lo : Nat) (F : Nat → Nat → Int32) (d : Nat) (a : List Bool) (c_ : Nat) (co : Nat) (q2d : d < 2) (qa : ∀ i, i < a.length → F 0 i = bI (a.getD i false)) (qw : ∀ i, i < 400 → F 1 i = bI (wb c_ i)) (qal : 54 ≤ a.length) (qal2 : a.length ≤ 204) (q27 : F 27 d = nI co) : MT la D K yX9_loadBits cX9_loadBits 6 (some .boolean) (rmL 5 0 0) [.ref h, .int (nI d), .int (nI 3)] [bX K h ar ad ck a.length lo F] (Nat → Int32) (fun v _ => v = some (.int (bI (lds 3 a)))) (fun u => [bX K h ar ad ck a.length (15 + (ldl 3 c_ a).length) (va_up (va_up F 2 (wrL u 15 (ldl 3 c_ a))) 27 (upd (F 27) d (nI (co + ldn 3 a))))]) := by
  refine Mt.ofW [(0, .ref h), (1, .int (nI d)), (2, .int (nI 3))] (by decide) rfl (Nat.le_of_ble_eq_true rfl) ?_
  intro p e s m args below meth c A ls H locs Qz hQ C hin hl ho
  have hx := C.1.1
  have hb := C.1.2.1
  refine lv_iconst (v := nI 1) hx hb dX9_loadBits_0 (by decide) ?_
  refine lv_istore_n (lv' := [(3, .int (nI 1)), (0, .ref h), (1, .int (nI d)), (2, .int (nI 3))]) hx hb dX9_loadBits_1 rfl hl (by decide) rfl (fun ls hl => ?_)
  refine lv_aload_n hx hb dX9_loadBits_2 rfl (lv_at hl 1 rfl) ?_
  refine lv_bipush (v := nI 15) hx hb dX9_loadBits_3 (by decide) ?_
  refine o_put (v := .int (nI 15)) (bs' := [bX K h ar ad ck a.length 15 F]) C ho 0 0 rfl rfl rfl 5 fX9_103 pX9_5 rfl rfl (Nat.le_of_ble_eq_true rfl) dX9_loadBits_5 rfl (fun H locs ho => ?_)
  refine lv_bipush (v := nI 54) hx hb dX9_loadBits_8 (by decide) ?_
  refine lv_istore (lv' := [(4, .int (nI 54)), (3, .int (nI 1)), (0, .ref h), (1, .int (nI d)), (2, .int (nI 3))]) hx hb dX9_loadBits_10 hl (by decide) rfl (fun ls hl => ?_)
  have e_1 : (.int (nI 1) : Value) = .int (bI (tkS a 0)) := rfl
  have hl : lv_has ls 6 [(4, .int (nI 54)), (3, .int (bI (tkS a 0))), (0, .ref h), (1, .int (nI d)), (2, .int (nI 3))] := by rw [← e_1]; exact hl
  have e_2 : (.int (nI 54) : Value) = .int (nI (54 + 15 * 0)) := rfl
  have hl : lv_has ls 6 [(4, .int (nI (54 + 15 * 0))), (3, .int (bI (tkS a 0))), (0, .ref h), (1, .int (nI d)), (2, .int (nI 3))] := by rw [← e_2]; exact hl
  have e_3 : bX K h ar ad ck a.length 15 F = bX K h ar ad ck a.length (15 + 10 * 0) (va_up (va_up F 2 (wrL (F 2) 15 (tkL a 0))) 27 (upd (F 27) d (nI (co + tkC a 0)))) := by rw [show tkL a 0 = [] from rfl, wrL_nil, show co + tkC a 0 = co from rfl, upd_same q27, up_self, up_self]
  have ho : ow D vwCl A s.heap H locs [bX K h ar ad ck a.length (15 + 10 * 0) (va_up (va_up F 2 (wrL (F 2) 15 (tkL a 0))) 27 (upd (F 27) d (nI (co + tkC a 0))))] := by rw [← e_3]; exact ho
  have LP12 : ∀ (fuel : Nat) (k : Nat) (g : Nat → Int32) (_ : ((a.length - 54) / 15) - k < fuel) (_ : k ≤ ((a.length - 54) / 15)) (H : Heap) (locs : List Loc) (ls : Array Slot) (_ : ow D vwCl A s.heap H locs [bX K h ar ad ck a.length (15 + 10 * k) (va_up (va_up F 2 (wrL g 15 (tkL a k))) 27 (upd (F 27) d (nI (co + tkC a k))))]) (_ : lv_has ls 6 [(0, .ref h), (1, .int (nI d)), (2, .int (nI 3)), (3, .int (bI (tkS a k))), (4, .int (nI (54 + 15 * k)))]), W p la e (rmL 5 0 0) s m args below meth c H locs 0 0 Qz (F0 m 12 ls []) := by
    intro fuel
    induction fuel with
    | zero => intro k g h0; exact absurd h0 (Nat.not_lt_zero _)
    | succ fuel ih12 =>
      intro k g hfu hk H locs ls ho hl
      refine lv_iload_n hx hb dX9_loadBits_12 rfl (lv_at hl 2 rfl) ?_
      refine lv_iconst (v := nI 3) hx hb dX9_loadBits_13 (by decide) ?_
      refine o_icmp_ne (tgt := 104) hx hb dX9_loadBits_14 (by decide) (by decide) (by decide) (fun c9 => absurd c9 (by decide)) (fun _ => ?_)
      refine lv_iload hx hb dX9_loadBits_17 (lv_at hl 4 rfl) ?_
      refine lv_bipush (v := nI 15) hx hb dX9_loadBits_19 (by decide) ?_
      refine o_add hx hb dX9_loadBits_21 ?_
      refine lv_aload_n hx hb dX9_loadBits_22 rfl (lv_at hl 0 rfl) ?_
      refine o_get (v := .int (nI a.length)) C ho 0 0 rfl rfl rfl 2 fX9_122 rfl dX9_loadBits_23 ?_
      refine o_icmp_gt (tgt := 104) hx hb dX9_loadBits_26 (by decide) (by first | omega | exact and1_lt _) (by first | omega | exact and1_lt _) (fun c_4 => ?_) (fun c_4 => ?_)
      · skip
        refine lv_bipush (v := nI 54) hx hb dX9_loadBits_104 (by decide) ?_
        refine lv_istore (lv' := [(4, .int (nI 54)), (0, .ref h), (1, .int (nI d)), (2, .int (nI 3)), (3, .int (bI (tkS a k)))]) hx hb dX9_loadBits_106 hl (by decide) rfl (fun ls hl => ?_)
        refine lv_iload_n hx hb dX9_loadBits_108 rfl (lv_at hl 3 rfl) ?_
        refine lv_iconst (v := nI 4) hx hb dX9_loadBits_109 (by decide) ?_
        refine o_icmp_ne (tgt := 140) hx hb dX9_loadBits_110 (by decide) (by decide) (by decide) (fun _ => ?_) (fun c9 => absurd c9 (by decide))
        have hkk : k = ((a.length - 54) / 15) := by omega
        have e_5 : (.int (bI (tkS a k)) : Value) = .int (bI (lds 3 a)) := by rw [lds_3, ← hkk]
        have hl : lv_has ls 6 [(4, .int (nI 54)), (0, .ref h), (1, .int (nI d)), (2, .int (nI 3)), (3, .int (bI (lds 3 a)))] := by rw [← e_5]; exact hl
        have e_6 : bX K h ar ad ck a.length (15 + 10 * k) (va_up (va_up F 2 (wrL g 15 (tkL a k))) 27 (upd (F 27) d (nI (co + tkC a k)))) = bX K h ar ad ck a.length (15 + (ldi 3 a).length) (va_up (va_up F 2 (wrL g 15 (ldi 3 a))) 27 (upd (F 27) d (nI (co + ldn 3 a)))) := by rw [ldi_3, ldn_3, ← hkk, tkL_len]
        have ho : ow D vwCl A s.heap H locs [bX K h ar ad ck a.length (15 + (ldi 3 a).length) (va_up (va_up F 2 (wrL g 15 (ldi 3 a))) 27 (upd (F 27) d (nI (co + ldn 3 a))))] := by rw [← e_6]; exact ho
        refine lv_bipush (v := nI 15) hx hb dX9_loadBits_140 (by decide) ?_
        refine lv_istore (lv' := [(4, .int (nI 15)), (0, .ref h), (1, .int (nI d)), (2, .int (nI 3)), (3, .int (bI (lds 3 a)))]) hx hb dX9_loadBits_142 hl (by decide) rfl (fun ls hl => ?_)
        have e_7 : (.int (nI 15) : Value) = .int (nI (15 + 0)) := rfl
        have hl : lv_has ls 6 [(4, .int (nI (15 + 0))), (0, .ref h), (1, .int (nI d)), (2, .int (nI 3)), (3, .int (bI (lds 3 a)))] := by rw [← e_7]; exact hl
        have e_8 : bX K h ar ad ck a.length (15 + (ldi 3 a).length) (va_up (va_up F 2 (wrL g 15 (ldi 3 a))) 27 (upd (F 27) d (nI (co + ldn 3 a)))) = bX K h ar ad ck a.length (15 + (ldi 3 a).length) (va_up (va_up F 2 (wrL g 15 (wh (ldi 3 a) (wt c_) 18 0))) 27 (upd (F 27) d (nI (co + ldn 3 a)))) := by rw [wh_0]
        have ho : ow D vwCl A s.heap H locs [bX K h ar ad ck a.length (15 + (ldi 3 a).length) (va_up (va_up F 2 (wrL g 15 (wh (ldi 3 a) (wt c_) 18 0))) 27 (upd (F 27) d (nI (co + ldn 3 a))))] := by rw [← e_8]; exact ho
        have LP144 : ∀ (fuel : Nat) (z : Nat) (_ : (ldi 3 a).length - z < fuel) (_ : z ≤ (ldi 3 a).length) (H : Heap) (locs : List Loc) (ls : Array Slot) (_ : ow D vwCl A s.heap H locs [bX K h ar ad ck a.length (15 + (ldi 3 a).length) (va_up (va_up F 2 (wrL g 15 (wh (ldi 3 a) (wt c_) 18 z))) 27 (upd (F 27) d (nI (co + ldn 3 a))))]) (_ : lv_has ls 6 [(0, .ref h), (3, .int (bI (lds 3 a))), (4, .int (nI (15 + z)))]), W p la e (rmL 5 0 0) s m args below meth c H locs 0 0 Qz (F0 m 144 ls []) := by
          intro fuel
          induction fuel with
          | zero => intro z h0; exact absurd h0 (Nat.not_lt_zero _)
          | succ fuel ih144 =>
            intro z hfu hz H locs ls ho hl
            have hl150 := ldi_le (kd := 3) qal2
            refine lv_iload hx hb dX9_loadBits_144 (lv_at hl 2 rfl) ?_
            refine lv_aload_n hx hb dX9_loadBits_146 rfl (lv_at hl 0 rfl) ?_
            refine o_get (v := .int (nI (15 + (ldi 3 a).length))) C ho 0 0 rfl rfl rfl 5 fX9_103 rfl dX9_loadBits_147 ?_
            refine o_icmp_ge (tgt := 178) hx hb dX9_loadBits_150 (by decide) (by first | omega | exact and1_lt _) (by first | omega | exact and1_lt _) (fun c_9 => ?_) (fun c_9 => ?_)
            · skip
              refine lv_iload_n hx hb dX9_loadBits_178 rfl (lv_at hl 1 rfl) ?_
              exact o_iret hQ C (nar_b _) ho g rfl (by rw [ldl, whz, wh_len, show z = (ldi 3 a).length by omega]) (Nat.le_of_ble_eq_true rfl) (Nat.le_of_ble_eq_true rfl) dX9_loadBits_179
            · skip
              refine lv_aload_n hx hb dX9_loadBits_153 rfl (lv_at hl 0 rfl) ?_
              refine o_get (v := .ref (ar 2)) C ho 0 0 rfl rfl rfl 6 fX9_16 rfl dX9_loadBits_154 ?_
              refine lv_iload hx hb dX9_loadBits_157 (lv_at hl 2 rfl) ?_
              refine lv_dup2_11 hx hb dX9_loadBits_159 rfl rfl ?_
              refine o_iald (v := wrL g 15 (wh (ldi 3 a) (wt c_) 18 z) (15 + z)) C ho 0 3 rfl rfl 0 rfl (15 + z) rfl (by omega) (by omega) rfl dX9_loadBits_160 ?_
              refine o_top (y := bI ((wh (ldi 3 a) (wt c_) 18 z).getD z false)) (wrL_in (by rw [wh_len]; omega)) ?_
              refine lv_aload_n hx hb dX9_loadBits_161 rfl (lv_at hl 0 rfl) ?_
              refine o_get (v := .ref (ar 1)) C ho 0 0 rfl rfl rfl 4 fX9_13 rfl dX9_loadBits_162 ?_
              refine lv_iconst (v := nI 3) hx hb dX9_loadBits_165 (by decide) ?_
              refine lv_iload hx hb dX9_loadBits_166 (lv_at hl 2 rfl) ?_
              refine o_add hx hb dX9_loadBits_168 ?_
              refine o_iald (v := F 1 (3 + (15 + z))) C ho 0 2 rfl rfl 0 rfl (3 + (15 + z)) rfl (by omega) (by omega) rfl dX9_loadBits_169 ?_
              refine o_top (y := bI ((wt c_).getD (18 + z) false)) (by rw [qw _ (by omega), wt_getD (by omega), show 3 + (15 + z) = 18 + z by omega]) ?_
              refine o_xorb hx hb dX9_loadBits_170 ?_
              refine o_iast (bs' := [bX K h ar ad ck a.length (15 + (ldi 3 a).length) (va_up (va_up (va_up F 2 (wrL g 15 (wh (ldi 3 a) (wt c_) 18 z))) 27 (upd (F 27) d (nI (co + ldn 3 a)))) 2 (upd (wrL g 15 (wh (ldi 3 a) (wt c_) 18 z)) (15 + z) (bI (((wh (ldi 3 a) (wt c_) 18 z).getD z false) ^^ ((wt c_).getD (18 + z) false)))))]) C ho 0 3 rfl rfl 0 rfl (15 + z) rfl (by omega) (by decide) dX9_loadBits_171 rfl (fun H locs ho => ?_)
              have e_10 : bX K h ar ad ck a.length (15 + (ldi 3 a).length) (va_up (va_up (va_up F 2 (wrL g 15 (wh (ldi 3 a) (wt c_) 18 z))) 27 (upd (F 27) d (nI (co + ldn 3 a)))) 2 (upd (wrL g 15 (wh (ldi 3 a) (wt c_) 18 z)) (15 + z) (bI (((wh (ldi 3 a) (wt c_) 18 z).getD z false) ^^ ((wt c_).getD (18 + z) false))))) = bX K h ar ad ck a.length (15 + (ldi 3 a).length) (va_up (va_up F 2 (wrL g 15 (wh (ldi 3 a) (wt c_) 18 (z + 1)))) 27 (upd (F 27) d (nI (co + ldn 3 a)))) := by rw [up_c227, wrL_set (by rw [wh_len]; omega), wh_succ (by omega)]
              have ho : ow D vwCl A s.heap H locs [bX K h ar ad ck a.length (15 + (ldi 3 a).length) (va_up (va_up F 2 (wrL g 15 (wh (ldi 3 a) (wt c_) 18 (z + 1)))) 27 (upd (F 27) d (nI (co + ldn 3 a))))] := by rw [← e_10]; exact ho
              refine lv_iinc (v := nI (15 + z + 1)) (lv' := [(4, .int (nI (15 + z + 1))), (0, .ref h), (3, .int (bI (lds 3 a)))]) hx hb dX9_loadBits_172 hl (k := 2) rfl (iincN _ _) (by decide) rfl (fun ls hl => ?_)
              have e_11 : (.int (nI (15 + z + 1)) : Value) = .int (nI (15 + (z + 1))) := rfl
              have hl : lv_has ls 6 [(4, .int (nI (15 + (z + 1)))), (0, .ref h), (3, .int (bI (lds 3 a)))] := by rw [← e_11]; exact hl
              refine lv_goto (tgt := 144) hx hb dX9_loadBits_175 (by decide) ?_
              exact ih144 (z + 1) (by omega) (by omega) _ _ _ ho (lv_sub hl [1, 2, 0] rfl)
        exact LP144 ((ldi 3 a).length - 0 + 1) 0 (Nat.lt_succ_self _) (by omega) _ _ _ ho (lv_sub hl [1, 4, 0] rfl)
      · skip
        refine lv_iconst (v := nI 0) hx hb dX9_loadBits_29 (by decide) ?_
        refine lv_istore (lv' := [(5, .int (nI 0)), (0, .ref h), (1, .int (nI d)), (2, .int (nI 3)), (3, .int (bI (tkS a k))), (4, .int (nI (54 + 15 * k)))]) hx hb dX9_loadBits_30 hl (by decide) rfl (fun ls hl => ?_)
        have e_12 : bX K h ar ad ck a.length (15 + 10 * k) (va_up (va_up F 2 (wrL g 15 (tkL a k))) 27 (upd (F 27) d (nI (co + tkC a k)))) = bX K h ar ad ck a.length (15 + 10 * k) (va_up (va_up F 2 (wrL (wrL g 15 (tkL a k)) 0 (sl a (54 + 15 * k) 0))) 27 (upd (F 27) d (nI (co + tkC a k)))) := by rw [sl_0, wrL_nil]
        have ho : ow D vwCl A s.heap H locs [bX K h ar ad ck a.length (15 + 10 * k) (va_up (va_up F 2 (wrL (wrL g 15 (tkL a k)) 0 (sl a (54 + 15 * k) 0))) 27 (upd (F 27) d (nI (co + tkC a k))))] := by rw [← e_12]; exact ho
        have LP32 : ∀ (fuel : Nat) (j : Nat) (_ : 15 - j < fuel) (_ : j ≤ 15) (H : Heap) (locs : List Loc) (ls : Array Slot) (_ : ow D vwCl A s.heap H locs [bX K h ar ad ck a.length (15 + 10 * k) (va_up (va_up F 2 (wrL (wrL g 15 (tkL a k)) 0 (sl a (54 + 15 * k) j))) 27 (upd (F 27) d (nI (co + tkC a k))))]) (_ : lv_has ls 6 [(0, .ref h), (1, .int (nI d)), (2, .int (nI 3)), (3, .int (bI (tkS a k))), (4, .int (nI (54 + 15 * k))), (5, .int (nI j))]), W p la e (rmL 5 0 0) s m args below meth c H locs 0 0 Qz (F0 m 32 ls []) := by
          intro fuel
          induction fuel with
          | zero => intro j h0; exact absurd h0 (Nat.not_lt_zero _)
          | succ fuel ih32 =>
            intro j hfu hj H locs ls ho hl
            refine lv_iload hx hb dX9_loadBits_32 (lv_at hl 5 rfl) ?_
            refine lv_bipush (v := nI 15) hx hb dX9_loadBits_34 (by decide) ?_
            refine o_icmp_ge (tgt := 62) hx hb dX9_loadBits_36 (by decide) (by first | omega | exact and1_lt _) (by first | omega | exact and1_lt _) (fun c_13 => ?_) (fun c_13 => ?_)
            · skip
              have e_14 : bX K h ar ad ck a.length (15 + 10 * k) (va_up (va_up F 2 (wrL (wrL g 15 (tkL a k)) 0 (sl a (54 + 15 * k) j))) 27 (upd (F 27) d (nI (co + tkC a k)))) = bX K h ar ad ck a.length (15 + 10 * k) (va_up (va_up F 2 (wrL (wrL g 15 (tkL a k)) 0 (fif a k))) 27 (upd (F 27) d (nI (co + tkC a k)))) := by rw [show j = 15 by omega]; rfl
              have ho : ow D vwCl A s.heap H locs [bX K h ar ad ck a.length (15 + 10 * k) (va_up (va_up F 2 (wrL (wrL g 15 (tkL a k)) 0 (fif a k))) 27 (upd (F 27) d (nI (co + tkC a k))))] := by rw [← e_14]; exact ho
              refine lv_iload_n hx hb dX9_loadBits_62 rfl (lv_at hl 3 rfl) ?_
              refine lv_aload_n hx hb dX9_loadBits_63 rfl (lv_at hl 0 rfl) ?_
              refine lv_iload_n hx hb dX9_loadBits_64 rfl (lv_at hl 1 rfl) ?_
              refine o_callV (wr := []) (rest := [.int (bI (tkS a k))]) (As := [.int (nI d)]) C (c_M_mended la D K h ar ad ck a.length (15 + 10 * k) (va_up (va_up F 2 (wrL (wrL g 15 (tkL a k)) 0 (fif a k))) 27 (upd (F 27) d (nI (co + tkC a k)))) d (fif a k) (co + tkC a k) (by first | omega | assumption | (simp only [List.length_append, List.length_cons, List.length_nil, List.length_modify, List.length_set, nb_len, rb_len, rbp_len, sl_len, slN_len, wh_len, wt_len, hd10_len, hdB_len, thr_len, ldp_len, ldB_len, tens_len, whz_len, majL_len, mf_len, tkL_len, ldY_len, fif_len, ldY_len]; omega) | decide) (fun i hi => wrL_in0 (by rw [fif_len]; exact hi)) (fif_len _ _) pk_us) kX9_157 vX9_mended (by decide) rfl ho [0] 1 (by decide +kernel) rfl rfl rfl rfl rfl hl.1 rfl (Nat.le_of_ble_eq_true rfl) dX9_loadBits_65 0 0 rfl rfl (by decide) (fun v u_15 H locs hq ho => ?_)
              obtain rfl := hq
              have ho : ow D vwCl A s.heap H locs [bX K h ar ad ck a.length (15 + 10 * k) (va_up (va_up (va_up (va_up F 2 (wrL (wrL g 15 (tkL a k)) 0 (fif a k))) 27 (upd (F 27) d (nI (co + tkC a k)))) 2 (wrL (wrL (wrL g 15 (tkL a k)) 0 (fif a k)) 0 (fx (fif a k)))) 27 (upd (upd (F 27) d (nI (co + tkC a k))) d (nI ((co + tkC a k) + (if hl5 (fif a k) = true then 0 else (mnd (fif a k)).isSome.toNat)))))] := ho
              refine W.eq (g2 := F0 m 68 ls [.int (bI (hl5 (fif a k) || (mnd (fif a k)).isSome)), .int (bI (tkS a k))]) rfl ?_
              have e_16 : bX K h ar ad ck a.length (15 + 10 * k) (va_up (va_up (va_up (va_up F 2 (wrL (wrL g 15 (tkL a k)) 0 (fif a k))) 27 (upd (F 27) d (nI (co + tkC a k)))) 2 (wrL (wrL (wrL g 15 (tkL a k)) 0 (fif a k)) 0 (fx (fif a k)))) 27 (upd (upd (F 27) d (nI (co + tkC a k))) d (nI ((co + tkC a k) + (if hl5 (fif a k) = true then 0 else (mnd (fif a k)).isSome.toNat))))) = bX K h ar ad ck a.length (15 + 10 * k) (va_up (va_up F 2 (wrL (wrL g 15 (tkL a k)) 0 (fx (fif a k)))) 27 (upd (F 27) d (nI (co + tkC a (k + 1))))) := by rw [up_c227, bx_uu, wrL_over (by rw [fx_len]), upd_upd, Nat.add_assoc] <;> rfl
              have ho : ow D vwCl A s.heap H locs [bX K h ar ad ck a.length (15 + 10 * k) (va_up (va_up F 2 (wrL (wrL g 15 (tkL a k)) 0 (fx (fif a k)))) 27 (upd (F 27) d (nI (co + tkC a (k + 1)))))] := by rw [← e_16]; exact ho
              refine lv_iand hx hb dX9_loadBits_68 ?_
              refine o_top (y := bI (tkS a (k + 1))) (by rw [bI_and]; rfl) ?_
              refine lv_istore_n (lv' := [(3, .int (bI (tkS a (k + 1)))), (0, .ref h), (1, .int (nI d)), (2, .int (nI 3)), (4, .int (nI (54 + 15 * k))), (5, .int (nI j))]) hx hb dX9_loadBits_69 rfl hl (by decide) rfl (fun ls hl => ?_)
              refine lv_iconst (v := nI 0) hx hb dX9_loadBits_70 (by decide) ?_
              refine lv_istore (lv' := [(5, .int (nI 0)), (3, .int (bI (tkS a (k + 1)))), (0, .ref h), (1, .int (nI d)), (2, .int (nI 3)), (4, .int (nI (54 + 15 * k)))]) hx hb dX9_loadBits_71 hl (by decide) rfl (fun ls hl => ?_)
              have e_17 : bX K h ar ad ck a.length (15 + 10 * k) (va_up (va_up F 2 (wrL (wrL g 15 (tkL a k)) 0 (fx (fif a k)))) 27 (upd (F 27) d (nI (co + tkC a (k + 1))))) = bX K h ar ad ck a.length (15 + 10 * k + 0) (va_up (va_up F 2 (wrL (wrL g 15 (tkL a k ++ sl (fx (fif a k)) 0 0)) 0 (fx (fif a k)))) 27 (upd (F 27) d (nI (co + tkC a (k + 1))))) := by rw [sl_0, List.append_nil] <;> rfl
              have ho : ow D vwCl A s.heap H locs [bX K h ar ad ck a.length (15 + 10 * k + 0) (va_up (va_up F 2 (wrL (wrL g 15 (tkL a k ++ sl (fx (fif a k)) 0 0)) 0 (fx (fif a k)))) 27 (upd (F 27) d (nI (co + tkC a (k + 1)))))] := by rw [← e_17]; exact ho
              have LP73 : ∀ (fuel : Nat) (j : Nat) (_ : 10 - j < fuel) (_ : j ≤ 10) (H : Heap) (locs : List Loc) (ls : Array Slot) (_ : ow D vwCl A s.heap H locs [bX K h ar ad ck a.length (15 + 10 * k + j) (va_up (va_up F 2 (wrL (wrL g 15 (tkL a k ++ sl (fx (fif a k)) 0 j)) 0 (fx (fif a k)))) 27 (upd (F 27) d (nI (co + tkC a (k + 1)))))]) (_ : lv_has ls 6 [(0, .ref h), (1, .int (nI d)), (2, .int (nI 3)), (3, .int (bI (tkS a (k + 1)))), (4, .int (nI (54 + 15 * k))), (5, .int (nI j))]), W p la e (rmL 5 0 0) s m args below meth c H locs 0 0 Qz (F0 m 73 ls []) := by
                intro fuel
                induction fuel with
                | zero => intro j h0; exact absurd h0 (Nat.not_lt_zero _)
                | succ fuel ih73 =>
                  intro j hfu hj H locs ls ho hl
                  refine lv_iload hx hb dX9_loadBits_73 (lv_at hl 5 rfl) ?_
                  refine lv_bipush (v := nI 10) hx hb dX9_loadBits_75 (by decide) ?_
                  refine o_icmp_ge (tgt := 98) hx hb dX9_loadBits_77 (by decide) (by first | omega | exact and1_lt _) (by first | omega | exact and1_lt _) (fun c_18 => ?_) (fun c_18 => ?_)
                  · skip
                    have e_19 : bX K h ar ad ck a.length (15 + 10 * k + j) (va_up (va_up F 2 (wrL (wrL g 15 (tkL a k ++ sl (fx (fif a k)) 0 j)) 0 (fx (fif a k)))) 27 (upd (F 27) d (nI (co + tkC a (k + 1))))) = bX K h ar ad ck a.length (15 + 10 * (k + 1)) (va_up (va_up F 2 (wrL (wrL g 0 (fx (fif a k))) 15 (tkL a (k + 1)))) 27 (upd (F 27) d (nI (co + tkC a (k + 1))))) := by rw [show j = 10 by omega, wrL_swap (p := 15) (X := fx (fif a k)) (by rw [fx_len, fif_len]; omega), show 15 + 10 * k + 10 = 15 + 10 * (k + 1) by omega] <;> rfl
                    have ho : ow D vwCl A s.heap H locs [bX K h ar ad ck a.length (15 + 10 * (k + 1)) (va_up (va_up F 2 (wrL (wrL g 0 (fx (fif a k))) 15 (tkL a (k + 1)))) 27 (upd (F 27) d (nI (co + tkC a (k + 1)))))] := by rw [← e_19]; exact ho
                    refine lv_iinc (v := nI (54 + 15 * k + 15)) (lv' := [(4, .int (nI (54 + 15 * k + 15))), (0, .ref h), (1, .int (nI d)), (2, .int (nI 3)), (3, .int (bI (tkS a (k + 1)))), (5, .int (nI j))]) hx hb dX9_loadBits_98 hl (k := 4) rfl (iincN _ _) (by decide) rfl (fun ls hl => ?_)
                    have e_20 : (.int (nI (54 + 15 * k + 15)) : Value) = .int (nI (54 + 15 * (k + 1))) := rfl
                    have hl : lv_has ls 6 [(4, .int (nI (54 + 15 * (k + 1)))), (0, .ref h), (1, .int (nI d)), (2, .int (nI 3)), (3, .int (bI (tkS a (k + 1)))), (5, .int (nI j))] := by rw [← e_20]; exact hl
                    refine lv_goto (tgt := 12) hx hb dX9_loadBits_101 (by decide) ?_
                    exact ih12 (k + 1) (wrL g 0 (fx (fif a k))) (by omega) (by omega) _ _ _ ho (lv_sub hl [1, 2, 3, 4, 0] rfl)
                  · skip
                    refine lv_aload_n hx hb dX9_loadBits_80 rfl (lv_at hl 0 rfl) ?_
                    refine lv_aload_n hx hb dX9_loadBits_81 rfl (lv_at hl 0 rfl) ?_
                    refine o_get (v := .ref (ar 2)) C ho 0 0 rfl rfl rfl 6 fX9_16 rfl dX9_loadBits_82 ?_
                    refine lv_iload hx hb dX9_loadBits_85 (lv_at hl 5 rfl) ?_
                    refine o_iald (v := wrL (wrL g 15 (tkL a k ++ sl (fx (fif a k)) 0 j)) 0 (fx (fif a k)) j) C ho 0 3 rfl rfl 0 rfl j rfl (by omega) (by omega) rfl dX9_loadBits_87 ?_
                    refine o_top (y := nI (((fx (fif a k)).getD j false).toNat)) (by rw [wrL_in0 (by rw [fx_len, fif_len]; omega), bI_N]) ?_
                    refine lv_iconst (v := nI 1) hx hb dX9_loadBits_88 (by decide) ?_
                    refine o_callV (wr := []) (rest := []) (As := [.int (nI (((fx (fif a k)).getD j false).toNat)), .int (nI 1)]) C (c_M_put la D K h ar ad ck a.length (15 + 10 * k + j) (va_up (va_up F 2 (wrL (wrL g 15 (tkL a k ++ sl (fx (fif a k)) 0 j)) 0 (fx (fif a k)))) 27 (upd (F 27) d (nI (co + tkC a (k + 1))))) (((fx (fif a k)).getD j false).toNat) 1 (tN_lt _) (by first | omega | assumption | (simp only [List.length_append, List.length_cons, List.length_nil, List.length_modify, List.length_set, nb_len, rb_len, rbp_len, sl_len, slN_len, wh_len, wt_len, hd10_len, hdB_len, thr_len, ldp_len, ldB_len, tens_len, whz_len, majL_len, mf_len, tkL_len, ldY_len, fif_len, ldY_len]; omega) | decide) (by first | omega | assumption | (simp only [List.length_append, List.length_cons, List.length_nil, List.length_modify, List.length_set, nb_len, rb_len, rbp_len, sl_len, slN_len, wh_len, wt_len, hd10_len, hdB_len, thr_len, ldp_len, ldB_len, tens_len, whz_len, majL_len, mf_len, tkL_len, ldY_len, fif_len, ldY_len]; omega) | decide)) kX9_114 vX9_put (by decide) rfl ho [0] 1 (by decide +kernel) rfl rfl rfl rfl rfl hl.1 rfl (Nat.le_of_ble_eq_true rfl) dX9_loadBits_89 0 0 rfl rfl (by decide) (fun v u_21 H locs hq ho => ?_)
                    obtain rfl := hq
                    have ho : ow D vwCl A s.heap H locs [bX K h ar ad ck a.length ((15 + 10 * k + j) + 1) (va_up (va_up (va_up F 2 (wrL (wrL g 15 (tkL a k ++ sl (fx (fif a k)) 0 j)) 0 (fx (fif a k)))) 27 (upd (F 27) d (nI (co + tkC a (k + 1))))) 2 (wrL (wrL (wrL g 15 (tkL a k ++ sl (fx (fif a k)) 0 j)) 0 (fx (fif a k))) (15 + 10 * k + j) (nb (((fx (fif a k)).getD j false).toNat) 1)))] := ho
                    refine W.eq (g2 := F0 m 92 ls []) rfl ?_
                    have e_22 : bX K h ar ad ck a.length ((15 + 10 * k + j) + 1) (va_up (va_up (va_up F 2 (wrL (wrL g 15 (tkL a k ++ sl (fx (fif a k)) 0 j)) 0 (fx (fif a k)))) 27 (upd (F 27) d (nI (co + tkC a (k + 1))))) 2 (wrL (wrL (wrL g 15 (tkL a k ++ sl (fx (fif a k)) 0 j)) 0 (fx (fif a k))) (15 + 10 * k + j) (nb (((fx (fif a k)).getD j false).toNat) 1))) = bX K h ar ad ck a.length (15 + 10 * k + (j + 1)) (va_up (va_up F 2 (wrL (wrL g 15 (tkL a k ++ sl (fx (fif a k)) 0 (j + 1))) 0 (fx (fif a k)))) 27 (upd (F 27) d (nI (co + tkC a (k + 1))))) := by rw [up_c227, wrL_swap (by rw [fx_len, fif_len]; omega), wrL_app (f := g) (lo := 15) (l := tkL a k ++ sl (fx (fif a k)) 0 j) (p := 15 + 10 * k + j) (by rw [List.length_append, tkL_len, sl_len]; omega), nb_b, sl_succ, Nat.zero_add, List.append_assoc] <;> rfl
                    have ho : ow D vwCl A s.heap H locs [bX K h ar ad ck a.length (15 + 10 * k + (j + 1)) (va_up (va_up F 2 (wrL (wrL g 15 (tkL a k ++ sl (fx (fif a k)) 0 (j + 1))) 0 (fx (fif a k)))) 27 (upd (F 27) d (nI (co + tkC a (k + 1)))))] := by rw [← e_22]; exact ho
                    refine lv_iinc (v := nI (j + 1)) (lv' := [(5, .int (nI (j + 1))), (0, .ref h), (1, .int (nI d)), (2, .int (nI 3)), (3, .int (bI (tkS a (k + 1)))), (4, .int (nI (54 + 15 * k)))]) hx hb dX9_loadBits_92 hl (k := 5) rfl (iincN _ _) (by decide) rfl (fun ls hl => ?_)
                    refine lv_goto (tgt := 73) hx hb dX9_loadBits_95 (by decide) ?_
                    exact ih73 (j + 1) (by omega) (by omega) _ _ _ ho (lv_sub hl [1, 2, 3, 4, 5, 0] rfl)
              exact LP73 (10 - 0 + 1) 0 (Nat.lt_succ_self _) (by omega) _ _ _ ho (lv_sub hl [2, 3, 4, 1, 5, 0] rfl)
            · skip
              refine lv_aload_n hx hb dX9_loadBits_39 rfl (lv_at hl 0 rfl) ?_
              refine o_get (v := .ref (ar 2)) C ho 0 0 rfl rfl rfl 6 fX9_16 rfl dX9_loadBits_40 ?_
              refine lv_iload hx hb dX9_loadBits_43 (lv_at hl 5 rfl) ?_
              refine lv_aload_n hx hb dX9_loadBits_45 rfl (lv_at hl 0 rfl) ?_
              refine o_get (v := .ref (ar 0)) C ho 0 0 rfl rfl rfl 3 fX9_7 rfl dX9_loadBits_46 ?_
              refine lv_iload hx hb dX9_loadBits_49 (lv_at hl 4 rfl) ?_
              refine lv_iload hx hb dX9_loadBits_51 (lv_at hl 5 rfl) ?_
              refine o_add hx hb dX9_loadBits_53 ?_
              refine o_iald (v := F 0 ((54 + 15 * k) + j)) C ho 0 1 rfl rfl 0 rfl ((54 + 15 * k) + j) rfl (by omega) (by omega) rfl dX9_loadBits_54 ?_
              refine o_top (y := bI (a.getD ((54 + 15 * k) + j) false)) (qa _ (by omega)) ?_
              refine o_iast (bs' := [bX K h ar ad ck a.length (15 + 10 * k) (va_up (va_up (va_up F 2 (wrL (wrL g 15 (tkL a k)) 0 (sl a (54 + 15 * k) j))) 27 (upd (F 27) d (nI (co + tkC a k)))) 2 (upd (wrL (wrL g 15 (tkL a k)) 0 (sl a (54 + 15 * k) j)) j (bI (a.getD ((54 + 15 * k) + j) false))))]) C ho 0 3 rfl rfl 0 rfl j rfl (by omega) (by decide) dX9_loadBits_55 rfl (fun H locs ho => ?_)
              have e_23 : bX K h ar ad ck a.length (15 + 10 * k) (va_up (va_up (va_up F 2 (wrL (wrL g 15 (tkL a k)) 0 (sl a (54 + 15 * k) j))) 27 (upd (F 27) d (nI (co + tkC a k)))) 2 (upd (wrL (wrL g 15 (tkL a k)) 0 (sl a (54 + 15 * k) j)) j (bI (a.getD ((54 + 15 * k) + j) false)))) = bX K h ar ad ck a.length (15 + 10 * k) (va_up (va_up F 2 (wrL (wrL g 15 (tkL a k)) 0 (sl a (54 + 15 * k) (j + 1)))) 27 (upd (F 27) d (nI (co + tkC a k)))) := by rw [up_c227, wrL_push0 (sl_len _ _ _).symm, sl_succ]
              have ho : ow D vwCl A s.heap H locs [bX K h ar ad ck a.length (15 + 10 * k) (va_up (va_up F 2 (wrL (wrL g 15 (tkL a k)) 0 (sl a (54 + 15 * k) (j + 1)))) 27 (upd (F 27) d (nI (co + tkC a k))))] := by rw [← e_23]; exact ho
              refine lv_iinc (v := nI (j + 1)) (lv' := [(5, .int (nI (j + 1))), (0, .ref h), (1, .int (nI d)), (2, .int (nI 3)), (3, .int (bI (tkS a k))), (4, .int (nI (54 + 15 * k)))]) hx hb dX9_loadBits_56 hl (k := 5) rfl (iincN _ _) (by decide) rfl (fun ls hl => ?_)
              refine lv_goto (tgt := 32) hx hb dX9_loadBits_59 (by decide) ?_
              exact ih32 (j + 1) (by omega) (by omega) _ _ _ ho (lv_sub hl [1, 2, 3, 4, 5, 0] rfl)
        exact LP32 (15 - 0 + 1) 0 (Nat.lt_succ_self _) (by omega) _ _ _ ho (lv_sub hl [1, 2, 3, 4, 5, 0] rfl)
  exact LP12 (((a.length - 54) / 15) - 0 + 1) 0 (F 2) (Nat.lt_succ_self _) (by omega) _ _ _ ho (lv_sub hl [2, 3, 4, 1, 0] rfl)

set_option maxHeartbeats 4000000 in
set_option maxRecDepth 100000 in
theorem c_M_loadBits4 (la : Launch) (D : va_G) (K : Nat → ClassId) (h : Nat) (ar : Nat → Nat) (ad : Nat) (ck : Nat) (lo : Nat) (F : Nat → Nat → Int32) (d : Nat) (a : List Bool) (c_ : Nat) (co : Nat) (q2d : d < 2) (qa : ∀ i, i < a.length → F 0 i = bI (a.getD i false)) (qw : ∀ i, i < 400 → F 1 i = bI (wb c_ i)) (qal : 54 ≤ a.length) (qal2 : a.length ≤ 204) (q27 : F 27 d = nI co) : MT la D K yX9_loadBits cX9_loadBits 6 (some .boolean) (rmL 2 0 0) [.ref h, .int (nI d), .int (nI 4)] [bX K h ar ad ck a.length lo F] (Nat → Int32) (fun v _ => v = some (.int (bI (lds 4 a)))) (fun u => [bX K h ar ad ck a.length (15 + (ldl 4 c_ a).length) (va_up (va_up F 2 (wrL u 15 (ldl 4 c_ a))) 27 (upd (F 27) d (nI (co + ldn 4 a))))]) := by
  refine Mt.ofW [(0, .ref h), (1, .int (nI d)), (2, .int (nI 4))] (by decide) rfl (Nat.le_of_ble_eq_true rfl) ?_
  intro p e s m args below meth c A ls H locs Qz hQ C hin hl ho
  have hx := C.1.1
  have hb := C.1.2.1
  refine lv_iconst (v := nI 1) hx hb dX9_loadBits_0 (by decide) ?_
  refine lv_istore_n (lv' := [(3, .int (nI 1)), (0, .ref h), (1, .int (nI d)), (2, .int (nI 4))]) hx hb dX9_loadBits_1 rfl hl (by decide) rfl (fun ls hl => ?_)
  refine lv_aload_n hx hb dX9_loadBits_2 rfl (lv_at hl 1 rfl) ?_
  refine lv_bipush (v := nI 15) hx hb dX9_loadBits_3 (by decide) ?_
  refine o_put (v := .int (nI 15)) (bs' := [bX K h ar ad ck a.length 15 F]) C ho 0 0 rfl rfl rfl 5 fX9_103 pX9_5 rfl rfl (Nat.le_of_ble_eq_true rfl) dX9_loadBits_5 rfl (fun H locs ho => ?_)
  refine lv_bipush (v := nI 54) hx hb dX9_loadBits_8 (by decide) ?_
  refine lv_istore (lv' := [(4, .int (nI 54)), (3, .int (nI 1)), (0, .ref h), (1, .int (nI d)), (2, .int (nI 4))]) hx hb dX9_loadBits_10 hl (by decide) rfl (fun ls hl => ?_)
  refine lv_iload_n hx hb dX9_loadBits_12 rfl (lv_at hl 4 rfl) ?_
  refine lv_iconst (v := nI 3) hx hb dX9_loadBits_13 (by decide) ?_
  refine o_icmp_ne (tgt := 104) hx hb dX9_loadBits_14 (by decide) (by decide) (by decide) (fun _ => ?_) (fun c9 => absurd c9 (by decide))
  refine lv_bipush (v := nI 54) hx hb dX9_loadBits_104 (by decide) ?_
  refine lv_istore (lv' := [(4, .int (nI 54)), (3, .int (nI 1)), (0, .ref h), (1, .int (nI d)), (2, .int (nI 4))]) hx hb dX9_loadBits_106 hl (by decide) rfl (fun ls hl => ?_)
  have e_1 : (.int (nI 54) : Value) = .int (nI (54 + 0)) := rfl
  have hl : lv_has ls 6 [(4, .int (nI (54 + 0))), (3, .int (nI 1)), (0, .ref h), (1, .int (nI d)), (2, .int (nI 4))] := by rw [← e_1]; exact hl
  have e_2 : bX K h ar ad ck a.length 15 F = bX K h ar ad ck a.length (15 + 0) (va_up F 2 (wrL (F 2) 15 (sl a 54 0))) := by rw [sl_0, wrL_nil, up_self]
  have ho : ow D vwCl A s.heap H locs [bX K h ar ad ck a.length (15 + 0) (va_up F 2 (wrL (F 2) 15 (sl a 54 0)))] := by rw [← e_2]; exact ho
  have LP108 : ∀ (fuel : Nat) (j : Nat) (_ : a.length - 54 - j < fuel) (_ : j ≤ a.length - 54) (H : Heap) (locs : List Loc) (ls : Array Slot) (_ : ow D vwCl A s.heap H locs [bX K h ar ad ck a.length (15 + j) (va_up F 2 (wrL (F 2) 15 (sl a 54 j)))]) (_ : lv_has ls 6 [(0, .ref h), (1, .int (nI d)), (2, .int (nI 4)), (3, .int (nI 1)), (4, .int (nI (54 + j)))]), W p la e (rmL 2 0 0) s m args below meth c H locs 0 0 Qz (F0 m 108 ls []) := by
    intro fuel
    induction fuel with
    | zero => intro j h0; exact absurd h0 (Nat.not_lt_zero _)
    | succ fuel ih108 =>
      intro j hfu hj H locs ls ho hl
      refine lv_iload_n hx hb dX9_loadBits_108 rfl (lv_at hl 2 rfl) ?_
      refine lv_iconst (v := nI 4) hx hb dX9_loadBits_109 (by decide) ?_
      refine o_icmp_ne (tgt := 140) hx hb dX9_loadBits_110 (by decide) (by decide) (by decide) (fun c9 => absurd c9 (by decide)) (fun _ => ?_)
      refine lv_iload hx hb dX9_loadBits_113 (lv_at hl 4 rfl) ?_
      refine lv_aload_n hx hb dX9_loadBits_115 rfl (lv_at hl 0 rfl) ?_
      refine o_get (v := .int (nI a.length)) C ho 0 0 rfl rfl rfl 2 fX9_122 rfl dX9_loadBits_116 ?_
      refine o_icmp_ge (tgt := 140) hx hb dX9_loadBits_119 (by decide) (by first | omega | exact and1_lt _) (by first | omega | exact and1_lt _) (fun c_3 => ?_) (fun c_3 => ?_)
      · skip
        have hkk : j = a.length - 54 := by omega
        have e_4 : (.int (nI 1) : Value) = .int (bI (lds 4 a)) := by rw [lds_4]; rfl
        have hl : lv_has ls 6 [(0, .ref h), (1, .int (nI d)), (2, .int (nI 4)), (3, .int (bI (lds 4 a))), (4, .int (nI (54 + j)))] := by rw [← e_4]; exact hl
        have e_5 : bX K h ar ad ck a.length (15 + j) (va_up F 2 (wrL (F 2) 15 (sl a 54 j))) = bX K h ar ad ck a.length (15 + (ldi 4 a).length) (va_up (va_up F 2 (wrL (F 2) 15 (ldi 4 a))) 27 (upd (F 27) d (nI (co + ldn 4 a)))) := by rw [ldi_4, ldn_4, ← hkk, Nat.add_zero, upd_same q27, sl_len]; exact congrArg (bX K h ar ad ck a.length (15 + j)) (up_1 rfl)
        have ho : ow D vwCl A s.heap H locs [bX K h ar ad ck a.length (15 + (ldi 4 a).length) (va_up (va_up F 2 (wrL (F 2) 15 (ldi 4 a))) 27 (upd (F 27) d (nI (co + ldn 4 a))))] := by rw [← e_5]; exact ho
        refine lv_bipush (v := nI 15) hx hb dX9_loadBits_140 (by decide) ?_
        refine lv_istore (lv' := [(4, .int (nI 15)), (0, .ref h), (1, .int (nI d)), (2, .int (nI 4)), (3, .int (bI (lds 4 a)))]) hx hb dX9_loadBits_142 hl (by decide) rfl (fun ls hl => ?_)
        have e_6 : (.int (nI 15) : Value) = .int (nI (15 + 0)) := rfl
        have hl : lv_has ls 6 [(4, .int (nI (15 + 0))), (0, .ref h), (1, .int (nI d)), (2, .int (nI 4)), (3, .int (bI (lds 4 a)))] := by rw [← e_6]; exact hl
        have e_7 : bX K h ar ad ck a.length (15 + (ldi 4 a).length) (va_up (va_up F 2 (wrL (F 2) 15 (ldi 4 a))) 27 (upd (F 27) d (nI (co + ldn 4 a)))) = bX K h ar ad ck a.length (15 + (ldi 4 a).length) (va_up (va_up F 2 (wrL (F 2) 15 (wh (ldi 4 a) (wt c_) 18 0))) 27 (upd (F 27) d (nI (co + ldn 4 a)))) := by rw [wh_0]
        have ho : ow D vwCl A s.heap H locs [bX K h ar ad ck a.length (15 + (ldi 4 a).length) (va_up (va_up F 2 (wrL (F 2) 15 (wh (ldi 4 a) (wt c_) 18 0))) 27 (upd (F 27) d (nI (co + ldn 4 a))))] := by rw [← e_7]; exact ho
        have LP144 : ∀ (fuel : Nat) (z : Nat) (_ : (ldi 4 a).length - z < fuel) (_ : z ≤ (ldi 4 a).length) (H : Heap) (locs : List Loc) (ls : Array Slot) (_ : ow D vwCl A s.heap H locs [bX K h ar ad ck a.length (15 + (ldi 4 a).length) (va_up (va_up F 2 (wrL (F 2) 15 (wh (ldi 4 a) (wt c_) 18 z))) 27 (upd (F 27) d (nI (co + ldn 4 a))))]) (_ : lv_has ls 6 [(0, .ref h), (3, .int (bI (lds 4 a))), (4, .int (nI (15 + z)))]), W p la e (rmL 2 0 0) s m args below meth c H locs 0 0 Qz (F0 m 144 ls []) := by
          intro fuel
          induction fuel with
          | zero => intro z h0; exact absurd h0 (Nat.not_lt_zero _)
          | succ fuel ih144 =>
            intro z hfu hz H locs ls ho hl
            have hl150 := ldi_le (kd := 4) qal2
            refine lv_iload hx hb dX9_loadBits_144 (lv_at hl 2 rfl) ?_
            refine lv_aload_n hx hb dX9_loadBits_146 rfl (lv_at hl 0 rfl) ?_
            refine o_get (v := .int (nI (15 + (ldi 4 a).length))) C ho 0 0 rfl rfl rfl 5 fX9_103 rfl dX9_loadBits_147 ?_
            refine o_icmp_ge (tgt := 178) hx hb dX9_loadBits_150 (by decide) (by first | omega | exact and1_lt _) (by first | omega | exact and1_lt _) (fun c_8 => ?_) (fun c_8 => ?_)
            · skip
              refine lv_iload_n hx hb dX9_loadBits_178 rfl (lv_at hl 1 rfl) ?_
              exact o_iret hQ C (nar_b _) ho (F 2) rfl (by rw [ldl, whz, wh_len, show z = (ldi 4 a).length by omega]) (Nat.le_of_ble_eq_true rfl) (Nat.le_of_ble_eq_true rfl) dX9_loadBits_179
            · skip
              refine lv_aload_n hx hb dX9_loadBits_153 rfl (lv_at hl 0 rfl) ?_
              refine o_get (v := .ref (ar 2)) C ho 0 0 rfl rfl rfl 6 fX9_16 rfl dX9_loadBits_154 ?_
              refine lv_iload hx hb dX9_loadBits_157 (lv_at hl 2 rfl) ?_
              refine lv_dup2_11 hx hb dX9_loadBits_159 rfl rfl ?_
              refine o_iald (v := wrL (F 2) 15 (wh (ldi 4 a) (wt c_) 18 z) (15 + z)) C ho 0 3 rfl rfl 0 rfl (15 + z) rfl (by omega) (by omega) rfl dX9_loadBits_160 ?_
              refine o_top (y := bI ((wh (ldi 4 a) (wt c_) 18 z).getD z false)) (wrL_in (by rw [wh_len]; omega)) ?_
              refine lv_aload_n hx hb dX9_loadBits_161 rfl (lv_at hl 0 rfl) ?_
              refine o_get (v := .ref (ar 1)) C ho 0 0 rfl rfl rfl 4 fX9_13 rfl dX9_loadBits_162 ?_
              refine lv_iconst (v := nI 3) hx hb dX9_loadBits_165 (by decide) ?_
              refine lv_iload hx hb dX9_loadBits_166 (lv_at hl 2 rfl) ?_
              refine o_add hx hb dX9_loadBits_168 ?_
              refine o_iald (v := F 1 (3 + (15 + z))) C ho 0 2 rfl rfl 0 rfl (3 + (15 + z)) rfl (by omega) (by omega) rfl dX9_loadBits_169 ?_
              refine o_top (y := bI ((wt c_).getD (18 + z) false)) (by rw [qw _ (by omega), wt_getD (by omega), show 3 + (15 + z) = 18 + z by omega]) ?_
              refine o_xorb hx hb dX9_loadBits_170 ?_
              refine o_iast (bs' := [bX K h ar ad ck a.length (15 + (ldi 4 a).length) (va_up (va_up (va_up F 2 (wrL (F 2) 15 (wh (ldi 4 a) (wt c_) 18 z))) 27 (upd (F 27) d (nI (co + ldn 4 a)))) 2 (upd (wrL (F 2) 15 (wh (ldi 4 a) (wt c_) 18 z)) (15 + z) (bI (((wh (ldi 4 a) (wt c_) 18 z).getD z false) ^^ ((wt c_).getD (18 + z) false)))))]) C ho 0 3 rfl rfl 0 rfl (15 + z) rfl (by omega) (by decide) dX9_loadBits_171 rfl (fun H locs ho => ?_)
              have e_9 : bX K h ar ad ck a.length (15 + (ldi 4 a).length) (va_up (va_up (va_up F 2 (wrL (F 2) 15 (wh (ldi 4 a) (wt c_) 18 z))) 27 (upd (F 27) d (nI (co + ldn 4 a)))) 2 (upd (wrL (F 2) 15 (wh (ldi 4 a) (wt c_) 18 z)) (15 + z) (bI (((wh (ldi 4 a) (wt c_) 18 z).getD z false) ^^ ((wt c_).getD (18 + z) false))))) = bX K h ar ad ck a.length (15 + (ldi 4 a).length) (va_up (va_up F 2 (wrL (F 2) 15 (wh (ldi 4 a) (wt c_) 18 (z + 1)))) 27 (upd (F 27) d (nI (co + ldn 4 a)))) := by rw [up_c227, wrL_set (by rw [wh_len]; omega), wh_succ (by omega)]
              have ho : ow D vwCl A s.heap H locs [bX K h ar ad ck a.length (15 + (ldi 4 a).length) (va_up (va_up F 2 (wrL (F 2) 15 (wh (ldi 4 a) (wt c_) 18 (z + 1)))) 27 (upd (F 27) d (nI (co + ldn 4 a))))] := by rw [← e_9]; exact ho
              refine lv_iinc (v := nI (15 + z + 1)) (lv' := [(4, .int (nI (15 + z + 1))), (0, .ref h), (3, .int (bI (lds 4 a)))]) hx hb dX9_loadBits_172 hl (k := 2) rfl (iincN _ _) (by decide) rfl (fun ls hl => ?_)
              have e_10 : (.int (nI (15 + z + 1)) : Value) = .int (nI (15 + (z + 1))) := rfl
              have hl : lv_has ls 6 [(4, .int (nI (15 + (z + 1)))), (0, .ref h), (3, .int (bI (lds 4 a)))] := by rw [← e_10]; exact hl
              refine lv_goto (tgt := 144) hx hb dX9_loadBits_175 (by decide) ?_
              exact ih144 (z + 1) (by omega) (by omega) _ _ _ ho (lv_sub hl [1, 2, 0] rfl)
        exact LP144 ((ldi 4 a).length - 0 + 1) 0 (Nat.lt_succ_self _) (by omega) _ _ _ ho (lv_sub hl [1, 4, 0] rfl)
      · skip
        refine lv_aload_n hx hb dX9_loadBits_122 rfl (lv_at hl 0 rfl) ?_
        refine lv_aload_n hx hb dX9_loadBits_123 rfl (lv_at hl 0 rfl) ?_
        refine o_get (v := .ref (ar 0)) C ho 0 0 rfl rfl rfl 3 fX9_7 rfl dX9_loadBits_124 ?_
        refine lv_iload hx hb dX9_loadBits_127 (lv_at hl 4 rfl) ?_
        refine o_iald (v := F 0 (54 + j)) C ho 0 1 rfl rfl 0 rfl (54 + j) rfl (by omega) (by omega) rfl dX9_loadBits_129 ?_
        refine o_top (y := nI ((a.getD (54 + j) false).toNat)) (by rw [qa _ (by omega), bI_N]) ?_
        refine lv_iconst (v := nI 1) hx hb dX9_loadBits_130 (by decide) ?_
        refine o_callV (wr := []) (rest := []) (As := [.int (nI ((a.getD (54 + j) false).toNat)), .int (nI 1)]) C (c_M_put la D K h ar ad ck a.length (15 + j) (va_up F 2 (wrL (F 2) 15 (sl a 54 j))) ((a.getD (54 + j) false).toNat) 1 (tN_lt _) (by first | omega | assumption | (simp only [List.length_append, List.length_cons, List.length_nil, List.length_modify, List.length_set, nb_len, rb_len, rbp_len, sl_len, slN_len, wh_len, wt_len, hd10_len, hdB_len, thr_len, ldp_len, ldB_len, tens_len, whz_len, majL_len, mf_len, tkL_len, ldY_len, fif_len, ldY_len]; omega) | decide) (by first | omega | assumption | (simp only [List.length_append, List.length_cons, List.length_nil, List.length_modify, List.length_set, nb_len, rb_len, rbp_len, sl_len, slN_len, wh_len, wt_len, hd10_len, hdB_len, thr_len, ldp_len, ldB_len, tens_len, whz_len, majL_len, mf_len, tkL_len, ldY_len, fif_len, ldY_len]; omega) | decide)) kX9_114 vX9_put (by decide) rfl ho [0] 1 (by decide +kernel) rfl rfl rfl rfl rfl hl.1 rfl (Nat.le_of_ble_eq_true rfl) dX9_loadBits_131 0 0 rfl rfl (by decide) (fun v u_11 H locs hq ho => ?_)
        obtain rfl := hq
        have ho : ow D vwCl A s.heap H locs [bX K h ar ad ck a.length ((15 + j) + 1) (va_up (va_up F 2 (wrL (F 2) 15 (sl a 54 j))) 2 (wrL (wrL (F 2) 15 (sl a 54 j)) (15 + j) (nb ((a.getD (54 + j) false).toNat) 1)))] := ho
        refine W.eq (g2 := F0 m 134 ls []) rfl ?_
        have e_12 : bX K h ar ad ck a.length ((15 + j) + 1) (va_up (va_up F 2 (wrL (F 2) 15 (sl a 54 j))) 2 (wrL (wrL (F 2) 15 (sl a 54 j)) (15 + j) (nb ((a.getD (54 + j) false).toNat) 1))) = bX K h ar ad ck a.length (15 + (j + 1)) (va_up F 2 (wrL (F 2) 15 (sl a 54 (j + 1)))) := by rw [bx_uu, wrL_app (by rw [sl_len]), nb_b, sl_succ] <;> rfl
        have ho : ow D vwCl A s.heap H locs [bX K h ar ad ck a.length (15 + (j + 1)) (va_up F 2 (wrL (F 2) 15 (sl a 54 (j + 1))))] := by rw [← e_12]; exact ho
        refine lv_iinc (v := nI (54 + j + 1)) (lv' := [(4, .int (nI (54 + j + 1))), (0, .ref h), (1, .int (nI d)), (2, .int (nI 4)), (3, .int (nI 1))]) hx hb dX9_loadBits_134 hl (k := 4) rfl (iincN _ _) (by decide) rfl (fun ls hl => ?_)
        have e_13 : (.int (nI (54 + j + 1)) : Value) = .int (nI (54 + (j + 1))) := rfl
        have hl : lv_has ls 6 [(4, .int (nI (54 + (j + 1)))), (0, .ref h), (1, .int (nI d)), (2, .int (nI 4)), (3, .int (nI 1))] := by rw [← e_13]; exact hl
        refine lv_goto (tgt := 108) hx hb dX9_loadBits_137 (by decide) ?_
        exact ih108 (j + 1) (by omega) (by omega) _ _ _ ho (lv_sub hl [1, 2, 3, 4, 0] rfl)
  exact LP108 (a.length - 54 - 0 + 1) 0 (Nat.lt_succ_self _) (by omega) _ _ _ ho (lv_sub hl [2, 3, 4, 1, 0] rfl)

set_option maxHeartbeats 4000000 in
set_option maxRecDepth 100000 in
theorem c_M_loadGood (la : Launch) (D : va_G) (K : Nat → ClassId) (h : Nat) (ar : Nat → Nat) (ad : Nat) (ck : Nat) (lo : Nat) (F : Nat → Nat → Int32) (d : Nat) (a : List Bool) (c_ : Nat) (co : Nat) (kd : Nat) (q2d : d < 2) (qa : ∀ i, i < a.length → F 0 i = bI (a.getD i false)) (qw : ∀ i, i < 400 → F 1 i = bI (wb c_ i)) (qal : 54 ≤ a.length) (qal2 : a.length ≤ 204) (q27 : F 27 d = nI co) (qk : kd = 3 ∨ kd = 4) : MT la D K yX9_loadGood cX9_loadGood 4 (some .boolean) (rmL 6 0 0) [.ref h, .int (nI d), .int (nI kd)] [bX K h ar ad ck a.length lo F] (Nat → Int32) (fun v _ => v = some (.int (bI (lds kd a && ldOK (ldl kd c_ a))))) (fun u => [bX K h ar ad ck a.length (15 + (ldl kd c_ a).length) (va_up (va_up F 2 (wrL u 15 (ldl kd c_ a))) 27 (upd (F 27) d (nI (co + ldn kd a))))]) := by
  refine Mt.ofW [(0, .ref h), (1, .int (nI d)), (2, .int (nI kd))] (by decide) rfl (Nat.le_of_ble_eq_true rfl) ?_
  intro p e s m args below meth c A ls H locs Qz hQ C hin hl ho
  have hx := C.1.1
  have hb := C.1.2.1
  rcases qk with rfl | rfl
  · skip
    have hl150 := ldi_le (kd := 3) qal2
    have hll := ldl_len 3 c_ a
    refine lv_aload_n hx hb dX9_loadGood_0 rfl (lv_at hl 0 rfl) ?_
    refine lv_iload_n hx hb dX9_loadGood_1 rfl (lv_at hl 1 rfl) ?_
    refine lv_iload_n hx hb dX9_loadGood_2 rfl (lv_at hl 2 rfl) ?_
    refine o_callV (wr := []) (rest := []) (As := [.int (nI d), .int (nI 3)]) C (c_M_loadBits3 la D K h ar ad ck lo F d a c_ co (by first | omega | assumption | (simp only [List.length_append, List.length_cons, List.length_nil, List.length_modify, List.length_set, nb_len, rb_len, rbp_len, sl_len, slN_len, wh_len, wt_len, hd10_len, hdB_len, thr_len, ldp_len, ldB_len, tens_len, whz_len, majL_len, mf_len, tkL_len, ldY_len, fif_len, ldY_len]; omega) | decide) qa qw (by first | omega | assumption | (simp only [List.length_append, List.length_cons, List.length_nil, List.length_modify, List.length_set, nb_len, rb_len, rbp_len, sl_len, slN_len, wh_len, wt_len, hd10_len, hdB_len, thr_len, ldp_len, ldB_len, tens_len, whz_len, majL_len, mf_len, tkL_len, ldY_len, fif_len, ldY_len]; omega) | decide) (by first | omega | assumption | (simp only [List.length_append, List.length_cons, List.length_nil, List.length_modify, List.length_set, nb_len, rb_len, rbp_len, sl_len, slN_len, wh_len, wt_len, hd10_len, hdB_len, thr_len, ldp_len, ldB_len, tens_len, whz_len, majL_len, mf_len, tkL_len, ldY_len, fif_len, ldY_len]; omega) | decide) q27) kX9_161 vX9_loadBits (by decide) rfl ho [0] 1 (by decide +kernel) rfl rfl rfl rfl rfl hl.1 rfl (Nat.le_of_ble_eq_true rfl) dX9_loadGood_3 0 0 rfl rfl (by decide) (fun v u_1 H locs hq ho => ?_)
    obtain rfl := hq
    have ho : ow D vwCl A s.heap H locs [bX K h ar ad ck a.length (15 + (ldl 3 c_ a).length) (va_up (va_up F 2 (wrL u_1 15 (ldl 3 c_ a))) 27 (upd (F 27) d (nI (co + ldn 3 a))))] := ho
    refine W.eq (g2 := F0 m 6 ls [.int (bI (lds 3 a))]) rfl ?_
    refine o_ifb_eq (tgt := 18) hx hb dX9_loadGood_6 (by decide) (fun c_2 => ?_) (fun c_2 => ?_)
    · skip
      refine lv_iconst (v := nI 0) hx hb dX9_loadGood_18 (by decide) ?_
      exact o_iret hQ C rfl ho u_1 (by rw [c_2]; rfl) rfl (Nat.le_of_ble_eq_true rfl) (Nat.le_of_ble_eq_true rfl) dX9_loadGood_19
    · skip
      refine lv_aload_n hx hb dX9_loadGood_9 rfl (lv_at hl 0 rfl) ?_
      refine o_get (v := .int (nI (15 + (ldl 3 c_ a).length))) C ho 0 0 rfl rfl rfl 5 fX9_103 rfl dX9_loadGood_10 ?_
      refine lv_bipush (v := nI 23) hx hb dX9_loadGood_13 (by decide) ?_
      refine o_icmp_ge (tgt := 20) hx hb dX9_loadGood_15 (by decide) (by first | omega | exact and1_lt _) (by first | omega | exact and1_lt _) (fun c_3 => ?_) (fun c_3 => ?_)
      · skip
        have ht1 := toN_lt (ldl 3 c_ a) 0 8
        refine lv_aload_n hx hb dX9_loadGood_20 rfl (lv_at hl 0 rfl) ?_
        refine lv_bipush (v := nI 15) hx hb dX9_loadGood_21 (by decide) ?_
        refine lv_bipush (v := nI 8) hx hb dX9_loadGood_23 (by decide) ?_
        refine o_callV (wr := []) (rest := []) (As := [.int (nI 15), .int (nI 8)]) C (c_M_number la D K h ar ad ck a.length (15 + (ldl 3 c_ a).length) (va_up (va_up F 2 (wrL u_1 15 (ldl 3 c_ a))) 27 (upd (F 27) d (nI (co + ldn 3 a)))) 15 8 (ldl 3 c_ a) 0 (fun i hi => rd5 (n := 8) (by omega) hi) (by first | omega | assumption | (simp only [List.length_append, List.length_cons, List.length_nil, List.length_modify, List.length_set, nb_len, rb_len, rbp_len, sl_len, slN_len, wh_len, wt_len, hd10_len, hdB_len, thr_len, ldp_len, ldB_len, tens_len, whz_len, majL_len, mf_len, tkL_len, ldY_len, fif_len, ldY_len]; omega) | decide) (by first | omega | assumption | (simp only [List.length_append, List.length_cons, List.length_nil, List.length_modify, List.length_set, nb_len, rb_len, rbp_len, sl_len, slN_len, wh_len, wt_len, hd10_len, hdB_len, thr_len, ldp_len, ldB_len, tens_len, whz_len, majL_len, mf_len, tkL_len, ldY_len, fif_len, ldY_len]; omega) | decide)) kX9_153 vX9_number (by decide) rfl ho [0] 1 (by decide +kernel) rfl rfl rfl rfl rfl hl.1 rfl (Nat.le_of_ble_eq_true rfl) dX9_loadGood_25 0 0 rfl rfl (by decide) (fun v u_4 H locs hq ho => ?_)
        obtain rfl := hq
        have ho : ow D vwCl A s.heap H locs [bX K h ar ad ck a.length (15 + (ldl 3 c_ a).length) (va_up (va_up F 2 (wrL u_1 15 (ldl 3 c_ a))) 27 (upd (F 27) d (nI (co + ldn 3 a))))] := ho
        refine W.eq (g2 := F0 m 28 ls [.int (nI (toN (ldl 3 c_ a) 0 8))]) rfl ?_
        refine lv_iconst (v := nI 4) hx hb dX9_loadGood_28 (by decide) ?_
        refine o_div hx hb dX9_loadGood_29 (by omega) (by omega) (by omega) ?_
        refine lv_istore_n (lv' := [(3, .int (nI ((toN (ldl 3 c_ a) 0 8) / 4))), (0, .ref h), (1, .int (nI d)), (2, .int (nI 3))]) hx hb dX9_loadGood_30 rfl hl (by decide) rfl (fun ls hl => ?_)
        refine lv_iload_n hx hb dX9_loadGood_31 rfl (lv_at hl 0 rfl) ?_
        refine o_if_eq (tgt := 69) hx hb dX9_loadGood_32 (by decide) (by omega) (fun c_5 => ?_) (fun c_5 => ?_)
        · skip
          refine lv_iconst (v := nI 0) hx hb dX9_loadGood_69 (by decide) ?_
          exact o_iret hQ C rfl ho u_1 (by rw [ldOK_0 c_5, Bool.and_false]; rfl) rfl (Nat.le_of_ble_eq_true rfl) (Nat.le_of_ble_eq_true rfl) dX9_loadGood_70
        · skip
          refine lv_aload_n hx hb dX9_loadGood_35 rfl (lv_at hl 1 rfl) ?_
          refine o_get (v := .int (nI (15 + (ldl 3 c_ a).length))) C ho 0 0 rfl rfl rfl 5 fX9_103 rfl dX9_loadGood_36 ?_
          refine lv_bipush (v := nI 15) hx hb dX9_loadGood_39 (by decide) ?_
          refine o_sub hx hb dX9_loadGood_41 (by omega) ?_
          refine lv_bipush (v := nI 24) hx hb dX9_loadGood_42 (by decide) ?_
          refine lv_bipush (v := nI 8) hx hb dX9_loadGood_44 (by decide) ?_
          refine lv_iload_n hx hb dX9_loadGood_46 rfl (lv_at hl 0 rfl) ?_
          refine o_mul hx hb dX9_loadGood_47 ?_
          refine o_add hx hb dX9_loadGood_48 ?_
          refine o_icmp_lt (tgt := 69) hx hb dX9_loadGood_49 (by decide) (by first | omega | exact and1_lt _) (by first | omega | exact and1_lt _) (fun c_6 => ?_) (fun c_6 => ?_)
          · skip
            refine lv_iconst (v := nI 0) hx hb dX9_loadGood_69 (by decide) ?_
            exact o_iret hQ C rfl ho u_1 (by rw [ldOK_short (by omega), Bool.and_false]; rfl) rfl (Nat.le_of_ble_eq_true rfl) (Nat.le_of_ble_eq_true rfl) dX9_loadGood_70
          · skip
            refine lv_aload_n hx hb dX9_loadGood_52 rfl (lv_at hl 1 rfl) ?_
            refine o_get (v := .ref (ar 2)) C ho 0 0 rfl rfl rfl 6 fX9_16 rfl dX9_loadGood_53 ?_
            refine lv_bipush (v := nI 15) hx hb dX9_loadGood_56 (by decide) ?_
            refine o_iald (v := wrL u_1 15 (ldl 3 c_ a) 15) C ho 0 3 rfl rfl 0 rfl 15 rfl (by omega) (by omega) rfl dX9_loadGood_58 ?_
            refine o_top (y := bI ((ldl 3 c_ a).getD 0 false)) (wrL_in (lo := 15) (i := 0) (by omega)) ?_
            refine lv_aload_n hx hb dX9_loadGood_59 rfl (lv_at hl 1 rfl) ?_
            refine o_get (v := .ref (ar 2)) C ho 0 0 rfl rfl rfl 6 fX9_16 rfl dX9_loadGood_60 ?_
            refine lv_bipush (v := nI 16) hx hb dX9_loadGood_63 (by decide) ?_
            refine o_iald (v := wrL u_1 15 (ldl 3 c_ a) 16) C ho 0 3 rfl rfl 0 rfl 16 rfl (by omega) (by omega) rfl dX9_loadGood_65 ?_
            refine o_top (y := bI ((ldl 3 c_ a).getD 1 false)) (wrL_in (lo := 15) (i := 1) (by omega)) ?_
            refine o_icmpb_ne (tgt := 71) hx hb dX9_loadGood_66 (by decide) (fun c_7 => ?_) (fun c_7 => ?_)
            · skip
              refine lv_aload_n hx hb dX9_loadGood_71 rfl (lv_at hl 1 rfl) ?_
              refine lv_bipush (v := nI 15) hx hb dX9_loadGood_72 (by decide) ?_
              refine lv_bipush (v := nI 23) hx hb dX9_loadGood_74 (by decide) ?_
              refine lv_bipush (v := nI 8) hx hb dX9_loadGood_76 (by decide) ?_
              refine lv_iload_n hx hb dX9_loadGood_78 rfl (lv_at hl 0 rfl) ?_
              refine o_mul hx hb dX9_loadGood_79 ?_
              refine o_add hx hb dX9_loadGood_80 ?_
              refine lv_ldc (v := nI 69665) hx hb C.1.2.2.2.1 (C.1.2.2.2.2 _ mX9_k141) dX9_loadGood_81 ?_
              refine lv_bipush (v := nI 16) hx hb dX9_loadGood_83 (by decide) ?_
              refine o_callV (wr := []) (rest := []) (As := [.int (nI 15), .int (nI (23 + (8 * ((toN (ldl 3 c_ a) 0 8) / 4)))), .int (nI 69665), .int (nI 16)]) C (c_M_remStands la D K h ar ad ck a.length (15 + (ldl 3 c_ a).length) (va_up (va_up F 2 (wrL u_1 15 (ldl 3 c_ a))) 27 (upd (F 27) d (nI (co + ldn 3 a)))) 15 (23 + (8 * ((toN (ldl 3 c_ a) 0 8) / 4))) 69665 16 (sl (ldl 3 c_ a) 0 (8 + 8 * (toN (ldl 3 c_ a) 0 8 / 4))) (sl (ldl 3 c_ a) (8 + 8 * (toN (ldl 3 c_ a) 0 8 / 4)) 16) (fun i hi => rd3 (by omega) hi) (by rw [sl_len]; omega) (by first | omega | assumption | (simp only [List.length_append, List.length_cons, List.length_nil, List.length_modify, List.length_set, nb_len, rb_len, rbp_len, sl_len, slN_len, wh_len, wt_len, hd10_len, hdB_len, thr_len, ldp_len, ldB_len, tens_len, whz_len, majL_len, mf_len, tkL_len, ldY_len, fif_len, ldY_len]; omega) | decide) (by first | omega | assumption | (simp only [List.length_append, List.length_cons, List.length_nil, List.length_modify, List.length_set, nb_len, rb_len, rbp_len, sl_len, slN_len, wh_len, wt_len, hd10_len, hdB_len, thr_len, ldp_len, ldB_len, tens_len, whz_len, majL_len, mf_len, tkL_len, ldY_len, fif_len, ldY_len]; omega) | decide) (by first | omega | assumption | (simp only [List.length_append, List.length_cons, List.length_nil, List.length_modify, List.length_set, nb_len, rb_len, rbp_len, sl_len, slN_len, wh_len, wt_len, hd10_len, hdB_len, thr_len, ldp_len, ldB_len, tens_len, whz_len, majL_len, mf_len, tkL_len, ldY_len, fif_len, ldY_len]; omega) | decide) (by first | omega | assumption | (simp only [List.length_append, List.length_cons, List.length_nil, List.length_modify, List.length_set, nb_len, rb_len, rbp_len, sl_len, slN_len, wh_len, wt_len, hd10_len, hdB_len, thr_len, ldp_len, ldB_len, tens_len, whz_len, majL_len, mf_len, tkL_len, ldY_len, fif_len, ldY_len]; omega) | decide) (by decide) (by decide) pw69665 (fun i hi => rd4 (by omega) (by omega) hi) (sl_len _ _ _) (by first | omega | assumption | (simp only [List.length_append, List.length_cons, List.length_nil, List.length_modify, List.length_set, nb_len, rb_len, rbp_len, sl_len, slN_len, wh_len, wt_len, hd10_len, hdB_len, thr_len, ldp_len, ldB_len, tens_len, whz_len, majL_len, mf_len, tkL_len, ldY_len, fif_len, ldY_len]; omega) | decide)) kX9_149 vX9_remStands (by decide) rfl ho [0] 1 (by decide +kernel) rfl rfl rfl rfl rfl hl.1 rfl (Nat.le_of_ble_eq_true rfl) dX9_loadGood_85 0 0 rfl rfl (by decide) (fun v u_8 H locs hq ho => ?_)
              obtain rfl := hq
              have ho : ow D vwCl A s.heap H locs [bX K h ar ad ck a.length (15 + (ldl 3 c_ a).length) (va_up (va_up F 2 (wrL u_1 15 (ldl 3 c_ a))) 27 (upd (F 27) d (nI (co + ldn 3 a))))] := ho
              refine W.eq (g2 := F0 m 88 ls [.int (bI (decide ((sl (ldl 3 c_ a) (8 + 8 * (toN (ldl 3 c_ a) 0 8 / 4)) 16) = rb (crc 69665 16 (sl (ldl 3 c_ a) 0 (8 + 8 * (toN (ldl 3 c_ a) 0 8 / 4)))) 16)))]) rfl ?_
              exact o_iret hQ C (nar_b _) ho u_1 (by rw [ldOK_r c_5 (by omega) c_7, c_2, Bool.true_and]) rfl (Nat.le_of_ble_eq_true rfl) (Nat.le_of_ble_eq_true rfl) dX9_loadGood_88
            · skip
              refine lv_iconst (v := nI 0) hx hb dX9_loadGood_69 (by decide) ?_
              exact o_iret hQ C rfl ho u_1 (by rw [ldOK_eq c_7, Bool.and_false]; rfl) rfl (Nat.le_of_ble_eq_true rfl) (Nat.le_of_ble_eq_true rfl) dX9_loadGood_70
      · skip
        have ht1 := toN_lt (ldl 3 c_ a) 0 8
        refine lv_iconst (v := nI 0) hx hb dX9_loadGood_18 (by decide) ?_
        exact o_iret hQ C rfl ho u_1 (by rw [ldOK_short (by omega), Bool.and_false]; rfl) rfl (Nat.le_of_ble_eq_true rfl) (Nat.le_of_ble_eq_true rfl) dX9_loadGood_19
  · skip
    have hl150 := ldi_le (kd := 4) qal2
    have hll := ldl_len 4 c_ a
    refine lv_aload_n hx hb dX9_loadGood_0 rfl (lv_at hl 0 rfl) ?_
    refine lv_iload_n hx hb dX9_loadGood_1 rfl (lv_at hl 1 rfl) ?_
    refine lv_iload_n hx hb dX9_loadGood_2 rfl (lv_at hl 2 rfl) ?_
    refine o_callV (wr := []) (rest := []) (As := [.int (nI d), .int (nI 4)]) C (c_M_loadBits4 la D K h ar ad ck lo F d a c_ co (by first | omega | assumption | (simp only [List.length_append, List.length_cons, List.length_nil, List.length_modify, List.length_set, nb_len, rb_len, rbp_len, sl_len, slN_len, wh_len, wt_len, hd10_len, hdB_len, thr_len, ldp_len, ldB_len, tens_len, whz_len, majL_len, mf_len, tkL_len, ldY_len, fif_len, ldY_len]; omega) | decide) qa qw (by first | omega | assumption | (simp only [List.length_append, List.length_cons, List.length_nil, List.length_modify, List.length_set, nb_len, rb_len, rbp_len, sl_len, slN_len, wh_len, wt_len, hd10_len, hdB_len, thr_len, ldp_len, ldB_len, tens_len, whz_len, majL_len, mf_len, tkL_len, ldY_len, fif_len, ldY_len]; omega) | decide) (by first | omega | assumption | (simp only [List.length_append, List.length_cons, List.length_nil, List.length_modify, List.length_set, nb_len, rb_len, rbp_len, sl_len, slN_len, wh_len, wt_len, hd10_len, hdB_len, thr_len, ldp_len, ldB_len, tens_len, whz_len, majL_len, mf_len, tkL_len, ldY_len, fif_len, ldY_len]; omega) | decide) q27) kX9_161 vX9_loadBits (by decide) rfl ho [0] 1 (by decide +kernel) rfl rfl rfl rfl rfl hl.1 rfl (Nat.le_of_ble_eq_true rfl) dX9_loadGood_3 0 0 rfl rfl (by decide) (fun v u_9 H locs hq ho => ?_)
    obtain rfl := hq
    have ho : ow D vwCl A s.heap H locs [bX K h ar ad ck a.length (15 + (ldl 4 c_ a).length) (va_up (va_up F 2 (wrL u_9 15 (ldl 4 c_ a))) 27 (upd (F 27) d (nI (co + ldn 4 a))))] := ho
    refine W.eq (g2 := F0 m 6 ls [.int (bI (lds 4 a))]) rfl ?_
    refine o_ifb_eq (tgt := 18) hx hb dX9_loadGood_6 (by decide) (fun c_10 => ?_) (fun c_10 => ?_)
    · skip
      refine lv_iconst (v := nI 0) hx hb dX9_loadGood_18 (by decide) ?_
      exact o_iret hQ C rfl ho u_9 (by rw [c_10]; rfl) rfl (Nat.le_of_ble_eq_true rfl) (Nat.le_of_ble_eq_true rfl) dX9_loadGood_19
    · skip
      refine lv_aload_n hx hb dX9_loadGood_9 rfl (lv_at hl 0 rfl) ?_
      refine o_get (v := .int (nI (15 + (ldl 4 c_ a).length))) C ho 0 0 rfl rfl rfl 5 fX9_103 rfl dX9_loadGood_10 ?_
      refine lv_bipush (v := nI 23) hx hb dX9_loadGood_13 (by decide) ?_
      refine o_icmp_ge (tgt := 20) hx hb dX9_loadGood_15 (by decide) (by first | omega | exact and1_lt _) (by first | omega | exact and1_lt _) (fun c_11 => ?_) (fun c_11 => ?_)
      · skip
        have ht1 := toN_lt (ldl 4 c_ a) 0 8
        refine lv_aload_n hx hb dX9_loadGood_20 rfl (lv_at hl 0 rfl) ?_
        refine lv_bipush (v := nI 15) hx hb dX9_loadGood_21 (by decide) ?_
        refine lv_bipush (v := nI 8) hx hb dX9_loadGood_23 (by decide) ?_
        refine o_callV (wr := []) (rest := []) (As := [.int (nI 15), .int (nI 8)]) C (c_M_number la D K h ar ad ck a.length (15 + (ldl 4 c_ a).length) (va_up (va_up F 2 (wrL u_9 15 (ldl 4 c_ a))) 27 (upd (F 27) d (nI (co + ldn 4 a)))) 15 8 (ldl 4 c_ a) 0 (fun i hi => rd5 (n := 8) (by omega) hi) (by first | omega | assumption | (simp only [List.length_append, List.length_cons, List.length_nil, List.length_modify, List.length_set, nb_len, rb_len, rbp_len, sl_len, slN_len, wh_len, wt_len, hd10_len, hdB_len, thr_len, ldp_len, ldB_len, tens_len, whz_len, majL_len, mf_len, tkL_len, ldY_len, fif_len, ldY_len]; omega) | decide) (by first | omega | assumption | (simp only [List.length_append, List.length_cons, List.length_nil, List.length_modify, List.length_set, nb_len, rb_len, rbp_len, sl_len, slN_len, wh_len, wt_len, hd10_len, hdB_len, thr_len, ldp_len, ldB_len, tens_len, whz_len, majL_len, mf_len, tkL_len, ldY_len, fif_len, ldY_len]; omega) | decide)) kX9_153 vX9_number (by decide) rfl ho [0] 1 (by decide +kernel) rfl rfl rfl rfl rfl hl.1 rfl (Nat.le_of_ble_eq_true rfl) dX9_loadGood_25 0 0 rfl rfl (by decide) (fun v u_12 H locs hq ho => ?_)
        obtain rfl := hq
        have ho : ow D vwCl A s.heap H locs [bX K h ar ad ck a.length (15 + (ldl 4 c_ a).length) (va_up (va_up F 2 (wrL u_9 15 (ldl 4 c_ a))) 27 (upd (F 27) d (nI (co + ldn 4 a))))] := ho
        refine W.eq (g2 := F0 m 28 ls [.int (nI (toN (ldl 4 c_ a) 0 8))]) rfl ?_
        refine lv_iconst (v := nI 4) hx hb dX9_loadGood_28 (by decide) ?_
        refine o_div hx hb dX9_loadGood_29 (by omega) (by omega) (by omega) ?_
        refine lv_istore_n (lv' := [(3, .int (nI ((toN (ldl 4 c_ a) 0 8) / 4))), (0, .ref h), (1, .int (nI d)), (2, .int (nI 4))]) hx hb dX9_loadGood_30 rfl hl (by decide) rfl (fun ls hl => ?_)
        refine lv_iload_n hx hb dX9_loadGood_31 rfl (lv_at hl 0 rfl) ?_
        refine o_if_eq (tgt := 69) hx hb dX9_loadGood_32 (by decide) (by omega) (fun c_13 => ?_) (fun c_13 => ?_)
        · skip
          refine lv_iconst (v := nI 0) hx hb dX9_loadGood_69 (by decide) ?_
          exact o_iret hQ C rfl ho u_9 (by rw [ldOK_0 c_13, Bool.and_false]; rfl) rfl (Nat.le_of_ble_eq_true rfl) (Nat.le_of_ble_eq_true rfl) dX9_loadGood_70
        · skip
          refine lv_aload_n hx hb dX9_loadGood_35 rfl (lv_at hl 1 rfl) ?_
          refine o_get (v := .int (nI (15 + (ldl 4 c_ a).length))) C ho 0 0 rfl rfl rfl 5 fX9_103 rfl dX9_loadGood_36 ?_
          refine lv_bipush (v := nI 15) hx hb dX9_loadGood_39 (by decide) ?_
          refine o_sub hx hb dX9_loadGood_41 (by omega) ?_
          refine lv_bipush (v := nI 24) hx hb dX9_loadGood_42 (by decide) ?_
          refine lv_bipush (v := nI 8) hx hb dX9_loadGood_44 (by decide) ?_
          refine lv_iload_n hx hb dX9_loadGood_46 rfl (lv_at hl 0 rfl) ?_
          refine o_mul hx hb dX9_loadGood_47 ?_
          refine o_add hx hb dX9_loadGood_48 ?_
          refine o_icmp_lt (tgt := 69) hx hb dX9_loadGood_49 (by decide) (by first | omega | exact and1_lt _) (by first | omega | exact and1_lt _) (fun c_14 => ?_) (fun c_14 => ?_)
          · skip
            refine lv_iconst (v := nI 0) hx hb dX9_loadGood_69 (by decide) ?_
            exact o_iret hQ C rfl ho u_9 (by rw [ldOK_short (by omega), Bool.and_false]; rfl) rfl (Nat.le_of_ble_eq_true rfl) (Nat.le_of_ble_eq_true rfl) dX9_loadGood_70
          · skip
            refine lv_aload_n hx hb dX9_loadGood_52 rfl (lv_at hl 1 rfl) ?_
            refine o_get (v := .ref (ar 2)) C ho 0 0 rfl rfl rfl 6 fX9_16 rfl dX9_loadGood_53 ?_
            refine lv_bipush (v := nI 15) hx hb dX9_loadGood_56 (by decide) ?_
            refine o_iald (v := wrL u_9 15 (ldl 4 c_ a) 15) C ho 0 3 rfl rfl 0 rfl 15 rfl (by omega) (by omega) rfl dX9_loadGood_58 ?_
            refine o_top (y := bI ((ldl 4 c_ a).getD 0 false)) (wrL_in (lo := 15) (i := 0) (by omega)) ?_
            refine lv_aload_n hx hb dX9_loadGood_59 rfl (lv_at hl 1 rfl) ?_
            refine o_get (v := .ref (ar 2)) C ho 0 0 rfl rfl rfl 6 fX9_16 rfl dX9_loadGood_60 ?_
            refine lv_bipush (v := nI 16) hx hb dX9_loadGood_63 (by decide) ?_
            refine o_iald (v := wrL u_9 15 (ldl 4 c_ a) 16) C ho 0 3 rfl rfl 0 rfl 16 rfl (by omega) (by omega) rfl dX9_loadGood_65 ?_
            refine o_top (y := bI ((ldl 4 c_ a).getD 1 false)) (wrL_in (lo := 15) (i := 1) (by omega)) ?_
            refine o_icmpb_ne (tgt := 71) hx hb dX9_loadGood_66 (by decide) (fun c_15 => ?_) (fun c_15 => ?_)
            · skip
              refine lv_aload_n hx hb dX9_loadGood_71 rfl (lv_at hl 1 rfl) ?_
              refine lv_bipush (v := nI 15) hx hb dX9_loadGood_72 (by decide) ?_
              refine lv_bipush (v := nI 23) hx hb dX9_loadGood_74 (by decide) ?_
              refine lv_bipush (v := nI 8) hx hb dX9_loadGood_76 (by decide) ?_
              refine lv_iload_n hx hb dX9_loadGood_78 rfl (lv_at hl 0 rfl) ?_
              refine o_mul hx hb dX9_loadGood_79 ?_
              refine o_add hx hb dX9_loadGood_80 ?_
              refine lv_ldc (v := nI 69665) hx hb C.1.2.2.2.1 (C.1.2.2.2.2 _ mX9_k141) dX9_loadGood_81 ?_
              refine lv_bipush (v := nI 16) hx hb dX9_loadGood_83 (by decide) ?_
              refine o_callV (wr := []) (rest := []) (As := [.int (nI 15), .int (nI (23 + (8 * ((toN (ldl 4 c_ a) 0 8) / 4)))), .int (nI 69665), .int (nI 16)]) C (c_M_remStands la D K h ar ad ck a.length (15 + (ldl 4 c_ a).length) (va_up (va_up F 2 (wrL u_9 15 (ldl 4 c_ a))) 27 (upd (F 27) d (nI (co + ldn 4 a)))) 15 (23 + (8 * ((toN (ldl 4 c_ a) 0 8) / 4))) 69665 16 (sl (ldl 4 c_ a) 0 (8 + 8 * (toN (ldl 4 c_ a) 0 8 / 4))) (sl (ldl 4 c_ a) (8 + 8 * (toN (ldl 4 c_ a) 0 8 / 4)) 16) (fun i hi => rd3 (by omega) hi) (by rw [sl_len]; omega) (by first | omega | assumption | (simp only [List.length_append, List.length_cons, List.length_nil, List.length_modify, List.length_set, nb_len, rb_len, rbp_len, sl_len, slN_len, wh_len, wt_len, hd10_len, hdB_len, thr_len, ldp_len, ldB_len, tens_len, whz_len, majL_len, mf_len, tkL_len, ldY_len, fif_len, ldY_len]; omega) | decide) (by first | omega | assumption | (simp only [List.length_append, List.length_cons, List.length_nil, List.length_modify, List.length_set, nb_len, rb_len, rbp_len, sl_len, slN_len, wh_len, wt_len, hd10_len, hdB_len, thr_len, ldp_len, ldB_len, tens_len, whz_len, majL_len, mf_len, tkL_len, ldY_len, fif_len, ldY_len]; omega) | decide) (by first | omega | assumption | (simp only [List.length_append, List.length_cons, List.length_nil, List.length_modify, List.length_set, nb_len, rb_len, rbp_len, sl_len, slN_len, wh_len, wt_len, hd10_len, hdB_len, thr_len, ldp_len, ldB_len, tens_len, whz_len, majL_len, mf_len, tkL_len, ldY_len, fif_len, ldY_len]; omega) | decide) (by first | omega | assumption | (simp only [List.length_append, List.length_cons, List.length_nil, List.length_modify, List.length_set, nb_len, rb_len, rbp_len, sl_len, slN_len, wh_len, wt_len, hd10_len, hdB_len, thr_len, ldp_len, ldB_len, tens_len, whz_len, majL_len, mf_len, tkL_len, ldY_len, fif_len, ldY_len]; omega) | decide) (by decide) (by decide) pw69665 (fun i hi => rd4 (by omega) (by omega) hi) (sl_len _ _ _) (by first | omega | assumption | (simp only [List.length_append, List.length_cons, List.length_nil, List.length_modify, List.length_set, nb_len, rb_len, rbp_len, sl_len, slN_len, wh_len, wt_len, hd10_len, hdB_len, thr_len, ldp_len, ldB_len, tens_len, whz_len, majL_len, mf_len, tkL_len, ldY_len, fif_len, ldY_len]; omega) | decide)) kX9_149 vX9_remStands (by decide) rfl ho [0] 1 (by decide +kernel) rfl rfl rfl rfl rfl hl.1 rfl (Nat.le_of_ble_eq_true rfl) dX9_loadGood_85 0 0 rfl rfl (by decide) (fun v u_16 H locs hq ho => ?_)
              obtain rfl := hq
              have ho : ow D vwCl A s.heap H locs [bX K h ar ad ck a.length (15 + (ldl 4 c_ a).length) (va_up (va_up F 2 (wrL u_9 15 (ldl 4 c_ a))) 27 (upd (F 27) d (nI (co + ldn 4 a))))] := ho
              refine W.eq (g2 := F0 m 88 ls [.int (bI (decide ((sl (ldl 4 c_ a) (8 + 8 * (toN (ldl 4 c_ a) 0 8 / 4)) 16) = rb (crc 69665 16 (sl (ldl 4 c_ a) 0 (8 + 8 * (toN (ldl 4 c_ a) 0 8 / 4)))) 16)))]) rfl ?_
              exact o_iret hQ C (nar_b _) ho u_9 (by rw [ldOK_r c_13 (by omega) c_15, c_10, Bool.true_and]) rfl (Nat.le_of_ble_eq_true rfl) (Nat.le_of_ble_eq_true rfl) dX9_loadGood_88
            · skip
              refine lv_iconst (v := nI 0) hx hb dX9_loadGood_69 (by decide) ?_
              exact o_iret hQ C rfl ho u_9 (by rw [ldOK_eq c_15, Bool.and_false]; rfl) rfl (Nat.le_of_ble_eq_true rfl) (Nat.le_of_ble_eq_true rfl) dX9_loadGood_70
      · skip
        have ht1 := toN_lt (ldl 4 c_ a) 0 8
        refine lv_iconst (v := nI 0) hx hb dX9_loadGood_18 (by decide) ?_
        exact o_iret hQ C rfl ho u_9 (by rw [ldOK_short (by omega), Bool.and_false]; rfl) rfl (Nat.le_of_ble_eq_true rfl) (Nat.le_of_ble_eq_true rfl) dX9_loadGood_19

set_option maxHeartbeats 4000000 in
set_option maxRecDepth 100000 in
theorem c_M_finish (la : Launch) (D : va_G) (K : Nat → ClassId) (h : Nat) (ar : Nat → Nat) (ad : Nat) (ck : Nat) (bi : Nat) (lo : Nat) (F : Nat → Nat → Int32) (d : Nat) (g_ : Nat) (du : Nat) (tn : Nat) (dr : Nat) (q2d : d < 2) (qg : F 19 d = nI g_) (qu : F 18 d = nI du) (qt : F 15 d = nI tn) (qr : F 26 d = nI dr) (qg2 : g_ ≤ 320) (qu2 : du ≤ 255) (qt2 : tn ≤ 6) : MT la D K yX9_finish cX9_finish 4 none (rmL 1 0 0) [.ref h, .int (nI d)] [bX K h ar ad ck bi lo F] Unit (fun v _ => v = none) (fun _ => [bX K h ar ad ck bi lo (finF F d g_ du tn dr)]) := by
  refine Mt.ofW [(0, .ref h), (1, .int (nI d))] (by decide) rfl (Nat.le_of_ble_eq_true rfl) ?_
  intro p e s m args below meth c A ls H locs Qz hQ C hin hl ho
  have hx := C.1.1
  have hb := C.1.2.1
  refine lv_aload_n hx hb dX9_finish_0 rfl (lv_at hl 0 rfl) ?_
  refine o_get (v := .ref (ar 19)) C ho 0 0 rfl rfl rfl 23 fX9_68 rfl dX9_finish_1 ?_
  refine lv_iload_n hx hb dX9_finish_4 rfl (lv_at hl 1 rfl) ?_
  refine o_iald (v := nI g_) C ho 0 20 rfl rfl 0 rfl d rfl (by omega) (by omega) qg dX9_finish_5 ?_
  refine lv_aload_n hx hb dX9_finish_6 rfl (lv_at hl 0 rfl) ?_
  refine o_get (v := .ref (ar 18)) C ho 0 0 rfl rfl rfl 22 fX9_65 rfl dX9_finish_7 ?_
  refine lv_iload_n hx hb dX9_finish_10 rfl (lv_at hl 1 rfl) ?_
  refine o_iald (v := nI du) C ho 0 19 rfl rfl 0 rfl d rfl (by omega) (by omega) qu dX9_finish_11 ?_
  refine o_icmp_ge (tgt := 16) hx hb dX9_finish_12 (by decide) (by first | omega | exact and1_lt _) (by first | omega | exact and1_lt _) (fun c_1 => ?_) (fun c_1 => ?_)
  · skip
    refine lv_aload_n hx hb dX9_finish_16 rfl (lv_at hl 0 rfl) ?_
    refine o_get (v := .ref (ar 19)) C ho 0 0 rfl rfl rfl 23 fX9_68 rfl dX9_finish_17 ?_
    refine lv_iload_n hx hb dX9_finish_20 rfl (lv_at hl 1 rfl) ?_
    refine o_iald (v := nI g_) C ho 0 20 rfl rfl 0 rfl d rfl (by omega) (by omega) qg dX9_finish_21 ?_
    refine lv_aload_n hx hb dX9_finish_22 rfl (lv_at hl 0 rfl) ?_
    refine o_get (v := .ref (ar 18)) C ho 0 0 rfl rfl rfl 22 fX9_65 rfl dX9_finish_23 ?_
    refine lv_iload_n hx hb dX9_finish_26 rfl (lv_at hl 1 rfl) ?_
    refine o_iald (v := nI du) C ho 0 19 rfl rfl 0 rfl d rfl (by omega) (by omega) qu dX9_finish_27 ?_
    refine o_icmp_gt (tgt := 42) hx hb dX9_finish_28 (by decide) (by first | omega | exact and1_lt _) (by first | omega | exact and1_lt _) (fun c_2 => ?_) (fun c_2 => ?_)
    · skip
      refine lv_aload_n hx hb dX9_finish_42 rfl (lv_at hl 0 rfl) ?_
      refine o_get (v := .ref (ar 26)) C ho 0 0 rfl rfl rfl 30 fX9_89 rfl dX9_finish_43 ?_
      refine lv_iload_n hx hb dX9_finish_46 rfl (lv_at hl 1 rfl) ?_
      refine lv_dup2_11 hx hb dX9_finish_47 rfl rfl ?_
      refine o_iald (v := nI dr) C ho 0 27 rfl rfl 0 rfl d rfl (by omega) (by omega) qr dX9_finish_48 ?_
      refine lv_iconst (v := nI 1) hx hb dX9_finish_49 (by decide) ?_
      refine o_add hx hb dX9_finish_50 ?_
      refine o_iast (bs' := [bX K h ar ad ck bi lo (va_up F 26 (upd (F 26) d (nI (dr + 1))))]) C ho 0 27 rfl rfl 0 rfl d rfl (by omega) (by decide) dX9_finish_51 rfl (fun H locs ho => ?_)
      refine lv_goto (tgt := 131) hx hb dX9_finish_52 (by decide) ?_
      refine lv_aload_n hx hb dX9_finish_131 rfl (lv_at hl 0 rfl) ?_
      refine o_get (v := .ref (ar 18)) C ho 0 0 rfl rfl rfl 22 fX9_65 rfl dX9_finish_132 ?_
      refine lv_iload_n hx hb dX9_finish_135 rfl (lv_at hl 1 rfl) ?_
      refine lv_iconst (v := (-1)) hx hb dX9_finish_136 (by decide) ?_
      refine o_iast (bs' := [bX K h ar ad ck bi lo (va_up (va_up F 26 (upd (F 26) d (nI (dr + 1)))) 18 (upd (F 18) d (-1)))]) C ho 0 19 rfl rfl 0 rfl d rfl (by omega) (by decide) dX9_finish_137 rfl (fun H locs ho => ?_)
      exact o_vret hQ C ho () rfl (by rw [finF, if_neg (by omega), if_pos (by omega)]) (Nat.le_of_ble_eq_true rfl) (Nat.le_of_ble_eq_true rfl) dX9_finish_138
    · skip
      refine lv_aload_n hx hb dX9_finish_31 rfl (lv_at hl 0 rfl) ?_
      refine o_get (v := .ref (ar 15)) C ho 0 0 rfl rfl rfl 19 fX9_56 rfl dX9_finish_32 ?_
      refine lv_iload_n hx hb dX9_finish_35 rfl (lv_at hl 1 rfl) ?_
      refine o_iald (v := nI tn) C ho 0 16 rfl rfl 0 rfl d rfl (by omega) (by omega) qt dX9_finish_36 ?_
      refine lv_bipush (v := nI 6) hx hb dX9_finish_37 (by decide) ?_
      refine o_icmp_ne (tgt := 55) hx hb dX9_finish_39 (by decide) (by first | omega | exact and1_lt _) (by first | omega | exact and1_lt _) (fun c_3 => ?_) (fun c_3 => ?_)
      · skip
        refine lv_bipush (v := nI 6) hx hb dX9_finish_55 (by decide) ?_
        refine lv_iload_n hx hb dX9_finish_57 rfl (lv_at hl 1 rfl) ?_
        refine o_mul hx hb dX9_finish_58 ?_
        refine lv_aload_n hx hb dX9_finish_59 rfl (lv_at hl 0 rfl) ?_
        refine o_get (v := .ref (ar 15)) C ho 0 0 rfl rfl rfl 19 fX9_56 rfl dX9_finish_60 ?_
        refine lv_iload_n hx hb dX9_finish_63 rfl (lv_at hl 1 rfl) ?_
        refine o_iald (v := nI tn) C ho 0 16 rfl rfl 0 rfl d rfl (by omega) (by omega) qt dX9_finish_64 ?_
        refine o_add hx hb dX9_finish_65 ?_
        refine lv_istore_n (lv' := [(2, .int (nI ((6 * d) + tn))), (0, .ref h), (1, .int (nI d))]) hx hb dX9_finish_66 rfl hl (by decide) rfl (fun ls hl => ?_)
        refine lv_aload_n hx hb dX9_finish_67 rfl (lv_at hl 1 rfl) ?_
        refine o_get (v := .ref (ar 16)) C ho 0 0 rfl rfl rfl 20 fX9_59 rfl dX9_finish_68 ?_
        refine lv_iload_n hx hb dX9_finish_71 rfl (lv_at hl 0 rfl) ?_
        refine lv_aload_n hx hb dX9_finish_72 rfl (lv_at hl 1 rfl) ?_
        refine o_get (v := .ref (ar 19)) C ho 0 0 rfl rfl rfl 23 fX9_68 rfl dX9_finish_73 ?_
        refine lv_iload_n hx hb dX9_finish_76 rfl (lv_at hl 2 rfl) ?_
        refine o_iald (v := nI g_) C ho 0 20 rfl rfl 0 rfl d rfl (by omega) (by omega) qg dX9_finish_77 ?_
        refine o_iast (bs' := [bX K h ar ad ck bi lo (va_up F 16 (upd (F 16) ((6 * d) + tn) (nI g_)))]) C ho 0 17 rfl rfl 0 rfl ((6 * d) + tn) rfl (by omega) (by decide) dX9_finish_78 rfl (fun H locs ho => ?_)
        refine lv_iconst (v := nI 0) hx hb dX9_finish_79 (by decide) ?_
        refine lv_istore_n (lv' := [(3, .int (nI 0)), (2, .int (nI ((6 * d) + tn))), (0, .ref h), (1, .int (nI d))]) hx hb dX9_finish_80 rfl hl (by decide) rfl (fun ls hl => ?_)
        have e_4 : bX K h ar ad ck bi lo (va_up F 16 (upd (F 16) ((6 * d) + tn) (nI g_))) = bX K h ar ad ck bi lo (va_up (va_up F 16 (upd (F 16) (6 * d + tn) (nI g_))) 17 (va_cpy (F 20) (F 17) (320 * d) (255 * (6 * d + tn)) 0)) := by rw [cpy_0]; exact congrArg (bX K h ar ad ck bi lo) (up_1 rfl)
        have ho : ow D vwCl A s.heap H locs [bX K h ar ad ck bi lo (va_up (va_up F 16 (upd (F 16) (6 * d + tn) (nI g_))) 17 (va_cpy (F 20) (F 17) (320 * d) (255 * (6 * d + tn)) 0))] := by rw [← e_4]; exact ho
        have LP81 : ∀ (fuel : Nat) (i : Nat) (_ : g_ - i < fuel) (_ : i ≤ g_) (H : Heap) (locs : List Loc) (ls : Array Slot) (_ : ow D vwCl A s.heap H locs [bX K h ar ad ck bi lo (va_up (va_up F 16 (upd (F 16) (6 * d + tn) (nI g_))) 17 (va_cpy (F 20) (F 17) (320 * d) (255 * (6 * d + tn)) i))]) (_ : lv_has ls 4 [(0, .ref h), (1, .int (nI d)), (2, .int (nI ((6 * d) + tn))), (3, .int (nI i))]), W p la e (rmL 1 0 0) s m args below meth c H locs 0 0 Qz (F0 m 81 ls []) := by
          intro fuel
          induction fuel with
          | zero => intro i h0; exact absurd h0 (Nat.not_lt_zero _)
          | succ fuel ih81 =>
            intro i hfu hi H locs ls ho hl
            refine lv_iload_n hx hb dX9_finish_81 rfl (lv_at hl 3 rfl) ?_
            refine lv_aload_n hx hb dX9_finish_82 rfl (lv_at hl 0 rfl) ?_
            refine o_get (v := .ref (ar 19)) C ho 0 0 rfl rfl rfl 23 fX9_68 rfl dX9_finish_83 ?_
            refine lv_iload_n hx hb dX9_finish_86 rfl (lv_at hl 1 rfl) ?_
            refine o_iald (v := nI g_) C ho 0 20 rfl rfl 0 rfl d rfl (by omega) (by omega) qg dX9_finish_87 ?_
            refine o_icmp_ge (tgt := 121) hx hb dX9_finish_88 (by decide) (by first | omega | exact and1_lt _) (by first | omega | exact and1_lt _) (fun c_5 => ?_) (fun c_5 => ?_)
            · skip
              have e_6 : bX K h ar ad ck bi lo (va_up (va_up F 16 (upd (F 16) (6 * d + tn) (nI g_))) 17 (va_cpy (F 20) (F 17) (320 * d) (255 * (6 * d + tn)) i)) = bX K h ar ad ck bi lo (va_up (va_up F 16 (upd (F 16) (6 * d + tn) (nI g_))) 17 (va_cpy (F 20) (F 17) (320 * d) (255 * (6 * d + tn)) g_)) := by rw [show i = g_ by omega]
              have ho : ow D vwCl A s.heap H locs [bX K h ar ad ck bi lo (va_up (va_up F 16 (upd (F 16) (6 * d + tn) (nI g_))) 17 (va_cpy (F 20) (F 17) (320 * d) (255 * (6 * d + tn)) g_))] := by rw [← e_6]; exact ho
              refine lv_aload_n hx hb dX9_finish_121 rfl (lv_at hl 0 rfl) ?_
              refine o_get (v := .ref (ar 15)) C ho 0 0 rfl rfl rfl 19 fX9_56 rfl dX9_finish_122 ?_
              refine lv_iload_n hx hb dX9_finish_125 rfl (lv_at hl 1 rfl) ?_
              refine lv_dup2_11 hx hb dX9_finish_126 rfl rfl ?_
              refine o_iald (v := nI tn) C ho 0 16 rfl rfl 0 rfl d rfl (by omega) (by omega) qt dX9_finish_127 ?_
              refine lv_iconst (v := nI 1) hx hb dX9_finish_128 (by decide) ?_
              refine o_add hx hb dX9_finish_129 ?_
              refine o_iast (bs' := [bX K h ar ad ck bi lo (va_up (va_up (va_up F 16 (upd (F 16) (6 * d + tn) (nI g_))) 17 (va_cpy (F 20) (F 17) (320 * d) (255 * (6 * d + tn)) g_)) 15 (upd (F 15) d (nI (tn + 1))))]) C ho 0 16 rfl rfl 0 rfl d rfl (by omega) (by decide) dX9_finish_130 rfl (fun H locs ho => ?_)
              refine lv_aload_n hx hb dX9_finish_131 rfl (lv_at hl 0 rfl) ?_
              refine o_get (v := .ref (ar 18)) C ho 0 0 rfl rfl rfl 22 fX9_65 rfl dX9_finish_132 ?_
              refine lv_iload_n hx hb dX9_finish_135 rfl (lv_at hl 1 rfl) ?_
              refine lv_iconst (v := (-1)) hx hb dX9_finish_136 (by decide) ?_
              refine o_iast (bs' := [bX K h ar ad ck bi lo (va_up (va_up (va_up (va_up F 16 (upd (F 16) (6 * d + tn) (nI g_))) 17 (va_cpy (F 20) (F 17) (320 * d) (255 * (6 * d + tn)) g_)) 15 (upd (F 15) d (nI (tn + 1)))) 18 (upd (F 18) d (-1)))]) C ho 0 19 rfl rfl 0 rfl d rfl (by omega) (by decide) dX9_finish_137 rfl (fun H locs ho => ?_)
              exact o_vret hQ C ho () rfl (by rw [finF, if_neg (by omega), if_neg (by omega)]) (Nat.le_of_ble_eq_true rfl) (Nat.le_of_ble_eq_true rfl) dX9_finish_138
            · skip
              refine lv_aload_n hx hb dX9_finish_91 rfl (lv_at hl 0 rfl) ?_
              refine o_get (v := .ref (ar 17)) C ho 0 0 rfl rfl rfl 21 fX9_62 rfl dX9_finish_92 ?_
              refine lv_sipush (v := nI 255) hx hb dX9_finish_95 (by decide) ?_
              refine lv_iload_n hx hb dX9_finish_98 rfl (lv_at hl 2 rfl) ?_
              refine o_mul hx hb dX9_finish_99 ?_
              refine lv_iload_n hx hb dX9_finish_100 rfl (lv_at hl 3 rfl) ?_
              refine o_add hx hb dX9_finish_101 ?_
              refine lv_aload_n hx hb dX9_finish_102 rfl (lv_at hl 0 rfl) ?_
              refine o_get (v := .ref (ar 20)) C ho 0 0 rfl rfl rfl 24 fX9_71 rfl dX9_finish_103 ?_
              refine lv_sipush (v := nI 320) hx hb dX9_finish_106 (by decide) ?_
              refine lv_iload_n hx hb dX9_finish_109 rfl (lv_at hl 1 rfl) ?_
              refine o_mul hx hb dX9_finish_110 ?_
              refine lv_iload_n hx hb dX9_finish_111 rfl (lv_at hl 3 rfl) ?_
              refine o_add hx hb dX9_finish_112 ?_
              refine o_iald (v := F 20 ((320 * d) + i)) C ho 0 21 rfl rfl 0 rfl ((320 * d) + i) rfl (by omega) (by omega) rfl dX9_finish_113 ?_
              refine o_iast (bs' := [bX K h ar ad ck bi lo (va_up (va_up (va_up F 16 (upd (F 16) (6 * d + tn) (nI g_))) 17 (va_cpy (F 20) (F 17) (320 * d) (255 * (6 * d + tn)) i)) 17 (upd (va_cpy (F 20) (F 17) (320 * d) (255 * (6 * d + tn)) i) ((255 * ((6 * d) + tn)) + i) (F 20 ((320 * d) + i))))]) C ho 0 18 rfl rfl 0 rfl ((255 * ((6 * d) + tn)) + i) rfl (by omega) (by decide) dX9_finish_114 rfl (fun H locs ho => ?_)
              have e_7 : bX K h ar ad ck bi lo (va_up (va_up (va_up F 16 (upd (F 16) (6 * d + tn) (nI g_))) 17 (va_cpy (F 20) (F 17) (320 * d) (255 * (6 * d + tn)) i)) 17 (upd (va_cpy (F 20) (F 17) (320 * d) (255 * (6 * d + tn)) i) ((255 * ((6 * d) + tn)) + i) (F 20 ((320 * d) + i)))) = bX K h ar ad ck bi lo (va_up (va_up F 16 (upd (F 16) (6 * d + tn) (nI g_))) 17 (va_cpy (F 20) (F 17) (320 * d) (255 * (6 * d + tn)) (i + 1))) := by rw [bx_uu, cpy_succ]
              have ho : ow D vwCl A s.heap H locs [bX K h ar ad ck bi lo (va_up (va_up F 16 (upd (F 16) (6 * d + tn) (nI g_))) 17 (va_cpy (F 20) (F 17) (320 * d) (255 * (6 * d + tn)) (i + 1)))] := by rw [← e_7]; exact ho
              refine lv_iinc (v := nI (i + 1)) (lv' := [(3, .int (nI (i + 1))), (0, .ref h), (1, .int (nI d)), (2, .int (nI ((6 * d) + tn)))]) hx hb dX9_finish_115 hl (k := 3) rfl (iincN _ _) (by decide) rfl (fun ls hl => ?_)
              refine lv_goto (tgt := 81) hx hb dX9_finish_118 (by decide) ?_
              exact ih81 (i + 1) (by omega) (by omega) _ _ _ ho (lv_sub hl [1, 2, 3, 0] rfl)
        exact LP81 (g_ - 0 + 1) 0 (Nat.lt_succ_self _) (by omega) _ _ _ ho (lv_sub hl [2, 3, 1, 0] rfl)
      · skip
        refine lv_aload_n hx hb dX9_finish_42 rfl (lv_at hl 0 rfl) ?_
        refine o_get (v := .ref (ar 26)) C ho 0 0 rfl rfl rfl 30 fX9_89 rfl dX9_finish_43 ?_
        refine lv_iload_n hx hb dX9_finish_46 rfl (lv_at hl 1 rfl) ?_
        refine lv_dup2_11 hx hb dX9_finish_47 rfl rfl ?_
        refine o_iald (v := nI dr) C ho 0 27 rfl rfl 0 rfl d rfl (by omega) (by omega) qr dX9_finish_48 ?_
        refine lv_iconst (v := nI 1) hx hb dX9_finish_49 (by decide) ?_
        refine o_add hx hb dX9_finish_50 ?_
        refine o_iast (bs' := [bX K h ar ad ck bi lo (va_up F 26 (upd (F 26) d (nI (dr + 1))))]) C ho 0 27 rfl rfl 0 rfl d rfl (by omega) (by decide) dX9_finish_51 rfl (fun H locs ho => ?_)
        refine lv_goto (tgt := 131) hx hb dX9_finish_52 (by decide) ?_
        refine lv_aload_n hx hb dX9_finish_131 rfl (lv_at hl 0 rfl) ?_
        refine o_get (v := .ref (ar 18)) C ho 0 0 rfl rfl rfl 22 fX9_65 rfl dX9_finish_132 ?_
        refine lv_iload_n hx hb dX9_finish_135 rfl (lv_at hl 1 rfl) ?_
        refine lv_iconst (v := (-1)) hx hb dX9_finish_136 (by decide) ?_
        refine o_iast (bs' := [bX K h ar ad ck bi lo (va_up (va_up F 26 (upd (F 26) d (nI (dr + 1)))) 18 (upd (F 18) d (-1)))]) C ho 0 19 rfl rfl 0 rfl d rfl (by omega) (by decide) dX9_finish_137 rfl (fun H locs ho => ?_)
        exact o_vret hQ C ho () rfl (by rw [finF, if_neg (by omega), if_pos (by omega)]) (Nat.le_of_ble_eq_true rfl) (Nat.le_of_ble_eq_true rfl) dX9_finish_138
  · skip
    exact o_vret hQ C ho () rfl (by rw [finF, if_pos (by omega)]) (Nat.le_of_ble_eq_true rfl) (Nat.le_of_ble_eq_true rfl) dX9_finish_15
