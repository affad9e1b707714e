set_option maxHeartbeats 4000000 in
set_option maxRecDepth 100000 in
theorem c_Frame_init (la : Launch) (D : va_G) (K : Nat → ClassId) (h : Nat)  : MT la D K yX3_init cX3_init 1 none (rmL 2 2 65) [.ref h] [[(h, .inr (3, [.null, .int 0, .int 0, .int 0, .int 0, .int 0]))]] (Nat × Nat) (fun v _ => v = none) (fun u => [bF K h u.1 0 false false false 0, bM K u.1 u.2 63 [] (fun _ => 0)]) := by
  refine Mt.ofW [(0, .ref h)] (by decide) rfl (Nat.le_of_ble_eq_true rfl) ?_
  intro p e s m args below meth c A ls H locs Qz hQ C hin hl ho
  have hx := C.1.1
  have hb := C.1.2.1
  refine lv_aload_n hx hb dX3_init_0 rfl (lv_at hl 0 rfl) ?_
  refine o_init C mX3_3 m_oi m_oc hl.1 dX3_init_1 (Nat.le_of_ble_eq_true rfl) (Nat.le_of_ble_eq_true rfl) ?_
  refine lv_aload_n hx hb dX3_init_4 rfl (lv_at hl 0 rfl) ?_
  refine o_new (fs := [.null, .int 0]) C ho (ci := 5) (r := (RX5, TX5, 2)) rfl iX5 tyX5 tX5 nX3_9 nfX5 (Nat.le_of_ble_eq_true rfl) (Nat.le_of_ble_eq_true rfl) dX3_init_5 (fun q_1 H ho => ?_)
  have ho : ow D vwCl A s.heap H locs [[(h, .inr (3, [.null, .int 0, .int 0, .int 0, .int 0, .int 0]))], [(q_1, .inr (5, [.null, .int 0]))]] := ho
  refine lv_dup hx hb dX3_init_8 rfl ?_
  refine lv_bipush (v := nI 63) hx hb dX3_init_9 (by decide) ?_
  refine o_callI (wr := [[(h, .inr (3, [.null, .int 0, .int 0, .int 0, .int 0, .int 0]))]]) (rest := [.ref q_1, .ref h]) (As := [.int (nI 63)]) C (c_Msg_init la D K q_1 63 (by first | omega | assumption | (simp only [List.length_append, List.length_cons, List.length_nil, List.length_modify, List.length_set, nb_len, rb_len, rbp_len, sl_len, slN_len, wh_len, wt_len, hd10_len, hdB_len, thr_len, ldp_len, ldB_len, tens_len, whz_len, majL_len, mf_len, tkL_len, ldY_len, fif_len, ldY_len]; omega) | decide)) kX3_11 vX5_init (by decide) rfl ho [1, 0] 2 (by decide +kernel) rfl rfl hl.1 rfl (Nat.le_of_ble_eq_true rfl) dX3_init_11 2 65 rfl rfl (by decide) (fun v u_2 H locs hq ho => ?_)
  obtain rfl := hq
  have ho : ow D vwCl A s.heap H locs [bM K q_1 u_2 63 [] (fun _ => 0), [(h, .inr (3, [.null, .int 0, .int 0, .int 0, .int 0, .int 0]))]] := ho
  refine W.eq (g2 := F0 m 14 ls [.ref q_1, .ref h]) rfl ?_
  refine o_putF (v := .ref q_1) (bs' := [bM K q_1 u_2 63 [] (fun _ => 0), [(h, .inr (3, [.ref q_1, .int 0, .int 0, .int 0, .int 0, .int 0]))]]) C hin ho 1 0 rfl rfl rfl 0 fX3_14 pX3_0 rfl rfl rfl (Nat.le_of_ble_eq_true rfl) dX3_init_14 rfl (fun H locs ho => ?_)
  have ho : ow D vwCl A s.heap H locs [bM K q_1 u_2 63 [] (fun _ => 0), bF K h q_1 0 false false false 0] := ho
  have ho : ow D vwCl A s.heap H locs [bF K h q_1 0 false false false 0, bM K q_1 u_2 63 [] (fun _ => 0)] := ho.re [1, 0] 2 (by decide +kernel) rfl rfl
  exact o_vret hQ C ho (q_1, u_2) rfl (by dsimp only [ads, List.getD_cons_zero, List.getD_cons_succ] <;> rfl) (Nat.le_of_ble_eq_true rfl) (Nat.le_of_ble_eq_true rfl) dX3_init_17

set_option maxHeartbeats 4000000 in
set_option maxRecDepth 100000 in
theorem c_Row_init40 (la : Launch) (D : va_G) (K : Nat → ClassId) (h : Nat)  : MT la D K yX6_init cX6_init 3 none (rmL 2 13 258) [.ref h, .int (nI 40)] [[(h, .inr (6, [.null, .int 0, .int 0]))]] (Nat × List Nat × List Nat) (fun v _ => v = none) (fun u => [bH K h u.1 (ads u.2.1) 0 0, bPool K (ads u.2.1) (ads u.2.2) 40 (fun _ => []) (fun _ _ => 0)]) := by
  refine Mt.ofW [(0, .ref h), (1, .int (nI 40))] (by decide) rfl (Nat.le_of_ble_eq_true rfl) ?_
  intro p e s m args below meth c A ls H locs Qz hQ C hin hl ho
  have hx := C.1.1
  have hb := C.1.2.1
  refine lv_aload_n hx hb dX6_init_0 rfl (lv_at hl 0 rfl) ?_
  refine o_init C mX6_3 m_oi m_oc hl.1 dX6_init_1 (Nat.le_of_ble_eq_true rfl) (Nat.le_of_ble_eq_true rfl) ?_
  refine lv_aload_n hx hb dX6_init_4 rfl (lv_at hl 0 rfl) ?_
  refine lv_bipush (v := nI 6) hx hb dX6_init_5 (by decide) ?_
  refine o_newq C ho mX6_c9 m_arrX5 1 rfl 6 rfl (by omega) (Nat.le_of_ble_eq_true rfl) (Nat.le_of_ble_eq_true rfl) dX6_init_7 (fun q_1 H ho => ?_)
  have ho : ow D vwCl A s.heap H locs [[(h, .inr (6, [.null, .int 0, .int 0]))], [(q_1, .inl (K 1, 6, .inr (.inr (.inr (.inr (fun _ => none))))))]] := ho
  refine o_putF (v := .ref q_1) (bs' := [[(h, .inr (6, [.ref q_1, .int 0, .int 0]))], [(q_1, .inl (K 1, 6, .inr (.inr (.inr (.inr (fun _ => none))))))]]) C hin ho 0 0 rfl rfl rfl 0 fX6_11 pX6_0 rfl rfl rfl (Nat.le_of_ble_eq_true rfl) dX6_init_10 rfl (fun H locs ho => ?_)
  refine lv_iconst (v := nI 0) hx hb dX6_init_13 (by decide) ?_
  refine lv_istore_n (lv' := [(2, .int (nI 0)), (0, .ref h), (1, .int (nI 40))]) hx hb dX6_init_14 rfl hl (by decide) rfl (fun ls hl => ?_)
  refine lv_iload_n hx hb dX6_init_15 rfl (lv_at hl 0 rfl) ?_
  refine lv_bipush (v := nI 6) hx hb dX6_init_16 (by decide) ?_
  refine o_icmp_ge (tgt := 41) hx hb dX6_init_18 (by decide) (by decide) (by decide) (fun c9 => absurd c9 (by decide)) (fun _ => ?_)
  refine lv_aload_n hx hb dX6_init_21 rfl (lv_at hl 1 rfl) ?_
  refine o_get (v := .ref q_1) C ho 0 0 rfl rfl rfl 0 fX6_11 rfl dX6_init_22 ?_
  refine lv_iload_n hx hb dX6_init_25 rfl (lv_at hl 0 rfl) ?_
  refine o_new (fs := [.null, .int 0]) C ho (ci := 5) (r := (RX5, TX5, 2)) rfl iX5 tyX5 tX5 nX6_9 nfX5 (Nat.le_of_ble_eq_true rfl) (Nat.le_of_ble_eq_true rfl) dX6_init_26 (fun q_2 H ho => ?_)
  have ho : ow D vwCl A s.heap H locs [[(h, .inr (6, [.ref q_1, .int 0, .int 0]))], [(q_1, .inl (K 1, 6, .inr (.inr (.inr (.inr (fun _ => none))))))], [(q_2, .inr (5, [.null, .int 0]))]] := ho
  refine lv_dup hx hb dX6_init_29 rfl ?_
  refine lv_iload_n hx hb dX6_init_30 rfl (lv_at hl 2 rfl) ?_
  refine o_callI (wr := [[(h, .inr (6, [.ref q_1, .int 0, .int 0]))], [(q_1, .inl (K 1, 6, .inr (.inr (.inr (.inr (fun _ => none))))))]]) (rest := [.ref q_2, .int (nI 0), .ref q_1]) (As := [.int (nI 40)]) C (c_Msg_init la D K q_2 40 (by first | omega | assumption | (simp only [List.length_append, List.length_cons, List.length_nil, List.length_modify, List.length_set, nb_len, rb_len, rbp_len, sl_len, slN_len, wh_len, wt_len, hd10_len, hdB_len, thr_len, ldp_len, ldB_len, tens_len, whz_len, majL_len, mf_len, tkL_len, ldY_len, fif_len, ldY_len]; omega) | decide)) kX6_17 vX5_init (by decide) rfl ho [2, 0, 1] 3 (by decide +kernel) rfl rfl hl.1 rfl (Nat.le_of_ble_eq_true rfl) dX6_init_31 3 48 rfl rfl (by decide) (fun v u_3 H locs hq ho => ?_)
  obtain rfl := hq
  have ho : ow D vwCl A s.heap H locs [bM K q_2 u_3 40 [] (fun _ => 0), [(h, .inr (6, [.ref q_1, .int 0, .int 0]))], [(q_1, .inl (K 1, 6, .inr (.inr (.inr (.inr (fun _ => none))))))]] := ho
  refine W.eq (g2 := F0 m 34 ls [.ref q_2, .int (nI 0), .ref q_1]) rfl ?_
  refine o_aast (r := (RX5, TX5, 2)) (ci := 5) (bs' := [bM K q_2 u_3 40 [] (fun _ => 0), [(h, .inr (6, [.ref q_1, .int 0, .int 0]))], [(q_1, .inl (K 1, 6, .inr (.inr (.inr (.inr (va_up (fun _ => none) 0 (some q_2)))))))]]) C ho 2 0 rfl rfl 1 rfl 0 0 rfl rfl rfl 0 rfl (by decide) (by decide) dX6_init_34 rfl (fun H locs ho => ?_)
  refine lv_iinc (v := nI 1) (lv' := [(2, .int (nI 1)), (0, .ref h), (1, .int (nI 40))]) hx hb dX6_init_35 hl (k := 0) rfl (iincN _ _) (by decide) rfl (fun ls hl => ?_)
  refine lv_goto (tgt := 15) hx hb dX6_init_38 (by decide) ?_
  refine lv_iload_n hx hb dX6_init_15 rfl (lv_at hl 0 rfl) ?_
  refine lv_bipush (v := nI 6) hx hb dX6_init_16 (by decide) ?_
  refine o_icmp_ge (tgt := 41) hx hb dX6_init_18 (by decide) (by decide) (by decide) (fun c9 => absurd c9 (by decide)) (fun _ => ?_)
  refine lv_aload_n hx hb dX6_init_21 rfl (lv_at hl 1 rfl) ?_
  refine o_get (v := .ref q_1) C ho 1 0 rfl rfl rfl 0 fX6_11 rfl dX6_init_22 ?_
  refine lv_iload_n hx hb dX6_init_25 rfl (lv_at hl 0 rfl) ?_
  refine o_new (fs := [.null, .int 0]) C ho (ci := 5) (r := (RX5, TX5, 2)) rfl iX5 tyX5 tX5 nX6_9 nfX5 (Nat.le_of_ble_eq_true rfl) (Nat.le_of_ble_eq_true rfl) dX6_init_26 (fun q_4 H ho => ?_)
  have ho : ow D vwCl A s.heap H locs [bM K q_2 u_3 40 [] (fun _ => 0), [(h, .inr (6, [.ref q_1, .int 0, .int 0]))], [(q_1, .inl (K 1, 6, .inr (.inr (.inr (.inr (va_up (fun _ => none) 0 (some q_2)))))))], [(q_4, .inr (5, [.null, .int 0]))]] := ho
  refine lv_dup hx hb dX6_init_29 rfl ?_
  refine lv_iload_n hx hb dX6_init_30 rfl (lv_at hl 2 rfl) ?_
  refine o_callI (wr := [bM K q_2 u_3 40 [] (fun _ => 0), [(h, .inr (6, [.ref q_1, .int 0, .int 0]))], [(q_1, .inl (K 1, 6, .inr (.inr (.inr (.inr (va_up (fun _ => none) 0 (some q_2)))))))]]) (rest := [.ref q_4, .int (nI 1), .ref q_1]) (As := [.int (nI 40)]) C (c_Msg_init la D K q_4 40 (by first | omega | assumption | (simp only [List.length_append, List.length_cons, List.length_nil, List.length_modify, List.length_set, nb_len, rb_len, rbp_len, sl_len, slN_len, wh_len, wt_len, hd10_len, hdB_len, thr_len, ldp_len, ldB_len, tens_len, whz_len, majL_len, mf_len, tkL_len, ldY_len, fif_len, ldY_len]; omega) | decide)) kX6_17 vX5_init (by decide) rfl ho [3, 0, 1, 2] 4 (by decide +kernel) rfl rfl hl.1 rfl (Nat.le_of_ble_eq_true rfl) dX6_init_31 5 90 rfl rfl (by decide) (fun v u_5 H locs hq ho => ?_)
  obtain rfl := hq
  have ho : ow D vwCl A s.heap H locs [bM K q_4 u_5 40 [] (fun _ => 0), bM K q_2 u_3 40 [] (fun _ => 0), [(h, .inr (6, [.ref q_1, .int 0, .int 0]))], [(q_1, .inl (K 1, 6, .inr (.inr (.inr (.inr (va_up (fun _ => none) 0 (some q_2)))))))]] := ho
  refine W.eq (g2 := F0 m 34 ls [.ref q_4, .int (nI 1), .ref q_1]) rfl ?_
  refine o_aast (r := (RX5, TX5, 2)) (ci := 5) (bs' := [bM K q_4 u_5 40 [] (fun _ => 0), bM K q_2 u_3 40 [] (fun _ => 0), [(h, .inr (6, [.ref q_1, .int 0, .int 0]))], [(q_1, .inl (K 1, 6, .inr (.inr (.inr (.inr (va_up (va_up (fun _ => none) 0 (some q_2)) 1 (some q_4)))))))]]) C ho 3 0 rfl rfl 1 rfl 0 0 rfl rfl rfl 1 rfl (by decide) (by decide) dX6_init_34 rfl (fun H locs ho => ?_)
  refine lv_iinc (v := nI 2) (lv' := [(2, .int (nI 2)), (0, .ref h), (1, .int (nI 40))]) hx hb dX6_init_35 hl (k := 0) rfl (iincN _ _) (by decide) rfl (fun ls hl => ?_)
  refine lv_goto (tgt := 15) hx hb dX6_init_38 (by decide) ?_
  refine lv_iload_n hx hb dX6_init_15 rfl (lv_at hl 0 rfl) ?_
  refine lv_bipush (v := nI 6) hx hb dX6_init_16 (by decide) ?_
  refine o_icmp_ge (tgt := 41) hx hb dX6_init_18 (by decide) (by decide) (by decide) (fun c9 => absurd c9 (by decide)) (fun _ => ?_)
  refine lv_aload_n hx hb dX6_init_21 rfl (lv_at hl 1 rfl) ?_
  refine o_get (v := .ref q_1) C ho 2 0 rfl rfl rfl 0 fX6_11 rfl dX6_init_22 ?_
  refine lv_iload_n hx hb dX6_init_25 rfl (lv_at hl 0 rfl) ?_
  refine o_new (fs := [.null, .int 0]) C ho (ci := 5) (r := (RX5, TX5, 2)) rfl iX5 tyX5 tX5 nX6_9 nfX5 (Nat.le_of_ble_eq_true rfl) (Nat.le_of_ble_eq_true rfl) dX6_init_26 (fun q_6 H ho => ?_)
  have ho : ow D vwCl A s.heap H locs [bM K q_4 u_5 40 [] (fun _ => 0), bM K q_2 u_3 40 [] (fun _ => 0), [(h, .inr (6, [.ref q_1, .int 0, .int 0]))], [(q_1, .inl (K 1, 6, .inr (.inr (.inr (.inr (va_up (va_up (fun _ => none) 0 (some q_2)) 1 (some q_4)))))))], [(q_6, .inr (5, [.null, .int 0]))]] := ho
  refine lv_dup hx hb dX6_init_29 rfl ?_
  refine lv_iload_n hx hb dX6_init_30 rfl (lv_at hl 2 rfl) ?_
  refine o_callI (wr := [bM K q_4 u_5 40 [] (fun _ => 0), bM K q_2 u_3 40 [] (fun _ => 0), [(h, .inr (6, [.ref q_1, .int 0, .int 0]))], [(q_1, .inl (K 1, 6, .inr (.inr (.inr (.inr (va_up (va_up (fun _ => none) 0 (some q_2)) 1 (some q_4)))))))]]) (rest := [.ref q_6, .int (nI 2), .ref q_1]) (As := [.int (nI 40)]) C (c_Msg_init la D K q_6 40 (by first | omega | assumption | (simp only [List.length_append, List.length_cons, List.length_nil, List.length_modify, List.length_set, nb_len, rb_len, rbp_len, sl_len, slN_len, wh_len, wt_len, hd10_len, hdB_len, thr_len, ldp_len, ldB_len, tens_len, whz_len, majL_len, mf_len, tkL_len, ldY_len, fif_len, ldY_len]; omega) | decide)) kX6_17 vX5_init (by decide) rfl ho [4, 0, 1, 2, 3] 5 (by decide +kernel) rfl rfl hl.1 rfl (Nat.le_of_ble_eq_true rfl) dX6_init_31 7 132 rfl rfl (by decide) (fun v u_7 H locs hq ho => ?_)
  obtain rfl := hq
  have ho : ow D vwCl A s.heap H locs [bM K q_6 u_7 40 [] (fun _ => 0), bM K q_4 u_5 40 [] (fun _ => 0), bM K q_2 u_3 40 [] (fun _ => 0), [(h, .inr (6, [.ref q_1, .int 0, .int 0]))], [(q_1, .inl (K 1, 6, .inr (.inr (.inr (.inr (va_up (va_up (fun _ => none) 0 (some q_2)) 1 (some q_4)))))))]] := ho
  refine W.eq (g2 := F0 m 34 ls [.ref q_6, .int (nI 2), .ref q_1]) rfl ?_
  refine o_aast (r := (RX5, TX5, 2)) (ci := 5) (bs' := [bM K q_6 u_7 40 [] (fun _ => 0), bM K q_4 u_5 40 [] (fun _ => 0), bM K q_2 u_3 40 [] (fun _ => 0), [(h, .inr (6, [.ref q_1, .int 0, .int 0]))], [(q_1, .inl (K 1, 6, .inr (.inr (.inr (.inr (va_up (va_up (va_up (fun _ => none) 0 (some q_2)) 1 (some q_4)) 2 (some q_6)))))))]]) C ho 4 0 rfl rfl 1 rfl 0 0 rfl rfl rfl 2 rfl (by decide) (by decide) dX6_init_34 rfl (fun H locs ho => ?_)
  refine lv_iinc (v := nI 3) (lv' := [(2, .int (nI 3)), (0, .ref h), (1, .int (nI 40))]) hx hb dX6_init_35 hl (k := 0) rfl (iincN _ _) (by decide) rfl (fun ls hl => ?_)
  refine lv_goto (tgt := 15) hx hb dX6_init_38 (by decide) ?_
  refine lv_iload_n hx hb dX6_init_15 rfl (lv_at hl 0 rfl) ?_
  refine lv_bipush (v := nI 6) hx hb dX6_init_16 (by decide) ?_
  refine o_icmp_ge (tgt := 41) hx hb dX6_init_18 (by decide) (by decide) (by decide) (fun c9 => absurd c9 (by decide)) (fun _ => ?_)
  refine lv_aload_n hx hb dX6_init_21 rfl (lv_at hl 1 rfl) ?_
  refine o_get (v := .ref q_1) C ho 3 0 rfl rfl rfl 0 fX6_11 rfl dX6_init_22 ?_
  refine lv_iload_n hx hb dX6_init_25 rfl (lv_at hl 0 rfl) ?_
  refine o_new (fs := [.null, .int 0]) C ho (ci := 5) (r := (RX5, TX5, 2)) rfl iX5 tyX5 tX5 nX6_9 nfX5 (Nat.le_of_ble_eq_true rfl) (Nat.le_of_ble_eq_true rfl) dX6_init_26 (fun q_8 H ho => ?_)
  have ho : ow D vwCl A s.heap H locs [bM K q_6 u_7 40 [] (fun _ => 0), bM K q_4 u_5 40 [] (fun _ => 0), bM K q_2 u_3 40 [] (fun _ => 0), [(h, .inr (6, [.ref q_1, .int 0, .int 0]))], [(q_1, .inl (K 1, 6, .inr (.inr (.inr (.inr (va_up (va_up (va_up (fun _ => none) 0 (some q_2)) 1 (some q_4)) 2 (some q_6)))))))], [(q_8, .inr (5, [.null, .int 0]))]] := ho
  refine lv_dup hx hb dX6_init_29 rfl ?_
  refine lv_iload_n hx hb dX6_init_30 rfl (lv_at hl 2 rfl) ?_
  refine o_callI (wr := [bM K q_6 u_7 40 [] (fun _ => 0), bM K q_4 u_5 40 [] (fun _ => 0), bM K q_2 u_3 40 [] (fun _ => 0), [(h, .inr (6, [.ref q_1, .int 0, .int 0]))], [(q_1, .inl (K 1, 6, .inr (.inr (.inr (.inr (va_up (va_up (va_up (fun _ => none) 0 (some q_2)) 1 (some q_4)) 2 (some q_6)))))))]]) (rest := [.ref q_8, .int (nI 3), .ref q_1]) (As := [.int (nI 40)]) C (c_Msg_init la D K q_8 40 (by first | omega | assumption | (simp only [List.length_append, List.length_cons, List.length_nil, List.length_modify, List.length_set, nb_len, rb_len, rbp_len, sl_len, slN_len, wh_len, wt_len, hd10_len, hdB_len, thr_len, ldp_len, ldB_len, tens_len, whz_len, majL_len, mf_len, tkL_len, ldY_len, fif_len, ldY_len]; omega) | decide)) kX6_17 vX5_init (by decide) rfl ho [5, 0, 1, 2, 3, 4] 6 (by decide +kernel) rfl rfl hl.1 rfl (Nat.le_of_ble_eq_true rfl) dX6_init_31 9 174 rfl rfl (by decide) (fun v u_9 H locs hq ho => ?_)
  obtain rfl := hq
  have ho : ow D vwCl A s.heap H locs [bM K q_8 u_9 40 [] (fun _ => 0), bM K q_6 u_7 40 [] (fun _ => 0), bM K q_4 u_5 40 [] (fun _ => 0), bM K q_2 u_3 40 [] (fun _ => 0), [(h, .inr (6, [.ref q_1, .int 0, .int 0]))], [(q_1, .inl (K 1, 6, .inr (.inr (.inr (.inr (va_up (va_up (va_up (fun _ => none) 0 (some q_2)) 1 (some q_4)) 2 (some q_6)))))))]] := ho
  refine W.eq (g2 := F0 m 34 ls [.ref q_8, .int (nI 3), .ref q_1]) rfl ?_
  refine o_aast (r := (RX5, TX5, 2)) (ci := 5) (bs' := [bM K q_8 u_9 40 [] (fun _ => 0), bM K q_6 u_7 40 [] (fun _ => 0), bM K q_4 u_5 40 [] (fun _ => 0), bM K q_2 u_3 40 [] (fun _ => 0), [(h, .inr (6, [.ref q_1, .int 0, .int 0]))], [(q_1, .inl (K 1, 6, .inr (.inr (.inr (.inr (va_up (va_up (va_up (va_up (fun _ => none) 0 (some q_2)) 1 (some q_4)) 2 (some q_6)) 3 (some q_8)))))))]]) C ho 5 0 rfl rfl 1 rfl 0 0 rfl rfl rfl 3 rfl (by decide) (by decide) dX6_init_34 rfl (fun H locs ho => ?_)
  refine lv_iinc (v := nI 4) (lv' := [(2, .int (nI 4)), (0, .ref h), (1, .int (nI 40))]) hx hb dX6_init_35 hl (k := 0) rfl (iincN _ _) (by decide) rfl (fun ls hl => ?_)
  refine lv_goto (tgt := 15) hx hb dX6_init_38 (by decide) ?_
  refine lv_iload_n hx hb dX6_init_15 rfl (lv_at hl 0 rfl) ?_
  refine lv_bipush (v := nI 6) hx hb dX6_init_16 (by decide) ?_
  refine o_icmp_ge (tgt := 41) hx hb dX6_init_18 (by decide) (by decide) (by decide) (fun c9 => absurd c9 (by decide)) (fun _ => ?_)
  refine lv_aload_n hx hb dX6_init_21 rfl (lv_at hl 1 rfl) ?_
  refine o_get (v := .ref q_1) C ho 4 0 rfl rfl rfl 0 fX6_11 rfl dX6_init_22 ?_
  refine lv_iload_n hx hb dX6_init_25 rfl (lv_at hl 0 rfl) ?_
  refine o_new (fs := [.null, .int 0]) C ho (ci := 5) (r := (RX5, TX5, 2)) rfl iX5 tyX5 tX5 nX6_9 nfX5 (Nat.le_of_ble_eq_true rfl) (Nat.le_of_ble_eq_true rfl) dX6_init_26 (fun q_10 H ho => ?_)
  have ho : ow D vwCl A s.heap H locs [bM K q_8 u_9 40 [] (fun _ => 0), bM K q_6 u_7 40 [] (fun _ => 0), bM K q_4 u_5 40 [] (fun _ => 0), bM K q_2 u_3 40 [] (fun _ => 0), [(h, .inr (6, [.ref q_1, .int 0, .int 0]))], [(q_1, .inl (K 1, 6, .inr (.inr (.inr (.inr (va_up (va_up (va_up (va_up (fun _ => none) 0 (some q_2)) 1 (some q_4)) 2 (some q_6)) 3 (some q_8)))))))], [(q_10, .inr (5, [.null, .int 0]))]] := ho
  refine lv_dup hx hb dX6_init_29 rfl ?_
  refine lv_iload_n hx hb dX6_init_30 rfl (lv_at hl 2 rfl) ?_
  refine o_callI (wr := [bM K q_8 u_9 40 [] (fun _ => 0), bM K q_6 u_7 40 [] (fun _ => 0), bM K q_4 u_5 40 [] (fun _ => 0), bM K q_2 u_3 40 [] (fun _ => 0), [(h, .inr (6, [.ref q_1, .int 0, .int 0]))], [(q_1, .inl (K 1, 6, .inr (.inr (.inr (.inr (va_up (va_up (va_up (va_up (fun _ => none) 0 (some q_2)) 1 (some q_4)) 2 (some q_6)) 3 (some q_8)))))))]]) (rest := [.ref q_10, .int (nI 4), .ref q_1]) (As := [.int (nI 40)]) C (c_Msg_init la D K q_10 40 (by first | omega | assumption | (simp only [List.length_append, List.length_cons, List.length_nil, List.length_modify, List.length_set, nb_len, rb_len, rbp_len, sl_len, slN_len, wh_len, wt_len, hd10_len, hdB_len, thr_len, ldp_len, ldB_len, tens_len, whz_len, majL_len, mf_len, tkL_len, ldY_len, fif_len, ldY_len]; omega) | decide)) kX6_17 vX5_init (by decide) rfl ho [6, 0, 1, 2, 3, 4, 5] 7 (by decide +kernel) rfl rfl hl.1 rfl (Nat.le_of_ble_eq_true rfl) dX6_init_31 11 216 rfl rfl (by decide) (fun v u_11 H locs hq ho => ?_)
  obtain rfl := hq
  have ho : ow D vwCl A s.heap H locs [bM K q_10 u_11 40 [] (fun _ => 0), bM K q_8 u_9 40 [] (fun _ => 0), bM K q_6 u_7 40 [] (fun _ => 0), bM K q_4 u_5 40 [] (fun _ => 0), bM K q_2 u_3 40 [] (fun _ => 0), [(h, .inr (6, [.ref q_1, .int 0, .int 0]))], [(q_1, .inl (K 1, 6, .inr (.inr (.inr (.inr (va_up (va_up (va_up (va_up (fun _ => none) 0 (some q_2)) 1 (some q_4)) 2 (some q_6)) 3 (some q_8)))))))]] := ho
  refine W.eq (g2 := F0 m 34 ls [.ref q_10, .int (nI 4), .ref q_1]) rfl ?_
  refine o_aast (r := (RX5, TX5, 2)) (ci := 5) (bs' := [bM K q_10 u_11 40 [] (fun _ => 0), bM K q_8 u_9 40 [] (fun _ => 0), bM K q_6 u_7 40 [] (fun _ => 0), bM K q_4 u_5 40 [] (fun _ => 0), bM K q_2 u_3 40 [] (fun _ => 0), [(h, .inr (6, [.ref q_1, .int 0, .int 0]))], [(q_1, .inl (K 1, 6, .inr (.inr (.inr (.inr (va_up (va_up (va_up (va_up (va_up (fun _ => none) 0 (some q_2)) 1 (some q_4)) 2 (some q_6)) 3 (some q_8)) 4 (some q_10)))))))]]) C ho 6 0 rfl rfl 1 rfl 0 0 rfl rfl rfl 4 rfl (by decide) (by decide) dX6_init_34 rfl (fun H locs ho => ?_)
  refine lv_iinc (v := nI 5) (lv' := [(2, .int (nI 5)), (0, .ref h), (1, .int (nI 40))]) hx hb dX6_init_35 hl (k := 0) rfl (iincN _ _) (by decide) rfl (fun ls hl => ?_)
  refine lv_goto (tgt := 15) hx hb dX6_init_38 (by decide) ?_
  refine lv_iload_n hx hb dX6_init_15 rfl (lv_at hl 0 rfl) ?_
  refine lv_bipush (v := nI 6) hx hb dX6_init_16 (by decide) ?_
  refine o_icmp_ge (tgt := 41) hx hb dX6_init_18 (by decide) (by decide) (by decide) (fun c9 => absurd c9 (by decide)) (fun _ => ?_)
  refine lv_aload_n hx hb dX6_init_21 rfl (lv_at hl 1 rfl) ?_
  refine o_get (v := .ref q_1) C ho 5 0 rfl rfl rfl 0 fX6_11 rfl dX6_init_22 ?_
  refine lv_iload_n hx hb dX6_init_25 rfl (lv_at hl 0 rfl) ?_
  refine o_new (fs := [.null, .int 0]) C ho (ci := 5) (r := (RX5, TX5, 2)) rfl iX5 tyX5 tX5 nX6_9 nfX5 (Nat.le_of_ble_eq_true rfl) (Nat.le_of_ble_eq_true rfl) dX6_init_26 (fun q_12 H ho => ?_)
  have ho : ow D vwCl A s.heap H locs [bM K q_10 u_11 40 [] (fun _ => 0), bM K q_8 u_9 40 [] (fun _ => 0), bM K q_6 u_7 40 [] (fun _ => 0), bM K q_4 u_5 40 [] (fun _ => 0), bM K q_2 u_3 40 [] (fun _ => 0), [(h, .inr (6, [.ref q_1, .int 0, .int 0]))], [(q_1, .inl (K 1, 6, .inr (.inr (.inr (.inr (va_up (va_up (va_up (va_up (va_up (fun _ => none) 0 (some q_2)) 1 (some q_4)) 2 (some q_6)) 3 (some q_8)) 4 (some q_10)))))))], [(q_12, .inr (5, [.null, .int 0]))]] := ho
  refine lv_dup hx hb dX6_init_29 rfl ?_
  refine lv_iload_n hx hb dX6_init_30 rfl (lv_at hl 2 rfl) ?_
  refine o_callI (wr := [bM K q_10 u_11 40 [] (fun _ => 0), bM K q_8 u_9 40 [] (fun _ => 0), bM K q_6 u_7 40 [] (fun _ => 0), bM K q_4 u_5 40 [] (fun _ => 0), bM K q_2 u_3 40 [] (fun _ => 0), [(h, .inr (6, [.ref q_1, .int 0, .int 0]))], [(q_1, .inl (K 1, 6, .inr (.inr (.inr (.inr (va_up (va_up (va_up (va_up (va_up (fun _ => none) 0 (some q_2)) 1 (some q_4)) 2 (some q_6)) 3 (some q_8)) 4 (some q_10)))))))]]) (rest := [.ref q_12, .int (nI 5), .ref q_1]) (As := [.int (nI 40)]) C (c_Msg_init la D K q_12 40 (by first | omega | assumption | (simp only [List.length_append, List.length_cons, List.length_nil, List.length_modify, List.length_set, nb_len, rb_len, rbp_len, sl_len, slN_len, wh_len, wt_len, hd10_len, hdB_len, thr_len, ldp_len, ldB_len, tens_len, whz_len, majL_len, mf_len, tkL_len, ldY_len, fif_len, ldY_len]; omega) | decide)) kX6_17 vX5_init (by decide) rfl ho [7, 0, 1, 2, 3, 4, 5, 6] 8 (by decide +kernel) rfl rfl hl.1 rfl (Nat.le_of_ble_eq_true rfl) dX6_init_31 13 258 rfl rfl (by decide) (fun v u_13 H locs hq ho => ?_)
  obtain rfl := hq
  have ho : ow D vwCl A s.heap H locs [bM K q_12 u_13 40 [] (fun _ => 0), bM K q_10 u_11 40 [] (fun _ => 0), bM K q_8 u_9 40 [] (fun _ => 0), bM K q_6 u_7 40 [] (fun _ => 0), bM K q_4 u_5 40 [] (fun _ => 0), bM K q_2 u_3 40 [] (fun _ => 0), [(h, .inr (6, [.ref q_1, .int 0, .int 0]))], [(q_1, .inl (K 1, 6, .inr (.inr (.inr (.inr (va_up (va_up (va_up (va_up (va_up (fun _ => none) 0 (some q_2)) 1 (some q_4)) 2 (some q_6)) 3 (some q_8)) 4 (some q_10)))))))]] := ho
  refine W.eq (g2 := F0 m 34 ls [.ref q_12, .int (nI 5), .ref q_1]) rfl ?_
  refine o_aast (r := (RX5, TX5, 2)) (ci := 5) (bs' := [bM K q_12 u_13 40 [] (fun _ => 0), bM K q_10 u_11 40 [] (fun _ => 0), bM K q_8 u_9 40 [] (fun _ => 0), bM K q_6 u_7 40 [] (fun _ => 0), bM K q_4 u_5 40 [] (fun _ => 0), bM K q_2 u_3 40 [] (fun _ => 0), [(h, .inr (6, [.ref q_1, .int 0, .int 0]))], [(q_1, .inl (K 1, 6, .inr (.inr (.inr (.inr (va_up (va_up (va_up (va_up (va_up (va_up (fun _ => none) 0 (some q_2)) 1 (some q_4)) 2 (some q_6)) 3 (some q_8)) 4 (some q_10)) 5 (some q_12)))))))]]) C ho 7 0 rfl rfl 1 rfl 0 0 rfl rfl rfl 5 rfl (by decide) (by decide) dX6_init_34 rfl (fun H locs ho => ?_)
  refine lv_iinc (v := nI 6) (lv' := [(2, .int (nI 6)), (0, .ref h), (1, .int (nI 40))]) hx hb dX6_init_35 hl (k := 0) rfl (iincN _ _) (by decide) rfl (fun ls hl => ?_)
  refine lv_goto (tgt := 15) hx hb dX6_init_38 (by decide) ?_
  refine lv_iload_n hx hb dX6_init_15 rfl (lv_at hl 0 rfl) ?_
  refine lv_bipush (v := nI 6) hx hb dX6_init_16 (by decide) ?_
  refine o_icmp_ge (tgt := 41) hx hb dX6_init_18 (by decide) (by decide) (by decide) (fun _ => ?_) (fun c9 => absurd c9 (by decide))
  have ho : ow D vwCl A s.heap H locs [[(h, .inr (6, [.ref q_1, .int 0, .int 0]))], [(q_1, .inl (K 1, 6, .inr (.inr (.inr (.inr (va_up (va_up (va_up (va_up (va_up (va_up (fun _ => none) 0 (some q_2)) 1 (some q_4)) 2 (some q_6)) 3 (some q_8)) 4 (some q_10)) 5 (some q_12)))))))], bM K q_2 u_3 40 [] (fun _ => 0), bM K q_4 u_5 40 [] (fun _ => 0), bM K q_6 u_7 40 [] (fun _ => 0), bM K q_8 u_9 40 [] (fun _ => 0), bM K q_10 u_11 40 [] (fun _ => 0), bM K q_12 u_13 40 [] (fun _ => 0)] := ho.re [6, 7, 5, 4, 3, 2, 1, 0] 8 (by decide +kernel) rfl rfl
  have ho : ow D vwCl A s.heap H locs [[(h, .inr (6, [.ref q_1, .int 0, .int 0]))], [(q_1, .inl (K 1, 6, .inr (.inr (.inr (.inr (fun i => some (ads [q_2, q_4, q_6, q_8, q_10, q_12] i)))))))], bM K q_2 u_3 40 [] (fun _ => 0), bM K q_4 u_5 40 [] (fun _ => 0), bM K q_6 u_7 40 [] (fun _ => 0), bM K q_8 u_9 40 [] (fun _ => 0), bM K q_10 u_11 40 [] (fun _ => 0), bM K q_12 u_13 40 [] (fun _ => 0)] := ho.qext (g := fun i => some (ads [q_2, q_4, q_6, q_8, q_10, q_12] i)) 1 0 rfl rfl (six_q rfl rfl rfl rfl rfl rfl) rfl
  have ho : ow D vwCl A s.heap H locs [bH K h q_1 (ads [q_2, q_4, q_6, q_8, q_10, q_12]) 0 0, bPool K (ads [q_2, q_4, q_6, q_8, q_10, q_12]) (ads [u_3, u_5, u_7, u_9, u_11, u_13]) 40 (fun _ => []) (fun _ _ => 0)] := ho.flat (by rfl)
  exact o_vret hQ C ho (q_1, [q_2, q_4, q_6, q_8, q_10, q_12], [u_3, u_5, u_7, u_9, u_11, u_13]) rfl rfl (Nat.le_of_ble_eq_true rfl) (Nat.le_of_ble_eq_true rfl) dX6_init_41

set_option maxHeartbeats 4000000 in
set_option maxRecDepth 100000 in
theorem c_Row_init255 (la : Launch) (D : va_G) (K : Nat → ClassId) (h : Nat)  : MT la D K yX6_init cX6_init 3 none (rmL 2 13 1548) [.ref h, .int (nI 255)] [[(h, .inr (6, [.null, .int 0, .int 0]))]] (Nat × List Nat × List Nat) (fun v _ => v = none) (fun u => [bH K h u.1 (ads u.2.1) 0 0, bPool K (ads u.2.1) (ads u.2.2) 255 (fun _ => []) (fun _ _ => 0)]) := by
  refine Mt.ofW [(0, .ref h), (1, .int (nI 255))] (by decide) rfl (Nat.le_of_ble_eq_true rfl) ?_
  intro p e s m args below meth c A ls H locs Qz hQ C hin hl ho
  have hx := C.1.1
  have hb := C.1.2.1
  refine lv_aload_n hx hb dX6_init_0 rfl (lv_at hl 0 rfl) ?_
  refine o_init C mX6_3 m_oi m_oc hl.1 dX6_init_1 (Nat.le_of_ble_eq_true rfl) (Nat.le_of_ble_eq_true rfl) ?_
  refine lv_aload_n hx hb dX6_init_4 rfl (lv_at hl 0 rfl) ?_
  refine lv_bipush (v := nI 6) hx hb dX6_init_5 (by decide) ?_
  refine o_newq C ho mX6_c9 m_arrX5 1 rfl 6 rfl (by omega) (Nat.le_of_ble_eq_true rfl) (Nat.le_of_ble_eq_true rfl) dX6_init_7 (fun q_1 H ho => ?_)
  have ho : ow D vwCl A s.heap H locs [[(h, .inr (6, [.null, .int 0, .int 0]))], [(q_1, .inl (K 1, 6, .inr (.inr (.inr (.inr (fun _ => none))))))]] := ho
  refine o_putF (v := .ref q_1) (bs' := [[(h, .inr (6, [.ref q_1, .int 0, .int 0]))], [(q_1, .inl (K 1, 6, .inr (.inr (.inr (.inr (fun _ => none))))))]]) C hin ho 0 0 rfl rfl rfl 0 fX6_11 pX6_0 rfl rfl rfl (Nat.le_of_ble_eq_true rfl) dX6_init_10 rfl (fun H locs ho => ?_)
  refine lv_iconst (v := nI 0) hx hb dX6_init_13 (by decide) ?_
  refine lv_istore_n (lv' := [(2, .int (nI 0)), (0, .ref h), (1, .int (nI 255))]) hx hb dX6_init_14 rfl hl (by decide) rfl (fun ls hl => ?_)
  refine lv_iload_n hx hb dX6_init_15 rfl (lv_at hl 0 rfl) ?_
  refine lv_bipush (v := nI 6) hx hb dX6_init_16 (by decide) ?_
  refine o_icmp_ge (tgt := 41) hx hb dX6_init_18 (by decide) (by decide) (by decide) (fun c9 => absurd c9 (by decide)) (fun _ => ?_)
  refine lv_aload_n hx hb dX6_init_21 rfl (lv_at hl 1 rfl) ?_
  refine o_get (v := .ref q_1) C ho 0 0 rfl rfl rfl 0 fX6_11 rfl dX6_init_22 ?_
  refine lv_iload_n hx hb dX6_init_25 rfl (lv_at hl 0 rfl) ?_
  refine o_new (fs := [.null, .int 0]) C ho (ci := 5) (r := (RX5, TX5, 2)) rfl iX5 tyX5 tX5 nX6_9 nfX5 (Nat.le_of_ble_eq_true rfl) (Nat.le_of_ble_eq_true rfl) dX6_init_26 (fun q_2 H ho => ?_)
  have ho : ow D vwCl A s.heap H locs [[(h, .inr (6, [.ref q_1, .int 0, .int 0]))], [(q_1, .inl (K 1, 6, .inr (.inr (.inr (.inr (fun _ => none))))))], [(q_2, .inr (5, [.null, .int 0]))]] := ho
  refine lv_dup hx hb dX6_init_29 rfl ?_
  refine lv_iload_n hx hb dX6_init_30 rfl (lv_at hl 2 rfl) ?_
  refine o_callI (wr := [[(h, .inr (6, [.ref q_1, .int 0, .int 0]))], [(q_1, .inl (K 1, 6, .inr (.inr (.inr (.inr (fun _ => none))))))]]) (rest := [.ref q_2, .int (nI 0), .ref q_1]) (As := [.int (nI 255)]) C (c_Msg_init la D K q_2 255 (by first | omega | assumption | (simp only [List.length_append, List.length_cons, List.length_nil, List.length_modify, List.length_set, nb_len, rb_len, rbp_len, sl_len, slN_len, wh_len, wt_len, hd10_len, hdB_len, thr_len, ldp_len, ldB_len, tens_len, whz_len, majL_len, mf_len, tkL_len, ldY_len, fif_len, ldY_len]; omega) | decide)) kX6_17 vX5_init (by decide) rfl ho [2, 0, 1] 3 (by decide +kernel) rfl rfl hl.1 rfl (Nat.le_of_ble_eq_true rfl) dX6_init_31 3 263 rfl rfl (by decide) (fun v u_3 H locs hq ho => ?_)
  obtain rfl := hq
  have ho : ow D vwCl A s.heap H locs [bM K q_2 u_3 255 [] (fun _ => 0), [(h, .inr (6, [.ref q_1, .int 0, .int 0]))], [(q_1, .inl (K 1, 6, .inr (.inr (.inr (.inr (fun _ => none))))))]] := ho
  refine W.eq (g2 := F0 m 34 ls [.ref q_2, .int (nI 0), .ref q_1]) rfl ?_
  refine o_aast (r := (RX5, TX5, 2)) (ci := 5) (bs' := [bM K q_2 u_3 255 [] (fun _ => 0), [(h, .inr (6, [.ref q_1, .int 0, .int 0]))], [(q_1, .inl (K 1, 6, .inr (.inr (.inr (.inr (va_up (fun _ => none) 0 (some q_2)))))))]]) C ho 2 0 rfl rfl 1 rfl 0 0 rfl rfl rfl 0 rfl (by decide) (by decide) dX6_init_34 rfl (fun H locs ho => ?_)
  refine lv_iinc (v := nI 1) (lv' := [(2, .int (nI 1)), (0, .ref h), (1, .int (nI 255))]) hx hb dX6_init_35 hl (k := 0) rfl (iincN _ _) (by decide) rfl (fun ls hl => ?_)
  refine lv_goto (tgt := 15) hx hb dX6_init_38 (by decide) ?_
  refine lv_iload_n hx hb dX6_init_15 rfl (lv_at hl 0 rfl) ?_
  refine lv_bipush (v := nI 6) hx hb dX6_init_16 (by decide) ?_
  refine o_icmp_ge (tgt := 41) hx hb dX6_init_18 (by decide) (by decide) (by decide) (fun c9 => absurd c9 (by decide)) (fun _ => ?_)
  refine lv_aload_n hx hb dX6_init_21 rfl (lv_at hl 1 rfl) ?_
  refine o_get (v := .ref q_1) C ho 1 0 rfl rfl rfl 0 fX6_11 rfl dX6_init_22 ?_
  refine lv_iload_n hx hb dX6_init_25 rfl (lv_at hl 0 rfl) ?_
  refine o_new (fs := [.null, .int 0]) C ho (ci := 5) (r := (RX5, TX5, 2)) rfl iX5 tyX5 tX5 nX6_9 nfX5 (Nat.le_of_ble_eq_true rfl) (Nat.le_of_ble_eq_true rfl) dX6_init_26 (fun q_4 H ho => ?_)
  have ho : ow D vwCl A s.heap H locs [bM K q_2 u_3 255 [] (fun _ => 0), [(h, .inr (6, [.ref q_1, .int 0, .int 0]))], [(q_1, .inl (K 1, 6, .inr (.inr (.inr (.inr (va_up (fun _ => none) 0 (some q_2)))))))], [(q_4, .inr (5, [.null, .int 0]))]] := ho
  refine lv_dup hx hb dX6_init_29 rfl ?_
  refine lv_iload_n hx hb dX6_init_30 rfl (lv_at hl 2 rfl) ?_
  refine o_callI (wr := [bM K q_2 u_3 255 [] (fun _ => 0), [(h, .inr (6, [.ref q_1, .int 0, .int 0]))], [(q_1, .inl (K 1, 6, .inr (.inr (.inr (.inr (va_up (fun _ => none) 0 (some q_2)))))))]]) (rest := [.ref q_4, .int (nI 1), .ref q_1]) (As := [.int (nI 255)]) C (c_Msg_init la D K q_4 255 (by first | omega | assumption | (simp only [List.length_append, List.length_cons, List.length_nil, List.length_modify, List.length_set, nb_len, rb_len, rbp_len, sl_len, slN_len, wh_len, wt_len, hd10_len, hdB_len, thr_len, ldp_len, ldB_len, tens_len, whz_len, majL_len, mf_len, tkL_len, ldY_len, fif_len, ldY_len]; omega) | decide)) kX6_17 vX5_init (by decide) rfl ho [3, 0, 1, 2] 4 (by decide +kernel) rfl rfl hl.1 rfl (Nat.le_of_ble_eq_true rfl) dX6_init_31 5 520 rfl rfl (by decide) (fun v u_5 H locs hq ho => ?_)
  obtain rfl := hq
  have ho : ow D vwCl A s.heap H locs [bM K q_4 u_5 255 [] (fun _ => 0), bM K q_2 u_3 255 [] (fun _ => 0), [(h, .inr (6, [.ref q_1, .int 0, .int 0]))], [(q_1, .inl (K 1, 6, .inr (.inr (.inr (.inr (va_up (fun _ => none) 0 (some q_2)))))))]] := ho
  refine W.eq (g2 := F0 m 34 ls [.ref q_4, .int (nI 1), .ref q_1]) rfl ?_
  refine o_aast (r := (RX5, TX5, 2)) (ci := 5) (bs' := [bM K q_4 u_5 255 [] (fun _ => 0), bM K q_2 u_3 255 [] (fun _ => 0), [(h, .inr (6, [.ref q_1, .int 0, .int 0]))], [(q_1, .inl (K 1, 6, .inr (.inr (.inr (.inr (va_up (va_up (fun _ => none) 0 (some q_2)) 1 (some q_4)))))))]]) C ho 3 0 rfl rfl 1 rfl 0 0 rfl rfl rfl 1 rfl (by decide) (by decide) dX6_init_34 rfl (fun H locs ho => ?_)
  refine lv_iinc (v := nI 2) (lv' := [(2, .int (nI 2)), (0, .ref h), (1, .int (nI 255))]) hx hb dX6_init_35 hl (k := 0) rfl (iincN _ _) (by decide) rfl (fun ls hl => ?_)
  refine lv_goto (tgt := 15) hx hb dX6_init_38 (by decide) ?_
  refine lv_iload_n hx hb dX6_init_15 rfl (lv_at hl 0 rfl) ?_
  refine lv_bipush (v := nI 6) hx hb dX6_init_16 (by decide) ?_
  refine o_icmp_ge (tgt := 41) hx hb dX6_init_18 (by decide) (by decide) (by decide) (fun c9 => absurd c9 (by decide)) (fun _ => ?_)
  refine lv_aload_n hx hb dX6_init_21 rfl (lv_at hl 1 rfl) ?_
  refine o_get (v := .ref q_1) C ho 2 0 rfl rfl rfl 0 fX6_11 rfl dX6_init_22 ?_
  refine lv_iload_n hx hb dX6_init_25 rfl (lv_at hl 0 rfl) ?_
  refine o_new (fs := [.null, .int 0]) C ho (ci := 5) (r := (RX5, TX5, 2)) rfl iX5 tyX5 tX5 nX6_9 nfX5 (Nat.le_of_ble_eq_true rfl) (Nat.le_of_ble_eq_true rfl) dX6_init_26 (fun q_6 H ho => ?_)
  have ho : ow D vwCl A s.heap H locs [bM K q_4 u_5 255 [] (fun _ => 0), bM K q_2 u_3 255 [] (fun _ => 0), [(h, .inr (6, [.ref q_1, .int 0, .int 0]))], [(q_1, .inl (K 1, 6, .inr (.inr (.inr (.inr (va_up (va_up (fun _ => none) 0 (some q_2)) 1 (some q_4)))))))], [(q_6, .inr (5, [.null, .int 0]))]] := ho
  refine lv_dup hx hb dX6_init_29 rfl ?_
  refine lv_iload_n hx hb dX6_init_30 rfl (lv_at hl 2 rfl) ?_
  refine o_callI (wr := [bM K q_4 u_5 255 [] (fun _ => 0), bM K q_2 u_3 255 [] (fun _ => 0), [(h, .inr (6, [.ref q_1, .int 0, .int 0]))], [(q_1, .inl (K 1, 6, .inr (.inr (.inr (.inr (va_up (va_up (fun _ => none) 0 (some q_2)) 1 (some q_4)))))))]]) (rest := [.ref q_6, .int (nI 2), .ref q_1]) (As := [.int (nI 255)]) C (c_Msg_init la D K q_6 255 (by first | omega | assumption | (simp only [List.length_append, List.length_cons, List.length_nil, List.length_modify, List.length_set, nb_len, rb_len, rbp_len, sl_len, slN_len, wh_len, wt_len, hd10_len, hdB_len, thr_len, ldp_len, ldB_len, tens_len, whz_len, majL_len, mf_len, tkL_len, ldY_len, fif_len, ldY_len]; omega) | decide)) kX6_17 vX5_init (by decide) rfl ho [4, 0, 1, 2, 3] 5 (by decide +kernel) rfl rfl hl.1 rfl (Nat.le_of_ble_eq_true rfl) dX6_init_31 7 777 rfl rfl (by decide) (fun v u_7 H locs hq ho => ?_)
  obtain rfl := hq
  have ho : ow D vwCl A s.heap H locs [bM K q_6 u_7 255 [] (fun _ => 0), bM K q_4 u_5 255 [] (fun _ => 0), bM K q_2 u_3 255 [] (fun _ => 0), [(h, .inr (6, [.ref q_1, .int 0, .int 0]))], [(q_1, .inl (K 1, 6, .inr (.inr (.inr (.inr (va_up (va_up (fun _ => none) 0 (some q_2)) 1 (some q_4)))))))]] := ho
  refine W.eq (g2 := F0 m 34 ls [.ref q_6, .int (nI 2), .ref q_1]) rfl ?_
  refine o_aast (r := (RX5, TX5, 2)) (ci := 5) (bs' := [bM K q_6 u_7 255 [] (fun _ => 0), bM K q_4 u_5 255 [] (fun _ => 0), bM K q_2 u_3 255 [] (fun _ => 0), [(h, .inr (6, [.ref q_1, .int 0, .int 0]))], [(q_1, .inl (K 1, 6, .inr (.inr (.inr (.inr (va_up (va_up (va_up (fun _ => none) 0 (some q_2)) 1 (some q_4)) 2 (some q_6)))))))]]) C ho 4 0 rfl rfl 1 rfl 0 0 rfl rfl rfl 2 rfl (by decide) (by decide) dX6_init_34 rfl (fun H locs ho => ?_)
  refine lv_iinc (v := nI 3) (lv' := [(2, .int (nI 3)), (0, .ref h), (1, .int (nI 255))]) hx hb dX6_init_35 hl (k := 0) rfl (iincN _ _) (by decide) rfl (fun ls hl => ?_)
  refine lv_goto (tgt := 15) hx hb dX6_init_38 (by decide) ?_
  refine lv_iload_n hx hb dX6_init_15 rfl (lv_at hl 0 rfl) ?_
  refine lv_bipush (v := nI 6) hx hb dX6_init_16 (by decide) ?_
  refine o_icmp_ge (tgt := 41) hx hb dX6_init_18 (by decide) (by decide) (by decide) (fun c9 => absurd c9 (by decide)) (fun _ => ?_)
  refine lv_aload_n hx hb dX6_init_21 rfl (lv_at hl 1 rfl) ?_
  refine o_get (v := .ref q_1) C ho 3 0 rfl rfl rfl 0 fX6_11 rfl dX6_init_22 ?_
  refine lv_iload_n hx hb dX6_init_25 rfl (lv_at hl 0 rfl) ?_
  refine o_new (fs := [.null, .int 0]) C ho (ci := 5) (r := (RX5, TX5, 2)) rfl iX5 tyX5 tX5 nX6_9 nfX5 (Nat.le_of_ble_eq_true rfl) (Nat.le_of_ble_eq_true rfl) dX6_init_26 (fun q_8 H ho => ?_)
  have ho : ow D vwCl A s.heap H locs [bM K q_6 u_7 255 [] (fun _ => 0), bM K q_4 u_5 255 [] (fun _ => 0), bM K q_2 u_3 255 [] (fun _ => 0), [(h, .inr (6, [.ref q_1, .int 0, .int 0]))], [(q_1, .inl (K 1, 6, .inr (.inr (.inr (.inr (va_up (va_up (va_up (fun _ => none) 0 (some q_2)) 1 (some q_4)) 2 (some q_6)))))))], [(q_8, .inr (5, [.null, .int 0]))]] := ho
  refine lv_dup hx hb dX6_init_29 rfl ?_
  refine lv_iload_n hx hb dX6_init_30 rfl (lv_at hl 2 rfl) ?_
  refine o_callI (wr := [bM K q_6 u_7 255 [] (fun _ => 0), bM K q_4 u_5 255 [] (fun _ => 0), bM K q_2 u_3 255 [] (fun _ => 0), [(h, .inr (6, [.ref q_1, .int 0, .int 0]))], [(q_1, .inl (K 1, 6, .inr (.inr (.inr (.inr (va_up (va_up (va_up (fun _ => none) 0 (some q_2)) 1 (some q_4)) 2 (some q_6)))))))]]) (rest := [.ref q_8, .int (nI 3), .ref q_1]) (As := [.int (nI 255)]) C (c_Msg_init la D K q_8 255 (by first | omega | assumption | (simp only [List.length_append, List.length_cons, List.length_nil, List.length_modify, List.length_set, nb_len, rb_len, rbp_len, sl_len, slN_len, wh_len, wt_len, hd10_len, hdB_len, thr_len, ldp_len, ldB_len, tens_len, whz_len, majL_len, mf_len, tkL_len, ldY_len, fif_len, ldY_len]; omega) | decide)) kX6_17 vX5_init (by decide) rfl ho [5, 0, 1, 2, 3, 4] 6 (by decide +kernel) rfl rfl hl.1 rfl (Nat.le_of_ble_eq_true rfl) dX6_init_31 9 1034 rfl rfl (by decide) (fun v u_9 H locs hq ho => ?_)
  obtain rfl := hq
  have ho : ow D vwCl A s.heap H locs [bM K q_8 u_9 255 [] (fun _ => 0), bM K q_6 u_7 255 [] (fun _ => 0), bM K q_4 u_5 255 [] (fun _ => 0), bM K q_2 u_3 255 [] (fun _ => 0), [(h, .inr (6, [.ref q_1, .int 0, .int 0]))], [(q_1, .inl (K 1, 6, .inr (.inr (.inr (.inr (va_up (va_up (va_up (fun _ => none) 0 (some q_2)) 1 (some q_4)) 2 (some q_6)))))))]] := ho
  refine W.eq (g2 := F0 m 34 ls [.ref q_8, .int (nI 3), .ref q_1]) rfl ?_
  refine o_aast (r := (RX5, TX5, 2)) (ci := 5) (bs' := [bM K q_8 u_9 255 [] (fun _ => 0), bM K q_6 u_7 255 [] (fun _ => 0), bM K q_4 u_5 255 [] (fun _ => 0), bM K q_2 u_3 255 [] (fun _ => 0), [(h, .inr (6, [.ref q_1, .int 0, .int 0]))], [(q_1, .inl (K 1, 6, .inr (.inr (.inr (.inr (va_up (va_up (va_up (va_up (fun _ => none) 0 (some q_2)) 1 (some q_4)) 2 (some q_6)) 3 (some q_8)))))))]]) C ho 5 0 rfl rfl 1 rfl 0 0 rfl rfl rfl 3 rfl (by decide) (by decide) dX6_init_34 rfl (fun H locs ho => ?_)
  refine lv_iinc (v := nI 4) (lv' := [(2, .int (nI 4)), (0, .ref h), (1, .int (nI 255))]) hx hb dX6_init_35 hl (k := 0) rfl (iincN _ _) (by decide) rfl (fun ls hl => ?_)
  refine lv_goto (tgt := 15) hx hb dX6_init_38 (by decide) ?_
  refine lv_iload_n hx hb dX6_init_15 rfl (lv_at hl 0 rfl) ?_
  refine lv_bipush (v := nI 6) hx hb dX6_init_16 (by decide) ?_
  refine o_icmp_ge (tgt := 41) hx hb dX6_init_18 (by decide) (by decide) (by decide) (fun c9 => absurd c9 (by decide)) (fun _ => ?_)
  refine lv_aload_n hx hb dX6_init_21 rfl (lv_at hl 1 rfl) ?_
  refine o_get (v := .ref q_1) C ho 4 0 rfl rfl rfl 0 fX6_11 rfl dX6_init_22 ?_
  refine lv_iload_n hx hb dX6_init_25 rfl (lv_at hl 0 rfl) ?_
  refine o_new (fs := [.null, .int 0]) C ho (ci := 5) (r := (RX5, TX5, 2)) rfl iX5 tyX5 tX5 nX6_9 nfX5 (Nat.le_of_ble_eq_true rfl) (Nat.le_of_ble_eq_true rfl) dX6_init_26 (fun q_10 H ho => ?_)
  have ho : ow D vwCl A s.heap H locs [bM K q_8 u_9 255 [] (fun _ => 0), bM K q_6 u_7 255 [] (fun _ => 0), bM K q_4 u_5 255 [] (fun _ => 0), bM K q_2 u_3 255 [] (fun _ => 0), [(h, .inr (6, [.ref q_1, .int 0, .int 0]))], [(q_1, .inl (K 1, 6, .inr (.inr (.inr (.inr (va_up (va_up (va_up (va_up (fun _ => none) 0 (some q_2)) 1 (some q_4)) 2 (some q_6)) 3 (some q_8)))))))], [(q_10, .inr (5, [.null, .int 0]))]] := ho
  refine lv_dup hx hb dX6_init_29 rfl ?_
  refine lv_iload_n hx hb dX6_init_30 rfl (lv_at hl 2 rfl) ?_
  refine o_callI (wr := [bM K q_8 u_9 255 [] (fun _ => 0), bM K q_6 u_7 255 [] (fun _ => 0), bM K q_4 u_5 255 [] (fun _ => 0), bM K q_2 u_3 255 [] (fun _ => 0), [(h, .inr (6, [.ref q_1, .int 0, .int 0]))], [(q_1, .inl (K 1, 6, .inr (.inr (.inr (.inr (va_up (va_up (va_up (va_up (fun _ => none) 0 (some q_2)) 1 (some q_4)) 2 (some q_6)) 3 (some q_8)))))))]]) (rest := [.ref q_10, .int (nI 4), .ref q_1]) (As := [.int (nI 255)]) C (c_Msg_init la D K q_10 255 (by first | omega | assumption | (simp only [List.length_append, List.length_cons, List.length_nil, List.length_modify, List.length_set, nb_len, rb_len, rbp_len, sl_len, slN_len, wh_len, wt_len, hd10_len, hdB_len, thr_len, ldp_len, ldB_len, tens_len, whz_len, majL_len, mf_len, tkL_len, ldY_len, fif_len, ldY_len]; omega) | decide)) kX6_17 vX5_init (by decide) rfl ho [6, 0, 1, 2, 3, 4, 5] 7 (by decide +kernel) rfl rfl hl.1 rfl (Nat.le_of_ble_eq_true rfl) dX6_init_31 11 1291 rfl rfl (by decide) (fun v u_11 H locs hq ho => ?_)
  obtain rfl := hq
  have ho : ow D vwCl A s.heap H locs [bM K q_10 u_11 255 [] (fun _ => 0), bM K q_8 u_9 255 [] (fun _ => 0), bM K q_6 u_7 255 [] (fun _ => 0), bM K q_4 u_5 255 [] (fun _ => 0), bM K q_2 u_3 255 [] (fun _ => 0), [(h, .inr (6, [.ref q_1, .int 0, .int 0]))], [(q_1, .inl (K 1, 6, .inr (.inr (.inr (.inr (va_up (va_up (va_up (va_up (fun _ => none) 0 (some q_2)) 1 (some q_4)) 2 (some q_6)) 3 (some q_8)))))))]] := ho
  refine W.eq (g2 := F0 m 34 ls [.ref q_10, .int (nI 4), .ref q_1]) rfl ?_
  refine o_aast (r := (RX5, TX5, 2)) (ci := 5) (bs' := [bM K q_10 u_11 255 [] (fun _ => 0), bM K q_8 u_9 255 [] (fun _ => 0), bM K q_6 u_7 255 [] (fun _ => 0), bM K q_4 u_5 255 [] (fun _ => 0), bM K q_2 u_3 255 [] (fun _ => 0), [(h, .inr (6, [.ref q_1, .int 0, .int 0]))], [(q_1, .inl (K 1, 6, .inr (.inr (.inr (.inr (va_up (va_up (va_up (va_up (va_up (fun _ => none) 0 (some q_2)) 1 (some q_4)) 2 (some q_6)) 3 (some q_8)) 4 (some q_10)))))))]]) C ho 6 0 rfl rfl 1 rfl 0 0 rfl rfl rfl 4 rfl (by decide) (by decide) dX6_init_34 rfl (fun H locs ho => ?_)
  refine lv_iinc (v := nI 5) (lv' := [(2, .int (nI 5)), (0, .ref h), (1, .int (nI 255))]) hx hb dX6_init_35 hl (k := 0) rfl (iincN _ _) (by decide) rfl (fun ls hl => ?_)
  refine lv_goto (tgt := 15) hx hb dX6_init_38 (by decide) ?_
  refine lv_iload_n hx hb dX6_init_15 rfl (lv_at hl 0 rfl) ?_
  refine lv_bipush (v := nI 6) hx hb dX6_init_16 (by decide) ?_
  refine o_icmp_ge (tgt := 41) hx hb dX6_init_18 (by decide) (by decide) (by decide) (fun c9 => absurd c9 (by decide)) (fun _ => ?_)
  refine lv_aload_n hx hb dX6_init_21 rfl (lv_at hl 1 rfl) ?_
  refine o_get (v := .ref q_1) C ho 5 0 rfl rfl rfl 0 fX6_11 rfl dX6_init_22 ?_
  refine lv_iload_n hx hb dX6_init_25 rfl (lv_at hl 0 rfl) ?_
  refine o_new (fs := [.null, .int 0]) C ho (ci := 5) (r := (RX5, TX5, 2)) rfl iX5 tyX5 tX5 nX6_9 nfX5 (Nat.le_of_ble_eq_true rfl) (Nat.le_of_ble_eq_true rfl) dX6_init_26 (fun q_12 H ho => ?_)
  have ho : ow D vwCl A s.heap H locs [bM K q_10 u_11 255 [] (fun _ => 0), bM K q_8 u_9 255 [] (fun _ => 0), bM K q_6 u_7 255 [] (fun _ => 0), bM K q_4 u_5 255 [] (fun _ => 0), bM K q_2 u_3 255 [] (fun _ => 0), [(h, .inr (6, [.ref q_1, .int 0, .int 0]))], [(q_1, .inl (K 1, 6, .inr (.inr (.inr (.inr (va_up (va_up (va_up (va_up (va_up (fun _ => none) 0 (some q_2)) 1 (some q_4)) 2 (some q_6)) 3 (some q_8)) 4 (some q_10)))))))], [(q_12, .inr (5, [.null, .int 0]))]] := ho
  refine lv_dup hx hb dX6_init_29 rfl ?_
  refine lv_iload_n hx hb dX6_init_30 rfl (lv_at hl 2 rfl) ?_
  refine o_callI (wr := [bM K q_10 u_11 255 [] (fun _ => 0), bM K q_8 u_9 255 [] (fun _ => 0), bM K q_6 u_7 255 [] (fun _ => 0), bM K q_4 u_5 255 [] (fun _ => 0), bM K q_2 u_3 255 [] (fun _ => 0), [(h, .inr (6, [.ref q_1, .int 0, .int 0]))], [(q_1, .inl (K 1, 6, .inr (.inr (.inr (.inr (va_up (va_up (va_up (va_up (va_up (fun _ => none) 0 (some q_2)) 1 (some q_4)) 2 (some q_6)) 3 (some q_8)) 4 (some q_10)))))))]]) (rest := [.ref q_12, .int (nI 5), .ref q_1]) (As := [.int (nI 255)]) C (c_Msg_init la D K q_12 255 (by first | omega | assumption | (simp only [List.length_append, List.length_cons, List.length_nil, List.length_modify, List.length_set, nb_len, rb_len, rbp_len, sl_len, slN_len, wh_len, wt_len, hd10_len, hdB_len, thr_len, ldp_len, ldB_len, tens_len, whz_len, majL_len, mf_len, tkL_len, ldY_len, fif_len, ldY_len]; omega) | decide)) kX6_17 vX5_init (by decide) rfl ho [7, 0, 1, 2, 3, 4, 5, 6] 8 (by decide +kernel) rfl rfl hl.1 rfl (Nat.le_of_ble_eq_true rfl) dX6_init_31 13 1548 rfl rfl (by decide) (fun v u_13 H locs hq ho => ?_)
  obtain rfl := hq
  have ho : ow D vwCl A s.heap H locs [bM K q_12 u_13 255 [] (fun _ => 0), bM K q_10 u_11 255 [] (fun _ => 0), bM K q_8 u_9 255 [] (fun _ => 0), bM K q_6 u_7 255 [] (fun _ => 0), bM K q_4 u_5 255 [] (fun _ => 0), bM K q_2 u_3 255 [] (fun _ => 0), [(h, .inr (6, [.ref q_1, .int 0, .int 0]))], [(q_1, .inl (K 1, 6, .inr (.inr (.inr (.inr (va_up (va_up (va_up (va_up (va_up (fun _ => none) 0 (some q_2)) 1 (some q_4)) 2 (some q_6)) 3 (some q_8)) 4 (some q_10)))))))]] := ho
  refine W.eq (g2 := F0 m 34 ls [.ref q_12, .int (nI 5), .ref q_1]) rfl ?_
  refine o_aast (r := (RX5, TX5, 2)) (ci := 5) (bs' := [bM K q_12 u_13 255 [] (fun _ => 0), bM K q_10 u_11 255 [] (fun _ => 0), bM K q_8 u_9 255 [] (fun _ => 0), bM K q_6 u_7 255 [] (fun _ => 0), bM K q_4 u_5 255 [] (fun _ => 0), bM K q_2 u_3 255 [] (fun _ => 0), [(h, .inr (6, [.ref q_1, .int 0, .int 0]))], [(q_1, .inl (K 1, 6, .inr (.inr (.inr (.inr (va_up (va_up (va_up (va_up (va_up (va_up (fun _ => none) 0 (some q_2)) 1 (some q_4)) 2 (some q_6)) 3 (some q_8)) 4 (some q_10)) 5 (some q_12)))))))]]) C ho 7 0 rfl rfl 1 rfl 0 0 rfl rfl rfl 5 rfl (by decide) (by decide) dX6_init_34 rfl (fun H locs ho => ?_)
  refine lv_iinc (v := nI 6) (lv' := [(2, .int (nI 6)), (0, .ref h), (1, .int (nI 255))]) hx hb dX6_init_35 hl (k := 0) rfl (iincN _ _) (by decide) rfl (fun ls hl => ?_)
  refine lv_goto (tgt := 15) hx hb dX6_init_38 (by decide) ?_
  refine lv_iload_n hx hb dX6_init_15 rfl (lv_at hl 0 rfl) ?_
  refine lv_bipush (v := nI 6) hx hb dX6_init_16 (by decide) ?_
  refine o_icmp_ge (tgt := 41) hx hb dX6_init_18 (by decide) (by decide) (by decide) (fun _ => ?_) (fun c9 => absurd c9 (by decide))
  have ho : ow D vwCl A s.heap H locs [[(h, .inr (6, [.ref q_1, .int 0, .int 0]))], [(q_1, .inl (K 1, 6, .inr (.inr (.inr (.inr (va_up (va_up (va_up (va_up (va_up (va_up (fun _ => none) 0 (some q_2)) 1 (some q_4)) 2 (some q_6)) 3 (some q_8)) 4 (some q_10)) 5 (some q_12)))))))], bM K q_2 u_3 255 [] (fun _ => 0), bM K q_4 u_5 255 [] (fun _ => 0), bM K q_6 u_7 255 [] (fun _ => 0), bM K q_8 u_9 255 [] (fun _ => 0), bM K q_10 u_11 255 [] (fun _ => 0), bM K q_12 u_13 255 [] (fun _ => 0)] := ho.re [6, 7, 5, 4, 3, 2, 1, 0] 8 (by decide +kernel) rfl rfl
  have ho : ow D vwCl A s.heap H locs [[(h, .inr (6, [.ref q_1, .int 0, .int 0]))], [(q_1, .inl (K 1, 6, .inr (.inr (.inr (.inr (fun i => some (ads [q_2, q_4, q_6, q_8, q_10, q_12] i)))))))], bM K q_2 u_3 255 [] (fun _ => 0), bM K q_4 u_5 255 [] (fun _ => 0), bM K q_6 u_7 255 [] (fun _ => 0), bM K q_8 u_9 255 [] (fun _ => 0), bM K q_10 u_11 255 [] (fun _ => 0), bM K q_12 u_13 255 [] (fun _ => 0)] := ho.qext (g := fun i => some (ads [q_2, q_4, q_6, q_8, q_10, q_12] i)) 1 0 rfl rfl (six_q rfl rfl rfl rfl rfl rfl) rfl
  have ho : ow D vwCl A s.heap H locs [bH K h q_1 (ads [q_2, q_4, q_6, q_8, q_10, q_12]) 0 0, bPool K (ads [q_2, q_4, q_6, q_8, q_10, q_12]) (ads [u_3, u_5, u_7, u_9, u_11, u_13]) 255 (fun _ => []) (fun _ _ => 0)] := ho.flat (by rfl)
  exact o_vret hQ C ho (q_1, [q_2, q_4, q_6, q_8, q_10, q_12], [u_3, u_5, u_7, u_9, u_11, u_13]) rfl rfl (Nat.le_of_ble_eq_true rfl) (Nat.le_of_ble_eq_true rfl) dX6_init_41

set_option maxHeartbeats 4000000 in
set_option maxRecDepth 100000 in
theorem c_Coder_init (la : Launch) (D : va_G) (K : Nat → ClassId) (h : Nat) (ad : Nat)  : MT la D K yX1_init cX1_init 2 none (rmL 2 8 359) [.ref h, .int (nI ad)] [[(h, .inr (1, [.int 0, .null, .null, .null, .null]))]] (Nat → Nat) (fun v _ => v = none) (fun u => [bC K h ad (u 0) (u 1) (u 2) (u 3), bB K (u 0) (u 4) 168 [] (fun _ => 0), bB K (u 1) (u 5) 18 [] (fun _ => 0), bB K (u 2) (u 6) 150 [] (fun _ => 0), bB K (u 3) (u 7) 15 [] (fun _ => 0)]) := by
  refine Mt.ofW [(0, .ref h), (1, .int (nI ad))] (by decide) rfl (Nat.le_of_ble_eq_true rfl) ?_
  intro p e s m args below meth c A ls H locs Qz hQ C hin hl ho
  have hx := C.1.1
  have hb := C.1.2.1
  refine lv_aload_n hx hb dX1_init_0 rfl (lv_at hl 0 rfl) ?_
  refine o_init C mX1_3 m_oi m_oc hl.1 dX1_init_1 (Nat.le_of_ble_eq_true rfl) (Nat.le_of_ble_eq_true rfl) ?_
  refine lv_aload_n hx hb dX1_init_4 rfl (lv_at hl 0 rfl) ?_
  refine o_new (fs := [.null, .int 0]) C ho (ci := 0) (r := (RX0, TX0, 2)) rfl iX0 tyX0 tX0 nX1_9 nfX0 (Nat.le_of_ble_eq_true rfl) (Nat.le_of_ble_eq_true rfl) dX1_init_5 (fun q_1 H ho => ?_)
  have ho : ow D vwCl A s.heap H locs [[(h, .inr (1, [.int 0, .null, .null, .null, .null]))], [(q_1, .inr (0, [.null, .int 0]))]] := ho
  refine lv_dup hx hb dX1_init_8 rfl ?_
  refine lv_sipush (v := nI 168) hx hb dX1_init_9 (by decide) ?_
  refine o_callI (wr := [[(h, .inr (1, [.int 0, .null, .null, .null, .null]))]]) (rest := [.ref q_1, .ref h]) (As := [.int (nI 168)]) C (c_Bits_init la D K q_1 168 (by first | omega | assumption | (simp only [List.length_append, List.length_cons, List.length_nil, List.length_modify, List.length_set, nb_len, rb_len, rbp_len, sl_len, slN_len, wh_len, wt_len, hd10_len, hdB_len, thr_len, ldp_len, ldB_len, tens_len, whz_len, majL_len, mf_len, tkL_len, ldY_len, fif_len, ldY_len]; omega) | decide)) kX1_11 vX0_init (by decide) rfl ho [1, 0] 2 (by decide +kernel) rfl rfl hl.1 rfl (Nat.le_of_ble_eq_true rfl) dX1_init_12 2 170 rfl rfl (by decide) (fun v u_2 H locs hq ho => ?_)
  obtain rfl := hq
  have ho : ow D vwCl A s.heap H locs [bB K q_1 u_2 168 [] (fun _ => 0), [(h, .inr (1, [.int 0, .null, .null, .null, .null]))]] := ho
  refine W.eq (g2 := F0 m 15 ls [.ref q_1, .ref h]) rfl ?_
  refine o_putF (v := .ref q_1) (bs' := [bB K q_1 u_2 168 [] (fun _ => 0), [(h, .inr (1, [.int 0, .ref q_1, .null, .null, .null]))]]) C hin ho 1 0 rfl rfl rfl 1 fX1_14 pX1_1 rfl rfl rfl (Nat.le_of_ble_eq_true rfl) dX1_init_15 rfl (fun H locs ho => ?_)
  refine lv_aload_n hx hb dX1_init_18 rfl (lv_at hl 0 rfl) ?_
  refine o_new (fs := [.null, .int 0]) C ho (ci := 0) (r := (RX0, TX0, 2)) rfl iX0 tyX0 tX0 nX1_9 nfX0 (Nat.le_of_ble_eq_true rfl) (Nat.le_of_ble_eq_true rfl) dX1_init_19 (fun q_3 H ho => ?_)
  have ho : ow D vwCl A s.heap H locs [bB K q_1 u_2 168 [] (fun _ => 0), [(h, .inr (1, [.int 0, .ref q_1, .null, .null, .null]))], [(q_3, .inr (0, [.null, .int 0]))]] := ho
  refine lv_dup hx hb dX1_init_22 rfl ?_
  refine lv_bipush (v := nI 18) hx hb dX1_init_23 (by decide) ?_
  refine o_callI (wr := [bB K q_1 u_2 168 [] (fun _ => 0), [(h, .inr (1, [.int 0, .ref q_1, .null, .null, .null]))]]) (rest := [.ref q_3, .ref h]) (As := [.int (nI 18)]) C (c_Bits_init la D K q_3 18 (by first | omega | assumption | (simp only [List.length_append, List.length_cons, List.length_nil, List.length_modify, List.length_set, nb_len, rb_len, rbp_len, sl_len, slN_len, wh_len, wt_len, hd10_len, hdB_len, thr_len, ldp_len, ldB_len, tens_len, whz_len, majL_len, mf_len, tkL_len, ldY_len, fif_len, ldY_len]; omega) | decide)) kX1_11 vX0_init (by decide) rfl ho [2, 0, 1] 3 (by decide +kernel) rfl rfl hl.1 rfl (Nat.le_of_ble_eq_true rfl) dX1_init_25 4 190 rfl rfl (by decide) (fun v u_4 H locs hq ho => ?_)
  obtain rfl := hq
  have ho : ow D vwCl A s.heap H locs [bB K q_3 u_4 18 [] (fun _ => 0), bB K q_1 u_2 168 [] (fun _ => 0), [(h, .inr (1, [.int 0, .ref q_1, .null, .null, .null]))]] := ho
  refine W.eq (g2 := F0 m 28 ls [.ref q_3, .ref h]) rfl ?_
  refine o_putF (v := .ref q_3) (bs' := [bB K q_3 u_4 18 [] (fun _ => 0), bB K q_1 u_2 168 [] (fun _ => 0), [(h, .inr (1, [.int 0, .ref q_1, .ref q_3, .null, .null]))]]) C hin ho 2 0 rfl rfl rfl 2 fX1_20 pX1_2 rfl rfl rfl (Nat.le_of_ble_eq_true rfl) dX1_init_28 rfl (fun H locs ho => ?_)
  refine lv_aload_n hx hb dX1_init_31 rfl (lv_at hl 0 rfl) ?_
  refine o_new (fs := [.null, .int 0]) C ho (ci := 0) (r := (RX0, TX0, 2)) rfl iX0 tyX0 tX0 nX1_9 nfX0 (Nat.le_of_ble_eq_true rfl) (Nat.le_of_ble_eq_true rfl) dX1_init_32 (fun q_5 H ho => ?_)
  have ho : ow D vwCl A s.heap H locs [bB K q_3 u_4 18 [] (fun _ => 0), bB K q_1 u_2 168 [] (fun _ => 0), [(h, .inr (1, [.int 0, .ref q_1, .ref q_3, .null, .null]))], [(q_5, .inr (0, [.null, .int 0]))]] := ho
  refine lv_dup hx hb dX1_init_35 rfl ?_
  refine lv_sipush (v := nI 150) hx hb dX1_init_36 (by decide) ?_
  refine o_callI (wr := [bB K q_3 u_4 18 [] (fun _ => 0), bB K q_1 u_2 168 [] (fun _ => 0), [(h, .inr (1, [.int 0, .ref q_1, .ref q_3, .null, .null]))]]) (rest := [.ref q_5, .ref h]) (As := [.int (nI 150)]) C (c_Bits_init la D K q_5 150 (by first | omega | assumption | (simp only [List.length_append, List.length_cons, List.length_nil, List.length_modify, List.length_set, nb_len, rb_len, rbp_len, sl_len, slN_len, wh_len, wt_len, hd10_len, hdB_len, thr_len, ldp_len, ldB_len, tens_len, whz_len, majL_len, mf_len, tkL_len, ldY_len, fif_len, ldY_len]; omega) | decide)) kX1_11 vX0_init (by decide) rfl ho [3, 0, 1, 2] 4 (by decide +kernel) rfl rfl hl.1 rfl (Nat.le_of_ble_eq_true rfl) dX1_init_39 6 342 rfl rfl (by decide) (fun v u_6 H locs hq ho => ?_)
  obtain rfl := hq
  have ho : ow D vwCl A s.heap H locs [bB K q_5 u_6 150 [] (fun _ => 0), bB K q_3 u_4 18 [] (fun _ => 0), bB K q_1 u_2 168 [] (fun _ => 0), [(h, .inr (1, [.int 0, .ref q_1, .ref q_3, .null, .null]))]] := ho
  refine W.eq (g2 := F0 m 42 ls [.ref q_5, .ref h]) rfl ?_
  refine o_putF (v := .ref q_5) (bs' := [bB K q_5 u_6 150 [] (fun _ => 0), bB K q_3 u_4 18 [] (fun _ => 0), bB K q_1 u_2 168 [] (fun _ => 0), [(h, .inr (1, [.int 0, .ref q_1, .ref q_3, .ref q_5, .null]))]]) C hin ho 3 0 rfl rfl rfl 3 fX1_23 pX1_3 rfl rfl rfl (Nat.le_of_ble_eq_true rfl) dX1_init_42 rfl (fun H locs ho => ?_)
  refine lv_aload_n hx hb dX1_init_45 rfl (lv_at hl 0 rfl) ?_
  refine o_new (fs := [.null, .int 0]) C ho (ci := 0) (r := (RX0, TX0, 2)) rfl iX0 tyX0 tX0 nX1_9 nfX0 (Nat.le_of_ble_eq_true rfl) (Nat.le_of_ble_eq_true rfl) dX1_init_46 (fun q_7 H ho => ?_)
  have ho : ow D vwCl A s.heap H locs [bB K q_5 u_6 150 [] (fun _ => 0), bB K q_3 u_4 18 [] (fun _ => 0), bB K q_1 u_2 168 [] (fun _ => 0), [(h, .inr (1, [.int 0, .ref q_1, .ref q_3, .ref q_5, .null]))], [(q_7, .inr (0, [.null, .int 0]))]] := ho
  refine lv_dup hx hb dX1_init_49 rfl ?_
  refine lv_bipush (v := nI 15) hx hb dX1_init_50 (by decide) ?_
  refine o_callI (wr := [bB K q_5 u_6 150 [] (fun _ => 0), bB K q_3 u_4 18 [] (fun _ => 0), bB K q_1 u_2 168 [] (fun _ => 0), [(h, .inr (1, [.int 0, .ref q_1, .ref q_3, .ref q_5, .null]))]]) (rest := [.ref q_7, .ref h]) (As := [.int (nI 15)]) C (c_Bits_init la D K q_7 15 (by first | omega | assumption | (simp only [List.length_append, List.length_cons, List.length_nil, List.length_modify, List.length_set, nb_len, rb_len, rbp_len, sl_len, slN_len, wh_len, wt_len, hd10_len, hdB_len, thr_len, ldp_len, ldB_len, tens_len, whz_len, majL_len, mf_len, tkL_len, ldY_len, fif_len, ldY_len]; omega) | decide)) kX1_11 vX0_init (by decide) rfl ho [4, 0, 1, 2, 3] 5 (by decide +kernel) rfl rfl hl.1 rfl (Nat.le_of_ble_eq_true rfl) dX1_init_52 8 359 rfl rfl (by decide) (fun v u_8 H locs hq ho => ?_)
  obtain rfl := hq
  have ho : ow D vwCl A s.heap H locs [bB K q_7 u_8 15 [] (fun _ => 0), bB K q_5 u_6 150 [] (fun _ => 0), bB K q_3 u_4 18 [] (fun _ => 0), bB K q_1 u_2 168 [] (fun _ => 0), [(h, .inr (1, [.int 0, .ref q_1, .ref q_3, .ref q_5, .null]))]] := ho
  refine W.eq (g2 := F0 m 55 ls [.ref q_7, .ref h]) rfl ?_
  refine o_putF (v := .ref q_7) (bs' := [bB K q_7 u_8 15 [] (fun _ => 0), bB K q_5 u_6 150 [] (fun _ => 0), bB K q_3 u_4 18 [] (fun _ => 0), bB K q_1 u_2 168 [] (fun _ => 0), [(h, .inr (1, [.int 0, .ref q_1, .ref q_3, .ref q_5, .ref q_7]))]]) C hin ho 4 0 rfl rfl rfl 4 fX1_26 pX1_4 rfl rfl rfl (Nat.le_of_ble_eq_true rfl) dX1_init_55 rfl (fun H locs ho => ?_)
  refine lv_aload_n hx hb dX1_init_58 rfl (lv_at hl 0 rfl) ?_
  refine lv_iload_n hx hb dX1_init_59 rfl (lv_at hl 1 rfl) ?_
  refine o_putF (v := .int (nI ad)) (bs' := [bB K q_7 u_8 15 [] (fun _ => 0), bB K q_5 u_6 150 [] (fun _ => 0), bB K q_3 u_4 18 [] (fun _ => 0), bB K q_1 u_2 168 [] (fun _ => 0), [(h, .inr (1, [.int (nI ad), .ref q_1, .ref q_3, .ref q_5, .ref q_7]))]]) C hin ho 4 0 rfl rfl rfl 0 fX1_29 pX1_0 rfl rfl rfl (Nat.le_of_ble_eq_true rfl) dX1_init_60 rfl (fun H locs ho => ?_)
  have ho : ow D vwCl A s.heap H locs [bB K q_7 u_8 15 [] (fun _ => 0), bB K q_5 u_6 150 [] (fun _ => 0), bB K q_3 u_4 18 [] (fun _ => 0), bB K q_1 u_2 168 [] (fun _ => 0), bC K h ad q_1 q_3 q_5 q_7] := ho
  have ho : ow D vwCl A s.heap H locs [bC K h ad q_1 q_3 q_5 q_7, bB K q_1 u_2 168 [] (fun _ => 0), bB K q_3 u_4 18 [] (fun _ => 0), bB K q_5 u_6 150 [] (fun _ => 0), bB K q_7 u_8 15 [] (fun _ => 0)] := ho.re [4, 3, 2, 1, 0] 5 (by decide +kernel) rfl rfl
  exact o_vret hQ C ho (ads [q_1, q_3, q_5, q_7, u_2, u_4, u_6, u_8]) rfl (by dsimp only [ads, List.getD_cons_zero, List.getD_cons_succ] <;> rfl) (Nat.le_of_ble_eq_true rfl) (Nat.le_of_ble_eq_true rfl) dX1_init_63

set_option maxHeartbeats 4000000 in
set_option maxRecDepth 100000 in
theorem c_Out_init (la : Launch) (D : va_G) (K : Nat → ClassId) (h : Nat)  : MT la D K yX7_init cX7_init 1 none (rmL 3 21 417) [.ref h] [[(h, .inr (7, [.null, .null, .null, .null, .int 0, .int 0, .int 0, .int 0]))]] ((Nat → Nat) × (Nat → Nat) × (Nat → Nat)) (fun v _ => v = none) (fun u => [bO K h (u.1 0) (u.1 2) (u.1 4) (u.1 6) 0 false true false, bM K (u.1 0) (u.1 1) 40 [] (fun _ => 0), bH K (u.1 2) (u.1 3) u.2.1 0 0, bPool K u.2.1 u.2.2 40 (fun _ => []) (fun _ _ => 0), bM K (u.1 4) (u.1 5) 41 [] (fun _ => 0), bF K (u.1 6) (u.1 7) 0 false false false 0, bM K (u.1 7) (u.1 8) 63 [] (fun _ => 0)]) := by
  refine Mt.ofW [(0, .ref h)] (by decide) rfl (Nat.le_of_ble_eq_true rfl) ?_
  intro p e s m args below meth c A ls H locs Qz hQ C hin hl ho
  have hx := C.1.1
  have hb := C.1.2.1
  refine lv_aload_n hx hb dX7_init_0 rfl (lv_at hl 0 rfl) ?_
  refine o_init C mX7_3 m_oi m_oc hl.1 dX7_init_1 (Nat.le_of_ble_eq_true rfl) (Nat.le_of_ble_eq_true rfl) ?_
  refine lv_aload_n hx hb dX7_init_4 rfl (lv_at hl 0 rfl) ?_
  refine o_new (fs := [.null, .int 0]) C ho (ci := 5) (r := (RX5, TX5, 2)) rfl iX5 tyX5 tX5 nX7_9 nfX5 (Nat.le_of_ble_eq_true rfl) (Nat.le_of_ble_eq_true rfl) dX7_init_5 (fun q_1 H ho => ?_)
  have ho : ow D vwCl A s.heap H locs [[(h, .inr (7, [.null, .null, .null, .null, .int 0, .int 0, .int 0, .int 0]))], [(q_1, .inr (5, [.null, .int 0]))]] := ho
  refine lv_dup hx hb dX7_init_8 rfl ?_
  refine lv_bipush (v := nI 40) hx hb dX7_init_9 (by decide) ?_
  refine o_callI (wr := [[(h, .inr (7, [.null, .null, .null, .null, .int 0, .int 0, .int 0, .int 0]))]]) (rest := [.ref q_1, .ref h]) (As := [.int (nI 40)]) C (c_Msg_init la D K q_1 40 (by first | omega | assumption | (simp only [List.length_append, List.length_cons, List.length_nil, List.length_modify, List.length_set, nb_len, rb_len, rbp_len, sl_len, slN_len, wh_len, wt_len, hd10_len, hdB_len, thr_len, ldp_len, ldB_len, tens_len, whz_len, majL_len, mf_len, tkL_len, ldY_len, fif_len, ldY_len]; omega) | decide)) kX7_11 vX5_init (by decide) rfl ho [1, 0] 2 (by decide +kernel) rfl rfl hl.1 rfl (Nat.le_of_ble_eq_true rfl) dX7_init_11 2 42 rfl rfl (by decide) (fun v u_2 H locs hq ho => ?_)
  obtain rfl := hq
  have ho : ow D vwCl A s.heap H locs [bM K q_1 u_2 40 [] (fun _ => 0), [(h, .inr (7, [.null, .null, .null, .null, .int 0, .int 0, .int 0, .int 0]))]] := ho
  refine W.eq (g2 := F0 m 14 ls [.ref q_1, .ref h]) rfl ?_
  refine o_putF (v := .ref q_1) (bs' := [bM K q_1 u_2 40 [] (fun _ => 0), [(h, .inr (7, [.ref q_1, .null, .null, .null, .int 0, .int 0, .int 0, .int 0]))]]) C hin ho 1 0 rfl rfl rfl 0 fX7_14 pX7_0 rfl rfl rfl (Nat.le_of_ble_eq_true rfl) dX7_init_14 rfl (fun H locs ho => ?_)
  refine lv_aload_n hx hb dX7_init_17 rfl (lv_at hl 0 rfl) ?_
  refine o_new (fs := [.null, .int 0, .int 0]) C ho (ci := 6) (r := (RX6, TX6, 3)) rfl iX6 tyX6 tX6 nX7_20 nfX6 (Nat.le_of_ble_eq_true rfl) (Nat.le_of_ble_eq_true rfl) dX7_init_18 (fun q_3 H ho => ?_)
  have ho : ow D vwCl A s.heap H locs [bM K q_1 u_2 40 [] (fun _ => 0), [(h, .inr (7, [.ref q_1, .null, .null, .null, .int 0, .int 0, .int 0, .int 0]))], [(q_3, .inr (6, [.null, .int 0, .int 0]))]] := ho
  refine lv_dup hx hb dX7_init_21 rfl ?_
  refine lv_bipush (v := nI 40) hx hb dX7_init_22 (by decide) ?_
  refine o_callI (wr := [bM K q_1 u_2 40 [] (fun _ => 0), [(h, .inr (7, [.ref q_1, .null, .null, .null, .int 0, .int 0, .int 0, .int 0]))]]) (rest := [.ref q_3, .ref h]) (As := [.int (nI 40)]) C (c_Row_init40 la D K q_3 ) kX7_22 vX6_init (by decide) rfl ho [2, 0, 1] 3 (by decide +kernel) rfl rfl hl.1 rfl (Nat.le_of_ble_eq_true rfl) dX7_init_24 16 303 rfl rfl (by decide) (fun v u_4 H locs hq ho => ?_)
  obtain rfl := hq
  have ho : ow D vwCl A s.heap H locs [bH K q_3 u_4.1 (ads u_4.2.1) 0 0, bPool K (ads u_4.2.1) (ads u_4.2.2) 40 (fun _ => []) (fun _ _ => 0), bM K q_1 u_2 40 [] (fun _ => 0), [(h, .inr (7, [.ref q_1, .null, .null, .null, .int 0, .int 0, .int 0, .int 0]))]] := ho
  refine W.eq (g2 := F0 m 27 ls [.ref q_3, .ref h]) rfl ?_
  refine o_putF (v := .ref q_3) (bs' := [bH K q_3 u_4.1 (ads u_4.2.1) 0 0, bPool K (ads u_4.2.1) (ads u_4.2.2) 40 (fun _ => []) (fun _ _ => 0), bM K q_1 u_2 40 [] (fun _ => 0), [(h, .inr (7, [.ref q_1, .ref q_3, .null, .null, .int 0, .int 0, .int 0, .int 0]))]]) C hin ho 3 0 rfl rfl rfl 1 fX7_23 pX7_1 rfl rfl rfl (Nat.le_of_ble_eq_true rfl) dX7_init_27 rfl (fun H locs ho => ?_)
  refine lv_aload_n hx hb dX7_init_30 rfl (lv_at hl 0 rfl) ?_
  refine o_new (fs := [.null, .int 0]) C ho (ci := 5) (r := (RX5, TX5, 2)) rfl iX5 tyX5 tX5 nX7_9 nfX5 (Nat.le_of_ble_eq_true rfl) (Nat.le_of_ble_eq_true rfl) dX7_init_31 (fun q_5 H ho => ?_)
  have ho : ow D vwCl A s.heap H locs [bH K q_3 u_4.1 (ads u_4.2.1) 0 0, bPool K (ads u_4.2.1) (ads u_4.2.2) 40 (fun _ => []) (fun _ _ => 0), bM K q_1 u_2 40 [] (fun _ => 0), [(h, .inr (7, [.ref q_1, .ref q_3, .null, .null, .int 0, .int 0, .int 0, .int 0]))], [(q_5, .inr (5, [.null, .int 0]))]] := ho
  refine lv_dup hx hb dX7_init_34 rfl ?_
  refine lv_bipush (v := nI 41) hx hb dX7_init_35 (by decide) ?_
  refine o_callI (wr := [bH K q_3 u_4.1 (ads u_4.2.1) 0 0, bPool K (ads u_4.2.1) (ads u_4.2.2) 40 (fun _ => []) (fun _ _ => 0), bM K q_1 u_2 40 [] (fun _ => 0), [(h, .inr (7, [.ref q_1, .ref q_3, .null, .null, .int 0, .int 0, .int 0, .int 0]))]]) (rest := [.ref q_5, .ref h]) (As := [.int (nI 41)]) C (c_Msg_init la D K q_5 41 (by first | omega | assumption | (simp only [List.length_append, List.length_cons, List.length_nil, List.length_modify, List.length_set, nb_len, rb_len, rbp_len, sl_len, slN_len, wh_len, wt_len, hd10_len, hdB_len, thr_len, ldp_len, ldB_len, tens_len, whz_len, majL_len, mf_len, tkL_len, ldY_len, fif_len, ldY_len]; omega) | decide)) kX7_11 vX5_init (by decide) rfl ho [4, 0, 1, 2, 3] 5 (by decide +kernel) rfl rfl hl.1 rfl (Nat.le_of_ble_eq_true rfl) dX7_init_37 18 346 rfl rfl (by decide) (fun v u_6 H locs hq ho => ?_)
  obtain rfl := hq
  have ho : ow D vwCl A s.heap H locs [bM K q_5 u_6 41 [] (fun _ => 0), bH K q_3 u_4.1 (ads u_4.2.1) 0 0, bPool K (ads u_4.2.1) (ads u_4.2.2) 40 (fun _ => []) (fun _ _ => 0), bM K q_1 u_2 40 [] (fun _ => 0), [(h, .inr (7, [.ref q_1, .ref q_3, .null, .null, .int 0, .int 0, .int 0, .int 0]))]] := ho
  refine W.eq (g2 := F0 m 40 ls [.ref q_5, .ref h]) rfl ?_
  refine o_putF (v := .ref q_5) (bs' := [bM K q_5 u_6 41 [] (fun _ => 0), bH K q_3 u_4.1 (ads u_4.2.1) 0 0, bPool K (ads u_4.2.1) (ads u_4.2.2) 40 (fun _ => []) (fun _ _ => 0), bM K q_1 u_2 40 [] (fun _ => 0), [(h, .inr (7, [.ref q_1, .ref q_3, .ref q_5, .null, .int 0, .int 0, .int 0, .int 0]))]]) C hin ho 4 0 rfl rfl rfl 2 fX7_27 pX7_2 rfl rfl rfl (Nat.le_of_ble_eq_true rfl) dX7_init_40 rfl (fun H locs ho => ?_)
  refine lv_aload_n hx hb dX7_init_43 rfl (lv_at hl 0 rfl) ?_
  refine o_new (fs := [.null, .int 0, .int 0, .int 0, .int 0, .int 0]) C ho (ci := 3) (r := (RX3, TX3, 6)) rfl iX3 tyX3 tX3 nX7_30 nfX3 (Nat.le_of_ble_eq_true rfl) (Nat.le_of_ble_eq_true rfl) dX7_init_44 (fun q_7 H ho => ?_)
  have ho : ow D vwCl A s.heap H locs [bM K q_5 u_6 41 [] (fun _ => 0), bH K q_3 u_4.1 (ads u_4.2.1) 0 0, bPool K (ads u_4.2.1) (ads u_4.2.2) 40 (fun _ => []) (fun _ _ => 0), bM K q_1 u_2 40 [] (fun _ => 0), [(h, .inr (7, [.ref q_1, .ref q_3, .ref q_5, .null, .int 0, .int 0, .int 0, .int 0]))], [(q_7, .inr (3, [.null, .int 0, .int 0, .int 0, .int 0, .int 0]))]] := ho
  refine lv_dup hx hb dX7_init_47 rfl ?_
  refine o_callIN (wr := [bM K q_5 u_6 41 [] (fun _ => 0), bH K q_3 u_4.1 (ads u_4.2.1) 0 0, bPool K (ads u_4.2.1) (ads u_4.2.2) 40 (fun _ => []) (fun _ _ => 0), bM K q_1 u_2 40 [] (fun _ => 0), [(h, .inr (7, [.ref q_1, .ref q_3, .ref q_5, .null, .int 0, .int 0, .int 0, .int 0]))]]) (rest := [.ref q_7, .ref h]) (As := []) C (c_Frame_init la D K q_7 ) kX7_32 vX3_init (by decide) rfl ho [5, 0, 1, 2, 3, 4] 6 (by decide +kernel) rfl rfl hl.1 rfl (Nat.le_of_ble_eq_true rfl) dX7_init_48 21 417 rfl rfl (by decide) (fun v u_8 H locs hq ho => ?_)
  obtain rfl := hq
  have ho : ow D vwCl A s.heap H locs [bF K q_7 u_8.1 0 false false false 0, bM K u_8.1 u_8.2 63 [] (fun _ => 0), bM K q_5 u_6 41 [] (fun _ => 0), bH K q_3 u_4.1 (ads u_4.2.1) 0 0, bPool K (ads u_4.2.1) (ads u_4.2.2) 40 (fun _ => []) (fun _ _ => 0), bM K q_1 u_2 40 [] (fun _ => 0), [(h, .inr (7, [.ref q_1, .ref q_3, .ref q_5, .null, .int 0, .int 0, .int 0, .int 0]))]] := ho
  refine W.eq (g2 := F0 m 51 ls [.ref q_7, .ref h]) rfl ?_
  refine o_putF (v := .ref q_7) (bs' := [bF K q_7 u_8.1 0 false false false 0, bM K u_8.1 u_8.2 63 [] (fun _ => 0), bM K q_5 u_6 41 [] (fun _ => 0), bH K q_3 u_4.1 (ads u_4.2.1) 0 0, bPool K (ads u_4.2.1) (ads u_4.2.2) 40 (fun _ => []) (fun _ _ => 0), bM K q_1 u_2 40 [] (fun _ => 0), [(h, .inr (7, [.ref q_1, .ref q_3, .ref q_5, .ref q_7, .int 0, .int 0, .int 0, .int 0]))]]) C hin ho 6 0 rfl rfl rfl 3 fX7_33 pX7_3 rfl rfl rfl (Nat.le_of_ble_eq_true rfl) dX7_init_51 rfl (fun H locs ho => ?_)
  refine lv_aload_n hx hb dX7_init_54 rfl (lv_at hl 0 rfl) ?_
  refine lv_iconst (v := nI 1) hx hb dX7_init_55 (by decide) ?_
  refine o_put (v := .int (nI 1)) (bs' := [bF K q_7 u_8.1 0 false false false 0, bM K u_8.1 u_8.2 63 [] (fun _ => 0), bM K q_5 u_6 41 [] (fun _ => 0), bH K q_3 u_4.1 (ads u_4.2.1) 0 0, bPool K (ads u_4.2.1) (ads u_4.2.2) 40 (fun _ => []) (fun _ _ => 0), bM K q_1 u_2 40 [] (fun _ => 0), [(h, .inr (7, [.ref q_1, .ref q_3, .ref q_5, .ref q_7, .int 0, .int 0, .int (nI 1), .int 0]))]]) C ho 6 0 rfl rfl rfl 6 fX7_37 pX7_6 rfl rfl (Nat.le_of_ble_eq_true rfl) dX7_init_56 rfl (fun H locs ho => ?_)
  have ho : ow D vwCl A s.heap H locs [bF K q_7 u_8.1 0 false false false 0, bM K u_8.1 u_8.2 63 [] (fun _ => 0), bM K q_5 u_6 41 [] (fun _ => 0), bH K q_3 u_4.1 (ads u_4.2.1) 0 0, bPool K (ads u_4.2.1) (ads u_4.2.2) 40 (fun _ => []) (fun _ _ => 0), bM K q_1 u_2 40 [] (fun _ => 0), bO K h q_1 q_3 q_5 q_7 0 false true false] := ho
  have ho : ow D vwCl A s.heap H locs [bO K h q_1 q_3 q_5 q_7 0 false true false, bM K q_1 u_2 40 [] (fun _ => 0), bH K q_3 u_4.1 (ads u_4.2.1) 0 0, bPool K (ads u_4.2.1) (ads u_4.2.2) 40 (fun _ => []) (fun _ _ => 0), bM K q_5 u_6 41 [] (fun _ => 0), bF K q_7 u_8.1 0 false false false 0, bM K u_8.1 u_8.2 63 [] (fun _ => 0)] := ho.re [6, 5, 3, 4, 2, 0, 1] 7 (by decide +kernel) rfl rfl
  exact o_vret hQ C ho (ads [q_1, u_2, q_3, u_4.1, q_5, u_6, q_7, u_8.1, u_8.2], ads u_4.2.1, ads u_4.2.2) rfl (by dsimp only [ads, List.getD_cons_zero, List.getD_cons_succ] <;> rfl) (Nat.le_of_ble_eq_true rfl) (Nat.le_of_ble_eq_true rfl) dX7_init_59

set_option maxHeartbeats 4000000 in
set_option maxRecDepth 100000 in
theorem c_In_init (la : Launch) (D : va_G) (K : Nat → ClassId) (h : Nat)  : MT la D K yX4_init cX4_init 1 none (rmL 3 16 1871) [.ref h] [[(h, .inr (4, [.null, .null, .int 0, .int 0, .int 0, .int 0, .int 0]))]] ((Nat → Nat) × (Nat → Nat) × (Nat → Nat)) (fun v _ => v = none) (fun u => [bIn K h (u.1 0) (u.1 2) false 0 false 0 0, bH K (u.1 0) (u.1 1) u.2.1 0 0, bPool K u.2.1 u.2.2 255 (fun _ => []) (fun _ _ => 0), bM K (u.1 2) (u.1 3) 318 [] (fun _ => 0)]) := by
  refine Mt.ofW [(0, .ref h)] (by decide) rfl (Nat.le_of_ble_eq_true rfl) ?_
  intro p e s m args below meth c A ls H locs Qz hQ C hin hl ho
  have hx := C.1.1
  have hb := C.1.2.1
  refine lv_aload_n hx hb dX4_init_0 rfl (lv_at hl 0 rfl) ?_
  refine o_init C mX4_3 m_oi m_oc hl.1 dX4_init_1 (Nat.le_of_ble_eq_true rfl) (Nat.le_of_ble_eq_true rfl) ?_
  refine lv_aload_n hx hb dX4_init_4 rfl (lv_at hl 0 rfl) ?_
  refine o_new (fs := [.null, .int 0, .int 0]) C ho (ci := 6) (r := (RX6, TX6, 3)) rfl iX6 tyX6 tX6 nX4_9 nfX6 (Nat.le_of_ble_eq_true rfl) (Nat.le_of_ble_eq_true rfl) dX4_init_5 (fun q_1 H ho => ?_)
  have ho : ow D vwCl A s.heap H locs [[(h, .inr (4, [.null, .null, .int 0, .int 0, .int 0, .int 0, .int 0]))], [(q_1, .inr (6, [.null, .int 0, .int 0]))]] := ho
  refine lv_dup hx hb dX4_init_8 rfl ?_
  refine lv_sipush (v := nI 255) hx hb dX4_init_9 (by decide) ?_
  refine o_callI (wr := [[(h, .inr (4, [.null, .null, .int 0, .int 0, .int 0, .int 0, .int 0]))]]) (rest := [.ref q_1, .ref h]) (As := [.int (nI 255)]) C (c_Row_init255 la D K q_1 ) kX4_11 vX6_init (by decide) rfl ho [1, 0] 2 (by decide +kernel) rfl rfl hl.1 rfl (Nat.le_of_ble_eq_true rfl) dX4_init_12 14 1551 rfl rfl (by decide) (fun v u_2 H locs hq ho => ?_)
  obtain rfl := hq
  have ho : ow D vwCl A s.heap H locs [bH K q_1 u_2.1 (ads u_2.2.1) 0 0, bPool K (ads u_2.2.1) (ads u_2.2.2) 255 (fun _ => []) (fun _ _ => 0), [(h, .inr (4, [.null, .null, .int 0, .int 0, .int 0, .int 0, .int 0]))]] := ho
  refine W.eq (g2 := F0 m 15 ls [.ref q_1, .ref h]) rfl ?_
  refine o_putF (v := .ref q_1) (bs' := [bH K q_1 u_2.1 (ads u_2.2.1) 0 0, bPool K (ads u_2.2.1) (ads u_2.2.2) 255 (fun _ => []) (fun _ _ => 0), [(h, .inr (4, [.ref q_1, .null, .int 0, .int 0, .int 0, .int 0, .int 0]))]]) C hin ho 2 0 rfl rfl rfl 0 fX4_14 pX4_0 rfl rfl rfl (Nat.le_of_ble_eq_true rfl) dX4_init_15 rfl (fun H locs ho => ?_)
  refine lv_aload_n hx hb dX4_init_18 rfl (lv_at hl 0 rfl) ?_
  refine o_new (fs := [.null, .int 0]) C ho (ci := 5) (r := (RX5, TX5, 2)) rfl iX5 tyX5 tX5 nX4_20 nfX5 (Nat.le_of_ble_eq_true rfl) (Nat.le_of_ble_eq_true rfl) dX4_init_19 (fun q_3 H ho => ?_)
  have ho : ow D vwCl A s.heap H locs [bH K q_1 u_2.1 (ads u_2.2.1) 0 0, bPool K (ads u_2.2.1) (ads u_2.2.2) 255 (fun _ => []) (fun _ _ => 0), [(h, .inr (4, [.ref q_1, .null, .int 0, .int 0, .int 0, .int 0, .int 0]))], [(q_3, .inr (5, [.null, .int 0]))]] := ho
  refine lv_dup hx hb dX4_init_22 rfl ?_
  refine lv_sipush (v := nI 318) hx hb dX4_init_23 (by decide) ?_
  refine o_callI (wr := [bH K q_1 u_2.1 (ads u_2.2.1) 0 0, bPool K (ads u_2.2.1) (ads u_2.2.2) 255 (fun _ => []) (fun _ _ => 0), [(h, .inr (4, [.ref q_1, .null, .int 0, .int 0, .int 0, .int 0, .int 0]))]]) (rest := [.ref q_3, .ref h]) (As := [.int (nI 318)]) C (c_Msg_init la D K q_3 318 (by first | omega | assumption | (simp only [List.length_append, List.length_cons, List.length_nil, List.length_modify, List.length_set, nb_len, rb_len, rbp_len, sl_len, slN_len, wh_len, wt_len, hd10_len, hdB_len, thr_len, ldp_len, ldB_len, tens_len, whz_len, majL_len, mf_len, tkL_len, ldY_len, fif_len, ldY_len]; omega) | decide)) kX4_22 vX5_init (by decide) rfl ho [3, 0, 1, 2] 4 (by decide +kernel) rfl rfl hl.1 rfl (Nat.le_of_ble_eq_true rfl) dX4_init_26 16 1871 rfl rfl (by decide) (fun v u_4 H locs hq ho => ?_)
  obtain rfl := hq
  have ho : ow D vwCl A s.heap H locs [bM K q_3 u_4 318 [] (fun _ => 0), bH K q_1 u_2.1 (ads u_2.2.1) 0 0, bPool K (ads u_2.2.1) (ads u_2.2.2) 255 (fun _ => []) (fun _ _ => 0), [(h, .inr (4, [.ref q_1, .null, .int 0, .int 0, .int 0, .int 0, .int 0]))]] := ho
  refine W.eq (g2 := F0 m 29 ls [.ref q_3, .ref h]) rfl ?_
  refine o_putF (v := .ref q_3) (bs' := [bM K q_3 u_4 318 [] (fun _ => 0), bH K q_1 u_2.1 (ads u_2.2.1) 0 0, bPool K (ads u_2.2.1) (ads u_2.2.2) 255 (fun _ => []) (fun _ _ => 0), [(h, .inr (4, [.ref q_1, .ref q_3, .int 0, .int 0, .int 0, .int 0, .int 0]))]]) C hin ho 3 0 rfl rfl rfl 1 fX4_23 pX4_1 rfl rfl rfl (Nat.le_of_ble_eq_true rfl) dX4_init_29 rfl (fun H locs ho => ?_)
  have ho : ow D vwCl A s.heap H locs [bM K q_3 u_4 318 [] (fun _ => 0), bH K q_1 u_2.1 (ads u_2.2.1) 0 0, bPool K (ads u_2.2.1) (ads u_2.2.2) 255 (fun _ => []) (fun _ _ => 0), bIn K h q_1 q_3 false 0 false 0 0] := ho
  have ho : ow D vwCl A s.heap H locs [bIn K h q_1 q_3 false 0 false 0 0, bH K q_1 u_2.1 (ads u_2.2.1) 0 0, bPool K (ads u_2.2.1) (ads u_2.2.2) 255 (fun _ => []) (fun _ _ => 0), bM K q_3 u_4 318 [] (fun _ => 0)] := ho.re [3, 1, 2, 0] 4 (by decide +kernel) rfl rfl
  exact o_vret hQ C ho (ads [q_1, u_2.1, q_3, u_4], ads u_2.2.1, ads u_2.2.2) rfl (by dsimp only [ads, List.getD_cons_zero, List.getD_cons_succ] <;> rfl) (Nat.le_of_ble_eq_true rfl) (Nat.le_of_ble_eq_true rfl) dX4_init_32
