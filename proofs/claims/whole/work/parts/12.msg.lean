set_option maxHeartbeats 4000000 in
set_option maxRecDepth 100000 in
theorem c_Msg_clear (la : Launch) (D : va_G) (K : Nat → ClassId) (h : Nat) (a : Nat) (R : Nat) (l : List Nat) (g : Nat → Int32)  : MT la D K yX5_clear cX5_clear 1 none (rmL 1 0 0) [.ref h] [bM K h a R l g] (Nat → Int32) (fun v _ => v = none) (fun u => [bM K h a R [] u]) := by
  refine Mt.ofW [(0, .ref h)] (by decide) rfl (Nat.le_of_ble_eq_true rfl) ?_
  intro p e s m args below meth c A ls H locs Qz hQ C hin hl ho
  have hx := C.1.1
  have hb := C.1.2.1
  have ho : ow D vwCl A s.heap H locs [m0 K h a R (mrg nI l g) l.length] := ho
  refine lv_aload_n hx hb dX5_clear_0 rfl (lv_at hl 0 rfl) ?_
  refine lv_iconst (v := nI 0) hx hb dX5_clear_1 (by decide) ?_
  refine o_put (v := .int (nI 0)) (bs' := [m0 K h a R (mrg nI l g) 0]) C ho 0 0 rfl rfl rfl 1 fX5_13 pX5_1 rfl rfl (Nat.le_of_ble_eq_true rfl) dX5_clear_2 rfl (fun H locs ho => ?_)
  exact o_vret hQ C ho (mrg nI l g) rfl (by rw [bM_nil]) (Nat.le_of_ble_eq_true rfl) (Nat.le_of_ble_eq_true rfl) dX5_clear_5

set_option maxHeartbeats 4000000 in
set_option maxRecDepth 100000 in
theorem c_Msg_isFull (la : Launch) (D : va_G) (K : Nat → ClassId) (h : Nat) (a : Nat) (R : Nat) (l : List Nat) (g : Nat → Int32) (qL : l.length ≤ R) (qR : R ≤ 1000) : MT la D K yX5_isFull cX5_isFull 1 (some .boolean) (rmL 1 0 0) [.ref h] [bM K h a R l g] Unit (fun v _ => v = some (.int (bI (decide (R ≤ l.length))))) (fun _ => [bM K h a R l g]) := by
  refine Mt.ofW [(0, .ref h)] (by decide) rfl (Nat.le_of_ble_eq_true rfl) ?_
  intro p e s m args below meth c A ls H locs Qz hQ C hin hl ho
  have hx := C.1.1
  have hb := C.1.2.1
  refine lv_aload_n hx hb dX5_isFull_0 rfl (lv_at hl 0 rfl) ?_
  refine o_get (v := .int (nI l.length)) C ho 0 0 rfl rfl rfl 1 fX5_13 rfl dX5_isFull_1 ?_
  refine lv_aload_n hx hb dX5_isFull_4 rfl (lv_at hl 0 rfl) ?_
  refine o_get (v := .ref a) C ho 0 0 rfl rfl rfl 0 fX5_7 rfl dX5_isFull_5 ?_
  refine o_alen (v := nI R) C ho 0 1 rfl rfl 0 rfl rfl dX5_isFull_8 ?_
  refine o_icmp_lt (tgt := 16) hx hb dX5_isFull_9 (by decide) (by first | omega | exact and1_lt _) (by first | omega | exact and1_lt _) (fun c_1 => ?_) (fun c_1 => ?_)
  · skip
    refine lv_iconst (v := nI 0) hx hb dX5_isFull_16 (by decide) ?_
    exact o_iret hQ C rfl ho () (by rw [decide_eq_false (by omega)]; rfl) rfl (Nat.le_of_ble_eq_true rfl) (Nat.le_of_ble_eq_true rfl) dX5_isFull_17
  · skip
    refine lv_iconst (v := nI 1) hx hb dX5_isFull_12 (by decide) ?_
    refine lv_goto (tgt := 17) hx hb dX5_isFull_13 (by decide) ?_
    exact o_iret hQ C rfl ho () (by rw [decide_eq_true c_1]; rfl) rfl (Nat.le_of_ble_eq_true rfl) (Nat.le_of_ble_eq_true rfl) dX5_isFull_17

set_option maxHeartbeats 4000000 in
set_option maxRecDepth 100000 in
theorem c_Msg_has (la : Launch) (D : va_G) (K : Nat → ClassId) (h : Nat) (a : Nat) (R : Nat) (l : List Nat) (g : Nat → Int32) (i : Int32) (qL : l.length ≤ R) (qR : R ≤ 1000) : MT la D K yX5_has cX5_has 2 (some .boolean) (rmL 1 0 0) [.ref h, .int i] [bM K h a R l g] Unit (fun v _ => v = some (.int (bI (hasI l.length i)))) (fun _ => [bM K h a R l g]) := by
  refine Mt.ofW [(0, .ref h), (1, .int i)] (by decide) rfl (Nat.le_of_ble_eq_true rfl) ?_
  intro p e s m args below meth c A ls H locs Qz hQ C hin hl ho
  have hx := C.1.1
  have hb := C.1.2.1
  refine lv_iload_n hx hb dX5_has_0 rfl (lv_at hl 1 rfl) ?_
  refine lv_if_lt (tgt := 16) hx hb dX5_has_1 (by decide) (fun c_1 => ?_) (fun c_1 => ?_)
  · skip
    refine lv_iconst (v := nI 0) hx hb dX5_has_16 (by decide) ?_
    exact o_iret hQ C rfl ho () (by rw [hasI_neg c_1]; rfl) rfl (Nat.le_of_ble_eq_true rfl) (Nat.le_of_ble_eq_true rfl) dX5_has_17
  · skip
    refine lv_iload_n hx hb dX5_has_4 rfl (lv_at hl 1 rfl) ?_
    refine lv_aload_n hx hb dX5_has_5 rfl (lv_at hl 0 rfl) ?_
    refine o_get (v := .int (nI l.length)) C ho 0 0 rfl rfl rfl 1 fX5_13 rfl dX5_has_6 ?_
    refine lv_icmp_ge (tgt := 16) hx hb dX5_has_9 (by decide) (fun c_2 => ?_) (fun c_2 => ?_)
    · skip
      refine lv_iconst (v := nI 0) hx hb dX5_has_16 (by decide) ?_
      exact o_iret hQ C rfl ho () (by rw [hasI_ge c_1 c_2]; rfl) rfl (Nat.le_of_ble_eq_true rfl) (Nat.le_of_ble_eq_true rfl) dX5_has_17
    · skip
      refine lv_iconst (v := nI 1) hx hb dX5_has_12 (by decide) ?_
      refine lv_goto (tgt := 17) hx hb dX5_has_13 (by decide) ?_
      exact o_iret hQ C rfl ho () (by rw [hasI_in c_1 c_2]; rfl) rfl (Nat.le_of_ble_eq_true rfl) (Nat.le_of_ble_eq_true rfl) dX5_has_17

set_option maxHeartbeats 4000000 in
set_option maxRecDepth 100000 in
theorem c_Msg_at (la : Launch) (D : va_G) (K : Nat → ClassId) (h : Nat) (a : Nat) (R : Nat) (l : List Nat) (g : Nat → Int32) (j : Nat) (qL : l.length ≤ R) (qR : R ≤ 1000) (qj : j < 2 ^ 31) : MT la D K yX5_at cX5_at 2 (some .int) (rmL 1 0 0) [.ref h, .int (nI j)] [bM K h a R l g] Unit (fun v _ => v = some (.int (nI (l.getD j 0)))) (fun _ => [bM K h a R l g]) := by
  refine Mt.ofW [(0, .ref h), (1, .int (nI j))] (by decide) rfl (Nat.le_of_ble_eq_true rfl) ?_
  intro p e s m args below meth c A ls H locs Qz hQ C hin hl ho
  have hx := C.1.1
  have hb := C.1.2.1
  refine lv_iload_n hx hb dX5_at_0 rfl (lv_at hl 1 rfl) ?_
  refine o_if_lt (tgt := 21) hx hb dX5_at_1 (by decide) (by omega) ?_
  refine lv_iload_n hx hb dX5_at_4 rfl (lv_at hl 1 rfl) ?_
  refine lv_aload_n hx hb dX5_at_5 rfl (lv_at hl 0 rfl) ?_
  refine o_get (v := .int (nI l.length)) C ho 0 0 rfl rfl rfl 1 fX5_13 rfl dX5_at_6 ?_
  refine o_icmp_ge (tgt := 21) hx hb dX5_at_9 (by decide) (by first | omega | exact and1_lt _) (by first | omega | exact and1_lt _) (fun c_1 => ?_) (fun c_1 => ?_)
  · skip
    refine lv_iconst (v := nI 0) hx hb dX5_at_21 (by decide) ?_
    exact o_iret hQ C rfl ho () (by rw [getD_outN c_1]) rfl (Nat.le_of_ble_eq_true rfl) (Nat.le_of_ble_eq_true rfl) dX5_at_22
  · skip
    refine lv_aload_n hx hb dX5_at_12 rfl (lv_at hl 0 rfl) ?_
    refine o_get (v := .ref a) C ho 0 0 rfl rfl rfl 0 fX5_7 rfl dX5_at_13 ?_
    refine lv_iload_n hx hb dX5_at_16 rfl (lv_at hl 1 rfl) ?_
    refine o_iald (v := mrg nI l g j) C ho 0 1 rfl rfl 0 rfl j rfl (by omega) (by omega) rfl dX5_at_17 ?_
    refine lv_goto (tgt := 22) hx hb dX5_at_18 (by decide) ?_
    exact o_iret hQ C rfl ho () (by rw [mrg_getD 0 c_1]) rfl (Nat.le_of_ble_eq_true rfl) (Nat.le_of_ble_eq_true rfl) dX5_at_22

set_option maxHeartbeats 4000000 in
set_option maxRecDepth 100000 in
theorem c_Msg_add (la : Launch) (D : va_G) (K : Nat → ClassId) (h : Nat) (a : Nat) (R : Nat) (l : List Nat) (g : Nat → Int32) (x : Nat) (qL : l.length < R) (qR : R ≤ 1000) : MT la D K yX5_add cX5_add 2 none (rmL 1 0 0) [.ref h, .int (nI x)] [bM K h a R l g] Unit (fun v _ => v = none) (fun _ => [bM K h a R (l ++ [x]) g]) := by
  refine Mt.ofW [(0, .ref h), (1, .int (nI x))] (by decide) rfl (Nat.le_of_ble_eq_true rfl) ?_
  intro p e s m args below meth c A ls H locs Qz hQ C hin hl ho
  have hx := C.1.1
  have hb := C.1.2.1
  have ho : ow D vwCl A s.heap H locs [m0 K h a R (mrg nI l g) l.length] := ho
  refine lv_aload_n hx hb dX5_add_0 rfl (lv_at hl 0 rfl) ?_
  refine o_get (v := .int (nI l.length)) C ho 0 0 rfl rfl rfl 1 fX5_13 rfl dX5_add_1 ?_
  refine lv_aload_n hx hb dX5_add_4 rfl (lv_at hl 0 rfl) ?_
  refine o_get (v := .ref a) C ho 0 0 rfl rfl rfl 0 fX5_7 rfl dX5_add_5 ?_
  refine o_alen (v := nI R) C ho 0 1 rfl rfl 0 rfl rfl dX5_add_8 ?_
  refine o_icmp_ge (tgt := 32) hx hb dX5_add_9 (by decide) (by first | omega | exact and1_lt _) (by first | omega | exact and1_lt _) (fun c_1 => ?_) (fun c_1 => ?_)
  · skip
    exact absurd c_1 (by omega)
  · skip
    refine lv_aload_n hx hb dX5_add_12 rfl (lv_at hl 0 rfl) ?_
    refine o_get (v := .ref a) C ho 0 0 rfl rfl rfl 0 fX5_7 rfl dX5_add_13 ?_
    refine lv_aload_n hx hb dX5_add_16 rfl (lv_at hl 0 rfl) ?_
    refine o_get (v := .int (nI l.length)) C ho 0 0 rfl rfl rfl 1 fX5_13 rfl dX5_add_17 ?_
    refine lv_iload_n hx hb dX5_add_20 rfl (lv_at hl 1 rfl) ?_
    refine o_iast (bs' := [m0 K h a R (upd (mrg nI l g) l.length (nI x)) l.length]) C ho 0 1 rfl rfl 0 rfl l.length rfl (by omega) (by omega) dX5_add_21 rfl (fun H locs ho => ?_)
    refine lv_aload_n hx hb dX5_add_22 rfl (lv_at hl 0 rfl) ?_
    refine lv_dup hx hb dX5_add_23 rfl ?_
    refine o_get (v := .int (nI l.length)) C ho 0 0 rfl rfl rfl 1 fX5_13 rfl dX5_add_24 ?_
    refine lv_iconst (v := nI 1) hx hb dX5_add_27 (by decide) ?_
    refine o_add hx hb dX5_add_28 ?_
    refine o_put (v := .int (nI (l.length + 1))) (bs' := [m0 K h a R (upd (mrg nI l g) l.length (nI x)) (l.length + 1)]) C ho 0 0 rfl rfl rfl 1 fX5_13 pX5_1 rfl rfl (Nat.le_of_ble_eq_true rfl) dX5_add_29 rfl (fun H locs ho => ?_)
    exact o_vret hQ C ho () rfl (by rw [bM_push]) (Nat.le_of_ble_eq_true rfl) (Nat.le_of_ble_eq_true rfl) dX5_add_32

set_option maxHeartbeats 4000000 in
set_option maxRecDepth 100000 in
theorem c_Msg_addAll (la : Launch) (D : va_G) (K : Nat → ClassId) (h : Nat) (a : Nat) (R : Nat) (l : List Nat) (g : Nat → Int32) (h2 : Nat) (a2 : Nat) (R2 : Nat) (l2 : List Nat) (g2 : Nat → Int32) (st : Nat) (en : Nat) (qL : l.length + (en - st) ≤ R) (qR : R ≤ 1000) (qL2 : l2.length ≤ R2) (qR2 : R2 ≤ 1000) (qs : st ≤ en) (qe : en ≤ 1000) : MT la D K yX5_addAll cX5_addAll 5 none (rmL 2 0 0) [.ref h, .ref h2, .int (nI st), .int (nI en)] [bM K h a R l g, bM K h2 a2 R2 l2 g2] Unit (fun v _ => v = none) (fun _ => [bM K h a R (l ++ slN l2 st (en - st)) g, bM K h2 a2 R2 l2 g2]) := by
  refine Mt.ofW [(0, .ref h), (1, .ref h2), (2, .int (nI st)), (3, .int (nI en))] (by decide) rfl (Nat.le_of_ble_eq_true rfl) ?_
  intro p e s m args below meth c A ls H locs Qz hQ C hin hl ho
  have hx := C.1.1
  have hb := C.1.2.1
  refine lv_iload_n hx hb dX5_addAll_0 rfl (lv_at hl 2 rfl) ?_
  refine lv_istore (lv' := [(4, .int (nI st)), (0, .ref h), (1, .ref h2), (2, .int (nI st)), (3, .int (nI en))]) hx hb dX5_addAll_1 hl (by decide) rfl (fun ls hl => ?_)
  have e_1 : bM K h a R l g = bM K h a R (l ++ slN l2 st (st - st)) g := by rw [Nat.sub_self, slN_0, List.append_nil]
  have ho : ow D vwCl A s.heap H locs [bM K h a R (l ++ slN l2 st (st - st)) g, bM K h2 a2 R2 l2 g2] := by rw [← e_1]; exact ho
  have LP3 : ∀ (fuel : Nat) (i : Nat) (_ : en - i < fuel) (_ : st ≤ i) (_ : i ≤ en) (H : Heap) (locs : List Loc) (ls : Array Slot) (_ : ow D vwCl A s.heap H locs [bM K h a R (l ++ slN l2 st (i - st)) g, bM K h2 a2 R2 l2 g2]) (_ : lv_has ls 5 [(0, .ref h), (1, .ref h2), (2, .int (nI st)), (3, .int (nI en)), (4, .int (nI i))]), W p la e (rmL 2 0 0) s m args below meth c H locs 0 0 Qz (F0 m 3 ls []) := by
    intro fuel
    induction fuel with
    | zero => intro i h0; exact absurd h0 (Nat.not_lt_zero _)
    | succ fuel ih3 =>
      intro i hfu hi hi2 H locs ls ho hl
      refine lv_iload hx hb dX5_addAll_3 (lv_at hl 4 rfl) ?_
      refine lv_iload_n hx hb dX5_addAll_5 rfl (lv_at hl 3 rfl) ?_
      refine o_icmp_ge (tgt := 25) hx hb dX5_addAll_6 (by decide) (by first | omega | exact and1_lt _) (by first | omega | exact and1_lt _) (fun c_2 => ?_) (fun c_2 => ?_)
      · skip
        exact o_vret hQ C ho () rfl (by rw [show i = en by omega]) (Nat.le_of_ble_eq_true rfl) (Nat.le_of_ble_eq_true rfl) dX5_addAll_25
      · skip
        refine lv_aload_n hx hb dX5_addAll_9 rfl (lv_at hl 0 rfl) ?_
        refine lv_aload_n hx hb dX5_addAll_10 rfl (lv_at hl 1 rfl) ?_
        refine lv_iload hx hb dX5_addAll_11 (lv_at hl 4 rfl) ?_
        refine o_callV (wr := [bM K h a R (l ++ slN l2 st (i - st)) g]) (rest := [.ref h]) (As := [.int (nI i)]) C (c_Msg_at la D K h2 a2 R2 l2 g2 i (by first | omega | assumption | (simp only [List.length_append, List.length_cons, List.length_nil, List.length_modify, List.length_set, nb_len, rb_len, rbp_len, sl_len, slN_len, wh_len]; omega) | decide) (by first | omega | assumption | (simp only [List.length_append, List.length_cons, List.length_nil, List.length_modify, List.length_set, nb_len, rb_len, rbp_len, sl_len, slN_len, wh_len]; omega) | decide) (by first | omega | assumption | (simp only [List.length_append, List.length_cons, List.length_nil, List.length_modify, List.length_set, nb_len, rb_len, rbp_len, sl_len, slN_len, wh_len]; omega) | decide)) kX5_17 vX5_at (by decide) rfl ho [1, 0] 2 (by decide +kernel) rfl rfl rfl rfl rfl hl.1 rfl (Nat.le_of_ble_eq_true rfl) dX5_addAll_13 0 0 rfl rfl (by decide) (fun v u_3 H locs hq ho => ?_)
        obtain rfl := hq
        have ho : ow D vwCl A s.heap H locs [bM K h2 a2 R2 l2 g2, bM K h a R (l ++ slN l2 st (i - st)) g] := ho
        refine W.eq (g2 := F0 m 16 ls [.int (nI (l2.getD i 0)), .ref h]) rfl ?_
        refine o_callV (wr := [bM K h2 a2 R2 l2 g2]) (rest := []) (As := [.int (nI (l2.getD i 0))]) C (c_Msg_add la D K h a R (l ++ slN l2 st (i - st)) g (l2.getD i 0) (by first | omega | assumption | (simp only [List.length_append, List.length_cons, List.length_nil, List.length_modify, List.length_set, nb_len, rb_len, rbp_len, sl_len, slN_len, wh_len]; omega) | decide) (by first | omega | assumption | (simp only [List.length_append, List.length_cons, List.length_nil, List.length_modify, List.length_set, nb_len, rb_len, rbp_len, sl_len, slN_len, wh_len]; omega) | decide)) kX5_21 vX5_add (by decide) rfl ho [1, 0] 2 (by decide +kernel) rfl rfl rfl rfl rfl hl.1 rfl (Nat.le_of_ble_eq_true rfl) dX5_addAll_16 0 0 rfl rfl (by decide) (fun v u_4 H locs hq ho => ?_)
        obtain rfl := hq
        have ho : ow D vwCl A s.heap H locs [bM K h a R ((l ++ slN l2 st (i - st)) ++ [(l2.getD i 0)]) g, bM K h2 a2 R2 l2 g2] := ho
        refine W.eq (g2 := F0 m 19 ls []) rfl ?_
        have e_5 : bM K h a R ((l ++ slN l2 st (i - st)) ++ [(l2.getD i 0)]) g = bM K h a R (l ++ slN l2 st ((i + 1) - st)) g := by rw [show (i + 1) - st = i - st + 1 by omega, slN_succ, show st + (i - st) = i by omega, List.append_assoc]
        have ho : ow D vwCl A s.heap H locs [bM K h a R (l ++ slN l2 st ((i + 1) - st)) g, bM K h2 a2 R2 l2 g2] := by rw [← e_5]; exact ho
        refine lv_iinc (v := nI (i + 1)) (lv' := [(4, .int (nI (i + 1))), (0, .ref h), (1, .ref h2), (2, .int (nI st)), (3, .int (nI en))]) hx hb dX5_addAll_19 hl (k := 4) rfl (iincN _ _) (by decide) rfl (fun ls hl => ?_)
        refine lv_goto (tgt := 3) hx hb dX5_addAll_22 (by decide) ?_
        exact ih3 (i + 1) (by omega) (by omega) (by omega) _ _ _ ho (lv_sub hl [1, 2, 3, 4, 0] rfl)
  exact LP3 (en - st + 1) st (Nat.lt_succ_self _) (by omega) (by omega) _ _ _ ho (lv_sub hl [1, 2, 3, 4, 0] rfl)

set_option maxHeartbeats 4000000 in
set_option maxRecDepth 100000 in
theorem c_Msg_become (la : Launch) (D : va_G) (K : Nat → ClassId) (h : Nat) (a : Nat) (R : Nat) (l : List Nat) (g : Nat → Int32) (h2 : Nat) (a2 : Nat) (R2 : Nat) (l2 : List Nat) (g2 : Nat → Int32) (qR : R ≤ 1000) (qL2 : l2.length ≤ R) (qL3 : l2.length ≤ R2) (qR2 : R2 ≤ 1000) : MT la D K yX5_become cX5_become 2 none (rmL 1 0 0) [.ref h, .ref h2] [bM K h a R l g, bM K h2 a2 R2 l2 g2] (Nat → Int32) (fun v _ => v = none) (fun u => [bM K h a R l2 u, bM K h2 a2 R2 l2 g2]) := by
  refine Mt.ofW [(0, .ref h), (1, .ref h2)] (by decide) rfl (Nat.le_of_ble_eq_true rfl) ?_
  intro p e s m args below meth c A ls H locs Qz hQ C hin hl ho
  have hx := C.1.1
  have hb := C.1.2.1
  have ho : ow D vwCl A s.heap H locs [m0 K h a R (mrg nI l g) l.length, bM K h2 a2 R2 l2 g2] := ho
  refine lv_aload_n hx hb dX5_become_0 rfl (lv_at hl 0 rfl) ?_
  refine lv_aload_n hx hb dX5_become_1 rfl (lv_at hl 1 rfl) ?_
  refine o_get (v := .int (nI l2.length)) C ho 1 0 rfl rfl rfl 1 fX5_13 rfl dX5_become_2 ?_
  refine lv_aload_n hx hb dX5_become_5 rfl (lv_at hl 0 rfl) ?_
  refine o_get (v := .ref a) C ho 0 0 rfl rfl rfl 0 fX5_7 rfl dX5_become_6 ?_
  refine o_alen (v := nI R) C ho 0 1 rfl rfl 0 rfl rfl dX5_become_9 ?_
  refine va_mmin hx hb (C.1.2.2.1.trans hl.1.symm) C.1.2.2.2.1 (C.1.2.2.2.2 _ mX5_25) (C.1.2.2.2.2 _ m_min_s) (C.1.2.2.2.2 _ m_Math_i) (C.1.2.2.2.2 _ m_min_c) (Nat.le_of_ble_eq_true rfl) (Nat.le_of_ble_eq_true rfl) (Nat.le_of_ble_eq_true rfl) (Nat.le_of_ble_eq_true rfl) dX5_become_10 ?_
  refine o_top (imin_N (by omega) (by omega)) ?_
  refine o_top (y := nI l2.length) (by rw [Nat.min_eq_left qL2]) ?_
  refine o_put (v := .int (nI l2.length)) (bs' := [m0 K h a R (mrg nI l g) l2.length, bM K h2 a2 R2 l2 g2]) C ho 0 0 rfl rfl rfl 1 fX5_13 pX5_1 rfl rfl (Nat.le_of_ble_eq_true rfl) dX5_become_13 rfl (fun H locs ho => ?_)
  refine lv_aload_n hx hb dX5_become_16 rfl (lv_at hl 1 rfl) ?_
  refine o_get (v := .ref a2) C ho 1 0 rfl rfl rfl 0 fX5_7 rfl dX5_become_17 ?_
  refine lv_iconst (v := nI 0) hx hb dX5_become_20 (by decide) ?_
  refine lv_aload_n hx hb dX5_become_21 rfl (lv_at hl 0 rfl) ?_
  refine o_get (v := .ref a) C ho 0 0 rfl rfl rfl 0 fX5_7 rfl dX5_become_22 ?_
  refine lv_iconst (v := nI 0) hx hb dX5_become_25 (by decide) ?_
  refine lv_aload_n hx hb dX5_become_26 rfl (lv_at hl 0 rfl) ?_
  refine o_get (v := .int (nI l2.length)) C ho 0 0 rfl rfl rfl 1 fX5_13 rfl dX5_become_27 ?_
  refine o_copyi (bs' := [m0 K h a R (va_cpy (mrg nI l2 g2) (mrg nI l g) 0 0 l2.length) l2.length, bM K h2 a2 R2 l2 g2]) C ho mX5_31 hl.1 1 1 0 1 rfl rfl rfl rfl 0 rfl 0 0 l2.length (by omega) (by omega) (by omega) (by omega) (Nat.le_of_ble_eq_true rfl) (Nat.le_of_ble_eq_true rfl) dX5_become_30 rfl (fun H locs ho => ?_)
  exact o_vret hQ C ho (mrg nI l g) rfl (by rw [bM_cpy]) (Nat.le_of_ble_eq_true rfl) (Nat.le_of_ble_eq_true rfl) dX5_become_33

set_option maxHeartbeats 4000000 in
set_option maxRecDepth 100000 in
theorem c_Msg_init (la : Launch) (D : va_G) (K : Nat → ClassId) (h : Nat) (R : Nat) (qR : R ≤ 1000) : MT la D K yX5_init cX5_init 2 none (rmL 1 1 R) [.ref h, .int (nI R)] [[(h, .inr (5, [.null, .int 0]))]] Nat (fun v _ => v = none) (fun u => [bM K h u R [] (fun _ => 0)]) := by
  refine Mt.ofW [(0, .ref h), (1, .int (nI R))] (by decide) rfl (Nat.le_of_ble_eq_true rfl) ?_
  intro p e s m args below meth c A ls H locs Qz hQ C hin hl ho
  have hx := C.1.1
  have hb := C.1.2.1
  refine lv_aload_n hx hb dX5_init_0 rfl (lv_at hl 0 rfl) ?_
  refine o_init C mX5_1 m_oi m_oc hl.1 dX5_init_1 (Nat.le_of_ble_eq_true rfl) (Nat.le_of_ble_eq_true rfl) ?_
  refine lv_aload_n hx hb dX5_init_4 rfl (lv_at hl 0 rfl) ?_
  refine lv_iload_n hx hb dX5_init_5 rfl (lv_at hl 1 rfl) ?_
  refine o_newi C ho m_arrI 0 rfl R rfl (by omega) (Nat.le_of_ble_eq_true rfl) (by show 0 + R ≤ R; omega) dX5_init_6 (fun q_1 H ho => ?_)
  have ho : ow D vwCl A s.heap H locs [[(h, .inr (5, [.null, .int 0]))], [(q_1, .inl (K 0, R, .inl (fun _ => 0)))]] := ho
  refine o_putF (v := .ref q_1) (bs' := [[(h, .inr (5, [.ref q_1, .int 0]))], [(q_1, .inl (K 0, R, .inl (fun _ => 0)))]]) C hin ho 0 0 rfl rfl rfl 0 fX5_7 pX5_0 rfl rfl rfl (Nat.le_of_ble_eq_true rfl) dX5_init_8 rfl (fun H locs ho => ?_)
  have ho : ow D vwCl A s.heap H locs [m0 K h q_1 R (fun _ => 0) 0] := ho.flat (by rfl)
  exact o_vret hQ C ho q_1 rfl (by rw [bM_nil]) (Nat.le_of_ble_eq_true rfl) (by show 0 + R ≤ R; omega) dX5_init_11
