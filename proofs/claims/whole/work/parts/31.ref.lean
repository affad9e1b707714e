set_option maxHeartbeats 4000000 in
set_option maxRecDepth 100000 in
theorem c_M_in (la : Launch) (D : va_G) (K : Nat → ClassId) (vv : Nat) (a : Nat) (b : Nat) (q1 : vv < 2 ^ 31) (q2 : a < 2 ^ 31) (q3 : b < 2 ^ 31) : MT la D K yX9_in cX9_in 3 (some .boolean) (rmL 1 0 0) [.int (nI vv), .int (nI a), .int (nI b)] [] Unit (fun v _ => v = some (.int (bI (decide (a ≤ vv ∧ vv ≤ b))))) (fun _ => []) := by
  refine Mt.ofW [(0, .int (nI vv)), (1, .int (nI a)), (2, .int (nI b))] (by decide) rfl (Nat.le_of_ble_eq_true rfl) ?_
  intro p e s m args below meth c A ls H locs Qz hQ C hin hl ho
  have hx := C.1.1
  have hb := C.1.2.1
  refine lv_iload_n hx hb dX9_in_0 rfl (lv_at hl 0 rfl) ?_
  refine lv_iload_n hx hb dX9_in_1 rfl (lv_at hl 1 rfl) ?_
  refine o_icmp_lt (tgt := 14) hx hb dX9_in_2 (by decide) (by first | omega | exact and1_lt _) (by first | omega | exact and1_lt _) (fun c_1 => ?_) (fun c_1 => ?_)
  · skip
    refine lv_iconst (v := nI 0) hx hb dX9_in_14 (by decide) ?_
    exact o_iret hQ C rfl ho () (by rw [decide_eq_false (by omega)]; rfl) rfl (Nat.le_of_ble_eq_true rfl) (Nat.le_of_ble_eq_true rfl) dX9_in_15
  · skip
    refine lv_iload_n hx hb dX9_in_5 rfl (lv_at hl 0 rfl) ?_
    refine lv_iload_n hx hb dX9_in_6 rfl (lv_at hl 2 rfl) ?_
    refine o_icmp_gt (tgt := 14) hx hb dX9_in_7 (by decide) (by first | omega | exact and1_lt _) (by first | omega | exact and1_lt _) (fun c_2 => ?_) (fun c_2 => ?_)
    · skip
      refine lv_iconst (v := nI 0) hx hb dX9_in_14 (by decide) ?_
      exact o_iret hQ C rfl ho () (by rw [decide_eq_false (by omega)]; rfl) rfl (Nat.le_of_ble_eq_true rfl) (Nat.le_of_ble_eq_true rfl) dX9_in_15
    · skip
      refine lv_iconst (v := nI 1) hx hb dX9_in_10 (by decide) ?_
      refine lv_goto (tgt := 15) hx hb dX9_in_11 (by decide) ?_
      exact o_iret hQ C rfl ho () (by rw [decide_eq_true (by omega)]; rfl) rfl (Nat.le_of_ble_eq_true rfl) (Nat.le_of_ble_eq_true rfl) dX9_in_15

set_option maxHeartbeats 4000000 in
set_option maxRecDepth 100000 in
theorem c_M_inN (la : Launch) (D : va_G) (K : Nat → ClassId) (x : Int32) (a : Nat) (b : Nat) (q1 : x < nI a ∨ nI b < x) : MT la D K yX9_in cX9_in 3 (some .boolean) (rmL 1 0 0) [.int x, .int (nI a), .int (nI b)] [] Unit (fun v _ => v = some (.int (bI false))) (fun _ => []) := by
  refine Mt.ofW [(0, .int x), (1, .int (nI a)), (2, .int (nI b))] (by decide) rfl (Nat.le_of_ble_eq_true rfl) ?_
  intro p e s m args below meth c A ls H locs Qz hQ C hin hl ho
  have hx := C.1.1
  have hb := C.1.2.1
  refine lv_iload_n hx hb dX9_in_0 rfl (lv_at hl 0 rfl) ?_
  refine lv_iload_n hx hb dX9_in_1 rfl (lv_at hl 1 rfl) ?_
  refine lv_icmp_lt (tgt := 14) hx hb dX9_in_2 (by decide) (fun c_1 => ?_) (fun c_1 => ?_)
  · skip
    refine lv_iconst (v := nI 0) hx hb dX9_in_14 (by decide) ?_
    exact o_iret hQ C rfl ho () rfl rfl (Nat.le_of_ble_eq_true rfl) (Nat.le_of_ble_eq_true rfl) dX9_in_15
  · skip
    refine lv_iload_n hx hb dX9_in_5 rfl (lv_at hl 0 rfl) ?_
    refine lv_iload_n hx hb dX9_in_6 rfl (lv_at hl 2 rfl) ?_
    refine lv_icmp_gt (tgt := 14) hx hb dX9_in_7 (by decide) (fun c_2 => ?_) (fun c_2 => ?_)
    · skip
      refine lv_iconst (v := nI 0) hx hb dX9_in_14 (by decide) ?_
      exact o_iret hQ C rfl ho () rfl rfl (Nat.le_of_ble_eq_true rfl) (Nat.le_of_ble_eq_true rfl) dX9_in_15
    · skip
      exact absurd (q1.resolve_left c_1) c_2

set_option maxHeartbeats 4000000 in
set_option maxRecDepth 100000 in
theorem c_M_twice (la : Launch) (D : va_G) (K : Nat → ClassId) (vv : Nat) (gd : Nat) (n : Nat) (q1 : vv < 2 ^ 20) (qn : 1 ≤ n) (qn2 : n ≤ 16) : MT la D K yX9_twice cX9_twice 3 (some .int) (rmL 1 0 0) [.int (nI vv), .int (nI gd), .int (nI n)] [] Unit (fun v _ => v = some (.int (nI (tw gd n vv)))) (fun _ => []) := by
  refine Mt.ofW [(0, .int (nI vv)), (1, .int (nI gd)), (2, .int (nI n))] (by decide) rfl (Nat.le_of_ble_eq_true rfl) ?_
  intro p e s m args below meth c A ls H locs Qz hQ C hin hl ho
  have hx := C.1.1
  have hb := C.1.2.1
  refine lv_iload_n hx hb dX9_twice_0 rfl (lv_at hl 0 rfl) ?_
  refine lv_iload_n hx hb dX9_twice_1 rfl (lv_at hl 2 rfl) ?_
  refine lv_iconst (v := nI 1) hx hb dX9_twice_2 (by decide) ?_
  refine o_sub hx hb dX9_twice_3 (by omega) ?_
  refine o_shr hx hb dX9_twice_4 (by omega) (by omega) ?_
  have hdl : vv / 2 ^ (n - 1) < 2 ^ 31 := Nat.lt_of_le_of_lt (Nat.div_le_self _ _) (by omega)
  refine lv_iconst (v := nI 1) hx hb dX9_twice_5 (by decide) ?_
  refine o_icmp_ne (tgt := 17) hx hb dX9_twice_6 (by decide) (by first | omega | exact and1_lt _) (by first | omega | exact and1_lt _) (fun c_1 => ?_) (fun c_1 => ?_)
  · skip
    refine lv_iload_n hx hb dX9_twice_17 rfl (lv_at hl 0 rfl) ?_
    refine lv_iconst (v := nI 1) hx hb dX9_twice_18 (by decide) ?_
    refine o_shl hx hb dX9_twice_19 (by omega) (by omega) ?_
    exact o_iret hQ C rfl ho () (by rw [tw, if_neg c_1]) rfl (Nat.le_of_ble_eq_true rfl) (Nat.le_of_ble_eq_true rfl) dX9_twice_20
  · skip
    refine lv_iload_n hx hb dX9_twice_9 rfl (lv_at hl 0 rfl) ?_
    refine lv_iconst (v := nI 1) hx hb dX9_twice_10 (by decide) ?_
    refine o_shl hx hb dX9_twice_11 (by omega) (by omega) ?_
    refine lv_iload_n hx hb dX9_twice_12 rfl (lv_at hl 1 rfl) ?_
    refine o_xor hx hb dX9_twice_13 ?_
    refine lv_goto (tgt := 20) hx hb dX9_twice_14 (by decide) ?_
    exact o_iret hQ C rfl ho () (by rw [tw, if_pos c_1]) rfl (Nat.le_of_ble_eq_true rfl) (Nat.le_of_ble_eq_true rfl) dX9_twice_20

set_option maxHeartbeats 4000000 in
set_option maxRecDepth 100000 in
theorem c_M_whiten (la : Launch) (D : va_G) (K : Nat → ClassId) (h : Nat) (ar : Nat → Nat) (ad : Nat) (ck : Nat) (bi : Nat) (lo : Nat) (F : Nat → Nat → Int32) (c_ : Nat) (qc : c_ < 2 ^ 30) : MT la D K yX9_whiten cX9_whiten 3 none (rmL 1 0 0) [.ref h, .int (nI c_)] [bX K h ar ad ck bi lo F] Unit (fun v _ => v = none) (fun _ => [bX K h ar ad ck bi lo (va_up F 1 (whP c_ (F 1) 400))]) := by
  refine Mt.ofW [(0, .ref h), (1, .int (nI c_))] (by decide) rfl (Nat.le_of_ble_eq_true rfl) ?_
  intro p e s m args below meth c A ls H locs Qz hQ C hin hl ho
  have hx := C.1.1
  have hb := C.1.2.1
  refine lv_iconst (v := nI 0) hx hb dX9_whiten_0 (by decide) ?_
  refine lv_istore_n (lv' := [(2, .int (nI 0)), (0, .ref h), (1, .int (nI c_))]) hx hb dX9_whiten_1 rfl hl (by decide) rfl (fun ls hl => ?_)
  have e_1 : bX K h ar ad ck bi lo F = bX K h ar ad ck bi lo (va_up F 1 (whP c_ (F 1) 0)) := by rw [whP_0, up_self]
  have ho : ow D vwCl A s.heap H locs [bX K h ar ad ck bi lo (va_up F 1 (whP c_ (F 1) 0))] := by rw [← e_1]; exact ho
  have LP2 : ∀ (fuel : Nat) (i : Nat) (_ : 400 - i < fuel) (_ : i ≤ 400) (H : Heap) (locs : List Loc) (ls : Array Slot) (_ : ow D vwCl A s.heap H locs [bX K h ar ad ck bi lo (va_up F 1 (whP c_ (F 1) i))]) (_ : lv_has ls 3 [(0, .ref h), (1, .int (nI c_)), (2, .int (nI i))]), W p la e (rmL 1 0 0) s m args below meth c H locs 0 0 Qz (F0 m 2 ls []) := by
    intro fuel
    induction fuel with
    | zero => intro i h0; exact absurd h0 (Nat.not_lt_zero _)
    | succ fuel ih2 =>
      intro i hfu hi H locs ls ho hl
      refine lv_iload_n hx hb dX9_whiten_2 rfl (lv_at hl 2 rfl) ?_
      refine lv_sipush (v := nI 400) hx hb dX9_whiten_3 (by decide) ?_
      refine o_icmp_ge (tgt := 59) hx hb dX9_whiten_6 (by decide) (by first | omega | exact and1_lt _) (by first | omega | exact and1_lt _) (fun c_2 => ?_) (fun c_2 => ?_)
      · skip
        exact o_vret hQ C ho () rfl (by rw [show i = 400 by omega]) (Nat.le_of_ble_eq_true rfl) (Nat.le_of_ble_eq_true rfl) dX9_whiten_59
      · skip
        refine lv_aload_n hx hb dX9_whiten_9 rfl (lv_at hl 0 rfl) ?_
        refine o_get (v := .ref (ar 1)) C ho 0 0 rfl rfl rfl 4 fX9_13 rfl dX9_whiten_10 ?_
        refine lv_iload_n hx hb dX9_whiten_13 rfl (lv_at hl 2 rfl) ?_
        refine lv_iload_n hx hb dX9_whiten_14 rfl (lv_at hl 2 rfl) ?_
        refine lv_bipush (v := nI 7) hx hb dX9_whiten_15 (by decide) ?_
        refine o_icmp_ge (tgt := 34) hx hb dX9_whiten_17 (by decide) (by first | omega | exact and1_lt _) (by first | omega | exact and1_lt _) (fun c_3 => ?_) (fun c_3 => ?_)
        · skip
          refine lv_aload_n hx hb dX9_whiten_34 rfl (lv_at hl 0 rfl) ?_
          refine o_get (v := .ref (ar 1)) C ho 0 0 rfl rfl rfl 4 fX9_13 rfl dX9_whiten_35 ?_
          refine lv_iload_n hx hb dX9_whiten_38 rfl (lv_at hl 2 rfl) ?_
          refine lv_bipush (v := nI 7) hx hb dX9_whiten_39 (by decide) ?_
          refine o_sub hx hb dX9_whiten_41 (by omega) ?_
          refine o_iald (v := whP c_ (F 1) i (i - 7)) C ho 0 2 rfl rfl 0 rfl (i - 7) rfl (by omega) (by omega) rfl dX9_whiten_42 ?_
          refine o_top (y := bI (wb c_ (i - 7))) (whP_in (by omega)) ?_
          refine lv_aload_n hx hb dX9_whiten_43 rfl (lv_at hl 0 rfl) ?_
          refine o_get (v := .ref (ar 1)) C ho 0 0 rfl rfl rfl 4 fX9_13 rfl dX9_whiten_44 ?_
          refine lv_iload_n hx hb dX9_whiten_47 rfl (lv_at hl 2 rfl) ?_
          refine lv_iconst (v := nI 3) hx hb dX9_whiten_48 (by decide) ?_
          refine o_sub hx hb dX9_whiten_49 (by omega) ?_
          refine o_iald (v := whP c_ (F 1) i (i - 3)) C ho 0 2 rfl rfl 0 rfl (i - 3) rfl (by omega) (by omega) rfl dX9_whiten_50 ?_
          refine o_top (y := bI (wb c_ (i - 3))) (whP_in (by omega)) ?_
          refine o_xorb hx hb dX9_whiten_51 ?_
          refine o_top (y := bI (wb c_ i)) (by rw [← wb_hi c_3]) ?_
          refine o_iast (bs' := [bX K h ar ad ck bi lo (va_up (va_up F 1 (whP c_ (F 1) i)) 1 (upd (whP c_ (F 1) i) i (bI (wb c_ i))))]) C ho 0 2 rfl rfl 0 rfl i rfl (by omega) (by decide) dX9_whiten_52 rfl (fun H locs ho => ?_)
          have e_4 : bX K h ar ad ck bi lo (va_up (va_up F 1 (whP c_ (F 1) i)) 1 (upd (whP c_ (F 1) i) i (bI (wb c_ i)))) = bX K h ar ad ck bi lo (va_up F 1 (whP c_ (F 1) (i + 1))) := by rw [bx_uu, whP_succ]
          have ho : ow D vwCl A s.heap H locs [bX K h ar ad ck bi lo (va_up F 1 (whP c_ (F 1) (i + 1)))] := by rw [← e_4]; exact ho
          refine lv_iinc (v := nI (i + 1)) (lv' := [(2, .int (nI (i + 1))), (0, .ref h), (1, .int (nI c_))]) hx hb dX9_whiten_53 hl (k := 2) rfl (iincN _ _) (by decide) rfl (fun ls hl => ?_)
          refine lv_goto (tgt := 2) hx hb dX9_whiten_56 (by decide) ?_
          exact ih2 (i + 1) (by omega) (by omega) _ _ _ ho (lv_sub hl [1, 2, 0] rfl)
        · skip
          refine lv_bipush (v := nI 64) hx hb dX9_whiten_20 (by decide) ?_
          refine lv_iload_n hx hb dX9_whiten_22 rfl (lv_at hl 1 rfl) ?_
          refine lv_bipush (v := nI 64) hx hb dX9_whiten_23 (by decide) ?_
          refine o_rem hx hb dX9_whiten_25 (by omega) (by omega) (by omega) ?_
          refine o_add hx hb dX9_whiten_26 ?_
          refine lv_iload_n hx hb dX9_whiten_27 rfl (lv_at hl 2 rfl) ?_
          refine o_shr hx hb dX9_whiten_28 (by omega) (by omega) ?_
          refine lv_iconst (v := nI 1) hx hb dX9_whiten_29 (by decide) ?_
          refine o_and hx hb dX9_whiten_30 ?_
          refine o_top (y := bI (wb c_ i)) (by rw [bit_N, bit_shr, wb_lo c_3]) ?_
          refine lv_goto (tgt := 52) hx hb dX9_whiten_31 (by decide) ?_
          refine o_iast (bs' := [bX K h ar ad ck bi lo (va_up (va_up F 1 (whP c_ (F 1) i)) 1 (upd (whP c_ (F 1) i) i (bI (wb c_ i))))]) C ho 0 2 rfl rfl 0 rfl i rfl (by omega) (by decide) dX9_whiten_52 rfl (fun H locs ho => ?_)
          have e_5 : bX K h ar ad ck bi lo (va_up (va_up F 1 (whP c_ (F 1) i)) 1 (upd (whP c_ (F 1) i) i (bI (wb c_ i)))) = bX K h ar ad ck bi lo (va_up F 1 (whP c_ (F 1) (i + 1))) := by rw [bx_uu, whP_succ]
          have ho : ow D vwCl A s.heap H locs [bX K h ar ad ck bi lo (va_up F 1 (whP c_ (F 1) (i + 1)))] := by rw [← e_5]; exact ho
          refine lv_iinc (v := nI (i + 1)) (lv' := [(2, .int (nI (i + 1))), (0, .ref h), (1, .int (nI c_))]) hx hb dX9_whiten_53 hl (k := 2) rfl (iincN _ _) (by decide) rfl (fun ls hl => ?_)
          refine lv_goto (tgt := 2) hx hb dX9_whiten_56 (by decide) ?_
          exact ih2 (i + 1) (by omega) (by omega) _ _ _ ho (lv_sub hl [1, 2, 0] rfl)
  exact LP2 (400 - 0 + 1) 0 (Nat.lt_succ_self _) (by omega) _ _ _ ho (lv_sub hl [1, 2, 0] rfl)

set_option maxHeartbeats 4000000 in
set_option maxRecDepth 100000 in
theorem c_M_put (la : Launch) (D : va_G) (K : Nat → ClassId) (h : Nat) (ar : Nat → Nat) (ad : Nat) (ck : Nat) (bi : Nat) (lo : Nat) (F : Nat → Nat → Int32) (w : Nat) (n : Nat) (qw : w < 2 ^ 31) (qn : n ≤ 31) (ql : lo + n ≤ 400) : MT la D K yX9_put cX9_put 4 none (rmL 1 0 0) [.ref h, .int (nI w), .int (nI n)] [bX K h ar ad ck bi lo F] Unit (fun v _ => v = none) (fun _ => [bX K h ar ad ck bi (lo + n) (va_up F 2 (wrL (F 2) lo (nb w n)))]) := by
  refine Mt.ofW [(0, .ref h), (1, .int (nI w)), (2, .int (nI n))] (by decide) rfl (Nat.le_of_ble_eq_true rfl) ?_
  intro p e s m args below meth c A ls H locs Qz hQ C hin hl ho
  have hx := C.1.1
  have hb := C.1.2.1
  refine lv_iconst (v := nI 0) hx hb dX9_put_0 (by decide) ?_
  refine lv_istore_n (lv' := [(3, .int (nI 0)), (0, .ref h), (1, .int (nI w)), (2, .int (nI n))]) hx hb dX9_put_1 rfl hl (by decide) rfl (fun ls hl => ?_)
  have e_1 : bX K h ar ad ck bi lo F = bX K h ar ad ck bi lo (va_up F 2 (wrL (F 2) lo (nb w 0))) := by rw [show nb w 0 = [] from rfl, wrL_nil, up_self]
  have ho : ow D vwCl A s.heap H locs [bX K h ar ad ck bi lo (va_up F 2 (wrL (F 2) lo (nb w 0)))] := by rw [← e_1]; exact ho
  have e_2 : bX K h ar ad ck bi lo (va_up F 2 (wrL (F 2) lo (nb w 0))) = bX K h ar ad ck bi (lo + 0) (va_up F 2 (wrL (F 2) lo (nb w 0))) := rfl
  have ho : ow D vwCl A s.heap H locs [bX K h ar ad ck bi (lo + 0) (va_up F 2 (wrL (F 2) lo (nb w 0)))] := by rw [← e_2]; exact ho
  have LP2 : ∀ (fuel : Nat) (i : Nat) (_ : n - i < fuel) (_ : i ≤ n) (H : Heap) (locs : List Loc) (ls : Array Slot) (_ : ow D vwCl A s.heap H locs [bX K h ar ad ck bi (lo + i) (va_up F 2 (wrL (F 2) lo (nb w i)))]) (_ : lv_has ls 4 [(0, .ref h), (1, .int (nI w)), (2, .int (nI n)), (3, .int (nI i))]), W p la e (rmL 1 0 0) s m args below meth c H locs 0 0 Qz (F0 m 2 ls []) := by
    intro fuel
    induction fuel with
    | zero => intro i h0; exact absurd h0 (Nat.not_lt_zero _)
    | succ fuel ih2 =>
      intro i hfu hi H locs ls ho hl
      refine lv_iload_n hx hb dX9_put_2 rfl (lv_at hl 3 rfl) ?_
      refine lv_iload_n hx hb dX9_put_3 rfl (lv_at hl 2 rfl) ?_
      refine o_icmp_ge (tgt := 37) hx hb dX9_put_4 (by decide) (by first | omega | exact and1_lt _) (by first | omega | exact and1_lt _) (fun c_3 => ?_) (fun c_3 => ?_)
      · skip
        exact o_vret hQ C ho () rfl (by rw [show i = n by omega]) (Nat.le_of_ble_eq_true rfl) (Nat.le_of_ble_eq_true rfl) dX9_put_37
      · skip
        refine lv_aload_n hx hb dX9_put_7 rfl (lv_at hl 0 rfl) ?_
        refine o_get (v := .ref (ar 2)) C ho 0 0 rfl rfl rfl 6 fX9_16 rfl dX9_put_8 ?_
        refine lv_aload_n hx hb dX9_put_11 rfl (lv_at hl 0 rfl) ?_
        refine o_get (v := .int (nI (lo + i))) C ho 0 0 rfl rfl rfl 5 fX9_103 rfl dX9_put_12 ?_
        refine lv_iload_n hx hb dX9_put_15 rfl (lv_at hl 1 rfl) ?_
        refine lv_iload_n hx hb dX9_put_16 rfl (lv_at hl 3 rfl) ?_
        refine o_shr hx hb dX9_put_17 (by omega) (by omega) ?_
        refine lv_iconst (v := nI 1) hx hb dX9_put_18 (by decide) ?_
        refine o_and hx hb dX9_put_19 ?_
        refine o_top (y := bI (w.testBit i)) (by rw [bit_N, bit_shr]) ?_
        refine o_iast (bs' := [bX K h ar ad ck bi (lo + i) (va_up (va_up F 2 (wrL (F 2) lo (nb w i))) 2 (upd (wrL (F 2) lo (nb w i)) (lo + i) (bI (w.testBit i))))]) C ho 0 3 rfl rfl 0 rfl (lo + i) rfl (by omega) (by decide) dX9_put_20 rfl (fun H locs ho => ?_)
        have e_4 : bX K h ar ad ck bi (lo + i) (va_up (va_up F 2 (wrL (F 2) lo (nb w i))) 2 (upd (wrL (F 2) lo (nb w i)) (lo + i) (bI (w.testBit i)))) = bX K h ar ad ck bi (lo + i) (va_up F 2 (wrL (F 2) lo (nb w (i + 1)))) := by rw [bx_uu, wrL_pushN (nb_len w i).symm, nb_succ]
        have ho : ow D vwCl A s.heap H locs [bX K h ar ad ck bi (lo + i) (va_up F 2 (wrL (F 2) lo (nb w (i + 1))))] := by rw [← e_4]; exact ho
        refine lv_aload_n hx hb dX9_put_21 rfl (lv_at hl 0 rfl) ?_
        refine lv_dup hx hb dX9_put_22 rfl ?_
        refine o_get (v := .int (nI (lo + i))) C ho 0 0 rfl rfl rfl 5 fX9_103 rfl dX9_put_23 ?_
        refine lv_iconst (v := nI 1) hx hb dX9_put_26 (by decide) ?_
        refine o_add hx hb dX9_put_27 ?_
        refine o_put (v := .int (nI ((lo + i) + 1))) (bs' := [bX K h ar ad ck bi ((lo + i) + 1) (va_up F 2 (wrL (F 2) lo (nb w (i + 1))))]) C ho 0 0 rfl rfl rfl 5 fX9_103 pX9_5 rfl rfl (Nat.le_of_ble_eq_true rfl) dX9_put_28 rfl (fun H locs ho => ?_)
        have e_5 : bX K h ar ad ck bi ((lo + i) + 1) (va_up F 2 (wrL (F 2) lo (nb w (i + 1)))) = bX K h ar ad ck bi (lo + (i + 1)) (va_up F 2 (wrL (F 2) lo (nb w (i + 1)))) := rfl
        have ho : ow D vwCl A s.heap H locs [bX K h ar ad ck bi (lo + (i + 1)) (va_up F 2 (wrL (F 2) lo (nb w (i + 1))))] := by rw [← e_5]; exact ho
        refine lv_iinc (v := nI (i + 1)) (lv' := [(3, .int (nI (i + 1))), (0, .ref h), (1, .int (nI w)), (2, .int (nI n))]) hx hb dX9_put_31 hl (k := 3) rfl (iincN _ _) (by decide) rfl (fun ls hl => ?_)
        refine lv_goto (tgt := 2) hx hb dX9_put_34 (by decide) ?_
        exact ih2 (i + 1) (by omega) (by omega) _ _ _ ho (lv_sub hl [1, 2, 3, 0] rfl)
  exact LP2 (n - 0 + 1) 0 (Nat.lt_succ_self _) (by omega) _ _ _ ho (lv_sub hl [1, 2, 3, 0] rfl)

set_option maxHeartbeats 4000000 in
set_option maxRecDepth 100000 in
theorem c_M_rem (la : Launch) (D : va_G) (K : Nat → ClassId) (h : Nat) (ar : Nat → Nat) (ad : Nat) (ck : Nat) (bi : Nat) (lo : Nat) (F : Nat → Nat → Int32) (fr : Nat) (en : Nat) (gd : Nat) (n : Nat) (l : List Bool) (qr : ∀ i, i < l.length → F 2 (fr + i) = bI (l.getD i false)) (qe : en = fr + l.length) (qe2 : en ≤ 400) (qe3 : 1 ≤ en) (qn : 1 ≤ n) (qn2 : n ≤ 16) (qg : gd < 2 ^ (n + 1)) (qt : gd.testBit n = true) (qp : pw gd n n = gd ^^^ 2 ^ n) : MT la D K yX9_rem cX9_rem 8 (some .int) (rmL 2 0 0) [.ref h, .int (nI fr), .int (nI en), .int (nI gd), .int (nI n)] [bX K h ar ad ck bi lo F] Unit (fun v _ => v = some (.int (nI (crc gd n l)))) (fun _ => [bX K h ar ad ck bi lo F]) := by
  refine Mt.ofW [(0, .ref h), (1, .int (nI fr)), (2, .int (nI en)), (3, .int (nI gd)), (4, .int (nI n))] (by decide) rfl (Nat.le_of_ble_eq_true rfl) ?_
  intro p e s m args below meth c A ls H locs Qz hQ C hin hl ho
  have hx := C.1.1
  have hb := C.1.2.1
  refine lv_iconst (v := nI 1) hx hb dX9_rem_0 (by decide) ?_
  refine lv_istore (lv' := [(5, .int (nI 1)), (0, .ref h), (1, .int (nI fr)), (2, .int (nI en)), (3, .int (nI gd)), (4, .int (nI n))]) hx hb dX9_rem_1 hl (by decide) rfl (fun ls hl => ?_)
  refine lv_iconst (v := nI 0) hx hb dX9_rem_3 (by decide) ?_
  refine lv_istore (lv' := [(6, .int (nI 0)), (5, .int (nI 1)), (0, .ref h), (1, .int (nI fr)), (2, .int (nI en)), (3, .int (nI gd)), (4, .int (nI n))]) hx hb dX9_rem_4 hl (by decide) rfl (fun ls hl => ?_)
  have e_1 : (.int (nI 1) : Value) = .int (nI (pw gd n 0)) := rfl
  have hl : lv_has ls 8 [(6, .int (nI 0)), (5, .int (nI (pw gd n 0))), (0, .ref h), (1, .int (nI fr)), (2, .int (nI en)), (3, .int (nI gd)), (4, .int (nI n))] := by rw [← e_1]; exact hl
  have LP6 : ∀ (fuel : Nat) (i : Nat) (_ : n - i < fuel) (_ : i ≤ n) (H : Heap) (locs : List Loc) (ls : Array Slot) (_ : ow D vwCl A s.heap H locs [bX K h ar ad ck bi lo F]) (_ : lv_has ls 8 [(0, .ref h), (1, .int (nI fr)), (2, .int (nI en)), (3, .int (nI gd)), (4, .int (nI n)), (5, .int (nI (pw gd n i))), (6, .int (nI i))]), W p la e (rmL 2 0 0) s m args below meth c H locs 0 0 Qz (F0 m 6 ls []) := by
    intro fuel
    induction fuel with
    | zero => intro i h0; exact absurd h0 (Nat.not_lt_zero _)
    | succ fuel ih6 =>
      intro i hfu hi H locs ls ho hl
      refine lv_iload hx hb dX9_rem_6 (lv_at hl 6 rfl) ?_
      refine lv_iload hx hb dX9_rem_8 (lv_at hl 4 rfl) ?_
      refine o_icmp_ge (tgt := 29) hx hb dX9_rem_10 (by decide) (by first | omega | exact and1_lt _) (by first | omega | exact and1_lt _) (fun c_2 => ?_) (fun c_2 => ?_)
      · skip
        refine lv_iconst (v := nI 0) hx hb dX9_rem_29 (by decide) ?_
        refine lv_istore (lv' := [(6, .int (nI 0)), (0, .ref h), (1, .int (nI fr)), (2, .int (nI en)), (3, .int (nI gd)), (4, .int (nI n)), (5, .int (nI (pw gd n i)))]) hx hb dX9_rem_30 hl (by decide) rfl (fun ls hl => ?_)
        refine lv_iload_n hx hb dX9_rem_32 rfl (lv_at hl 3 rfl) ?_
        refine lv_iconst (v := nI 1) hx hb dX9_rem_33 (by decide) ?_
        refine o_sub hx hb dX9_rem_34 (by omega) ?_
        refine lv_istore (lv' := [(7, .int (nI (en - 1))), (6, .int (nI 0)), (0, .ref h), (1, .int (nI fr)), (2, .int (nI en)), (3, .int (nI gd)), (4, .int (nI n)), (5, .int (nI (pw gd n i)))]) hx hb dX9_rem_35 hl (by decide) rfl (fun ls hl => ?_)
        have e_3 : (.int (nI (pw gd n i)) : Value) = .int (nI (pw gd n (n + 0))) := by rw [show i = n by omega]; rfl
        have hl : lv_has ls 8 [(7, .int (nI (en - 1))), (6, .int (nI 0)), (0, .ref h), (1, .int (nI fr)), (2, .int (nI en)), (3, .int (nI gd)), (4, .int (nI n)), (5, .int (nI (pw gd n (n + 0))))] := by rw [← e_3]; exact hl
        have e_4 : (.int (nI 0) : Value) = .int (nI (rsm gd n l 0)) := rfl
        have hl : lv_has ls 8 [(7, .int (nI (en - 1))), (6, .int (nI (rsm gd n l 0))), (0, .ref h), (1, .int (nI fr)), (2, .int (nI en)), (3, .int (nI gd)), (4, .int (nI n)), (5, .int (nI (pw gd n (n + 0))))] := by rw [← e_4]; exact hl
        have LP37 : ∀ (fuel : Nat) (k : Nat) (x : Int32) (_ : l.length - k < fuel) (_ : k ≤ l.length) (_ : x = nI (en - k) - 1) (H : Heap) (locs : List Loc) (ls : Array Slot) (_ : ow D vwCl A s.heap H locs [bX K h ar ad ck bi lo F]) (_ : lv_has ls 8 [(0, .ref h), (1, .int (nI fr)), (2, .int (nI en)), (3, .int (nI gd)), (4, .int (nI n)), (5, .int (nI (pw gd n (n + k)))), (6, .int (nI (rsm gd n l k))), (7, .int x)]), W p la e (rmL 2 0 0) s m args below meth c H locs 0 0 Qz (F0 m 37 ls []) := by
          intro fuel
          induction fuel with
          | zero => intro k x h0; exact absurd h0 (Nat.not_lt_zero _)
          | succ fuel ih37 =>
            intro k x hfu hk hx1 H locs ls ho hl
            refine lv_iload hx hb dX9_rem_37 (lv_at hl 7 rfl) ?_
            refine lv_iload_n hx hb dX9_rem_39 rfl (lv_at hl 1 rfl) ?_
            refine lv_icmp_lt (tgt := 77) hx hb dX9_rem_40 (by decide) (fun c_5 => ?_) (fun c_5 => ?_)
            · skip
              have hk2 := dn_eq (by omega) (by omega) (hx1 ▸ c_5)
              refine lv_iload hx hb dX9_rem_77 (lv_at hl 6 rfl) ?_
              exact o_iret hQ C rfl ho () (by rw [show k = l.length by omega, rsm_crc qn qg qt qp]) rfl (Nat.le_of_ble_eq_true rfl) (Nat.le_of_ble_eq_true rfl) dX9_rem_79
            · skip
              obtain ⟨hk3, hk4⟩ := dn_gt (by omega) (by omega) (hx1 ▸ c_5)
              have hx5 : x = nI (en - k - 1) := by rw [hx1, hk4]
              subst hx5
              refine lv_aload_n hx hb dX9_rem_43 rfl (lv_at hl 0 rfl) ?_
              refine o_get (v := .ref (ar 2)) C ho 0 0 rfl rfl rfl 6 fX9_16 rfl dX9_rem_44 ?_
              refine lv_iload hx hb dX9_rem_47 (lv_at hl 7 rfl) ?_
              refine o_iald (v := F 2 (en - k - 1)) C ho 0 3 rfl rfl 0 rfl (en - k - 1) rfl (by omega) (by omega) rfl dX9_rem_49 ?_
              refine o_top (y := bI (l.getD (l.length - 1 - k) false)) (by rw [show en - k - 1 = fr + (l.length - 1 - k) by omega]; exact qr _ (by omega)) ?_
              refine lv_iconst (v := nI 1) hx hb dX9_rem_50 (by decide) ?_
              refine o_top (y := bI true) (rfl) ?_
              refine o_icmpb_ne (tgt := 61) hx hb dX9_rem_51 (by decide) (fun c_6 => ?_) (fun c_6 => ?_)
              · skip
                have e_7 : (.int (nI (rsm gd n l k)) : Value) = .int (nI (rsm gd n l (k + 1))) := by rw [rsm, Bool.eq_false_iff.mpr c_6, cond_false, Nat.xor_zero]
                have hl : lv_has ls 8 [(0, .ref h), (1, .int (nI fr)), (2, .int (nI en)), (3, .int (nI gd)), (4, .int (nI n)), (5, .int (nI (pw gd n (n + k)))), (6, .int (nI (rsm gd n l (k + 1)))), (7, .int (nI (en - k - 1)))] := by rw [← e_7]; exact hl
                refine lv_iload hx hb dX9_rem_61 (lv_at hl 5 rfl) ?_
                refine lv_iload_n hx hb dX9_rem_63 rfl (lv_at hl 3 rfl) ?_
                refine lv_iload hx hb dX9_rem_64 (lv_at hl 4 rfl) ?_
                have hpl := pw_sm qn qn2 qg qt (n + k)
                refine o_callS (wr := [bX K h ar ad ck bi lo F]) (rest := []) (As := [.int (nI (pw gd n (n + k))), .int (nI gd), .int (nI n)]) C (c_M_twice la D K (pw gd n (n + k)) gd n (by first | omega | assumption | (simp only [List.length_append, List.length_cons, List.length_nil, List.length_modify, List.length_set, nb_len, rb_len, rbp_len, sl_len, slN_len, wh_len, wt_len, hd10_len, hdB_len, thr_len, ldp_len, ldB_len, tens_len, whz_len, majL_len, mf_len, tkL_len, ldY_len, fif_len, ldY_len]; omega) | decide) (by first | omega | assumption | (simp only [List.length_append, List.length_cons, List.length_nil, List.length_modify, List.length_set, nb_len, rb_len, rbp_len, sl_len, slN_len, wh_len, wt_len, hd10_len, hdB_len, thr_len, ldp_len, ldB_len, tens_len, whz_len, majL_len, mf_len, tkL_len, ldY_len, fif_len, ldY_len]; omega) | decide) (by first | omega | assumption | (simp only [List.length_append, List.length_cons, List.length_nil, List.length_modify, List.length_set, nb_len, rb_len, rbp_len, sl_len, slN_len, wh_len, wt_len, hd10_len, hdB_len, thr_len, ldp_len, ldB_len, tens_len, whz_len, majL_len, mf_len, tkL_len, ldY_len, fif_len, ldY_len]; omega) | decide)) kX9_106 vX9_twice (by decide) rfl ho [0] 1 (by decide +kernel) rfl rfl hl.1 rfl (Nat.le_of_ble_eq_true rfl) dX9_rem_66 0 0 rfl rfl (by decide) (fun v u_8 H locs hq ho => ?_)
                obtain rfl := hq
                have ho : ow D vwCl A s.heap H locs [bX K h ar ad ck bi lo F] := ho
                refine W.eq (g2 := F0 m 69 ls [.int (nI (tw gd n (pw gd n (n + k))))]) rfl ?_
                refine lv_istore (lv' := [(5, .int (nI (tw gd n (pw gd n (n + k))))), (0, .ref h), (1, .int (nI fr)), (2, .int (nI en)), (3, .int (nI gd)), (4, .int (nI n)), (6, .int (nI (rsm gd n l (k + 1)))), (7, .int (nI (en - k - 1)))]) hx hb dX9_rem_69 hl (by decide) rfl (fun ls hl => ?_)
                have e_9 : (.int (nI (tw gd n (pw gd n (n + k)))) : Value) = .int (nI (pw gd n (n + (k + 1)))) := rfl
                have hl : lv_has ls 8 [(5, .int (nI (pw gd n (n + (k + 1))))), (0, .ref h), (1, .int (nI fr)), (2, .int (nI en)), (3, .int (nI gd)), (4, .int (nI n)), (6, .int (nI (rsm gd n l (k + 1)))), (7, .int (nI (en - k - 1)))] := by rw [← e_9]; exact hl
                refine lv_iinc (v := nI (en - k - 1) - 1) (lv' := [(7, .int (nI (en - k - 1) - 1)), (5, .int (nI (pw gd n (n + (k + 1))))), (0, .ref h), (1, .int (nI fr)), (2, .int (nI en)), (3, .int (nI gd)), (4, .int (nI n)), (6, .int (nI (rsm gd n l (k + 1))))]) hx hb dX9_rem_71 hl (k := 7) rfl (iincM _) (by decide) rfl (fun ls hl => ?_)
                refine lv_goto (tgt := 37) hx hb dX9_rem_74 (by decide) ?_
                exact ih37 (k + 1) (nI (en - k - 1) - 1) (by omega) (by omega) (by rw [show en - k - 1 = en - (k + 1) by omega]) _ _ _ ho (lv_sub hl [2, 3, 4, 5, 6, 1, 7, 0] rfl)
              · skip
                refine lv_iload hx hb dX9_rem_54 (lv_at hl 6 rfl) ?_
                refine lv_iload hx hb dX9_rem_56 (lv_at hl 5 rfl) ?_
                refine o_xor hx hb dX9_rem_58 ?_
                refine lv_istore (lv' := [(6, .int (nI ((rsm gd n l k) ^^^ (pw gd n (n + k))))), (0, .ref h), (1, .int (nI fr)), (2, .int (nI en)), (3, .int (nI gd)), (4, .int (nI n)), (5, .int (nI (pw gd n (n + k)))), (7, .int (nI (en - k - 1)))]) hx hb dX9_rem_59 hl (by decide) rfl (fun ls hl => ?_)
                have e_10 : (.int (nI ((rsm gd n l k) ^^^ (pw gd n (n + k)))) : Value) = .int (nI (rsm gd n l (k + 1))) := by rw [rsm, c_6, cond_true]
                have hl : lv_has ls 8 [(6, .int (nI (rsm gd n l (k + 1)))), (0, .ref h), (1, .int (nI fr)), (2, .int (nI en)), (3, .int (nI gd)), (4, .int (nI n)), (5, .int (nI (pw gd n (n + k)))), (7, .int (nI (en - k - 1)))] := by rw [← e_10]; exact hl
                refine lv_iload hx hb dX9_rem_61 (lv_at hl 6 rfl) ?_
                refine lv_iload_n hx hb dX9_rem_63 rfl (lv_at hl 4 rfl) ?_
                refine lv_iload hx hb dX9_rem_64 (lv_at hl 5 rfl) ?_
                have hpl := pw_sm qn qn2 qg qt (n + k)
                refine o_callS (wr := [bX K h ar ad ck bi lo F]) (rest := []) (As := [.int (nI (pw gd n (n + k))), .int (nI gd), .int (nI n)]) C (c_M_twice la D K (pw gd n (n + k)) gd n (by first | omega | assumption | (simp only [List.length_append, List.length_cons, List.length_nil, List.length_modify, List.length_set, nb_len, rb_len, rbp_len, sl_len, slN_len, wh_len, wt_len, hd10_len, hdB_len, thr_len, ldp_len, ldB_len, tens_len, whz_len, majL_len, mf_len, tkL_len, ldY_len, fif_len, ldY_len]; omega) | decide) (by first | omega | assumption | (simp only [List.length_append, List.length_cons, List.length_nil, List.length_modify, List.length_set, nb_len, rb_len, rbp_len, sl_len, slN_len, wh_len, wt_len, hd10_len, hdB_len, thr_len, ldp_len, ldB_len, tens_len, whz_len, majL_len, mf_len, tkL_len, ldY_len, fif_len, ldY_len]; omega) | decide) (by first | omega | assumption | (simp only [List.length_append, List.length_cons, List.length_nil, List.length_modify, List.length_set, nb_len, rb_len, rbp_len, sl_len, slN_len, wh_len, wt_len, hd10_len, hdB_len, thr_len, ldp_len, ldB_len, tens_len, whz_len, majL_len, mf_len, tkL_len, ldY_len, fif_len, ldY_len]; omega) | decide)) kX9_106 vX9_twice (by decide) rfl ho [0] 1 (by decide +kernel) rfl rfl hl.1 rfl (Nat.le_of_ble_eq_true rfl) dX9_rem_66 0 0 rfl rfl (by decide) (fun v u_11 H locs hq ho => ?_)
                obtain rfl := hq
                have ho : ow D vwCl A s.heap H locs [bX K h ar ad ck bi lo F] := ho
                refine W.eq (g2 := F0 m 69 ls [.int (nI (tw gd n (pw gd n (n + k))))]) rfl ?_
                refine lv_istore (lv' := [(5, .int (nI (tw gd n (pw gd n (n + k))))), (6, .int (nI (rsm gd n l (k + 1)))), (0, .ref h), (1, .int (nI fr)), (2, .int (nI en)), (3, .int (nI gd)), (4, .int (nI n)), (7, .int (nI (en - k - 1)))]) hx hb dX9_rem_69 hl (by decide) rfl (fun ls hl => ?_)
                have e_12 : (.int (nI (tw gd n (pw gd n (n + k)))) : Value) = .int (nI (pw gd n (n + (k + 1)))) := rfl
                have hl : lv_has ls 8 [(5, .int (nI (pw gd n (n + (k + 1))))), (6, .int (nI (rsm gd n l (k + 1)))), (0, .ref h), (1, .int (nI fr)), (2, .int (nI en)), (3, .int (nI gd)), (4, .int (nI n)), (7, .int (nI (en - k - 1)))] := by rw [← e_12]; exact hl
                refine lv_iinc (v := nI (en - k - 1) - 1) (lv' := [(7, .int (nI (en - k - 1) - 1)), (5, .int (nI (pw gd n (n + (k + 1))))), (6, .int (nI (rsm gd n l (k + 1)))), (0, .ref h), (1, .int (nI fr)), (2, .int (nI en)), (3, .int (nI gd)), (4, .int (nI n))]) hx hb dX9_rem_71 hl (k := 7) rfl (iincM _) (by decide) rfl (fun ls hl => ?_)
                refine lv_goto (tgt := 37) hx hb dX9_rem_74 (by decide) ?_
                exact ih37 (k + 1) (nI (en - k - 1) - 1) (by omega) (by omega) (by rw [show en - k - 1 = en - (k + 1) by omega]) _ _ _ ho (lv_sub hl [3, 4, 5, 6, 7, 1, 2, 0] rfl)
        exact LP37 (l.length - 0 + 1) 0 (nI (en - 1)) (Nat.lt_succ_self _) (by omega) (dec_1 qe3).symm _ _ _ ho (lv_sub hl [2, 3, 4, 5, 6, 7, 1, 0] rfl)
      · skip
        refine lv_iload hx hb dX9_rem_13 (lv_at hl 5 rfl) ?_
        refine lv_iload_n hx hb dX9_rem_15 rfl (lv_at hl 3 rfl) ?_
        refine lv_iload hx hb dX9_rem_16 (lv_at hl 4 rfl) ?_
        have hpl := pw_sm qn qn2 qg qt i
        refine o_callS (wr := [bX K h ar ad ck bi lo F]) (rest := []) (As := [.int (nI (pw gd n i)), .int (nI gd), .int (nI n)]) C (c_M_twice la D K (pw gd n i) gd n (by first | omega | assumption | (simp only [List.length_append, List.length_cons, List.length_nil, List.length_modify, List.length_set, nb_len, rb_len, rbp_len, sl_len, slN_len, wh_len, wt_len, hd10_len, hdB_len, thr_len, ldp_len, ldB_len, tens_len, whz_len, majL_len, mf_len, tkL_len, ldY_len, fif_len, ldY_len]; omega) | decide) (by first | omega | assumption | (simp only [List.length_append, List.length_cons, List.length_nil, List.length_modify, List.length_set, nb_len, rb_len, rbp_len, sl_len, slN_len, wh_len, wt_len, hd10_len, hdB_len, thr_len, ldp_len, ldB_len, tens_len, whz_len, majL_len, mf_len, tkL_len, ldY_len, fif_len, ldY_len]; omega) | decide) (by first | omega | assumption | (simp only [List.length_append, List.length_cons, List.length_nil, List.length_modify, List.length_set, nb_len, rb_len, rbp_len, sl_len, slN_len, wh_len, wt_len, hd10_len, hdB_len, thr_len, ldp_len, ldB_len, tens_len, whz_len, majL_len, mf_len, tkL_len, ldY_len, fif_len, ldY_len]; omega) | decide)) kX9_106 vX9_twice (by decide) rfl ho [0] 1 (by decide +kernel) rfl rfl hl.1 rfl (Nat.le_of_ble_eq_true rfl) dX9_rem_18 0 0 rfl rfl (by decide) (fun v u_13 H locs hq ho => ?_)
        obtain rfl := hq
        have ho : ow D vwCl A s.heap H locs [bX K h ar ad ck bi lo F] := ho
        refine W.eq (g2 := F0 m 21 ls [.int (nI (tw gd n (pw gd n i)))]) rfl ?_
        refine lv_istore (lv' := [(5, .int (nI (tw gd n (pw gd n i)))), (0, .ref h), (1, .int (nI fr)), (2, .int (nI en)), (3, .int (nI gd)), (4, .int (nI n)), (6, .int (nI i))]) hx hb dX9_rem_21 hl (by decide) rfl (fun ls hl => ?_)
        have e_14 : (.int (nI (tw gd n (pw gd n i))) : Value) = .int (nI (pw gd n (i + 1))) := rfl
        have hl : lv_has ls 8 [(5, .int (nI (pw gd n (i + 1)))), (0, .ref h), (1, .int (nI fr)), (2, .int (nI en)), (3, .int (nI gd)), (4, .int (nI n)), (6, .int (nI i))] := by rw [← e_14]; exact hl
        refine lv_iinc (v := nI (i + 1)) (lv' := [(6, .int (nI (i + 1))), (5, .int (nI (pw gd n (i + 1)))), (0, .ref h), (1, .int (nI fr)), (2, .int (nI en)), (3, .int (nI gd)), (4, .int (nI n))]) hx hb dX9_rem_23 hl (k := 6) rfl (iincN _ _) (by decide) rfl (fun ls hl => ?_)
        refine lv_goto (tgt := 6) hx hb dX9_rem_26 (by decide) ?_
        exact ih6 (i + 1) (by omega) (by omega) _ _ _ ho (lv_sub hl [2, 3, 4, 5, 6, 1, 0] rfl)
  exact LP6 (n - 0 + 1) 0 (Nat.lt_succ_self _) (by omega) _ _ _ ho (lv_sub hl [2, 3, 4, 5, 6, 1, 0] rfl)

set_option maxHeartbeats 4000000 in
set_option maxRecDepth 100000 in
theorem c_M_putRem (la : Launch) (D : va_G) (K : Nat → ClassId) (h : Nat) (ar : Nat → Nat) (ad : Nat) (ck : Nat) (bi : Nat) (lo : Nat) (F : Nat → Nat → Int32) (fr : Nat) (en : Nat) (gd : Nat) (n : Nat) (l : List Bool) (qr : ∀ i, i < l.length → F 2 (fr + i) = bI (l.getD i false)) (qe : en = fr + l.length) (qe2 : en ≤ 400) (qe3 : 1 ≤ en) (qn : 1 ≤ n) (qn2 : n ≤ 16) (qg : gd < 2 ^ (n + 1)) (qt : gd.testBit n = true) (qp : pw gd n n = gd ^^^ 2 ^ n) (ql : lo + n ≤ 400) : MT la D K yX9_putRem cX9_putRem 7 none (rmL 3 0 0) [.ref h, .int (nI fr), .int (nI en), .int (nI gd), .int (nI n)] [bX K h ar ad ck bi lo F] Unit (fun v _ => v = none) (fun _ => [bX K h ar ad ck bi (lo + n) (va_up F 2 (wrL (F 2) lo (rb (crc gd n l) n)))]) := by
  refine Mt.ofW [(0, .ref h), (1, .int (nI fr)), (2, .int (nI en)), (3, .int (nI gd)), (4, .int (nI n))] (by decide) rfl (Nat.le_of_ble_eq_true rfl) ?_
  intro p e s m args below meth c A ls H locs Qz hQ C hin hl ho
  have hx := C.1.1
  have hb := C.1.2.1
  refine lv_aload_n hx hb dX9_putRem_0 rfl (lv_at hl 0 rfl) ?_
  refine lv_iload_n hx hb dX9_putRem_1 rfl (lv_at hl 1 rfl) ?_
  refine lv_iload_n hx hb dX9_putRem_2 rfl (lv_at hl 2 rfl) ?_
  refine lv_iload_n hx hb dX9_putRem_3 rfl (lv_at hl 3 rfl) ?_
  refine lv_iload hx hb dX9_putRem_4 (lv_at hl 4 rfl) ?_
  refine o_callV (wr := []) (rest := []) (As := [.int (nI fr), .int (nI en), .int (nI gd), .int (nI n)]) C (c_M_rem la D K h ar ad ck bi lo F fr en gd n l qr qe qe2 qe3 qn qn2 qg qt qp) kX9_110 vX9_rem (by decide) rfl ho [0] 1 (by decide +kernel) rfl rfl rfl rfl rfl hl.1 rfl (Nat.le_of_ble_eq_true rfl) dX9_putRem_6 0 0 rfl rfl (by decide) (fun v u_1 H locs hq ho => ?_)
  obtain rfl := hq
  have ho : ow D vwCl A s.heap H locs [bX K h ar ad ck bi lo F] := ho
  refine W.eq (g2 := F0 m 9 ls [.int (nI (crc gd n l))]) rfl ?_
  refine lv_istore (lv' := [(5, .int (nI (crc gd n l))), (0, .ref h), (1, .int (nI fr)), (2, .int (nI en)), (3, .int (nI gd)), (4, .int (nI n))]) hx hb dX9_putRem_9 hl (by decide) rfl (fun ls hl => ?_)
  refine lv_iload hx hb dX9_putRem_11 (lv_at hl 5 rfl) ?_
  refine lv_iconst (v := nI 1) hx hb dX9_putRem_13 (by decide) ?_
  refine o_sub hx hb dX9_putRem_14 (by omega) ?_
  refine lv_istore (lv' := [(6, .int (nI (n - 1))), (5, .int (nI (crc gd n l))), (0, .ref h), (1, .int (nI fr)), (2, .int (nI en)), (3, .int (nI gd)), (4, .int (nI n))]) hx hb dX9_putRem_15 hl (by decide) rfl (fun ls hl => ?_)
  have hcr := cr0_lt qn2 (crc_lt qg qt l)
  have e_2 : bX K h ar ad ck bi lo F = bX K h ar ad ck bi lo (va_up F 2 (wrL (F 2) lo (rbp (crc gd n l) n 0))) := by rw [show rbp (crc gd n l) n 0 = [] from rfl, wrL_nil, up_self]
  have ho : ow D vwCl A s.heap H locs [bX K h ar ad ck bi lo (va_up F 2 (wrL (F 2) lo (rbp (crc gd n l) n 0)))] := by rw [← e_2]; exact ho
  have e_3 : bX K h ar ad ck bi lo (va_up F 2 (wrL (F 2) lo (rbp (crc gd n l) n 0))) = bX K h ar ad ck bi (lo + 0) (va_up F 2 (wrL (F 2) lo (rbp (crc gd n l) n 0))) := rfl
  have ho : ow D vwCl A s.heap H locs [bX K h ar ad ck bi (lo + 0) (va_up F 2 (wrL (F 2) lo (rbp (crc gd n l) n 0)))] := by rw [← e_3]; exact ho
  have LP17 : ∀ (fuel : Nat) (k : Nat) (x : Int32) (_ : n - k < fuel) (_ : k ≤ n) (_ : x = nI (n - k) - 1) (H : Heap) (locs : List Loc) (ls : Array Slot) (_ : ow D vwCl A s.heap H locs [bX K h ar ad ck bi (lo + k) (va_up F 2 (wrL (F 2) lo (rbp (crc gd n l) n k)))]) (_ : lv_has ls 7 [(0, .ref h), (4, .int (nI n)), (5, .int (nI (crc gd n l))), (6, .int x)]), W p la e (rmL 3 0 0) s m args below meth c H locs 0 0 Qz (F0 m 17 ls []) := by
    intro fuel
    induction fuel with
    | zero => intro k x h0; exact absurd h0 (Nat.not_lt_zero _)
    | succ fuel ih17 =>
      intro k x hfu hk hx1 H locs ls ho hl
      refine lv_iload hx hb dX9_putRem_17 (lv_at hl 3 rfl) ?_
      refine lv_if_lt (tgt := 38) hx hb dX9_putRem_19 (by decide) (fun c_4 => ?_) (fun c_4 => ?_)
      · skip
        have hk2 := dec_lt (hx1 ▸ c_4) (by omega)
        exact o_vret hQ C ho () rfl (by rw [show k = n by omega]; rfl) (Nat.le_of_ble_eq_true rfl) (Nat.le_of_ble_eq_true rfl) dX9_putRem_38
      · skip
        obtain ⟨hk3, hk4⟩ := dec_ge (hx1 ▸ c_4) (by omega)
        have hx5 : x = nI (n - 1 - k) := by rw [hx1, hk4, show n - k - 1 = n - 1 - k by omega]
        subst hx5
        refine lv_aload_n hx hb dX9_putRem_22 rfl (lv_at hl 0 rfl) ?_
        refine lv_iload hx hb dX9_putRem_23 (lv_at hl 2 rfl) ?_
        refine lv_iload hx hb dX9_putRem_25 (lv_at hl 3 rfl) ?_
        refine o_shr hx hb dX9_putRem_27 (by omega) hcr ?_
        have hdl : crc gd n l / 2 ^ (n - 1 - k) < 2 ^ 31 := Nat.lt_of_le_of_lt (Nat.div_le_self _ _) hcr
        refine lv_iconst (v := nI 1) hx hb dX9_putRem_28 (by decide) ?_
        refine o_callV (wr := []) (rest := []) (As := [.int (nI ((crc gd n l) / 2 ^ (n - 1 - k))), .int (nI 1)]) C (c_M_put la D K h ar ad ck bi (lo + k) (va_up F 2 (wrL (F 2) lo (rbp (crc gd n l) n k))) ((crc gd n l) / 2 ^ (n - 1 - k)) 1 (by first | omega | assumption | (simp only [List.length_append, List.length_cons, List.length_nil, List.length_modify, List.length_set, nb_len, rb_len, rbp_len, sl_len, slN_len, wh_len, wt_len, hd10_len, hdB_len, thr_len, ldp_len, ldB_len, tens_len, whz_len, majL_len, mf_len, tkL_len, ldY_len, fif_len, ldY_len]; omega) | decide) (by first | omega | assumption | (simp only [List.length_append, List.length_cons, List.length_nil, List.length_modify, List.length_set, nb_len, rb_len, rbp_len, sl_len, slN_len, wh_len, wt_len, hd10_len, hdB_len, thr_len, ldp_len, ldB_len, tens_len, whz_len, majL_len, mf_len, tkL_len, ldY_len, fif_len, ldY_len]; omega) | decide) (by first | omega | assumption | (simp only [List.length_append, List.length_cons, List.length_nil, List.length_modify, List.length_set, nb_len, rb_len, rbp_len, sl_len, slN_len, wh_len, wt_len, hd10_len, hdB_len, thr_len, ldp_len, ldB_len, tens_len, whz_len, majL_len, mf_len, tkL_len, ldY_len, fif_len, ldY_len]; omega) | decide)) kX9_114 vX9_put (by decide) rfl ho [0] 1 (by decide +kernel) rfl rfl rfl rfl rfl hl.1 rfl (Nat.le_of_ble_eq_true rfl) dX9_putRem_29 0 0 rfl rfl (by decide) (fun v u_5 H locs hq ho => ?_)
        obtain rfl := hq
        have ho : ow D vwCl A s.heap H locs [bX K h ar ad ck bi ((lo + k) + 1) (va_up (va_up F 2 (wrL (F 2) lo (rbp (crc gd n l) n k))) 2 (wrL (wrL (F 2) lo (rbp (crc gd n l) n k)) (lo + k) (nb ((crc gd n l) / 2 ^ (n - 1 - k)) 1)))] := ho
        refine W.eq (g2 := F0 m 32 ls []) rfl ?_
        have e_6 : bX K h ar ad ck bi ((lo + k) + 1) (va_up (va_up F 2 (wrL (F 2) lo (rbp (crc gd n l) n k))) 2 (wrL (wrL (F 2) lo (rbp (crc gd n l) n k)) (lo + k) (nb ((crc gd n l) / 2 ^ (n - 1 - k)) 1))) = bX K h ar ad ck bi ((lo + k) + 1) (va_up F 2 (wrL (F 2) lo (rbp (crc gd n l) n (k + 1)))) := by rw [bx_uu, wrL_app (by rw [rbp_len]), rbp_succ, nb_1, bit_shr]
        have ho : ow D vwCl A s.heap H locs [bX K h ar ad ck bi ((lo + k) + 1) (va_up F 2 (wrL (F 2) lo (rbp (crc gd n l) n (k + 1))))] := by rw [← e_6]; exact ho
        have e_7 : bX K h ar ad ck bi ((lo + k) + 1) (va_up F 2 (wrL (F 2) lo (rbp (crc gd n l) n (k + 1)))) = bX K h ar ad ck bi (lo + (k + 1)) (va_up F 2 (wrL (F 2) lo (rbp (crc gd n l) n (k + 1)))) := rfl
        have ho : ow D vwCl A s.heap H locs [bX K h ar ad ck bi (lo + (k + 1)) (va_up F 2 (wrL (F 2) lo (rbp (crc gd n l) n (k + 1))))] := by rw [← e_7]; exact ho
        refine lv_iinc (v := nI (n - 1 - k) - 1) (lv' := [(6, .int (nI (n - 1 - k) - 1)), (0, .ref h), (4, .int (nI n)), (5, .int (nI (crc gd n l)))]) hx hb dX9_putRem_32 hl (k := 3) rfl (iincM _) (by decide) rfl (fun ls hl => ?_)
        refine lv_goto (tgt := 17) hx hb dX9_putRem_35 (by decide) ?_
        exact ih17 (k + 1) (nI (n - 1 - k) - 1) (by omega) (by omega) (by rw [show n - 1 - k = n - (k + 1) by omega]) _ _ _ ho (lv_sub hl [1, 2, 3, 0] rfl)
  exact LP17 (n - 0 + 1) 0 (nI (n - 1)) (Nat.lt_succ_self _) (by omega) (dec_1 qn).symm _ _ _ ho (lv_sub hl [2, 6, 1, 0] rfl)

set_option maxHeartbeats 4000000 in
set_option maxRecDepth 100000 in
theorem c_M_remStands (la : Launch) (D : va_G) (K : Nat → ClassId) (h : Nat) (ar : Nat → Nat) (ad : Nat) (ck : Nat) (bi : Nat) (lo : Nat) (F : Nat → Nat → Int32) (fr : Nat) (en : Nat) (gd : Nat) (n : Nat) (l : List Bool) (l2 : List Bool) (qr : ∀ i, i < l.length → F 2 (fr + i) = bI (l.getD i false)) (qe : en = fr + l.length) (qe2 : en ≤ 400) (qe3 : 1 ≤ en) (qn : 1 ≤ n) (qn2 : n ≤ 16) (qg : gd < 2 ^ (n + 1)) (qt : gd.testBit n = true) (qp : pw gd n n = gd ^^^ 2 ^ n) (q2 : ∀ i, i < n → F 2 (en + i) = bI (l2.getD i false)) (q2l : l2.length = n) (ql : en + n ≤ 400) : MT la D K yX9_remStands cX9_remStands 7 (some .boolean) (rmL 3 0 0) [.ref h, .int (nI fr), .int (nI en), .int (nI gd), .int (nI n)] [bX K h ar ad ck bi lo F] Unit (fun v _ => v = some (.int (bI (decide (l2 = rb (crc gd n l) n))))) (fun _ => [bX K h ar ad ck bi lo F]) := by
  refine Mt.ofW [(0, .ref h), (1, .int (nI fr)), (2, .int (nI en)), (3, .int (nI gd)), (4, .int (nI n))] (by decide) rfl (Nat.le_of_ble_eq_true rfl) ?_
  intro p e s m args below meth c A ls H locs Qz hQ C hin hl ho
  have hx := C.1.1
  have hb := C.1.2.1
  refine lv_aload_n hx hb dX9_remStands_0 rfl (lv_at hl 0 rfl) ?_
  refine lv_iload_n hx hb dX9_remStands_1 rfl (lv_at hl 1 rfl) ?_
  refine lv_iload_n hx hb dX9_remStands_2 rfl (lv_at hl 2 rfl) ?_
  refine lv_iload_n hx hb dX9_remStands_3 rfl (lv_at hl 3 rfl) ?_
  refine lv_iload hx hb dX9_remStands_4 (lv_at hl 4 rfl) ?_
  refine o_callV (wr := []) (rest := []) (As := [.int (nI fr), .int (nI en), .int (nI gd), .int (nI n)]) C (c_M_rem la D K h ar ad ck bi lo F fr en gd n l qr qe qe2 qe3 qn qn2 qg qt qp) kX9_110 vX9_rem (by decide) rfl ho [0] 1 (by decide +kernel) rfl rfl rfl rfl rfl hl.1 rfl (Nat.le_of_ble_eq_true rfl) dX9_remStands_6 0 0 rfl rfl (by decide) (fun v u_1 H locs hq ho => ?_)
  obtain rfl := hq
  have ho : ow D vwCl A s.heap H locs [bX K h ar ad ck bi lo F] := ho
  refine W.eq (g2 := F0 m 9 ls [.int (nI (crc gd n l))]) rfl ?_
  refine lv_istore (lv' := [(5, .int (nI (crc gd n l))), (0, .ref h), (1, .int (nI fr)), (2, .int (nI en)), (3, .int (nI gd)), (4, .int (nI n))]) hx hb dX9_remStands_9 hl (by decide) rfl (fun ls hl => ?_)
  refine lv_iconst (v := nI 0) hx hb dX9_remStands_11 (by decide) ?_
  refine lv_istore (lv' := [(6, .int (nI 0)), (5, .int (nI (crc gd n l))), (0, .ref h), (1, .int (nI fr)), (2, .int (nI en)), (3, .int (nI gd)), (4, .int (nI n))]) hx hb dX9_remStands_12 hl (by decide) rfl (fun ls hl => ?_)
  have hcr := cr0_lt qn2 (crc_lt qg qt l)
  have LP14 : ∀ (fuel : Nat) (i : Nat) (_ : n - i < fuel) (_ : i ≤ n) (_ : ∀ j, j < i → l2.getD j false = (crc gd n l).testBit (n - 1 - j)) (H : Heap) (locs : List Loc) (ls : Array Slot) (_ : ow D vwCl A s.heap H locs [bX K h ar ad ck bi lo F]) (_ : lv_has ls 7 [(0, .ref h), (2, .int (nI en)), (4, .int (nI n)), (5, .int (nI (crc gd n l))), (6, .int (nI i))]), W p la e (rmL 3 0 0) s m args below meth c H locs 0 0 Qz (F0 m 14 ls []) := by
    intro fuel
    induction fuel with
    | zero => intro i h0; exact absurd h0 (Nat.not_lt_zero _)
    | succ fuel ih14 =>
      intro i hfu hi heq H locs ls ho hl
      refine lv_iload hx hb dX9_remStands_14 (lv_at hl 4 rfl) ?_
      refine lv_iload hx hb dX9_remStands_16 (lv_at hl 2 rfl) ?_
      refine o_icmp_ge (tgt := 53) hx hb dX9_remStands_18 (by decide) (by first | omega | exact and1_lt _) (by first | omega | exact and1_lt _) (fun c_2 => ?_) (fun c_2 => ?_)
      · skip
        refine lv_iconst (v := nI 1) hx hb dX9_remStands_53 (by decide) ?_
        exact o_iret hQ C rfl ho () (by rw [decide_eq_true (rs_y q2l (fun j hj => heq j (by omega)))]; rfl) rfl (Nat.le_of_ble_eq_true rfl) (Nat.le_of_ble_eq_true rfl) dX9_remStands_54
      · skip
        refine lv_aload_n hx hb dX9_remStands_21 rfl (lv_at hl 0 rfl) ?_
        refine o_get (v := .ref (ar 2)) C ho 0 0 rfl rfl rfl 6 fX9_16 rfl dX9_remStands_22 ?_
        refine lv_iload_n hx hb dX9_remStands_25 rfl (lv_at hl 1 rfl) ?_
        refine lv_iload hx hb dX9_remStands_26 (lv_at hl 4 rfl) ?_
        refine o_add hx hb dX9_remStands_28 ?_
        refine o_iald (v := F 2 (en + i)) C ho 0 3 rfl rfl 0 rfl (en + i) rfl (by omega) (by omega) rfl dX9_remStands_29 ?_
        refine o_top (y := bI (l2.getD i false)) (q2 _ (by omega)) ?_
        refine lv_iload hx hb dX9_remStands_30 (lv_at hl 3 rfl) ?_
        refine lv_iload hx hb dX9_remStands_32 (lv_at hl 2 rfl) ?_
        refine lv_iconst (v := nI 1) hx hb dX9_remStands_34 (by decide) ?_
        refine o_sub hx hb dX9_remStands_35 (by omega) ?_
        refine lv_iload hx hb dX9_remStands_36 (lv_at hl 4 rfl) ?_
        refine o_sub hx hb dX9_remStands_38 (by omega) ?_
        refine o_shr hx hb dX9_remStands_39 (by omega) hcr ?_
        refine lv_iconst (v := nI 1) hx hb dX9_remStands_40 (by decide) ?_
        refine o_and hx hb dX9_remStands_41 ?_
        refine o_top (y := bI ((crc gd n l).testBit (n - 1 - i))) (by rw [bit_N, bit_shr]) ?_
        refine o_icmpb_eq (tgt := 47) hx hb dX9_remStands_42 (by decide) (fun c_3 => ?_) (fun c_3 => ?_)
        · skip
          have c_47 := c_3
          refine lv_iinc (v := nI (i + 1)) (lv' := [(6, .int (nI (i + 1))), (0, .ref h), (2, .int (nI en)), (4, .int (nI n)), (5, .int (nI (crc gd n l)))]) hx hb dX9_remStands_47 hl (k := 4) rfl (iincN _ _) (by decide) rfl (fun ls hl => ?_)
          refine lv_goto (tgt := 14) hx hb dX9_remStands_50 (by decide) ?_
          exact ih14 (i + 1) (by omega) (by omega) (lt_s heq c_47) _ _ _ ho (lv_sub hl [1, 2, 3, 4, 0] rfl)
        · skip
          refine lv_iconst (v := nI 0) hx hb dX9_remStands_45 (by decide) ?_
          exact o_iret hQ C rfl ho () (by rw [decide_eq_false (rs_n c_2 c_3)]; rfl) rfl (Nat.le_of_ble_eq_true rfl) (Nat.le_of_ble_eq_true rfl) dX9_remStands_46
  exact LP14 (n - 0 + 1) 0 (Nat.lt_succ_self _) (by omega) lt_0 _ _ _ ho (lv_sub hl [2, 4, 6, 1, 0] rfl)

set_option maxHeartbeats 4000000 in
set_option maxRecDepth 100000 in
theorem c_M_number (la : Launch) (D : va_G) (K : Nat → ClassId) (h : Nat) (ar : Nat → Nat) (ad : Nat) (ck : Nat) (bi : Nat) (lo : Nat) (F : Nat → Nat → Int32) (fr : Nat) (n : Nat) (l : List Bool) (st : Nat) (qr : ∀ i, i < n → F 2 (fr + i) = bI (l.getD (st + i) false)) (qf : fr + n ≤ 400) (qn : n ≤ 30) : MT la D K yX9_number cX9_number 5 (some .int) (rmL 1 0 0) [.ref h, .int (nI fr), .int (nI n)] [bX K h ar ad ck bi lo F] Unit (fun v _ => v = some (.int (nI (toN l st n)))) (fun _ => [bX K h ar ad ck bi lo F]) := by
  refine Mt.ofW [(0, .ref h), (1, .int (nI fr)), (2, .int (nI n))] (by decide) rfl (Nat.le_of_ble_eq_true rfl) ?_
  intro p e s m args below meth c A ls H locs Qz hQ C hin hl ho
  have hx := C.1.1
  have hb := C.1.2.1
  refine lv_iconst (v := nI 0) hx hb dX9_number_0 (by decide) ?_
  refine lv_istore_n (lv' := [(3, .int (nI 0)), (0, .ref h), (1, .int (nI fr)), (2, .int (nI n))]) hx hb dX9_number_1 rfl hl (by decide) rfl (fun ls hl => ?_)
  refine lv_iconst (v := nI 0) hx hb dX9_number_2 (by decide) ?_
  refine lv_istore (lv' := [(4, .int (nI 0)), (3, .int (nI 0)), (0, .ref h), (1, .int (nI fr)), (2, .int (nI n))]) hx hb dX9_number_3 hl (by decide) rfl (fun ls hl => ?_)
  have e_1 : (.int (nI 0) : Value) = .int (nI (toN l st 0)) := rfl
  have hl : lv_has ls 5 [(4, .int (nI 0)), (3, .int (nI (toN l st 0))), (0, .ref h), (1, .int (nI fr)), (2, .int (nI n))] := by rw [← e_1]; exact hl
  have LP5 : ∀ (fuel : Nat) (i : Nat) (_ : n - i < fuel) (_ : i ≤ n) (H : Heap) (locs : List Loc) (ls : Array Slot) (_ : ow D vwCl A s.heap H locs [bX K h ar ad ck bi lo F]) (_ : lv_has ls 5 [(0, .ref h), (1, .int (nI fr)), (2, .int (nI n)), (3, .int (nI (toN l st i))), (4, .int (nI i))]), W p la e (rmL 1 0 0) s m args below meth c H locs 0 0 Qz (F0 m 5 ls []) := by
    intro fuel
    induction fuel with
    | zero => intro i h0; exact absurd h0 (Nat.not_lt_zero _)
    | succ fuel ih5 =>
      intro i hfu hi H locs ls ho hl
      refine lv_iload hx hb dX9_number_5 (lv_at hl 4 rfl) ?_
      refine lv_iload_n hx hb dX9_number_7 rfl (lv_at hl 2 rfl) ?_
      refine o_icmp_ge (tgt := 32) hx hb dX9_number_8 (by decide) (by first | omega | exact and1_lt _) (by first | omega | exact and1_lt _) (fun c_2 => ?_) (fun c_2 => ?_)
      · skip
        refine lv_iload_n hx hb dX9_number_32 rfl (lv_at hl 3 rfl) ?_
        exact o_iret hQ C rfl ho () (by rw [show i = n by omega]) rfl (Nat.le_of_ble_eq_true rfl) (Nat.le_of_ble_eq_true rfl) dX9_number_33
      · skip
        refine lv_iload_n hx hb dX9_number_11 rfl (lv_at hl 3 rfl) ?_
        refine lv_aload_n hx hb dX9_number_12 rfl (lv_at hl 0 rfl) ?_
        refine o_get (v := .ref (ar 2)) C ho 0 0 rfl rfl rfl 6 fX9_16 rfl dX9_number_13 ?_
        refine lv_iload_n hx hb dX9_number_16 rfl (lv_at hl 1 rfl) ?_
        refine lv_iload hx hb dX9_number_17 (lv_at hl 4 rfl) ?_
        refine o_add hx hb dX9_number_19 ?_
        refine o_iald (v := F 2 (fr + i)) C ho 0 3 rfl rfl 0 rfl (fr + i) rfl (by omega) (by omega) rfl dX9_number_20 ?_
        refine o_top (y := nI ((l.getD (st + i) false).toNat)) (by rw [qr i (by omega), bI_N]) ?_
        refine lv_iload hx hb dX9_number_21 (lv_at hl 4 rfl) ?_
        refine o_shl hx hb dX9_number_23 (by omega) (bsl_lt _ (by omega)) ?_
        refine o_or hx hb dX9_number_24 ?_
        refine o_top (y := nI (toN l st (i + 1))) (congrArg nI (toN_or l st i)) ?_
        refine lv_istore_n (lv' := [(3, .int (nI (toN l st (i + 1)))), (0, .ref h), (1, .int (nI fr)), (2, .int (nI n)), (4, .int (nI i))]) hx hb dX9_number_25 rfl hl (by decide) rfl (fun ls hl => ?_)
        refine lv_iinc (v := nI (i + 1)) (lv' := [(4, .int (nI (i + 1))), (3, .int (nI (toN l st (i + 1)))), (0, .ref h), (1, .int (nI fr)), (2, .int (nI n))]) hx hb dX9_number_26 hl (k := 4) rfl (iincN _ _) (by decide) rfl (fun ls hl => ?_)
        refine lv_goto (tgt := 5) hx hb dX9_number_29 (by decide) ?_
        exact ih5 (i + 1) (by omega) (by omega) _ _ _ ho (lv_sub hl [2, 3, 4, 1, 0] rfl)
  exact LP5 (n - 0 + 1) 0 (Nat.lt_succ_self _) (by omega) _ _ _ ho (lv_sub hl [2, 3, 4, 1, 0] rfl)

set_option maxHeartbeats 4000000 in
set_option maxRecDepth 100000 in
theorem c_M_push (la : Launch) (D : va_G) (K : Nat → ClassId) (h : Nat) (ar : Nat → Nat) (ad : Nat) (ck : Nat) (bi : Nat) (lo : Nat) (F : Nat → Nat → Int32) (x : Bool) (qb : bi < 256) : MT la D K yX9_push cX9_push 2 none (rmL 1 0 0) [.ref h, .int (bI x)] [bX K h ar ad ck bi lo F] Unit (fun v _ => v = none) (fun _ => [bX K h ar ad ck (bi + 1) lo (va_up F 0 (upd (F 0) bi (bI x)))]) := by
  refine Mt.ofW [(0, .ref h), (1, .int (bI x))] (by decide) rfl (Nat.le_of_ble_eq_true rfl) ?_
  intro p e s m args below meth c A ls H locs Qz hQ C hin hl ho
  have hx := C.1.1
  have hb := C.1.2.1
  refine lv_aload_n hx hb dX9_push_0 rfl (lv_at hl 0 rfl) ?_
  refine o_get (v := .ref (ar 0)) C ho 0 0 rfl rfl rfl 3 fX9_7 rfl dX9_push_1 ?_
  refine lv_aload_n hx hb dX9_push_4 rfl (lv_at hl 0 rfl) ?_
  refine o_get (v := .int (nI bi)) C ho 0 0 rfl rfl rfl 2 fX9_122 rfl dX9_push_5 ?_
  refine lv_iload_n hx hb dX9_push_8 rfl (lv_at hl 1 rfl) ?_
  refine o_iast (bs' := [bX K h ar ad ck bi lo (va_up F 0 (upd (F 0) bi (bI x)))]) C ho 0 1 rfl rfl 0 rfl bi rfl (by omega) (by decide) dX9_push_9 rfl (fun H locs ho => ?_)
  refine lv_aload_n hx hb dX9_push_10 rfl (lv_at hl 0 rfl) ?_
  refine lv_dup hx hb dX9_push_11 rfl ?_
  refine o_get (v := .int (nI bi)) C ho 0 0 rfl rfl rfl 2 fX9_122 rfl dX9_push_12 ?_
  refine lv_iconst (v := nI 1) hx hb dX9_push_15 (by decide) ?_
  refine o_add hx hb dX9_push_16 ?_
  refine o_put (v := .int (nI (bi + 1))) (bs' := [bX K h ar ad ck (bi + 1) lo (va_up F 0 (upd (F 0) bi (bI x)))]) C ho 0 0 rfl rfl rfl 2 fX9_122 pX9_2 rfl rfl (Nat.le_of_ble_eq_true rfl) dX9_push_17 rfl (fun H locs ho => ?_)
  exact o_vret hQ C ho () rfl rfl (Nat.le_of_ble_eq_true rfl) (Nat.le_of_ble_eq_true rfl) dX9_push_20
