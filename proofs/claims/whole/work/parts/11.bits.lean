set_option maxHeartbeats 4000000 in
set_option maxRecDepth 100000 in
theorem c_Bits_clear (la : Launch) (D : va_G) (K : Nat → ClassId) (h : Nat) (a : Nat) (R : Nat) (l : List Bool) (g : Nat → Int32) (qL : l.length ≤ R) (qR : R ≤ 1000) : MT la D K yX0_clear cX0_clear 1 none (rmL 1 0 0) [.ref h] [bB K h a R l g] (Nat → Int32) (fun v _ => v = none) (fun u => [bB K h a R [] u]) := by
  refine Mt.ofW [(0, .ref h)] (by decide) rfl (Nat.le_of_ble_eq_true rfl) ?_
  intro p e s m args below meth c A ls H locs Qz hQ C hin hl ho
  have hx := C.1.1
  have hb := C.1.2.1
  have ho : ow D vwCl A s.heap H locs [b0 K h a R (mrg bI l g) l.length] := ho
  refine lv_aload_n hx hb dX0_clear_0 rfl (lv_at hl 0 rfl) ?_
  refine lv_iconst (v := nI 0) hx hb dX0_clear_1 (by decide) ?_
  refine o_put (v := .int (nI 0)) (bs' := [b0 K h a R (mrg bI l g) 0]) C ho 0 0 rfl rfl rfl 1 fX0_13 pX0_1 rfl rfl (Nat.le_of_ble_eq_true rfl) dX0_clear_2 rfl (fun H locs ho => ?_)
  exact o_vret hQ C ho (mrg bI l g) rfl (by rw [bB_nil]) (Nat.le_of_ble_eq_true rfl) (Nat.le_of_ble_eq_true rfl) dX0_clear_5

set_option maxHeartbeats 4000000 in
set_option maxRecDepth 100000 in
theorem c_Bits_has (la : Launch) (D : va_G) (K : Nat → ClassId) (h : Nat) (a : Nat) (R : Nat) (l : List Bool) (g : Nat → Int32) (i : Int32) (qL : l.length ≤ R) (qR : R ≤ 1000) : MT la D K yX0_has cX0_has 2 (some .boolean) (rmL 1 0 0) [.ref h, .int i] [bB K h a R l g] Unit (fun v _ => v = some (.int (bI (hasI l.length i)))) (fun _ => [bB K h a R l g]) := by
  refine Mt.ofW [(0, .ref h), (1, .int i)] (by decide) rfl (Nat.le_of_ble_eq_true rfl) ?_
  intro p e s m args below meth c A ls H locs Qz hQ C hin hl ho
  have hx := C.1.1
  have hb := C.1.2.1
  refine lv_iload_n hx hb dX0_has_0 rfl (lv_at hl 1 rfl) ?_
  refine lv_if_lt (tgt := 16) hx hb dX0_has_1 (by decide) (fun c_1 => ?_) (fun c_1 => ?_)
  · skip
    refine lv_iconst (v := nI 0) hx hb dX0_has_16 (by decide) ?_
    exact o_iret hQ C rfl ho () (by rw [hasI_neg c_1]; rfl) rfl (Nat.le_of_ble_eq_true rfl) (Nat.le_of_ble_eq_true rfl) dX0_has_17
  · skip
    refine lv_iload_n hx hb dX0_has_4 rfl (lv_at hl 1 rfl) ?_
    refine lv_aload_n hx hb dX0_has_5 rfl (lv_at hl 0 rfl) ?_
    refine o_get (v := .int (nI l.length)) C ho 0 0 rfl rfl rfl 1 fX0_13 rfl dX0_has_6 ?_
    refine lv_icmp_ge (tgt := 16) hx hb dX0_has_9 (by decide) (fun c_2 => ?_) (fun c_2 => ?_)
    · skip
      refine lv_iconst (v := nI 0) hx hb dX0_has_16 (by decide) ?_
      exact o_iret hQ C rfl ho () (by rw [hasI_ge c_1 c_2]; rfl) rfl (Nat.le_of_ble_eq_true rfl) (Nat.le_of_ble_eq_true rfl) dX0_has_17
    · skip
      refine lv_iconst (v := nI 1) hx hb dX0_has_12 (by decide) ?_
      refine lv_goto (tgt := 17) hx hb dX0_has_13 (by decide) ?_
      exact o_iret hQ C rfl ho () (by rw [hasI_in c_1 c_2]; rfl) rfl (Nat.le_of_ble_eq_true rfl) (Nat.le_of_ble_eq_true rfl) dX0_has_17

set_option maxHeartbeats 4000000 in
set_option maxRecDepth 100000 in
theorem c_Bits_at (la : Launch) (D : va_G) (K : Nat → ClassId) (h : Nat) (a : Nat) (R : Nat) (l : List Bool) (g : Nat → Int32) (j : Nat) (qL : l.length ≤ R) (qR : R ≤ 1000) (qj : j < 2 ^ 31) : MT la D K yX0_at cX0_at 2 (some .int) (rmL 1 0 0) [.ref h, .int (nI j)] [bB K h a R l g] Unit (fun v _ => v = some (.int (bI (l.getD j false)))) (fun _ => [bB K h a R l g]) := by
  refine Mt.ofW [(0, .ref h), (1, .int (nI j))] (by decide) rfl (Nat.le_of_ble_eq_true rfl) ?_
  intro p e s m args below meth c A ls H locs Qz hQ C hin hl ho
  have hx := C.1.1
  have hb := C.1.2.1
  refine lv_iload_n hx hb dX0_at_0 rfl (lv_at hl 1 rfl) ?_
  refine o_if_lt (tgt := 21) hx hb dX0_at_1 (by decide) (by omega) ?_
  refine lv_iload_n hx hb dX0_at_4 rfl (lv_at hl 1 rfl) ?_
  refine lv_aload_n hx hb dX0_at_5 rfl (lv_at hl 0 rfl) ?_
  refine o_get (v := .int (nI l.length)) C ho 0 0 rfl rfl rfl 1 fX0_13 rfl dX0_at_6 ?_
  refine o_icmp_ge (tgt := 21) hx hb dX0_at_9 (by decide) (by first | omega | exact and1_lt _) (by first | omega | exact and1_lt _) (fun c_1 => ?_) (fun c_1 => ?_)
  · skip
    refine lv_iconst (v := nI 0) hx hb dX0_at_21 (by decide) ?_
    exact o_iret hQ C rfl ho () (by rw [getD_out c_1]; rfl) rfl (Nat.le_of_ble_eq_true rfl) (Nat.le_of_ble_eq_true rfl) dX0_at_22
  · skip
    refine lv_aload_n hx hb dX0_at_12 rfl (lv_at hl 0 rfl) ?_
    refine o_get (v := .ref a) C ho 0 0 rfl rfl rfl 0 fX0_7 rfl dX0_at_13 ?_
    refine lv_iload_n hx hb dX0_at_16 rfl (lv_at hl 1 rfl) ?_
    refine o_iald (v := mrg bI l g j) C ho 0 1 rfl rfl 0 rfl j rfl (by omega) (by omega) rfl dX0_at_17 ?_
    refine lv_goto (tgt := 22) hx hb dX0_at_18 (by decide) ?_
    exact o_iret hQ C rfl ho () (by rw [mrg_getD false c_1]) rfl (Nat.le_of_ble_eq_true rfl) (Nat.le_of_ble_eq_true rfl) dX0_at_22

set_option maxHeartbeats 4000000 in
set_option maxRecDepth 100000 in
theorem c_Bits_turnOver (la : Launch) (D : va_G) (K : Nat → ClassId) (h : Nat) (a : Nat) (R : Nat) (l : List Bool) (g : Nat → Int32) (j : Nat) (qL : l.length ≤ R) (qR : R ≤ 1000) (qj : j < 2 ^ 31) : MT la D K yX0_turnOver cX0_turnOver 2 none (rmL 2 0 0) [.ref h, .int (nI j)] [bB K h a R l g] Unit (fun v _ => v = none) (fun _ => [bB K h a R (l.modify j (fun b => !b)) g]) := by
  refine Mt.ofW [(0, .ref h), (1, .int (nI j))] (by decide) rfl (Nat.le_of_ble_eq_true rfl) ?_
  intro p e s m args below meth c A ls H locs Qz hQ C hin hl ho
  have hx := C.1.1
  have hb := C.1.2.1
  refine lv_aload_n hx hb dX0_turnOver_0 rfl (lv_at hl 0 rfl) ?_
  refine lv_iload_n hx hb dX0_turnOver_1 rfl (lv_at hl 1 rfl) ?_
  refine o_callV (wr := []) (rest := []) (As := [.int (nI j)]) C (c_Bits_has la D K h a R l g (nI j) (by first | omega | assumption | (simp only [List.length_append, List.length_cons, List.length_nil, List.length_modify, List.length_set, nb_len, rb_len, rbp_len, sl_len, slN_len, wh_len]; omega) | decide) (by first | omega | assumption | (simp only [List.length_append, List.length_cons, List.length_nil, List.length_modify, List.length_set, nb_len, rb_len, rbp_len, sl_len, slN_len, wh_len]; omega) | decide)) kX0_17 vX0_has (by decide) rfl ho [0] 1 (by decide +kernel) rfl rfl rfl rfl rfl hl.1 rfl (Nat.le_of_ble_eq_true rfl) dX0_turnOver_2 0 0 rfl rfl (by decide) (fun v u_1 H locs hq ho => ?_)
  obtain rfl := hq
  have ho : ow D vwCl A s.heap H locs [bB K h a R l g] := ho
  refine W.eq (g2 := F0 m 5 ls [.int (bI (hasI l.length (nI j)))]) rfl ?_
  refine o_ifb_eq (tgt := 18) hx hb dX0_turnOver_5 (by decide) (fun c_2 => ?_) (fun c_2 => ?_)
  · skip
    have c_2 : ¬ j < l.length := fun q => by rw [hasI_N qj (by omega)] at c_2; simp [q] at c_2
    exact o_vret hQ C ho () rfl (by rw [modify_out c_2]) (Nat.le_of_ble_eq_true rfl) (Nat.le_of_ble_eq_true rfl) dX0_turnOver_18
  · skip
    have c_2 : j < l.length := by rw [hasI_N qj (by omega)] at c_2; simpa using c_2
    have ho : ow D vwCl A s.heap H locs [b0 K h a R (mrg bI l g) l.length] := ho
    refine lv_aload_n hx hb dX0_turnOver_8 rfl (lv_at hl 0 rfl) ?_
    refine o_get (v := .ref a) C ho 0 0 rfl rfl rfl 0 fX0_7 rfl dX0_turnOver_9 ?_
    refine lv_iload_n hx hb dX0_turnOver_12 rfl (lv_at hl 1 rfl) ?_
    refine lv_dup2_11 hx hb dX0_turnOver_13 rfl rfl ?_
    refine o_iald (v := mrg bI l g j) C ho 0 1 rfl rfl 0 rfl j rfl (by omega) (by omega) rfl dX0_turnOver_14 ?_
    refine o_top (y := bI (l.getD j false)) (mrg_getD false c_2) ?_
    refine lv_iconst (v := nI 1) hx hb dX0_turnOver_15 (by decide) ?_
    refine lv_ixor hx hb dX0_turnOver_16 ?_
    refine o_top (y := bI (!l.getD j false)) (bI_not _) ?_
    refine o_iast (bs' := [b0 K h a R (upd (mrg bI l g) j (bI (!l.getD j false))) l.length]) C ho 0 1 rfl rfl 0 rfl j rfl (by omega) (by omega) dX0_turnOver_17 rfl (fun H locs ho => ?_)
    exact o_vret hQ C ho () rfl (by rw [bB_flip c_2]) (Nat.le_of_ble_eq_true rfl) (Nat.le_of_ble_eq_true rfl) dX0_turnOver_18

set_option maxHeartbeats 4000000 in
set_option maxRecDepth 100000 in
theorem c_Bits_add (la : Launch) (D : va_G) (K : Nat → ClassId) (h : Nat) (a : Nat) (R : Nat) (l : List Bool) (g : Nat → Int32) (x : Bool) (qL : l.length < R) (qR : R ≤ 1000) : MT la D K yX0_add cX0_add 2 none (rmL 1 0 0) [.ref h, .int (bI x)] [bB K h a R l g] Unit (fun v _ => v = none) (fun _ => [bB K h a R (l ++ [x]) g]) := by
  refine Mt.ofW [(0, .ref h), (1, .int (bI x))] (by decide) rfl (Nat.le_of_ble_eq_true rfl) ?_
  intro p e s m args below meth c A ls H locs Qz hQ C hin hl ho
  have hx := C.1.1
  have hb := C.1.2.1
  have ho : ow D vwCl A s.heap H locs [b0 K h a R (mrg bI l g) l.length] := ho
  refine lv_aload_n hx hb dX0_add_0 rfl (lv_at hl 0 rfl) ?_
  refine o_get (v := .int (nI l.length)) C ho 0 0 rfl rfl rfl 1 fX0_13 rfl dX0_add_1 ?_
  refine lv_aload_n hx hb dX0_add_4 rfl (lv_at hl 0 rfl) ?_
  refine o_get (v := .ref a) C ho 0 0 rfl rfl rfl 0 fX0_7 rfl dX0_add_5 ?_
  refine o_alen (v := nI R) C ho 0 1 rfl rfl 0 rfl rfl dX0_add_8 ?_
  refine o_icmp_ge (tgt := 34) hx hb dX0_add_9 (by decide) (by first | omega | exact and1_lt _) (by first | omega | exact and1_lt _) (fun c_1 => ?_) (fun c_1 => ?_)
  · skip
    exact absurd c_1 (by omega)
  · skip
    refine lv_aload_n hx hb dX0_add_12 rfl (lv_at hl 0 rfl) ?_
    refine o_get (v := .ref a) C ho 0 0 rfl rfl rfl 0 fX0_7 rfl dX0_add_13 ?_
    refine lv_aload_n hx hb dX0_add_16 rfl (lv_at hl 0 rfl) ?_
    refine o_get (v := .int (nI l.length)) C ho 0 0 rfl rfl rfl 1 fX0_13 rfl dX0_add_17 ?_
    refine lv_iload_n hx hb dX0_add_20 rfl (lv_at hl 1 rfl) ?_
    refine lv_iconst (v := nI 1) hx hb dX0_add_21 (by decide) ?_
    refine lv_iand hx hb dX0_add_22 ?_
    refine o_iast (bs' := [b0 K h a R (upd (mrg bI l g) l.length ((bI x) &&& (nI 1))) l.length]) C ho 0 1 rfl rfl 0 rfl l.length rfl (by omega) (by omega) dX0_add_23 rfl (fun H locs ho => ?_)
    refine lv_aload_n hx hb dX0_add_24 rfl (lv_at hl 0 rfl) ?_
    refine lv_dup hx hb dX0_add_25 rfl ?_
    refine o_get (v := .int (nI l.length)) C ho 0 0 rfl rfl rfl 1 fX0_13 rfl dX0_add_26 ?_
    refine lv_iconst (v := nI 1) hx hb dX0_add_29 (by decide) ?_
    refine o_add hx hb dX0_add_30 ?_
    refine o_put (v := .int (nI (l.length + 1))) (bs' := [b0 K h a R (upd (mrg bI l g) l.length ((bI x) &&& (nI 1))) (l.length + 1)]) C ho 0 0 rfl rfl rfl 1 fX0_13 pX0_1 rfl rfl (Nat.le_of_ble_eq_true rfl) dX0_add_31 rfl (fun H locs ho => ?_)
    exact o_vret hQ C ho () rfl (by rw [bit_B, bB_push]) (Nat.le_of_ble_eq_true rfl) (Nat.le_of_ble_eq_true rfl) dX0_add_34

set_option maxHeartbeats 4000000 in
set_option maxRecDepth 100000 in
theorem c_Bits_addN (la : Launch) (D : va_G) (K : Nat → ClassId) (h : Nat) (a : Nat) (R : Nat) (l : List Bool) (g : Nat → Int32) (x : Nat) (qL : l.length < R) (qR : R ≤ 1000) : MT la D K yX0_add cX0_add 2 none (rmL 1 0 0) [.ref h, .int (nI x)] [bB K h a R l g] Unit (fun v _ => v = none) (fun _ => [bB K h a R (l ++ [x.testBit 0]) g]) := by
  refine Mt.ofW [(0, .ref h), (1, .int (nI x))] (by decide) rfl (Nat.le_of_ble_eq_true rfl) ?_
  intro p e s m args below meth c A ls H locs Qz hQ C hin hl ho
  have hx := C.1.1
  have hb := C.1.2.1
  have ho : ow D vwCl A s.heap H locs [b0 K h a R (mrg bI l g) l.length] := ho
  refine lv_aload_n hx hb dX0_add_0 rfl (lv_at hl 0 rfl) ?_
  refine o_get (v := .int (nI l.length)) C ho 0 0 rfl rfl rfl 1 fX0_13 rfl dX0_add_1 ?_
  refine lv_aload_n hx hb dX0_add_4 rfl (lv_at hl 0 rfl) ?_
  refine o_get (v := .ref a) C ho 0 0 rfl rfl rfl 0 fX0_7 rfl dX0_add_5 ?_
  refine o_alen (v := nI R) C ho 0 1 rfl rfl 0 rfl rfl dX0_add_8 ?_
  refine o_icmp_ge (tgt := 34) hx hb dX0_add_9 (by decide) (by first | omega | exact and1_lt _) (by first | omega | exact and1_lt _) (fun c_1 => ?_) (fun c_1 => ?_)
  · skip
    exact absurd c_1 (by omega)
  · skip
    refine lv_aload_n hx hb dX0_add_12 rfl (lv_at hl 0 rfl) ?_
    refine o_get (v := .ref a) C ho 0 0 rfl rfl rfl 0 fX0_7 rfl dX0_add_13 ?_
    refine lv_aload_n hx hb dX0_add_16 rfl (lv_at hl 0 rfl) ?_
    refine o_get (v := .int (nI l.length)) C ho 0 0 rfl rfl rfl 1 fX0_13 rfl dX0_add_17 ?_
    refine lv_iload_n hx hb dX0_add_20 rfl (lv_at hl 1 rfl) ?_
    refine lv_iconst (v := nI 1) hx hb dX0_add_21 (by decide) ?_
    refine o_and hx hb dX0_add_22 ?_
    refine o_iast (bs' := [b0 K h a R (upd (mrg bI l g) l.length (nI (x &&& 1))) l.length]) C ho 0 1 rfl rfl 0 rfl l.length rfl (by omega) (by omega) dX0_add_23 rfl (fun H locs ho => ?_)
    refine lv_aload_n hx hb dX0_add_24 rfl (lv_at hl 0 rfl) ?_
    refine lv_dup hx hb dX0_add_25 rfl ?_
    refine o_get (v := .int (nI l.length)) C ho 0 0 rfl rfl rfl 1 fX0_13 rfl dX0_add_26 ?_
    refine lv_iconst (v := nI 1) hx hb dX0_add_29 (by decide) ?_
    refine o_add hx hb dX0_add_30 ?_
    refine o_put (v := .int (nI (l.length + 1))) (bs' := [b0 K h a R (upd (mrg bI l g) l.length (nI (x &&& 1))) (l.length + 1)]) C ho 0 0 rfl rfl rfl 1 fX0_13 pX0_1 rfl rfl (Nat.le_of_ble_eq_true rfl) dX0_add_31 rfl (fun H locs ho => ?_)
    exact o_vret hQ C ho () rfl (by rw [bit_N, bB_push]) (Nat.le_of_ble_eq_true rfl) (Nat.le_of_ble_eq_true rfl) dX0_add_34

set_option maxHeartbeats 4000000 in
set_option maxRecDepth 100000 in
theorem c_Bits_addAll (la : Launch) (D : va_G) (K : Nat → ClassId) (h : Nat) (a : Nat) (R : Nat) (l : List Bool) (g : Nat → Int32) (h2 : Nat) (a2 : Nat) (R2 : Nat) (l2 : List Bool) (g2 : Nat → Int32) (st : Nat) (n : Nat) (qL : l.length + n ≤ R) (qR : R ≤ 1000) (qL2 : l2.length ≤ R2) (qR2 : R2 ≤ 1000) (qs : st ≤ 1000) : MT la D K yX0_addAll cX0_addAll 5 none (rmL 2 0 0) [.ref h, .ref h2, .int (nI st), .int (nI n)] [bB K h a R l g, bB K h2 a2 R2 l2 g2] Unit (fun v _ => v = none) (fun _ => [bB K h a R (l ++ sl l2 st n) g, bB K h2 a2 R2 l2 g2]) := by
  refine Mt.ofW [(0, .ref h), (1, .ref h2), (2, .int (nI st)), (3, .int (nI n))] (by decide) rfl (Nat.le_of_ble_eq_true rfl) ?_
  intro p e s m args below meth c A ls H locs Qz hQ C hin hl ho
  have hx := C.1.1
  have hb := C.1.2.1
  refine lv_iconst (v := nI 0) hx hb dX0_addAll_0 (by decide) ?_
  refine lv_istore (lv' := [(4, .int (nI 0)), (0, .ref h), (1, .ref h2), (2, .int (nI st)), (3, .int (nI n))]) hx hb dX0_addAll_1 hl (by decide) rfl (fun ls hl => ?_)
  have e_1 : bB K h a R l g = bB K h a R (l ++ sl l2 st 0) g := by rw [sl_0, List.append_nil]
  have ho : ow D vwCl A s.heap H locs [bB K h a R (l ++ sl l2 st 0) g, bB K h2 a2 R2 l2 g2] := by rw [← e_1]; exact ho
  have LP3 : ∀ (fuel : Nat) (i : Nat) (_ : n - i < fuel) (_ : i ≤ n) (H : Heap) (locs : List Loc) (ls : Array Slot) (_ : ow D vwCl A s.heap H locs [bB K h a R (l ++ sl l2 st i) g, bB K h2 a2 R2 l2 g2]) (_ : lv_has ls 5 [(0, .ref h), (1, .ref h2), (2, .int (nI st)), (3, .int (nI n)), (4, .int (nI i))]), W p la e (rmL 2 0 0) s m args below meth c H locs 0 0 Qz (F0 m 3 ls []) := by
    intro fuel
    induction fuel with
    | zero => intro i h0; exact absurd h0 (Nat.not_lt_zero _)
    | succ fuel ih3 =>
      intro i hfu hi H locs ls ho hl
      refine lv_iload hx hb dX0_addAll_3 (lv_at hl 4 rfl) ?_
      refine lv_iload_n hx hb dX0_addAll_5 rfl (lv_at hl 3 rfl) ?_
      refine o_icmp_ge (tgt := 27) hx hb dX0_addAll_6 (by decide) (by first | omega | exact and1_lt _) (by first | omega | exact and1_lt _) (fun c_2 => ?_) (fun c_2 => ?_)
      · skip
        exact o_vret hQ C ho () rfl (by rw [show i = n by omega]) (Nat.le_of_ble_eq_true rfl) (Nat.le_of_ble_eq_true rfl) dX0_addAll_27
      · skip
        refine lv_aload_n hx hb dX0_addAll_9 rfl (lv_at hl 0 rfl) ?_
        refine lv_aload_n hx hb dX0_addAll_10 rfl (lv_at hl 1 rfl) ?_
        refine lv_iload_n hx hb dX0_addAll_11 rfl (lv_at hl 2 rfl) ?_
        refine lv_iload hx hb dX0_addAll_12 (lv_at hl 4 rfl) ?_
        refine o_add hx hb dX0_addAll_14 ?_
        refine o_callV (wr := [bB K h a R (l ++ sl l2 st i) g]) (rest := [.ref h]) (As := [.int (nI (st + i))]) C (c_Bits_at la D K h2 a2 R2 l2 g2 (st + i) (by first | omega | assumption | (simp only [List.length_append, List.length_cons, List.length_nil, List.length_modify, List.length_set, nb_len, rb_len, rbp_len, sl_len, slN_len, wh_len]; omega) | decide) (by first | omega | assumption | (simp only [List.length_append, List.length_cons, List.length_nil, List.length_modify, List.length_set, nb_len, rb_len, rbp_len, sl_len, slN_len, wh_len]; omega) | decide) (by first | omega | assumption | (simp only [List.length_append, List.length_cons, List.length_nil, List.length_modify, List.length_set, nb_len, rb_len, rbp_len, sl_len, slN_len, wh_len]; omega) | decide)) kX0_21 vX0_at (by decide) rfl ho [1, 0] 2 (by decide +kernel) rfl rfl rfl rfl rfl hl.1 rfl (Nat.le_of_ble_eq_true rfl) dX0_addAll_15 0 0 rfl rfl (by decide) (fun v u_3 H locs hq ho => ?_)
        obtain rfl := hq
        have ho : ow D vwCl A s.heap H locs [bB K h2 a2 R2 l2 g2, bB K h a R (l ++ sl l2 st i) g] := ho
        refine W.eq (g2 := F0 m 18 ls [.int (bI (l2.getD (st + i) false)), .ref h]) rfl ?_
        refine o_callV (wr := [bB K h2 a2 R2 l2 g2]) (rest := []) (As := [.int (bI (l2.getD (st + i) false))]) C (c_Bits_add la D K h a R (l ++ sl l2 st i) g (l2.getD (st + i) false) (by first | omega | assumption | (simp only [List.length_append, List.length_cons, List.length_nil, List.length_modify, List.length_set, nb_len, rb_len, rbp_len, sl_len, slN_len, wh_len]; omega) | decide) (by first | omega | assumption | (simp only [List.length_append, List.length_cons, List.length_nil, List.length_modify, List.length_set, nb_len, rb_len, rbp_len, sl_len, slN_len, wh_len]; omega) | decide)) kX0_25 vX0_add (by decide) rfl ho [1, 0] 2 (by decide +kernel) rfl rfl rfl rfl rfl hl.1 rfl (Nat.le_of_ble_eq_true rfl) dX0_addAll_18 0 0 rfl rfl (by decide) (fun v u_4 H locs hq ho => ?_)
        obtain rfl := hq
        have ho : ow D vwCl A s.heap H locs [bB K h a R ((l ++ sl l2 st i) ++ [(l2.getD (st + i) false)]) g, bB K h2 a2 R2 l2 g2] := ho
        refine W.eq (g2 := F0 m 21 ls []) rfl ?_
        have e_5 : bB K h a R ((l ++ sl l2 st i) ++ [(l2.getD (st + i) false)]) g = bB K h a R (l ++ sl l2 st (i + 1)) g := by rw [sl_succ, List.append_assoc]
        have ho : ow D vwCl A s.heap H locs [bB K h a R (l ++ sl l2 st (i + 1)) g, bB K h2 a2 R2 l2 g2] := by rw [← e_5]; exact ho
        refine lv_iinc (v := nI (i + 1)) (lv' := [(4, .int (nI (i + 1))), (0, .ref h), (1, .ref h2), (2, .int (nI st)), (3, .int (nI n))]) hx hb dX0_addAll_21 hl (k := 4) rfl (iincN _ _) (by decide) rfl (fun ls hl => ?_)
        refine lv_goto (tgt := 3) hx hb dX0_addAll_24 (by decide) ?_
        exact ih3 (i + 1) (by omega) (by omega) _ _ _ ho (lv_sub hl [1, 2, 3, 4, 0] rfl)
  exact LP3 (n - 0 + 1) 0 (Nat.lt_succ_self _) (by omega) _ _ _ ho (lv_sub hl [1, 2, 3, 4, 0] rfl)

set_option maxHeartbeats 4000000 in
set_option maxRecDepth 100000 in
theorem c_Bits_addNumber (la : Launch) (D : va_G) (K : Nat → ClassId) (h : Nat) (a : Nat) (R : Nat) (l : List Bool) (g : Nat → Int32) (w : Nat) (n : Nat) (qL : l.length + n ≤ R) (qR : R ≤ 1000) (qw : w < 2 ^ 31) (qn : n ≤ 31) : MT la D K yX0_addNumber cX0_addNumber 4 none (rmL 2 0 0) [.ref h, .int (nI w), .int (nI n)] [bB K h a R l g] Unit (fun v _ => v = none) (fun _ => [bB K h a R (l ++ nb w n) g]) := by
  refine Mt.ofW [(0, .ref h), (1, .int (nI w)), (2, .int (nI n))] (by decide) rfl (Nat.le_of_ble_eq_true rfl) ?_
  intro p e s m args below meth c A ls H locs Qz hQ C hin hl ho
  have hx := C.1.1
  have hb := C.1.2.1
  refine lv_iconst (v := nI 0) hx hb dX0_addNumber_0 (by decide) ?_
  refine lv_istore_n (lv' := [(3, .int (nI 0)), (0, .ref h), (1, .int (nI w)), (2, .int (nI n))]) hx hb dX0_addNumber_1 rfl hl (by decide) rfl (fun ls hl => ?_)
  have e_1 : bB K h a R l g = bB K h a R (l ++ nb w 0) g := by rw [show nb w 0 = [] from rfl, List.append_nil]
  have ho : ow D vwCl A s.heap H locs [bB K h a R (l ++ nb w 0) g] := by rw [← e_1]; exact ho
  have LP2 : ∀ (fuel : Nat) (i : Nat) (_ : n - i < fuel) (_ : i ≤ n) (H : Heap) (locs : List Loc) (ls : Array Slot) (_ : ow D vwCl A s.heap H locs [bB K h a R (l ++ nb w i) g]) (_ : lv_has ls 4 [(0, .ref h), (1, .int (nI w)), (2, .int (nI n)), (3, .int (nI i))]), W p la e (rmL 2 0 0) s m args below meth c H locs 0 0 Qz (F0 m 2 ls []) := by
    intro fuel
    induction fuel with
    | zero => intro i h0; exact absurd h0 (Nat.not_lt_zero _)
    | succ fuel ih2 =>
      intro i hfu hi H locs ls ho hl
      refine lv_iload_n hx hb dX0_addNumber_2 rfl (lv_at hl 3 rfl) ?_
      refine lv_iload_n hx hb dX0_addNumber_3 rfl (lv_at hl 2 rfl) ?_
      refine o_icmp_ge (tgt := 20) hx hb dX0_addNumber_4 (by decide) (by first | omega | exact and1_lt _) (by first | omega | exact and1_lt _) (fun c_2 => ?_) (fun c_2 => ?_)
      · skip
        exact o_vret hQ C ho () rfl (by rw [show i = n by omega]) (Nat.le_of_ble_eq_true rfl) (Nat.le_of_ble_eq_true rfl) dX0_addNumber_20
      · skip
        refine lv_aload_n hx hb dX0_addNumber_7 rfl (lv_at hl 0 rfl) ?_
        refine lv_iload_n hx hb dX0_addNumber_8 rfl (lv_at hl 1 rfl) ?_
        refine lv_iload_n hx hb dX0_addNumber_9 rfl (lv_at hl 3 rfl) ?_
        refine o_shr hx hb dX0_addNumber_10 (by omega) (by omega) ?_
        refine o_callV (wr := []) (rest := []) (As := [.int (nI (w / 2 ^ i))]) C (c_Bits_addN la D K h a R (l ++ nb w i) g (w / 2 ^ i) (by first | omega | assumption | (simp only [List.length_append, List.length_cons, List.length_nil, List.length_modify, List.length_set, nb_len, rb_len, rbp_len, sl_len, slN_len, wh_len]; omega) | decide) (by first | omega | assumption | (simp only [List.length_append, List.length_cons, List.length_nil, List.length_modify, List.length_set, nb_len, rb_len, rbp_len, sl_len, slN_len, wh_len]; omega) | decide)) kX0_25 vX0_add (by decide) rfl ho [0] 1 (by decide +kernel) rfl rfl rfl rfl rfl hl.1 rfl (Nat.le_of_ble_eq_true rfl) dX0_addNumber_11 0 0 rfl rfl (by decide) (fun v u_3 H locs hq ho => ?_)
        obtain rfl := hq
        have ho : ow D vwCl A s.heap H locs [bB K h a R ((l ++ nb w i) ++ [(w / 2 ^ i).testBit 0]) g] := ho
        refine W.eq (g2 := F0 m 14 ls []) rfl ?_
        have e_4 : bB K h a R ((l ++ nb w i) ++ [(w / 2 ^ i).testBit 0]) g = bB K h a R (l ++ nb w (i + 1)) g := by rw [nb_succ, bit_shr, List.append_assoc]
        have ho : ow D vwCl A s.heap H locs [bB K h a R (l ++ nb w (i + 1)) g] := by rw [← e_4]; exact ho
        refine lv_iinc (v := nI (i + 1)) (lv' := [(3, .int (nI (i + 1))), (0, .ref h), (1, .int (nI w)), (2, .int (nI n))]) hx hb dX0_addNumber_14 hl (k := 3) rfl (iincN _ _) (by decide) rfl (fun ls hl => ?_)
        refine lv_goto (tgt := 2) hx hb dX0_addNumber_17 (by decide) ?_
        exact ih2 (i + 1) (by omega) (by omega) _ _ _ ho (lv_sub hl [1, 2, 3, 0] rfl)
  exact LP2 (n - 0 + 1) 0 (Nat.lt_succ_self _) (by omega) _ _ _ ho (lv_sub hl [1, 2, 3, 0] rfl)

set_option maxHeartbeats 4000000 in
set_option maxRecDepth 100000 in
theorem c_Bits_addRemainder (la : Launch) (D : va_G) (K : Nat → ClassId) (h : Nat) (a : Nat) (R : Nat) (l : List Bool) (g : Nat → Int32) (w : Nat) (n : Nat) (qL : l.length + n ≤ R) (qR : R ≤ 1000) (qw : w < 2 ^ 31) (qn : n ≤ 31) (qn1 : 1 ≤ n) : MT la D K yX0_addRemainder cX0_addRemainder 4 none (rmL 2 0 0) [.ref h, .int (nI w), .int (nI n)] [bB K h a R l g] Unit (fun v _ => v = none) (fun _ => [bB K h a R (l ++ rb w n) g]) := by
  refine Mt.ofW [(0, .ref h), (1, .int (nI w)), (2, .int (nI n))] (by decide) rfl (Nat.le_of_ble_eq_true rfl) ?_
  intro p e s m args below meth c A ls H locs Qz hQ C hin hl ho
  have hx := C.1.1
  have hb := C.1.2.1
  refine lv_iload_n hx hb dX0_addRemainder_0 rfl (lv_at hl 2 rfl) ?_
  refine lv_iconst (v := nI 1) hx hb dX0_addRemainder_1 (by decide) ?_
  refine o_sub hx hb dX0_addRemainder_2 (by omega) ?_
  refine lv_istore_n (lv' := [(3, .int (nI (n - 1))), (0, .ref h), (1, .int (nI w)), (2, .int (nI n))]) hx hb dX0_addRemainder_3 rfl hl (by decide) rfl (fun ls hl => ?_)
  have e_1 : bB K h a R l g = bB K h a R (l ++ rbp w n 0) g := by rw [show rbp w n 0 = [] from rfl, List.append_nil]
  have ho : ow D vwCl A s.heap H locs [bB K h a R (l ++ rbp w n 0) g] := by rw [← e_1]; exact ho
  have LP4 : ∀ (fuel : Nat) (k : Nat) (x : Int32) (_ : n - k < fuel) (_ : k ≤ n) (_ : x = nI (n - k) - 1) (H : Heap) (locs : List Loc) (ls : Array Slot) (_ : ow D vwCl A s.heap H locs [bB K h a R (l ++ rbp w n k) g]) (_ : lv_has ls 4 [(0, .ref h), (1, .int (nI w)), (2, .int (nI n)), (3, .int x)]), W p la e (rmL 2 0 0) s m args below meth c H locs 0 0 Qz (F0 m 4 ls []) := by
    intro fuel
    induction fuel with
    | zero => intro k x h0; exact absurd h0 (Nat.not_lt_zero _)
    | succ fuel ih4 =>
      intro k x hfu hk hx1 H locs ls ho hl
      refine lv_iload_n hx hb dX0_addRemainder_4 rfl (lv_at hl 3 rfl) ?_
      refine lv_if_lt (tgt := 21) hx hb dX0_addRemainder_5 (by decide) (fun c_2 => ?_) (fun c_2 => ?_)
      · skip
        have hk2 := dec_lt (hx1 ▸ c_2) (by omega)
        exact o_vret hQ C ho () rfl (by rw [show k = n by omega]; rfl) (Nat.le_of_ble_eq_true rfl) (Nat.le_of_ble_eq_true rfl) dX0_addRemainder_21
      · skip
        obtain ⟨hk3, hk4⟩ := dec_ge (hx1 ▸ c_2) (by omega)
        have hx5 : x = nI (n - 1 - k) := by rw [hx1, hk4, show n - k - 1 = n - 1 - k by omega]
        subst hx5
        refine lv_aload_n hx hb dX0_addRemainder_8 rfl (lv_at hl 0 rfl) ?_
        refine lv_iload_n hx hb dX0_addRemainder_9 rfl (lv_at hl 1 rfl) ?_
        refine lv_iload_n hx hb dX0_addRemainder_10 rfl (lv_at hl 3 rfl) ?_
        refine o_shr hx hb dX0_addRemainder_11 (by omega) (by omega) ?_
        refine o_callV (wr := []) (rest := []) (As := [.int (nI (w / 2 ^ (n - 1 - k)))]) C (c_Bits_addN la D K h a R (l ++ rbp w n k) g (w / 2 ^ (n - 1 - k)) (by first | omega | assumption | (simp only [List.length_append, List.length_cons, List.length_nil, List.length_modify, List.length_set, nb_len, rb_len, rbp_len, sl_len, slN_len, wh_len]; omega) | decide) (by first | omega | assumption | (simp only [List.length_append, List.length_cons, List.length_nil, List.length_modify, List.length_set, nb_len, rb_len, rbp_len, sl_len, slN_len, wh_len]; omega) | decide)) kX0_25 vX0_add (by decide) rfl ho [0] 1 (by decide +kernel) rfl rfl rfl rfl rfl hl.1 rfl (Nat.le_of_ble_eq_true rfl) dX0_addRemainder_12 0 0 rfl rfl (by decide) (fun v u_3 H locs hq ho => ?_)
        obtain rfl := hq
        have ho : ow D vwCl A s.heap H locs [bB K h a R ((l ++ rbp w n k) ++ [(w / 2 ^ (n - 1 - k)).testBit 0]) g] := ho
        refine W.eq (g2 := F0 m 15 ls []) rfl ?_
        have e_4 : bB K h a R ((l ++ rbp w n k) ++ [(w / 2 ^ (n - 1 - k)).testBit 0]) g = bB K h a R (l ++ rbp w n (k + 1)) g := by rw [rbp_succ, bit_shr, List.append_assoc]
        have ho : ow D vwCl A s.heap H locs [bB K h a R (l ++ rbp w n (k + 1)) g] := by rw [← e_4]; exact ho
        refine lv_iinc (v := nI (n - 1 - k) - 1) (lv' := [(3, .int (nI (n - 1 - k) - 1)), (0, .ref h), (1, .int (nI w)), (2, .int (nI n))]) hx hb dX0_addRemainder_15 hl (k := 3) rfl (iincM _) (by decide) rfl (fun ls hl => ?_)
        refine lv_goto (tgt := 4) hx hb dX0_addRemainder_18 (by decide) ?_
        exact ih4 (k + 1) (nI (n - 1 - k) - 1) (by omega) (by omega) (by rw [show n - 1 - k = n - (k + 1) by omega]) _ _ _ ho (lv_sub hl [1, 2, 3, 0] rfl)
  exact LP4 (n - 0 + 1) 0 (nI (n - 1)) (Nat.lt_succ_self _) (by omega) (dec_1 qn1).symm _ _ _ ho (lv_sub hl [1, 2, 3, 0] rfl)

set_option maxHeartbeats 4000000 in
set_option maxRecDepth 100000 in
theorem c_Bits_numberAt (la : Launch) (D : va_G) (K : Nat → ClassId) (h : Nat) (a : Nat) (R : Nat) (l : List Bool) (g : Nat → Int32) (st : Nat) (n : Nat) (qL : l.length ≤ R) (qR : R ≤ 1000) (qs : st ≤ 1000) (qn : n ≤ 30) : MT la D K yX0_numberAt cX0_numberAt 5 (some .int) (rmL 2 0 0) [.ref h, .int (nI st), .int (nI n)] [bB K h a R l g] Unit (fun v _ => v = some (.int (nI (toN l st n)))) (fun _ => [bB K h a R l g]) := by
  refine Mt.ofW [(0, .ref h), (1, .int (nI st)), (2, .int (nI n))] (by decide) rfl (Nat.le_of_ble_eq_true rfl) ?_
  intro p e s m args below meth c A ls H locs Qz hQ C hin hl ho
  have hx := C.1.1
  have hb := C.1.2.1
  refine lv_iconst (v := nI 0) hx hb dX0_numberAt_0 (by decide) ?_
  refine lv_istore_n (lv' := [(3, .int (nI 0)), (0, .ref h), (1, .int (nI st)), (2, .int (nI n))]) hx hb dX0_numberAt_1 rfl hl (by decide) rfl (fun ls hl => ?_)
  refine lv_iconst (v := nI 0) hx hb dX0_numberAt_2 (by decide) ?_
  refine lv_istore (lv' := [(4, .int (nI 0)), (3, .int (nI 0)), (0, .ref h), (1, .int (nI st)), (2, .int (nI n))]) hx hb dX0_numberAt_3 hl (by decide) rfl (fun ls hl => ?_)
  have e_1 : (.int (nI 0) : Value) = .int (nI (toN l st 0)) := rfl
  have hl : lv_has ls 5 [(4, .int (nI 0)), (3, .int (nI (toN l st 0))), (0, .ref h), (1, .int (nI st)), (2, .int (nI n))] := by rw [← e_1]; exact hl
  have LP5 : ∀ (fuel : Nat) (i : Nat) (_ : n - i < fuel) (_ : i ≤ n) (H : Heap) (locs : List Loc) (ls : Array Slot) (_ : ow D vwCl A s.heap H locs [bB K h a R l g]) (_ : lv_has ls 5 [(0, .ref h), (1, .int (nI st)), (2, .int (nI n)), (3, .int (nI (toN l st i))), (4, .int (nI i))]), W p la e (rmL 2 0 0) s m args below meth c H locs 0 0 Qz (F0 m 5 ls []) := by
    intro fuel
    induction fuel with
    | zero => intro i h0; exact absurd h0 (Nat.not_lt_zero _)
    | succ fuel ih5 =>
      intro i hfu hi H locs ls ho hl
      refine lv_iload hx hb dX0_numberAt_5 (lv_at hl 4 rfl) ?_
      refine lv_iload_n hx hb dX0_numberAt_7 rfl (lv_at hl 2 rfl) ?_
      refine o_icmp_ge (tgt := 31) hx hb dX0_numberAt_8 (by decide) (by first | omega | exact and1_lt _) (by first | omega | exact and1_lt _) (fun c_2 => ?_) (fun c_2 => ?_)
      · skip
        refine lv_iload_n hx hb dX0_numberAt_31 rfl (lv_at hl 3 rfl) ?_
        exact o_iret hQ C rfl ho () (by rw [show i = n by omega]) rfl (Nat.le_of_ble_eq_true rfl) (Nat.le_of_ble_eq_true rfl) dX0_numberAt_32
      · skip
        refine lv_iload_n hx hb dX0_numberAt_11 rfl (lv_at hl 3 rfl) ?_
        refine lv_aload_n hx hb dX0_numberAt_12 rfl (lv_at hl 0 rfl) ?_
        refine lv_iload_n hx hb dX0_numberAt_13 rfl (lv_at hl 1 rfl) ?_
        refine lv_iload hx hb dX0_numberAt_14 (lv_at hl 4 rfl) ?_
        refine o_add hx hb dX0_numberAt_16 ?_
        refine o_callV (wr := []) (rest := [.int (nI (toN l st i))]) (As := [.int (nI (st + i))]) C (c_Bits_at la D K h a R l g (st + i) (by first | omega | assumption | (simp only [List.length_append, List.length_cons, List.length_nil, List.length_modify, List.length_set, nb_len, rb_len, rbp_len, sl_len, slN_len, wh_len]; omega) | decide) (by first | omega | assumption | (simp only [List.length_append, List.length_cons, List.length_nil, List.length_modify, List.length_set, nb_len, rb_len, rbp_len, sl_len, slN_len, wh_len]; omega) | decide) (by first | omega | assumption | (simp only [List.length_append, List.length_cons, List.length_nil, List.length_modify, List.length_set, nb_len, rb_len, rbp_len, sl_len, slN_len, wh_len]; omega) | decide)) kX0_21 vX0_at (by decide) rfl ho [0] 1 (by decide +kernel) rfl rfl rfl rfl rfl hl.1 rfl (Nat.le_of_ble_eq_true rfl) dX0_numberAt_17 0 0 rfl rfl (by decide) (fun v u_3 H locs hq ho => ?_)
        obtain rfl := hq
        have ho : ow D vwCl A s.heap H locs [bB K h a R l g] := ho
        refine W.eq (g2 := F0 m 20 ls [.int (bI (l.getD (st + i) false)), .int (nI (toN l st i))]) rfl ?_
        refine o_top (y := nI ((l.getD (st + i) false).toNat)) (bI_N _) ?_
        refine lv_iload hx hb dX0_numberAt_20 (lv_at hl 4 rfl) ?_
        refine o_shl hx hb dX0_numberAt_22 (by omega) (bsl_lt _ (by omega)) ?_
        refine o_or hx hb dX0_numberAt_23 ?_
        refine o_top (y := nI (toN l st (i + 1))) (congrArg nI (toN_or l st i)) ?_
        refine lv_istore_n (lv' := [(3, .int (nI (toN l st (i + 1)))), (0, .ref h), (1, .int (nI st)), (2, .int (nI n)), (4, .int (nI i))]) hx hb dX0_numberAt_24 rfl hl (by decide) rfl (fun ls hl => ?_)
        refine lv_iinc (v := nI (i + 1)) (lv' := [(4, .int (nI (i + 1))), (3, .int (nI (toN l st (i + 1)))), (0, .ref h), (1, .int (nI st)), (2, .int (nI n))]) hx hb dX0_numberAt_25 hl (k := 4) rfl (iincN _ _) (by decide) rfl (fun ls hl => ?_)
        refine lv_goto (tgt := 5) hx hb dX0_numberAt_28 (by decide) ?_
        exact ih5 (i + 1) (by omega) (by omega) _ _ _ ho (lv_sub hl [2, 3, 4, 1, 0] rfl)
  exact LP5 (n - 0 + 1) 0 (Nat.lt_succ_self _) (by omega) _ _ _ ho (lv_sub hl [2, 3, 4, 1, 0] rfl)

set_option maxHeartbeats 4000000 in
set_option maxRecDepth 100000 in
theorem c_Bits_remainderOf (la : Launch) (D : va_G) (K : Nat → ClassId) (h : Nat) (a : Nat) (R : Nat) (l : List Bool) (g : Nat → Int32) (bn : Nat) (gd : Nat) (n : Nat) (qL : l.length ≤ R) (qR : R ≤ 1000) (qb : bn ≤ 1000) (qn : n ≤ 16) (qg : gd < 2 ^ (n + 1)) (qt : gd.testBit n = true) : MT la D K yX0_remainderOf cX0_remainderOf 6 (some .int) (rmL 2 0 0) [.ref h, .int (nI bn), .int (nI gd), .int (nI n)] [bB K h a R l g] Unit (fun v _ => v = some (.int (nI (crc gd n (sl l 0 bn))))) (fun _ => [bB K h a R l g]) := by
  refine Mt.ofW [(0, .ref h), (1, .int (nI bn)), (2, .int (nI gd)), (3, .int (nI n))] (by decide) rfl (Nat.le_of_ble_eq_true rfl) ?_
  intro p e s m args below meth c A ls H locs Qz hQ C hin hl ho
  have hx := C.1.1
  have hb := C.1.2.1
  refine lv_iconst (v := nI 0) hx hb dX0_remainderOf_0 (by decide) ?_
  refine lv_istore (lv' := [(4, .int (nI 0)), (0, .ref h), (1, .int (nI bn)), (2, .int (nI gd)), (3, .int (nI n))]) hx hb dX0_remainderOf_1 hl (by decide) rfl (fun ls hl => ?_)
  refine lv_iconst (v := nI 0) hx hb dX0_remainderOf_3 (by decide) ?_
  refine lv_istore (lv' := [(5, .int (nI 0)), (4, .int (nI 0)), (0, .ref h), (1, .int (nI bn)), (2, .int (nI gd)), (3, .int (nI n))]) hx hb dX0_remainderOf_4 hl (by decide) rfl (fun ls hl => ?_)
  have e_1 : (.int (nI 0) : Value) = .int (nI (crc gd n (sl l 0 0))) := rfl
  have hl : lv_has ls 6 [(5, .int (nI 0)), (4, .int (nI (crc gd n (sl l 0 0)))), (0, .ref h), (1, .int (nI bn)), (2, .int (nI gd)), (3, .int (nI n))] := by rw [← e_1]; exact hl
  have LP6 : ∀ (fuel : Nat) (i : Nat) (_ : bn - i < fuel) (_ : i ≤ bn) (H : Heap) (locs : List Loc) (ls : Array Slot) (_ : ow D vwCl A s.heap H locs [bB K h a R l g]) (_ : lv_has ls 6 [(0, .ref h), (1, .int (nI bn)), (2, .int (nI gd)), (3, .int (nI n)), (4, .int (nI (crc gd n (sl l 0 i)))), (5, .int (nI i))]), W p la e (rmL 2 0 0) s m args below meth c H locs 0 0 Qz (F0 m 6 ls []) := by
    intro fuel
    induction fuel with
    | zero => intro i h0; exact absurd h0 (Nat.not_lt_zero _)
    | succ fuel ih6 =>
      intro i hfu hi H locs ls ho hl
      refine lv_iload hx hb dX0_remainderOf_6 (lv_at hl 5 rfl) ?_
      refine lv_iload_n hx hb dX0_remainderOf_8 rfl (lv_at hl 1 rfl) ?_
      refine o_icmp_ge (tgt := 49) hx hb dX0_remainderOf_9 (by decide) (by first | omega | exact and1_lt _) (by first | omega | exact and1_lt _) (fun c_2 => ?_) (fun c_2 => ?_)
      · skip
        refine lv_iload hx hb dX0_remainderOf_49 (lv_at hl 4 rfl) ?_
        exact o_iret hQ C rfl ho () (by rw [show i = bn by omega]) rfl (Nat.le_of_ble_eq_true rfl) (Nat.le_of_ble_eq_true rfl) dX0_remainderOf_51
      · skip
        refine lv_iload hx hb dX0_remainderOf_12 (lv_at hl 4 rfl) ?_
        refine lv_iconst (v := nI 1) hx hb dX0_remainderOf_14 (by decide) ?_
        refine o_shl hx hb dX0_remainderOf_15 (by omega) (cr1_lt qn (crc_lt qg qt _)) ?_
        refine lv_aload_n hx hb dX0_remainderOf_16 rfl (lv_at hl 0 rfl) ?_
        refine lv_iload hx hb dX0_remainderOf_17 (lv_at hl 5 rfl) ?_
        refine o_callV (wr := []) (rest := [.int (nI ((crc gd n (sl l 0 i)) * 2 ^ 1))]) (As := [.int (nI i)]) C (c_Bits_at la D K h a R l g i (by first | omega | assumption | (simp only [List.length_append, List.length_cons, List.length_nil, List.length_modify, List.length_set, nb_len, rb_len, rbp_len, sl_len, slN_len, wh_len]; omega) | decide) (by first | omega | assumption | (simp only [List.length_append, List.length_cons, List.length_nil, List.length_modify, List.length_set, nb_len, rb_len, rbp_len, sl_len, slN_len, wh_len]; omega) | decide) (by first | omega | assumption | (simp only [List.length_append, List.length_cons, List.length_nil, List.length_modify, List.length_set, nb_len, rb_len, rbp_len, sl_len, slN_len, wh_len]; omega) | decide)) kX0_21 vX0_at (by decide) rfl ho [0] 1 (by decide +kernel) rfl rfl rfl rfl rfl hl.1 rfl (Nat.le_of_ble_eq_true rfl) dX0_remainderOf_19 0 0 rfl rfl (by decide) (fun v u_3 H locs hq ho => ?_)
        obtain rfl := hq
        have ho : ow D vwCl A s.heap H locs [bB K h a R l g] := ho
        refine W.eq (g2 := F0 m 22 ls [.int (bI (l.getD i false)), .int (nI ((crc gd n (sl l 0 i)) * 2 ^ 1))]) rfl ?_
        refine o_top (y := nI ((l.getD i false).toNat)) (bI_N _) ?_
        refine lv_iload_n hx hb dX0_remainderOf_22 rfl (lv_at hl 3 rfl) ?_
        refine o_shl hx hb dX0_remainderOf_23 (by omega) (bsl_lt _ (by omega)) ?_
        refine o_xor hx hb dX0_remainderOf_24 ?_
        refine lv_istore (lv' := [(4, .int (nI (((crc gd n (sl l 0 i)) * 2 ^ 1) ^^^ (((l.getD i false).toNat) * 2 ^ n)))), (0, .ref h), (1, .int (nI bn)), (2, .int (nI gd)), (3, .int (nI n)), (5, .int (nI i))]) hx hb dX0_remainderOf_25 hl (by decide) rfl (fun ls hl => ?_)
        have ht := crT_lt (l.getD i false) (crc_lt qg qt (sl l 0 i))
        refine lv_iload hx hb dX0_remainderOf_27 (lv_at hl 0 rfl) ?_
        refine lv_iload_n hx hb dX0_remainderOf_29 rfl (lv_at hl 4 rfl) ?_
        refine o_shr hx hb dX0_remainderOf_30 (by omega) (cr2_lt qn ht) ?_
        refine lv_iconst (v := nI 1) hx hb dX0_remainderOf_31 (by decide) ?_
        refine o_and hx hb dX0_remainderOf_32 ?_
        refine lv_iconst (v := nI 1) hx hb dX0_remainderOf_33 (by decide) ?_
        refine o_icmp_ne (tgt := 43) hx hb dX0_remainderOf_34 (by decide) (by first | omega | exact and1_lt _) (by first | omega | exact and1_lt _) (fun c_4 => ?_) (fun c_4 => ?_)
        · skip
          have e_5 : (.int (nI (((crc gd n (sl l 0 i)) * 2 ^ 1) ^^^ (((l.getD i false).toNat) * 2 ^ n))) : Value) = .int (nI (crc gd n (sl l 0 (i + 1)))) := congrArg (fun z => Value.int (nI z)) (crc_fa 0 c_4)
          have hl : lv_has ls 6 [(4, .int (nI (crc gd n (sl l 0 (i + 1))))), (0, .ref h), (1, .int (nI bn)), (2, .int (nI gd)), (3, .int (nI n)), (5, .int (nI i))] := by rw [← e_5]; exact hl
          refine lv_iinc (v := nI (i + 1)) (lv' := [(5, .int (nI (i + 1))), (4, .int (nI (crc gd n (sl l 0 (i + 1))))), (0, .ref h), (1, .int (nI bn)), (2, .int (nI gd)), (3, .int (nI n))]) hx hb dX0_remainderOf_43 hl (k := 5) rfl (iincN _ _) (by decide) rfl (fun ls hl => ?_)
          refine lv_goto (tgt := 6) hx hb dX0_remainderOf_46 (by decide) ?_
          exact ih6 (i + 1) (by omega) (by omega) _ _ _ ho (lv_sub hl [2, 3, 4, 5, 1, 0] rfl)
        · skip
          refine lv_iload hx hb dX0_remainderOf_37 (lv_at hl 0 rfl) ?_
          refine lv_iload_n hx hb dX0_remainderOf_39 rfl (lv_at hl 3 rfl) ?_
          refine o_xor hx hb dX0_remainderOf_40 ?_
          refine lv_istore (lv' := [(4, .int (nI ((((crc gd n (sl l 0 i)) * 2 ^ 1) ^^^ (((l.getD i false).toNat) * 2 ^ n)) ^^^ gd))), (0, .ref h), (1, .int (nI bn)), (2, .int (nI gd)), (3, .int (nI n)), (5, .int (nI i))]) hx hb dX0_remainderOf_41 hl (by decide) rfl (fun ls hl => ?_)
          have e_6 : (.int (nI ((((crc gd n (sl l 0 i)) * 2 ^ 1) ^^^ (((l.getD i false).toNat) * 2 ^ n)) ^^^ gd)) : Value) = .int (nI (crc gd n (sl l 0 (i + 1)))) := congrArg (fun z => Value.int (nI z)) (crc_tr 0 c_4)
          have hl : lv_has ls 6 [(4, .int (nI (crc gd n (sl l 0 (i + 1))))), (0, .ref h), (1, .int (nI bn)), (2, .int (nI gd)), (3, .int (nI n)), (5, .int (nI i))] := by rw [← e_6]; exact hl
          refine lv_iinc (v := nI (i + 1)) (lv' := [(5, .int (nI (i + 1))), (4, .int (nI (crc gd n (sl l 0 (i + 1))))), (0, .ref h), (1, .int (nI bn)), (2, .int (nI gd)), (3, .int (nI n))]) hx hb dX0_remainderOf_43 hl (k := 5) rfl (iincN _ _) (by decide) rfl (fun ls hl => ?_)
          refine lv_goto (tgt := 6) hx hb dX0_remainderOf_46 (by decide) ?_
          exact ih6 (i + 1) (by omega) (by omega) _ _ _ ho (lv_sub hl [2, 3, 4, 5, 1, 0] rfl)
  exact LP6 (bn - 0 + 1) 0 (Nat.lt_succ_self _) (by omega) _ _ _ ho (lv_sub hl [2, 3, 4, 5, 1, 0] rfl)

set_option maxHeartbeats 4000000 in
set_option maxRecDepth 100000 in
theorem c_Bits_holds (la : Launch) (D : va_G) (K : Nat → ClassId) (h : Nat) (a : Nat) (R : Nat) (l : List Bool) (g : Nat → Int32) (bn : Nat) (gd : Nat) (n : Nat) (qL : l.length ≤ R) (qR : R ≤ 1000) (qb : bn ≤ 1000) (qn : n ≤ 16) (qg : gd < 2 ^ (n + 1)) (qt : gd.testBit n = true) : MT la D K yX0_holds cX0_holds 6 (some .boolean) (rmL 3 0 0) [.ref h, .int (nI bn), .int (nI gd), .int (nI n)] [bB K h a R l g] Unit (fun v _ => v = some (.int (bI (decide (sl l bn n = rb (crc gd n (sl l 0 bn)) n))))) (fun _ => [bB K h a R l g]) := by
  refine Mt.ofW [(0, .ref h), (1, .int (nI bn)), (2, .int (nI gd)), (3, .int (nI n))] (by decide) rfl (Nat.le_of_ble_eq_true rfl) ?_
  intro p e s m args below meth c A ls H locs Qz hQ C hin hl ho
  have hx := C.1.1
  have hb := C.1.2.1
  refine lv_aload_n hx hb dX0_holds_0 rfl (lv_at hl 0 rfl) ?_
  refine lv_iload_n hx hb dX0_holds_1 rfl (lv_at hl 1 rfl) ?_
  refine lv_iload_n hx hb dX0_holds_2 rfl (lv_at hl 2 rfl) ?_
  refine lv_iload_n hx hb dX0_holds_3 rfl (lv_at hl 3 rfl) ?_
  refine o_callV (wr := []) (rest := []) (As := [.int (nI bn), .int (nI gd), .int (nI n)]) C (c_Bits_remainderOf la D K h a R l g bn gd n (by first | omega | assumption | (simp only [List.length_append, List.length_cons, List.length_nil, List.length_modify, List.length_set, nb_len, rb_len, rbp_len, sl_len, slN_len, wh_len]; omega) | decide) (by first | omega | assumption | (simp only [List.length_append, List.length_cons, List.length_nil, List.length_modify, List.length_set, nb_len, rb_len, rbp_len, sl_len, slN_len, wh_len]; omega) | decide) (by first | omega | assumption | (simp only [List.length_append, List.length_cons, List.length_nil, List.length_modify, List.length_set, nb_len, rb_len, rbp_len, sl_len, slN_len, wh_len]; omega) | decide) (by first | omega | assumption | (simp only [List.length_append, List.length_cons, List.length_nil, List.length_modify, List.length_set, nb_len, rb_len, rbp_len, sl_len, slN_len, wh_len]; omega) | decide) (by first | omega | assumption | (simp only [List.length_append, List.length_cons, List.length_nil, List.length_modify, List.length_set, nb_len, rb_len, rbp_len, sl_len, slN_len, wh_len]; omega) | decide) (by first | omega | assumption | (simp only [List.length_append, List.length_cons, List.length_nil, List.length_modify, List.length_set, nb_len, rb_len, rbp_len, sl_len, slN_len, wh_len]; omega) | decide)) kX0_29 vX0_remainderOf (by decide) rfl ho [0] 1 (by decide +kernel) rfl rfl rfl rfl rfl hl.1 rfl (Nat.le_of_ble_eq_true rfl) dX0_holds_4 0 0 rfl rfl (by decide) (fun v u_1 H locs hq ho => ?_)
  obtain rfl := hq
  have ho : ow D vwCl A s.heap H locs [bB K h a R l g] := ho
  refine W.eq (g2 := F0 m 7 ls [.int (nI (crc gd n (sl l 0 bn)))]) rfl ?_
  refine lv_istore (lv' := [(4, .int (nI (crc gd n (sl l 0 bn)))), (0, .ref h), (1, .int (nI bn)), (2, .int (nI gd)), (3, .int (nI n))]) hx hb dX0_holds_7 hl (by decide) rfl (fun ls hl => ?_)
  have hcr := cr0_lt qn (crc_lt qg qt (sl l 0 bn))
  refine lv_iconst (v := nI 0) hx hb dX0_holds_9 (by decide) ?_
  refine lv_istore (lv' := [(5, .int (nI 0)), (4, .int (nI (crc gd n (sl l 0 bn)))), (0, .ref h), (1, .int (nI bn)), (2, .int (nI gd)), (3, .int (nI n))]) hx hb dX0_holds_10 hl (by decide) rfl (fun ls hl => ?_)
  have LP12 : ∀ (fuel : Nat) (i : Nat) (_ : n - i < fuel) (_ : i ≤ n) (_ : sl l bn i = rbp (crc gd n (sl l 0 bn)) n i) (H : Heap) (locs : List Loc) (ls : Array Slot) (_ : ow D vwCl A s.heap H locs [bB K h a R l g]) (_ : lv_has ls 6 [(0, .ref h), (1, .int (nI bn)), (2, .int (nI gd)), (3, .int (nI n)), (4, .int (nI (crc gd n (sl l 0 bn)))), (5, .int (nI i))]), W p la e (rmL 3 0 0) s m args below meth c H locs 0 0 Qz (F0 m 12 ls []) := by
    intro fuel
    induction fuel with
    | zero => intro i h0; exact absurd h0 (Nat.not_lt_zero _)
    | succ fuel ih12 =>
      intro i hfu hi heq H locs ls ho hl
      refine lv_iload hx hb dX0_holds_12 (lv_at hl 5 rfl) ?_
      refine lv_iload_n hx hb dX0_holds_14 rfl (lv_at hl 3 rfl) ?_
      refine o_icmp_ge (tgt := 48) hx hb dX0_holds_15 (by decide) (by first | omega | exact and1_lt _) (by first | omega | exact and1_lt _) (fun c_2 => ?_) (fun c_2 => ?_)
      · skip
        refine lv_iconst (v := nI 1) hx hb dX0_holds_48 (by decide) ?_
        exact o_iret hQ C rfl ho () (by rw [decide_eq_true (holds_y (by omega) heq)]; rfl) rfl (Nat.le_of_ble_eq_true rfl) (Nat.le_of_ble_eq_true rfl) dX0_holds_49
      · skip
        refine lv_aload_n hx hb dX0_holds_18 rfl (lv_at hl 0 rfl) ?_
        refine lv_iload_n hx hb dX0_holds_19 rfl (lv_at hl 1 rfl) ?_
        refine lv_iload hx hb dX0_holds_20 (lv_at hl 5 rfl) ?_
        refine o_add hx hb dX0_holds_22 ?_
        refine o_callV (wr := []) (rest := []) (As := [.int (nI (bn + i))]) C (c_Bits_at la D K h a R l g (bn + i) (by first | omega | assumption | (simp only [List.length_append, List.length_cons, List.length_nil, List.length_modify, List.length_set, nb_len, rb_len, rbp_len, sl_len, slN_len, wh_len]; omega) | decide) (by first | omega | assumption | (simp only [List.length_append, List.length_cons, List.length_nil, List.length_modify, List.length_set, nb_len, rb_len, rbp_len, sl_len, slN_len, wh_len]; omega) | decide) (by first | omega | assumption | (simp only [List.length_append, List.length_cons, List.length_nil, List.length_modify, List.length_set, nb_len, rb_len, rbp_len, sl_len, slN_len, wh_len]; omega) | decide)) kX0_21 vX0_at (by decide) rfl ho [0] 1 (by decide +kernel) rfl rfl rfl rfl rfl hl.1 rfl (Nat.le_of_ble_eq_true rfl) dX0_holds_23 0 0 rfl rfl (by decide) (fun v u_3 H locs hq ho => ?_)
        obtain rfl := hq
        have ho : ow D vwCl A s.heap H locs [bB K h a R l g] := ho
        refine W.eq (g2 := F0 m 26 ls [.int (bI (l.getD (bn + i) false))]) rfl ?_
        refine lv_iload hx hb dX0_holds_26 (lv_at hl 4 rfl) ?_
        refine lv_iload_n hx hb dX0_holds_28 rfl (lv_at hl 3 rfl) ?_
        refine lv_iconst (v := nI 1) hx hb dX0_holds_29 (by decide) ?_
        refine o_sub hx hb dX0_holds_30 (by omega) ?_
        refine lv_iload hx hb dX0_holds_31 (lv_at hl 5 rfl) ?_
        refine o_sub hx hb dX0_holds_33 (by omega) ?_
        refine o_shr hx hb dX0_holds_34 (by omega) hcr ?_
        refine lv_iconst (v := nI 1) hx hb dX0_holds_35 (by decide) ?_
        refine o_and hx hb dX0_holds_36 ?_
        refine o_top (y := bI ((crc gd n (sl l 0 bn) / 2 ^ (n - 1 - i)).testBit 0)) (bit_N _) ?_
        refine o_icmpb_eq (tgt := 42) hx hb dX0_holds_37 (by decide) (fun c_4 => ?_) (fun c_4 => ?_)
        · skip
          have c_42 := c_4
          refine lv_iinc (v := nI (i + 1)) (lv' := [(5, .int (nI (i + 1))), (0, .ref h), (1, .int (nI bn)), (2, .int (nI gd)), (3, .int (nI n)), (4, .int (nI (crc gd n (sl l 0 bn))))]) hx hb dX0_holds_42 hl (k := 5) rfl (iincN _ _) (by decide) rfl (fun ls hl => ?_)
          refine lv_goto (tgt := 12) hx hb dX0_holds_45 (by decide) ?_
          exact ih12 (i + 1) (by omega) (by omega) (holds_s heq c_42) _ _ _ ho (lv_sub hl [1, 2, 3, 4, 5, 0] rfl)
        · skip
          refine lv_iconst (v := nI 0) hx hb dX0_holds_40 (by decide) ?_
          exact o_iret hQ C rfl ho () (by rw [decide_eq_false (holds_n c_2 c_4)]; rfl) rfl (Nat.le_of_ble_eq_true rfl) (Nat.le_of_ble_eq_true rfl) dX0_holds_41
  exact LP12 (n - 0 + 1) 0 (Nat.lt_succ_self _) (by omega) rfl _ _ _ ho (lv_sub hl [2, 3, 4, 5, 1, 0] rfl)

set_option maxHeartbeats 4000000 in
set_option maxRecDepth 100000 in
theorem c_Bits_whiten (la : Launch) (D : va_G) (K : Nat → ClassId) (h : Nat) (a : Nat) (R : Nat) (l : List Bool) (g : Nat → Int32) (h2 : Nat) (a2 : Nat) (R2 : Nat) (l2 : List Bool) (g2 : Nat → Int32) (st : Nat) (qL : l.length ≤ R) (qR : R ≤ 1000) (qL2 : l2.length ≤ R2) (qR2 : R2 ≤ 1000) (qs : st ≤ 1000) : MT la D K yX0_whiten cX0_whiten 4 none (rmL 2 0 0) [.ref h, .ref h2, .int (nI st)] [bB K h a R l g, bB K h2 a2 R2 l2 g2] Unit (fun v _ => v = none) (fun _ => [bB K h a R (wh l l2 st l.length) g, bB K h2 a2 R2 l2 g2]) := by
  refine Mt.ofW [(0, .ref h), (1, .ref h2), (2, .int (nI st))] (by decide) rfl (Nat.le_of_ble_eq_true rfl) ?_
  intro p e s m args below meth c A ls H locs Qz hQ C hin hl ho
  have hx := C.1.1
  have hb := C.1.2.1
  refine lv_iconst (v := nI 0) hx hb dX0_whiten_0 (by decide) ?_
  refine lv_istore_n (lv' := [(3, .int (nI 0)), (0, .ref h), (1, .ref h2), (2, .int (nI st))]) hx hb dX0_whiten_1 rfl hl (by decide) rfl (fun ls hl => ?_)
  have e_1 : bB K h a R l g = bB K h a R (wh l l2 st 0) g := by rw [wh_0]
  have ho : ow D vwCl A s.heap H locs [bB K h a R (wh l l2 st 0) g, bB K h2 a2 R2 l2 g2] := by rw [← e_1]; exact ho
  have LP2 : ∀ (fuel : Nat) (i : Nat) (_ : l.length - i < fuel) (_ : i ≤ l.length) (H : Heap) (locs : List Loc) (ls : Array Slot) (_ : ow D vwCl A s.heap H locs [bB K h a R (wh l l2 st i) g, bB K h2 a2 R2 l2 g2]) (_ : lv_has ls 4 [(0, .ref h), (1, .ref h2), (2, .int (nI st)), (3, .int (nI i))]), W p la e (rmL 2 0 0) s m args below meth c H locs 0 0 Qz (F0 m 2 ls []) := by
    intro fuel
    induction fuel with
    | zero => intro i h0; exact absurd h0 (Nat.not_lt_zero _)
    | succ fuel ih2 =>
      intro i hfu hi H locs ls ho hl
      have hwl := wh_len l l2 st i
      refine lv_iload_n hx hb dX0_whiten_2 rfl (lv_at hl 3 rfl) ?_
      refine lv_aload_n hx hb dX0_whiten_3 rfl (lv_at hl 0 rfl) ?_
      refine o_get (v := .int (nI ((wh l l2 st i).length))) C ho 0 0 rfl rfl rfl 1 fX0_13 rfl dX0_whiten_4 ?_
      refine o_icmp_ge (tgt := 32) hx hb dX0_whiten_7 (by decide) (by first | omega | exact and1_lt _) (by first | omega | exact and1_lt _) (fun c_2 => ?_) (fun c_2 => ?_)
      · skip
        exact o_vret hQ C ho () rfl (by rw [show i = l.length by omega]) (Nat.le_of_ble_eq_true rfl) (Nat.le_of_ble_eq_true rfl) dX0_whiten_32
      · skip
        have ho : ow D vwCl A s.heap H locs [b0 K h a R (mrg bI (wh l l2 st i) g) ((wh l l2 st i).length), bB K h2 a2 R2 l2 g2] := ho
        refine lv_aload_n hx hb dX0_whiten_10 rfl (lv_at hl 0 rfl) ?_
        refine o_get (v := .ref a) C ho 0 0 rfl rfl rfl 0 fX0_7 rfl dX0_whiten_11 ?_
        refine lv_iload_n hx hb dX0_whiten_14 rfl (lv_at hl 3 rfl) ?_
        refine lv_dup2_11 hx hb dX0_whiten_15 rfl rfl ?_
        refine o_iald (v := mrg bI (wh l l2 st i) g i) C ho 0 1 rfl rfl 0 rfl i rfl (by omega) (by omega) rfl dX0_whiten_16 ?_
        refine o_top (y := bI ((wh l l2 st i).getD i false)) (mrg_getD false (by omega)) ?_
        refine lv_aload_n hx hb dX0_whiten_17 rfl (lv_at hl 1 rfl) ?_
        refine lv_iload_n hx hb dX0_whiten_18 rfl (lv_at hl 2 rfl) ?_
        refine lv_iload_n hx hb dX0_whiten_19 rfl (lv_at hl 3 rfl) ?_
        refine o_add hx hb dX0_whiten_20 ?_
        refine o_callV (wr := [b0 K h a R (mrg bI (wh l l2 st i) g) ((wh l l2 st i).length)]) (rest := [.int (bI ((wh l l2 st i).getD i false)), .int (nI i), .ref a]) (As := [.int (nI (st + i))]) C (c_Bits_at la D K h2 a2 R2 l2 g2 (st + i) (by first | omega | assumption | (simp only [List.length_append, List.length_cons, List.length_nil, List.length_modify, List.length_set, nb_len, rb_len, rbp_len, sl_len, slN_len, wh_len]; omega) | decide) (by first | omega | assumption | (simp only [List.length_append, List.length_cons, List.length_nil, List.length_modify, List.length_set, nb_len, rb_len, rbp_len, sl_len, slN_len, wh_len]; omega) | decide) (by first | omega | assumption | (simp only [List.length_append, List.length_cons, List.length_nil, List.length_modify, List.length_set, nb_len, rb_len, rbp_len, sl_len, slN_len, wh_len]; omega) | decide)) kX0_21 vX0_at (by decide) rfl ho [1, 0] 2 (by decide +kernel) rfl rfl rfl rfl rfl hl.1 rfl (Nat.le_of_ble_eq_true rfl) dX0_whiten_21 0 0 rfl rfl (by decide) (fun v u_3 H locs hq ho => ?_)
        obtain rfl := hq
        have ho : ow D vwCl A s.heap H locs [bB K h2 a2 R2 l2 g2, b0 K h a R (mrg bI (wh l l2 st i) g) ((wh l l2 st i).length)] := ho
        refine W.eq (g2 := F0 m 24 ls [.int (bI (l2.getD (st + i) false)), .int (bI ((wh l l2 st i).getD i false)), .int (nI i), .ref a]) rfl ?_
        refine o_xorb hx hb dX0_whiten_24 ?_
        refine o_iast (bs' := [bB K h2 a2 R2 l2 g2, b0 K h a R (upd (mrg bI (wh l l2 st i) g) i (bI (((wh l l2 st i).getD i false) ^^ (l2.getD (st + i) false)))) ((wh l l2 st i).length)]) C ho 1 1 rfl rfl 0 rfl i rfl (by omega) (by omega) dX0_whiten_25 rfl (fun H locs ho => ?_)
        have e_4 : b0 K h a R (upd (mrg bI (wh l l2 st i) g) i (bI (((wh l l2 st i).getD i false) ^^ (l2.getD (st + i) false)))) ((wh l l2 st i).length) = bB K h a R (wh l l2 st (i + 1)) g := by rw [bB_set (by omega), wh_succ (by omega)]
        have ho : ow D vwCl A s.heap H locs [bB K h2 a2 R2 l2 g2, bB K h a R (wh l l2 st (i + 1)) g] := by rw [← e_4]; exact ho
        refine lv_iinc (v := nI (i + 1)) (lv' := [(3, .int (nI (i + 1))), (0, .ref h), (1, .ref h2), (2, .int (nI st))]) hx hb dX0_whiten_26 hl (k := 3) rfl (iincN _ _) (by decide) rfl (fun ls hl => ?_)
        refine lv_goto (tgt := 2) hx hb dX0_whiten_29 (by decide) ?_
        have ho : ow D vwCl A s.heap H locs [bB K h a R (wh l l2 st (i + 1)) g, bB K h2 a2 R2 l2 g2] := ho.re [1, 0] 2 (by decide +kernel) rfl rfl
        exact ih2 (i + 1) (by omega) (by omega) _ _ _ ho (lv_sub hl [1, 2, 3, 0] rfl)
  exact LP2 (l.length - 0 + 1) 0 (Nat.lt_succ_self _) (by omega) _ _ _ ho (lv_sub hl [1, 2, 3, 0] rfl)

set_option maxHeartbeats 4000000 in
set_option maxRecDepth 100000 in
theorem c_Bits_init (la : Launch) (D : va_G) (K : Nat → ClassId) (h : Nat) (R : Nat) (qR : R ≤ 1000) : MT la D K yX0_init cX0_init 2 none (rmL 1 1 R) [.ref h, .int (nI R)] [[(h, .inr (0, [.null, .int 0]))]] Nat (fun v _ => v = none) (fun u => [bB K h u R [] (fun _ => 0)]) := by
  refine Mt.ofW [(0, .ref h), (1, .int (nI R))] (by decide) rfl (Nat.le_of_ble_eq_true rfl) ?_
  intro p e s m args below meth c A ls H locs Qz hQ C hin hl ho
  have hx := C.1.1
  have hb := C.1.2.1
  refine lv_aload_n hx hb dX0_init_0 rfl (lv_at hl 0 rfl) ?_
  refine o_init C mX0_1 m_oi m_oc hl.1 dX0_init_1 (Nat.le_of_ble_eq_true rfl) (Nat.le_of_ble_eq_true rfl) ?_
  refine lv_aload_n hx hb dX0_init_4 rfl (lv_at hl 0 rfl) ?_
  refine lv_iload_n hx hb dX0_init_5 rfl (lv_at hl 1 rfl) ?_
  refine o_newi C ho m_arrI 0 rfl R rfl (by omega) (Nat.le_of_ble_eq_true rfl) (by show 0 + R ≤ R; omega) dX0_init_6 (fun q_1 H ho => ?_)
  have ho : ow D vwCl A s.heap H locs [[(h, .inr (0, [.null, .int 0]))], [(q_1, .inl (K 0, R, .inl (fun _ => 0)))]] := ho
  refine o_putF (v := .ref q_1) (bs' := [[(h, .inr (0, [.ref q_1, .int 0]))], [(q_1, .inl (K 0, R, .inl (fun _ => 0)))]]) C hin ho 0 0 rfl rfl rfl 0 fX0_7 pX0_0 rfl rfl rfl (Nat.le_of_ble_eq_true rfl) dX0_init_8 rfl (fun H locs ho => ?_)
  have ho : ow D vwCl A s.heap H locs [b0 K h q_1 R (fun _ => 0) 0] := ho.flat (by rfl)
  exact o_vret hQ C ho q_1 rfl (by rw [bB_nil]) (Nat.le_of_ble_eq_true rfl) (by show 0 + R ≤ R; omega) dX0_init_11
