set_option maxHeartbeats 4000000 in
set_option maxRecDepth 100000 in
theorem c_Row_isFull (la : Launch) (D : va_G) (K : Nat → ClassId) (h : Nat) (q : Nat) (mh : Nat → Nat) (fi : Nat) (sz : Nat) (qf : fi < 6) (qz : sz ≤ 6) : MT la D K yX6_isFull cX6_isFull 1 (some .boolean) (rmL 1 0 0) [.ref h] [bH K h q mh fi sz] Unit (fun v _ => v = some (.int (bI (decide (6 ≤ sz))))) (fun _ => [bH K h q mh fi sz]) := by
  refine Mt.ofW [(0, .ref h)] (by decide) rfl (Nat.le_of_ble_eq_true rfl) ?_
  intro p e s m args below meth c A ls H locs Qz hQ C hin hl ho
  have hx := C.1.1
  have hb := C.1.2.1
  refine lv_aload_n hx hb dX6_isFull_0 rfl (lv_at hl 0 rfl) ?_
  refine o_get (v := .int (nI sz)) C ho 0 0 rfl rfl rfl 2 fX6_20 rfl dX6_isFull_1 ?_
  refine lv_bipush (v := nI 6) hx hb dX6_isFull_4 (by decide) ?_
  refine o_icmp_lt (tgt := 13) hx hb dX6_isFull_6 (by decide) (by first | omega | exact and1_lt _) (by first | omega | exact and1_lt _) (fun c_1 => ?_) (fun c_1 => ?_)
  · skip
    refine lv_iconst (v := nI 0) hx hb dX6_isFull_13 (by decide) ?_
    exact o_iret hQ C rfl ho () (by rw [decide_eq_false (by omega)]; rfl) rfl (Nat.le_of_ble_eq_true rfl) (Nat.le_of_ble_eq_true rfl) dX6_isFull_14
  · skip
    refine lv_iconst (v := nI 1) hx hb dX6_isFull_9 (by decide) ?_
    refine lv_goto (tgt := 14) hx hb dX6_isFull_10 (by decide) ?_
    exact o_iret hQ C rfl ho () (by rw [decide_eq_true c_1]; rfl) rfl (Nat.le_of_ble_eq_true rfl) (Nat.le_of_ble_eq_true rfl) dX6_isFull_14

set_option maxHeartbeats 4000000 in
set_option maxRecDepth 100000 in
theorem c_Row_oldest0 (la : Launch) (D : va_G) (K : Nat → ClassId) (h : Nat) (q : Nat) (mh : Nat → Nat) (fi : Nat) (sz : Nat) (q0 : sz = 0) : MT la D K yX6_oldest cX6_oldest 1 (some (.object "RadioPair$Message")) (rmL 1 0 0) [.ref h] [bH K h q mh fi sz] Unit (fun v _ => v = some (.null)) (fun _ => [bH K h q mh fi sz]) := by
  refine Mt.ofW [(0, .ref h)] (by decide) rfl (Nat.le_of_ble_eq_true rfl) ?_
  intro p e s m args below meth c A ls H locs Qz hQ C hin hl ho
  have hx := C.1.1
  have hb := C.1.2.1
  refine lv_aload_n hx hb dX6_oldest_0 rfl (lv_at hl 0 rfl) ?_
  refine o_get (v := .int (nI sz)) C ho 0 0 rfl rfl rfl 2 fX6_20 rfl dX6_oldest_1 ?_
  refine o_if_ne (tgt := 11) hx hb dX6_oldest_4 (by decide) (by omega) (fun c_1 => ?_) (fun c_1 => ?_)
  · skip
    exact absurd q0 c_1
  · skip
    refine lv_null hx hb dX6_oldest_7 ?_
    refine lv_goto (tgt := 20) hx hb dX6_oldest_8 (by decide) ?_
    exact o_aret hQ C (Or.inl rfl) ho () rfl rfl (Nat.le_of_ble_eq_true rfl) (Nat.le_of_ble_eq_true rfl) dX6_oldest_20

set_option maxHeartbeats 4000000 in
set_option maxRecDepth 100000 in
theorem c_Row_oldest (la : Launch) (D : va_G) (K : Nat → ClassId) (h : Nat) (q : Nat) (mh : Nat → Nat) (fi : Nat) (sz : Nat) (qf : fi < 6) (qz : sz ≤ 6) (q0 : 0 < sz) : MT la D K yX6_oldest cX6_oldest 1 (some (.object "RadioPair$Message")) (rmL 1 0 0) [.ref h] [bH K h q mh fi sz] Unit (fun v _ => v = some (.ref (mh fi))) (fun _ => [bH K h q mh fi sz]) := by
  refine Mt.ofW [(0, .ref h)] (by decide) rfl (Nat.le_of_ble_eq_true rfl) ?_
  intro p e s m args below meth c A ls H locs Qz hQ C hin hl ho
  have hx := C.1.1
  have hb := C.1.2.1
  refine lv_aload_n hx hb dX6_oldest_0 rfl (lv_at hl 0 rfl) ?_
  refine o_get (v := .int (nI sz)) C ho 0 0 rfl rfl rfl 2 fX6_20 rfl dX6_oldest_1 ?_
  refine o_if_ne (tgt := 11) hx hb dX6_oldest_4 (by decide) (by omega) (fun c_1 => ?_) (fun c_1 => ?_)
  · skip
    refine lv_aload_n hx hb dX6_oldest_11 rfl (lv_at hl 0 rfl) ?_
    refine o_get (v := .ref q) C ho 0 0 rfl rfl rfl 0 fX6_11 rfl dX6_oldest_12 ?_
    refine lv_aload_n hx hb dX6_oldest_15 rfl (lv_at hl 0 rfl) ?_
    refine o_get (v := .int (nI fi)) C ho 0 0 rfl rfl rfl 1 fX6_24 rfl dX6_oldest_16 ?_
    refine o_aald (v := (mh fi)) C ho 0 1 rfl rfl 1 rfl fi rfl (by omega) (by omega) rfl dX6_oldest_19 ?_
    exact o_aret hQ C (Or.inr ⟨_, rfl⟩) ho () rfl rfl (Nat.le_of_ble_eq_true rfl) (Nat.le_of_ble_eq_true rfl) dX6_oldest_20
  · skip
    exact absurd c_1 (by omega)

set_option maxHeartbeats 4000000 in
set_option maxRecDepth 100000 in
theorem c_Row_append (la : Launch) (D : va_G) (K : Nat → ClassId) (h : Nat) (q : Nat) (mh : Nat → Nat) (fi : Nat) (sz : Nat) (ma : Nat → Nat) (R : Nat) (ml : Nat → List Nat) (mg : Nat → Nat → Int32) (h2 : Nat) (a2 : Nat) (R2 : Nat) (l2 : List Nat) (g2 : Nat → Int32) (qf : fi < 6) (qz : sz < 6) (qR : R ≤ 1000) (qL2 : l2.length ≤ R) (qL3 : l2.length ≤ R2) (qR2 : R2 ≤ 1000) : MT la D K yX6_append cX6_append 2 none (rmL 2 0 0) [.ref h, .ref h2] [bH K h q mh fi sz, bPool K mh ma R ml mg, bM K h2 a2 R2 l2 g2] (Nat → Int32) (fun v _ => v = none) (fun u => [bH K h q mh fi (sz + 1), bPool K mh ma R (va_up ml ((fi + sz) % 6) l2) (va_up mg ((fi + sz) % 6) u), bM K h2 a2 R2 l2 g2]) := by
  refine Mt.ofW [(0, .ref h), (1, .ref h2)] (by decide) rfl (Nat.le_of_ble_eq_true rfl) ?_
  intro p e s m args below meth c A ls H locs Qz hQ C hin hl ho
  have hx := C.1.1
  have hb := C.1.2.1
  refine lv_aload_n hx hb dX6_append_0 rfl (lv_at hl 0 rfl) ?_
  refine o_callV (wr := [bPool K mh ma R ml mg, bM K h2 a2 R2 l2 g2]) (rest := []) (As := []) C (c_Row_isFull la D K h q mh fi sz (by first | omega | assumption | (simp only [List.length_append, List.length_cons, List.length_nil, List.length_modify, List.length_set, nb_len, rb_len, rbp_len, sl_len, slN_len, wh_len]; omega) | decide) (by first | omega | assumption | (simp only [List.length_append, List.length_cons, List.length_nil, List.length_modify, List.length_set, nb_len, rb_len, rbp_len, sl_len, slN_len, wh_len]; omega) | decide)) kX6_27 vX6_isFull (by decide) rfl ho [0, 1, 2] 3 (by decide +kernel) rfl rfl rfl rfl rfl hl.1 rfl (Nat.le_of_ble_eq_true rfl) dX6_append_1 0 0 rfl rfl (by decide) (fun v u_1 H locs hq ho => ?_)
  obtain rfl := hq
  have ho : ow D vwCl A s.heap H locs [bH K h q mh fi sz, bPool K mh ma R ml mg, bM K h2 a2 R2 l2 g2] := ho
  refine W.eq (g2 := F0 m 4 ls [.int (bI (decide (6 ≤ sz)))]) rfl ?_
  refine o_ifb_ne (tgt := 38) hx hb dX6_append_4 (by decide) (fun c_2 => ?_) (fun c_2 => ?_)
  · skip
    exact absurd (of_decide_eq_true c_2) (by omega)
  · skip
    refine lv_aload_n hx hb dX6_append_7 rfl (lv_at hl 0 rfl) ?_
    refine o_get (v := .ref q) C ho 0 0 rfl rfl rfl 0 fX6_11 rfl dX6_append_8 ?_
    refine lv_aload_n hx hb dX6_append_11 rfl (lv_at hl 0 rfl) ?_
    refine o_get (v := .int (nI fi)) C ho 0 0 rfl rfl rfl 1 fX6_24 rfl dX6_append_12 ?_
    refine lv_aload_n hx hb dX6_append_15 rfl (lv_at hl 0 rfl) ?_
    refine o_get (v := .int (nI sz)) C ho 0 0 rfl rfl rfl 2 fX6_20 rfl dX6_append_16 ?_
    refine o_add hx hb dX6_append_19 ?_
    refine lv_bipush (v := nI 6) hx hb dX6_append_20 (by decide) ?_
    refine o_rem hx hb dX6_append_22 (by omega) (by omega) (by omega) ?_
    refine o_aald (v := (mh ((fi + sz) % 6))) C ho 0 1 rfl rfl 1 rfl ((fi + sz) % 6) rfl (by omega) (by omega) rfl dX6_append_23 ?_
    refine lv_aload_n hx hb dX6_append_24 rfl (lv_at hl 1 rfl) ?_
    have ho : ow D vwCl A s.heap H locs [bH K h q mh fi sz, bM K (mh ((fi + sz) % 6)) (ma ((fi + sz) % 6)) R (ml ((fi + sz) % 6)) (mg ((fi + sz) % 6)), bM K h2 a2 R2 l2 g2, bPx K mh ma R ml mg ((fi + sz) % 6)] := ho.split 1 rfl (pool_split (Nat.mod_lt _ (by decide))) rfl
    refine o_callV (wr := [bH K h q mh fi sz, bPx K mh ma R ml mg ((fi + sz) % 6)]) (rest := []) (As := [.ref h2]) C (c_Msg_become la D K (mh ((fi + sz) % 6)) (ma ((fi + sz) % 6)) R (ml ((fi + sz) % 6)) (mg ((fi + sz) % 6)) h2 a2 R2 l2 g2 (by first | omega | assumption | (simp only [List.length_append, List.length_cons, List.length_nil, List.length_modify, List.length_set, nb_len, rb_len, rbp_len, sl_len, slN_len, wh_len]; omega) | decide) (by first | omega | assumption | (simp only [List.length_append, List.length_cons, List.length_nil, List.length_modify, List.length_set, nb_len, rb_len, rbp_len, sl_len, slN_len, wh_len]; omega) | decide) (by first | omega | assumption | (simp only [List.length_append, List.length_cons, List.length_nil, List.length_modify, List.length_set, nb_len, rb_len, rbp_len, sl_len, slN_len, wh_len]; omega) | decide) (by first | omega | assumption | (simp only [List.length_append, List.length_cons, List.length_nil, List.length_modify, List.length_set, nb_len, rb_len, rbp_len, sl_len, slN_len, wh_len]; omega) | decide)) kX6_31 vX5_become (by decide) rfl ho [1, 2, 0, 3] 4 (by decide +kernel) rfl rfl rfl rfl rfl hl.1 rfl (Nat.le_of_ble_eq_true rfl) dX6_append_25 0 0 rfl rfl (by decide) (fun v u_3 H locs hq ho => ?_)
    obtain rfl := hq
    have ho : ow D vwCl A s.heap H locs [bM K (mh ((fi + sz) % 6)) (ma ((fi + sz) % 6)) R l2 u_3, bM K h2 a2 R2 l2 g2, bH K h q mh fi sz, bPx K mh ma R ml mg ((fi + sz) % 6)] := ho
    refine W.eq (g2 := F0 m 28 ls []) rfl ?_
    have ho : ow D vwCl A s.heap H locs [bPool K mh ma R (va_up ml ((fi + sz) % 6) l2) (va_up mg ((fi + sz) % 6) u_3), bM K h2 a2 R2 l2 g2, bH K h q mh fi sz] := ho.join (b := bPool K mh ma R (va_up ml ((fi + sz) % 6) l2) (va_up mg ((fi + sz) % 6) u_3)) 0 3 rfl rfl rfl (by decide) (pool_join (Nat.mod_lt _ (by decide))) rfl
    refine lv_aload_n hx hb dX6_append_28 rfl (lv_at hl 0 rfl) ?_
    refine lv_dup hx hb dX6_append_29 rfl ?_
    refine o_get (v := .int (nI sz)) C ho 2 0 rfl rfl rfl 2 fX6_20 rfl dX6_append_30 ?_
    refine lv_iconst (v := nI 1) hx hb dX6_append_33 (by decide) ?_
    refine o_add hx hb dX6_append_34 ?_
    refine o_put (v := .int (nI (sz + 1))) (bs' := [bPool K mh ma R (va_up ml ((fi + sz) % 6) l2) (va_up mg ((fi + sz) % 6) u_3), bM K h2 a2 R2 l2 g2, bH K h q mh fi (sz + 1)]) C ho 2 0 rfl rfl rfl 2 fX6_20 pX6_2 rfl rfl (Nat.le_of_ble_eq_true rfl) dX6_append_35 rfl (fun H locs ho => ?_)
    have ho : ow D vwCl A s.heap H locs [bH K h q mh fi (sz + 1), bPool K mh ma R (va_up ml ((fi + sz) % 6) l2) (va_up mg ((fi + sz) % 6) u_3), bM K h2 a2 R2 l2 g2] := ho.re [2, 0, 1] 3 (by decide +kernel) rfl rfl
    exact o_vret hQ C ho u_3 rfl rfl (Nat.le_of_ble_eq_true rfl) (Nat.le_of_ble_eq_true rfl) dX6_append_38

set_option maxHeartbeats 4000000 in
set_option maxRecDepth 100000 in
theorem c_Row_dropOldest (la : Launch) (D : va_G) (K : Nat → ClassId) (h : Nat) (q : Nat) (mh : Nat → Nat) (fi : Nat) (sz : Nat) (qf : fi < 6) (qz : sz ≤ 6) (q0 : 0 < sz) : MT la D K yX6_dropOldest cX6_dropOldest 1 none (rmL 1 0 0) [.ref h] [bH K h q mh fi sz] Unit (fun v _ => v = none) (fun _ => [bH K h q mh ((fi + 1) % 6) (sz - 1)]) := by
  refine Mt.ofW [(0, .ref h)] (by decide) rfl (Nat.le_of_ble_eq_true rfl) ?_
  intro p e s m args below meth c A ls H locs Qz hQ C hin hl ho
  have hx := C.1.1
  have hb := C.1.2.1
  refine lv_aload_n hx hb dX6_dropOldest_0 rfl (lv_at hl 0 rfl) ?_
  refine o_get (v := .int (nI sz)) C ho 0 0 rfl rfl rfl 2 fX6_20 rfl dX6_dropOldest_1 ?_
  refine o_if_le (tgt := 30) hx hb dX6_dropOldest_4 (by decide) (by omega) (fun c_1 => ?_) (fun c_1 => ?_)
  · skip
    exact absurd c_1 (by omega)
  · skip
    refine lv_aload_n hx hb dX6_dropOldest_7 rfl (lv_at hl 0 rfl) ?_
    refine lv_aload_n hx hb dX6_dropOldest_8 rfl (lv_at hl 0 rfl) ?_
    refine o_get (v := .int (nI fi)) C ho 0 0 rfl rfl rfl 1 fX6_24 rfl dX6_dropOldest_9 ?_
    refine lv_iconst (v := nI 1) hx hb dX6_dropOldest_12 (by decide) ?_
    refine o_add hx hb dX6_dropOldest_13 ?_
    refine lv_bipush (v := nI 6) hx hb dX6_dropOldest_14 (by decide) ?_
    refine o_rem hx hb dX6_dropOldest_16 (by omega) (by omega) (by omega) ?_
    refine o_put (v := .int (nI ((fi + 1) % 6))) (bs' := [bH K h q mh ((fi + 1) % 6) sz]) C ho 0 0 rfl rfl rfl 1 fX6_24 pX6_1 rfl rfl (Nat.le_of_ble_eq_true rfl) dX6_dropOldest_17 rfl (fun H locs ho => ?_)
    refine lv_aload_n hx hb dX6_dropOldest_20 rfl (lv_at hl 0 rfl) ?_
    refine lv_dup hx hb dX6_dropOldest_21 rfl ?_
    refine o_get (v := .int (nI sz)) C ho 0 0 rfl rfl rfl 2 fX6_20 rfl dX6_dropOldest_22 ?_
    refine lv_iconst (v := nI 1) hx hb dX6_dropOldest_25 (by decide) ?_
    refine o_sub hx hb dX6_dropOldest_26 (by omega) ?_
    refine o_put (v := .int (nI (sz - 1))) (bs' := [bH K h q mh ((fi + 1) % 6) (sz - 1)]) C ho 0 0 rfl rfl rfl 2 fX6_20 pX6_2 rfl rfl (Nat.le_of_ble_eq_true rfl) dX6_dropOldest_27 rfl (fun H locs ho => ?_)
    exact o_vret hQ C ho () rfl rfl (Nat.le_of_ble_eq_true rfl) (Nat.le_of_ble_eq_true rfl) dX6_dropOldest_30
