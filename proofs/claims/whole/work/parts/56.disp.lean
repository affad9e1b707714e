set_option maxHeartbeats 1000000 in
theorem D_guard {p : Program} {la : Launch} {e : Env} {s : State} {m : MethodId} {args : Array Value} {below : List Frame} {meth : Method} {c : Code} {A : Nat → Prop} {D : va_G} {K : Nat → ClassId} {Qz : State → Prop} {b L hM : Nat} {xs : Nat → Int32} {ar : Nat → Nat} {i : Nat} (C : Cx p s m args meth c lw_T D vwCl (tyL K) A RXL cXL_law 4 (some .boolean)) (hX : va_X b L xs s s.heap) (hbl : b < s.heap.size) (hbA : ¬ A b) (hL : L ≤ 1537) (hi : i + 2 < L) {R : RPic} {Pd Po : DPic} {F : Nat → Nat → Int32} {lo : Nat} {H : Heap} {locs : List Loc} {ls : Array Slot} (IH : LIH p la e s m args below meth c A D K Qz b R.hX hM ar i 389) {d : Nat} (hd : d < 2) (hS : LSt D A s.heap H locs K hM ar R d Pd Po F lo) (hk : R.ck < i) (hl : lv_has ls 4 [(0, .ref b), (1, .ref R.hX), (2, .ref hM), (3, .int (nI i))]) : W p la e room_1 s m args below meth c H locs 131 10920 Qz (F0 m 100 ls []) := by
  by_cases hz : xs (i + 2) = 0
  · have h2 : xs (i + 2) = nI 0 := hz
    rcases dev_sp (xs (i + 1)) with ⟨h1, h1'⟩ | ⟨j, hj, h1⟩
    · exact L_guardX0 C hX hbl hbA hL hi IH hd hS hk hl rfl h2 h1 h1'
    · obtain ⟨P2, O2, hS2⟩ := hS.pick hd j hj
      exact L_guard0 C hX hbl hbA hL hi IH hj hS2 hk hl h1 h2
  · rcases dev_sp (xs (i + 1)) with ⟨h1, h1'⟩ | ⟨j, hj, h1⟩
    · exact L_guardX1 C hX hbl hbA hL hi IH hd hS hk hl rfl rfl h1 h1' hz
    · obtain ⟨P2, O2, hS2⟩ := hS.pick hd j hj
      exact L_guard1 C hX hbl hbA hL hi IH hj hS2 hk hl h1 rfl hz

set_option maxHeartbeats 1000000 in
theorem D_write {p : Program} {la : Launch} {e : Env} {s : State} {m : MethodId} {args : Array Value} {below : List Frame} {meth : Method} {c : Code} {A : Nat → Prop} {D : va_G} {K : Nat → ClassId} {Qz : State → Prop} {b L hM : Nat} {xs : Nat → Int32} {ar : Nat → Nat} {i : Nat} (C : Cx p s m args meth c lw_T D vwCl (tyL K) A RXL cXL_law 4 (some .boolean)) (hX : va_X b L xs s s.heap) (hbl : b < s.heap.size) (hbA : ¬ A b) (hL : L ≤ 1537) (hi : i + 2 < L) {R : RPic} {Pd Po : DPic} {F : Nat → Nat → Int32} {lo : Nat} {H : Heap} {locs : List Loc} {ls : Array Slot} (IH : LIH p la e s m args below meth c A D K Qz b R.hX hM ar i 389) {d : Nat} (hd : d < 2) (hS : LSt D A s.heap H locs K hM ar R d Pd Po F lo) (hk : R.ck < i) (hl : lv_has ls 4 [(0, .ref b), (1, .ref R.hX), (2, .ref hM), (3, .int (nI i))]) : W p la e room_1 s m args below meth c H locs 131 10920 Qz (F0 m 149 ls []) := by
  rcases dev_sp (xs (i + 1)) with ⟨h1, h1'⟩ | ⟨j, hj, h1⟩
  · exact L_writeX C hX hbl hbA hL hi IH hd hS hk hl rfl rfl h1 h1'
  · obtain ⟨P2, O2, hS2⟩ := hS.pick hd j hj
    rcases byte_sp (xs (i + 2)) with ⟨h2, h2'⟩ | ⟨y, hy, h2⟩
    · exact L_writeB C hX hbl hbA hL hi IH hj hS2 hk hl h1 rfl h2 h2'
    · by_cases hw : P2.wr.length = 40
      · exact L_writeF C hX hbl hbA hL hi IH hj hS2 hk hl h1 h2 hy hw
      · have hw40 := hS2.2.2.1.1.dr.1
        exact L_write C hX hbl hbA hL hi IH hj hS2 hk hl h1 h2 hy (by omega)

set_option maxHeartbeats 1000000 in
theorem D_send {p : Program} {la : Launch} {e : Env} {s : State} {m : MethodId} {args : Array Value} {below : List Frame} {meth : Method} {c : Code} {A : Nat → Prop} {D : va_G} {K : Nat → ClassId} {Qz : State → Prop} {b L hM : Nat} {xs : Nat → Int32} {ar : Nat → Nat} {i : Nat} (C : Cx p s m args meth c lw_T D vwCl (tyL K) A RXL cXL_law 4 (some .boolean)) (hX : va_X b L xs s s.heap) (hbl : b < s.heap.size) (hbA : ¬ A b) (hL : L ≤ 1537) (hi : i + 2 < L) {R : RPic} {Pd Po : DPic} {F : Nat → Nat → Int32} {lo : Nat} {H : Heap} {locs : List Loc} {ls : Array Slot} (IH : LIH p la e s m args below meth c A D K Qz b R.hX hM ar i 389) {d : Nat} (hd : d < 2) (hS : LSt D A s.heap H locs K hM ar R d Pd Po F lo) (hk : R.ck < i) (hl : lv_has ls 4 [(0, .ref b), (1, .ref R.hX), (2, .ref hM), (3, .int (nI i))]) : W p la e room_1 s m args below meth c H locs 131 10920 Qz (F0 m 182 ls []) := by
  rcases dev_sp (xs (i + 1)) with ⟨h1, h1'⟩ | ⟨j, hj, h1⟩
  · exact L_sendX C hX hbl hbA hL hi IH hd hS hk hl rfl h1 h1'
  · obtain ⟨P2, O2, hS2⟩ := hS.pick hd j hj
    by_cases hw : P2.wr.length = 0
    · exact L_send0 C hX hbl hbA hL hi IH hj hS2 hk hl h1 hw
    · by_cases h6 : P2.sz = 6
      · exact L_sendF C hX hbl hbA hL hi IH hj hS2 hk hl h1 (by omega) h6
      · have h66 := hS2.2.2.1.1.qu.2.1
        exact L_send C hX hbl hbA hL hi IH hj hS2 hk hl h1 (by omega) (by omega)

set_option maxHeartbeats 1000000 in
theorem D_slot {p : Program} {la : Launch} {e : Env} {s : State} {m : MethodId} {args : Array Value} {below : List Frame} {meth : Method} {c : Code} {A : Nat → Prop} {D : va_G} {K : Nat → ClassId} {Qz : State → Prop} {b L hM : Nat} {xs : Nat → Int32} {ar : Nat → Nat} {i : Nat} (C : Cx p s m args meth c lw_T D vwCl (tyL K) A RXL cXL_law 4 (some .boolean)) (hX : va_X b L xs s s.heap) (hbl : b < s.heap.size) (hbA : ¬ A b) (hL : L ≤ 1537) (hi : i + 2 < L) {R : RPic} {Pd Po : DPic} {F : Nat → Nat → Int32} {lo : Nat} {H : Heap} {locs : List Loc} {ls : Array Slot} (IH : LIH p la e s m args below meth c A D K Qz b R.hX hM ar i 389) {d : Nat} (hd : d < 2) (hS : LSt D A s.heap H locs K hM ar R d Pd Po F lo) (hk : R.ck < i) (hl : lv_has ls 4 [(0, .ref b), (1, .ref R.hX), (2, .ref hM), (3, .int (nI i))]) : W p la e room_1 s m args below meth c H locs 131 10920 Qz (F0 m 205 ls []) := by
  rcases (show R.ck % 2 = 0 ∨ R.ck % 2 = 1 by omega) with qd | qd
  · obtain ⟨P2, O2, hS2⟩ := hS.pick hd 0 (by decide)
    cases hfw : P2.fw with
    | true => exact L_slot0_1 C hX hbl hbA hL hi IH hS2 hk hl qd hfw
    | false =>
      have hse := hS2.2.2.1.1.se.2.1
      by_cases hfr : P2.fr < P2.ls_.length
      · exact L_slot0_2 C hX hbl hbA hL hi IH hS2 hk hl qd hfw hfr
      · by_cases hsz : P2.sz = 0
        · exact L_slot0_4 C hX hbl hbA hL hi IH hS2 hk hl qd hfw (by omega) hsz
        · exact L_slot0_3 C hX hbl hbA hL hi IH hS2 hk hl qd hfw (by omega) (by omega)
  · obtain ⟨P2, O2, hS2⟩ := hS.pick hd 1 (by decide)
    cases hhd : P2.hd with
    | false => exact L_slotN C hX hbl hbA hL hi IH hS2 hk hl qd hhd
    | true =>
      cases hfw : P2.fw with
      | true => exact L_slot1_1 C hX hbl hbA hL hi IH hS2 hk hl qd hhd hfw
      | false =>
        have hse := hS2.2.2.1.1.se.2.1
        by_cases hfr : P2.fr < P2.ls_.length
        · exact L_slot1_2 C hX hbl hbA hL hi IH hS2 hk hl qd hhd hfw hfr
        · by_cases hsz : P2.sz = 0
          · exact L_slot1_4 C hX hbl hbA hL hi IH hS2 hk hl qd hhd hfw (by omega) hsz
          · exact L_slot1_3 C hX hbl hbA hL hi IH hS2 hk hl qd hhd hfw (by omega) (by omega)

set_option maxHeartbeats 1000000 in
theorem D_air {p : Program} {la : Launch} {e : Env} {s : State} {m : MethodId} {args : Array Value} {below : List Frame} {meth : Method} {c : Code} {A : Nat → Prop} {D : va_G} {K : Nat → ClassId} {Qz : State → Prop} {b L hM : Nat} {xs : Nat → Int32} {ar : Nat → Nat} {i : Nat} (C : Cx p s m args meth c lw_T D vwCl (tyL K) A RXL cXL_law 4 (some .boolean)) (hX : va_X b L xs s s.heap) (hbl : b < s.heap.size) (hbA : ¬ A b) (hL : L ≤ 1537) (hi : i + 2 < L) {R : RPic} {Pd Po : DPic} {F : Nat → Nat → Int32} {lo : Nat} {H : Heap} {locs : List Loc} {ls : Array Slot} (IH : LIH p la e s m args below meth c A D K Qz b R.hX hM ar i 389) {d : Nat} (hd : d < 2) (hS : LSt D A s.heap H locs K hM ar R d Pd Po F lo) (hk : R.ck < i) (hl : lv_has ls 4 [(0, .ref b), (1, .ref R.hX), (2, .ref hM), (3, .int (nI i))]) : W p la e room_1 s m args below meth c H locs 131 10920 Qz (F0 m 218 ls []) := by
  have hal := hS.2.1.al
  rcases idx_sp (xs (i + 1)) (n := R.air.length) (by omega) with h1 | ⟨j, hj, h1⟩
  · exact L_airX C hX hbl hbA hL hi IH hd hS hk hl rfl h1
  · exact L_air C hX hbl hbA hL hi IH hd hS hk hl h1 hj

set_option maxHeartbeats 1000000 in
theorem D_flip {p : Program} {la : Launch} {e : Env} {s : State} {m : MethodId} {args : Array Value} {below : List Frame} {meth : Method} {c : Code} {A : Nat → Prop} {D : va_G} {K : Nat → ClassId} {Qz : State → Prop} {b L hM : Nat} {xs : Nat → Int32} {ar : Nat → Nat} {i : Nat} (C : Cx p s m args meth c lw_T D vwCl (tyL K) A RXL cXL_law 4 (some .boolean)) (hX : va_X b L xs s s.heap) (hbl : b < s.heap.size) (hbA : ¬ A b) (hL : L ≤ 1537) (hi : i + 2 < L) {R : RPic} {Pd Po : DPic} {F : Nat → Nat → Int32} {lo : Nat} {H : Heap} {locs : List Loc} {ls : Array Slot} (IH : LIH p la e s m args below meth c A D K Qz b R.hX hM ar i 389) {d : Nat} (hd : d < 2) (hS : LSt D A s.heap H locs K hM ar R d Pd Po F lo) (hk : R.ck < i) (hl : lv_has ls 4 [(0, .ref b), (1, .ref R.hX), (2, .ref hM), (3, .int (nI i))]) : W p la e room_1 s m args below meth c H locs 131 10920 Qz (F0 m 241 ls []) := by
  have hal := hS.2.1.al
  rcases idx_sp (xs (i + 1)) (n := R.air.length) (by omega) with h1 | ⟨j, hj, h1⟩
  · exact L_flipX C hX hbl hbA hL hi IH hd hS hk hl rfl h1
  · exact L_flip C hX hbl hbA hL hi IH hd hS hk hl h1 hj

set_option maxHeartbeats 1000000 in
theorem D_hear {p : Program} {la : Launch} {e : Env} {s : State} {m : MethodId} {args : Array Value} {below : List Frame} {meth : Method} {c : Code} {A : Nat → Prop} {D : va_G} {K : Nat → ClassId} {Qz : State → Prop} {b L hM : Nat} {xs : Nat → Int32} {ar : Nat → Nat} {i : Nat} (C : Cx p s m args meth c lw_T D vwCl (tyL K) A RXL cXL_law 4 (some .boolean)) (hX : va_X b L xs s s.heap) (hbl : b < s.heap.size) (hbA : ¬ A b) (hL : L ≤ 1537) (hi : i + 2 < L) {R : RPic} {Pd Po : DPic} {F : Nat → Nat → Int32} {lo : Nat} {H : Heap} {locs : List Loc} {ls : Array Slot} (IH : LIH p la e s m args below meth c A D K Qz b R.hX hM ar i 389) {d : Nat} (hd : d < 2) (hS : LSt D A s.heap H locs K hM ar R d Pd Po F lo) (hk : R.ck < i) (hl : lv_has ls 4 [(0, .ref b), (1, .ref R.hX), (2, .ref hM), (3, .int (nI i))]) : W p la e room_1 s m args below meth c H locs 131 10920 Qz (F0 m 264 ls []) := by
  rcases hS.2.1.a0 with h0 | ⟨h54, h1k⟩
  · exact L_hear0 C hX hbl hbA hL hi IH hd hS hk hl h0
  · obtain ⟨P2, O2, hS2⟩ := hS.pick hd (R.ck % 2) (Nat.mod_lt _ (by decide))
    have hj : R.ck % 2 < 2 := Nat.mod_lt _ (by decide)
    cases hh : hOK R.ad (tH (R.ck - 1) R.air) with
    | false => exact L_hearL C hX hbl hbA hL hi IH hj hS2 hk hl h54 h1k rfl hh
    | true =>
      have hk4 := hOK_k hh
      by_cases k3 : toN (tH (R.ck - 1) R.air) 3 4 < 3
      · exact L_hear9 C hX hbl hbA hL hi IH hj hS2 hk hl h54 h1k rfl hh k3
      · have k34 : toN (tH (R.ck - 1) R.air) 3 4 = 3 ∨ toN (tH (R.ck - 1) R.air) 3 4 = 4 := by omega
        cases hok : (tSo (R.ck - 1) R.air && ldOK (tL (R.ck - 1) R.air)) with
        | false => exact L_hear7 C hX hbl hbA hL hi IH hj hS2 hk hl h54 h1k rfl hh k34 hok
        | true =>
          by_cases hlt : (tH (R.ck - 1) R.air).getD 9 false = P2.lt
          · exact L_hear8 C hX hbl hbA hL hi IH hj hS2 hk hl h54 h1k rfl hh k34 hok hlt
          · cases hbe : (tL (R.ck - 1) R.air).getD 1 false with
            | true =>
              cases hpt : P2.pt with
              | true => exact L_hear6A C hX hbl hbA hL hi IH hj hS2 hk hl h54 h1k rfl hh k34 hok hlt hbe hpt
              | false => exact L_hear6B C hX hbl hbA hL hi IH hj hS2 hk hl h54 h1k rfl hh k34 hok hlt hbe hpt
            | false =>
              cases hpt : P2.pt with
              | true => exact L_hear6C C hX hbl hbA hL hi IH hj hS2 hk hl h54 h1k rfl hh k34 hok hlt hbe hpt
              | false => exact L_hear6D C hX hbl hbA hL hi IH hj hS2 hk hl h54 h1k rfl hh k34 hok hlt hbe hpt

set_option maxHeartbeats 1000000 in
theorem D_read {p : Program} {la : Launch} {e : Env} {s : State} {m : MethodId} {args : Array Value} {below : List Frame} {meth : Method} {c : Code} {A : Nat → Prop} {D : va_G} {K : Nat → ClassId} {Qz : State → Prop} {b L hM : Nat} {xs : Nat → Int32} {ar : Nat → Nat} {i : Nat} (C : Cx p s m args meth c lw_T D vwCl (tyL K) A RXL cXL_law 4 (some .boolean)) (hX : va_X b L xs s s.heap) (hbl : b < s.heap.size) (hbA : ¬ A b) (hL : L ≤ 1537) (hi : i + 2 < L) {R : RPic} {Pd Po : DPic} {F : Nat → Nat → Int32} {lo : Nat} {H : Heap} {locs : List Loc} {ls : Array Slot} (IH : LIH p la e s m args below meth c A D K Qz b R.hX hM ar i 389) {d : Nat} (hd : d < 2) (hS : LSt D A s.heap H locs K hM ar R d Pd Po F lo) (hk : R.ck < i) (hl : lv_has ls 4 [(0, .ref b), (1, .ref R.hX), (2, .ref hM), (3, .int (nI i))]) : W p la e room_1 s m args below meth c H locs 131 10920 Qz (F0 m 277 ls []) := by
  rcases dev_sp (xs (i + 1)) with ⟨h1, h1'⟩ | ⟨j, hj, h1⟩
  · exact L_readX C hX hbl hbA hL hi IH hd hS hk hl rfl rfl h1 h1'
  · obtain ⟨P2, O2, hS2⟩ := hS.pick hd j hj
    by_cases hs : P2.tsz = 0
    · exact L_read0 C hX hbl hbA hL hi IH hj hS2 hk hl h1 rfl hs
    · have ht := hS2.2.2.1.1.tk
      have t5 := ht.2.2.2 0 (by omega)
      rw [show (P2.tfi + 0) % 6 = P2.tfi by have := ht.1; omega] at t5
      rcases idx_sp (xs (i + 2)) (n := (P2.tml P2.tfi).length) (by have := t5.1; omega) with h2 | ⟨k, hk2, h2⟩
      · exact L_readO C hX hbl hbA hL hi IH hj hS2 hk hl h1 rfl (by omega) h2
      · exact L_read C hX hbl hbA hL hi IH hj hS2 hk hl h1 h2 (by omega) hk2

set_option maxHeartbeats 1000000 in
theorem D_next {p : Program} {la : Launch} {e : Env} {s : State} {m : MethodId} {args : Array Value} {below : List Frame} {meth : Method} {c : Code} {A : Nat → Prop} {D : va_G} {K : Nat → ClassId} {Qz : State → Prop} {b L hM : Nat} {xs : Nat → Int32} {ar : Nat → Nat} {i : Nat} (C : Cx p s m args meth c lw_T D vwCl (tyL K) A RXL cXL_law 4 (some .boolean)) (hX : va_X b L xs s s.heap) (hbl : b < s.heap.size) (hbA : ¬ A b) (hL : L ≤ 1537) (hi : i + 2 < L) {R : RPic} {Pd Po : DPic} {F : Nat → Nat → Int32} {lo : Nat} {H : Heap} {locs : List Loc} {ls : Array Slot} (IH : LIH p la e s m args below meth c A D K Qz b R.hX hM ar i 389) {d : Nat} (hd : d < 2) (hS : LSt D A s.heap H locs K hM ar R d Pd Po F lo) (hk : R.ck < i) (hl : lv_has ls 4 [(0, .ref b), (1, .ref R.hX), (2, .ref hM), (3, .int (nI i))]) : W p la e room_1 s m args below meth c H locs 131 10920 Qz (F0 m 310 ls []) := by
  rcases dev_sp (xs (i + 1)) with ⟨h1, h1'⟩ | ⟨j, hj, h1⟩
  · exact L_nextX C hX hbl hbA hL hi IH hd hS hk hl rfl h1 h1'
  · obtain ⟨P2, O2, hS2⟩ := hS.pick hd j hj
    by_cases hs : P2.tsz = 0
    · exact L_next0 C hX hbl hbA hL hi IH hj hS2 hk hl h1 hs
    · exact L_next C hX hbl hbA hL hi IH hj hS2 hk hl h1 (by omega)

set_option maxHeartbeats 1000000 in
theorem D_state {p : Program} {la : Launch} {e : Env} {s : State} {m : MethodId} {args : Array Value} {below : List Frame} {meth : Method} {c : Code} {A : Nat → Prop} {D : va_G} {K : Nat → ClassId} {Qz : State → Prop} {b L hM : Nat} {xs : Nat → Int32} {ar : Nat → Nat} {i : Nat} (C : Cx p s m args meth c lw_T D vwCl (tyL K) A RXL cXL_law 4 (some .boolean)) (hX : va_X b L xs s s.heap) (hbl : b < s.heap.size) (hbA : ¬ A b) (hL : L ≤ 1537) (hi : i + 2 < L) {R : RPic} {Pd Po : DPic} {F : Nat → Nat → Int32} {lo : Nat} {H : Heap} {locs : List Loc} {ls : Array Slot} (IH : LIH p la e s m args below meth c A D K Qz b R.hX hM ar i 389) {d : Nat} (hd : d < 2) (hS : LSt D A s.heap H locs K hM ar R d Pd Po F lo) (hk : R.ck < i) (hl : lv_has ls 4 [(0, .ref b), (1, .ref R.hX), (2, .ref hM), (3, .int (nI i))]) : W p la e room_1 s m args below meth c H locs 131 10920 Qz (F0 m 333 ls []) := by
  rcases dev_sp (xs (i + 1)) with ⟨h1, h1'⟩ | ⟨j, hj, h1⟩
  · exact L_stateX C hX hbl hbA hL hi IH hd hS hk hl rfl rfl h1 h1'
  · obtain ⟨P2, O2, hS2⟩ := hS.pick hd j hj
    rcases num_sp (xs (i + 2)) (n := 9) (by decide) with h2 | ⟨k, hk9, h2⟩
    · exact L_stateV C hX hbl hbA hL hi IH hj hS2 hk hl h1 rfl h2.1
    · rcases (show k = 0 ∨ k = 1 ∨ k = 2 ∨ k = 3 ∨ k = 4 ∨ k = 5 ∨ k = 6 ∨ k = 7 ∨ k = 8 ∨ k = 9 by omega) with rfl | rfl | rfl | rfl | rfl | rfl | rfl | rfl | rfl | rfl
      · exact L_state0 C hX hbl hbA hL hi IH hj hS2 hk hl h1 h2
      · exact L_state1 C hX hbl hbA hL hi IH hj hS2 hk hl h1 h2
      · exact L_state2 C hX hbl hbA hL hi IH hj hS2 hk hl h1 h2
      · exact L_state3 C hX hbl hbA hL hi IH hj hS2 hk hl h1 h2
      · cases hpt : P2.pt with
        | true => exact L_state4 C hX hbl hbA hL hi IH hj hS2 hk hl h1 h2 hpt
        | false => exact L_state4N C hX hbl hbA hL hi IH hj hS2 hk hl h1 h2 hpt
      · exact L_state5 C hX hbl hbA hL hi IH hj hS2 hk hl h1 h2
      · exact L_state6 C hX hbl hbA hL hi IH hj hS2 hk hl h1 h2
      · exact L_state7 C hX hbl hbA hL hi IH hj hS2 hk hl h1 h2
      · exact L_state8 C hX hbl hbA hL hi IH hj hS2 hk hl h1 h2
      · exact L_state9 C hX hbl hbA hL hi IH hj hS2 hk hl h1 h2

set_option maxHeartbeats 1000000 in
theorem D_count {p : Program} {la : Launch} {e : Env} {s : State} {m : MethodId} {args : Array Value} {below : List Frame} {meth : Method} {c : Code} {A : Nat → Prop} {D : va_G} {K : Nat → ClassId} {Qz : State → Prop} {b L hM : Nat} {xs : Nat → Int32} {ar : Nat → Nat} {i : Nat} (C : Cx p s m args meth c lw_T D vwCl (tyL K) A RXL cXL_law 4 (some .boolean)) (hX : va_X b L xs s s.heap) (hbl : b < s.heap.size) (hbA : ¬ A b) (hL : L ≤ 1537) (hi : i + 2 < L) {R : RPic} {Pd Po : DPic} {F : Nat → Nat → Int32} {lo : Nat} {H : Heap} {locs : List Loc} {ls : Array Slot} (IH : LIH p la e s m args below meth c A D K Qz b R.hX hM ar i 389) {d : Nat} (hd : d < 2) (hS : LSt D A s.heap H locs K hM ar R d Pd Po F lo) (hk : R.ck < i) (hl : lv_has ls 4 [(0, .ref b), (1, .ref R.hX), (2, .ref hM), (3, .int (nI i))]) : W p la e room_1 s m args below meth c H locs 131 10920 Qz (F0 m 366 ls []) := by
  rcases num_sp (xs (i + 1)) (n := 3) (by decide) with h1 | ⟨k, hk3, h1⟩
  · exact L_countX C hX hbl hbA hL hi IH hd hS hk hl rfl h1.1 h1.2
  · rcases (show k = 0 ∨ k = 1 ∨ k = 2 ∨ k = 3 by omega) with rfl | rfl | rfl | rfl
    · exact L_count0 C hX hbl hbA hL hi IH hd hS hk hl h1
    · exact L_count1 C hX hbl hbA hL hi IH hd hS hk hl h1
    · obtain ⟨P2, O2, hS2⟩ := hS.pick hd 0 (by decide)
      exact L_count2 C hX hbl hbA hL hi IH hS2 hk hl h1
    · obtain ⟨P2, O2, hS2⟩ := hS.pick hd 1 (by decide)
      exact L_count3 C hX hbl hbA hL hi IH hS2 hk hl h1

set_option maxHeartbeats 4000000 in
set_option maxRecDepth 100000 in
/-- the law's loop -/
theorem L_loop {p : Program} {la : Launch} {e : Env} {s : State} {m : MethodId} {args : Array Value} {below : List Frame} {meth : Method} {c : Code} {A : Nat → Prop} {D : va_G} {K : Nat → ClassId} {Qz : State → Prop} {b L hM : Nat} {xs : Nat → Int32} {ar : Nat → Nat} (C : Cx p s m args meth c lw_T D vwCl (tyL K) A RXL cXL_law 4 (some .boolean)) (hX : va_X b L xs s s.heap) (hbl : b < s.heap.size) (hbA : ¬ A b) (hL : L ≤ 1537) {hx0 : Nat} (hend : ∀ (H : Heap) (locs : List Loc) (ls : Array Slot), va_S A s.heap H locs → W p la e room_1 s m args below meth c H locs 131 10920 Qz (F0 m 395 ls [])) : ∀ (n i : Nat), L + 3 ≤ n + i → ∀ (R : RPic) (d : Nat) (P O : DPic) (F : Nat → Nat → Int32) (lo : Nat) (H : Heap) (locs : List Loc) (ls : Array Slot), d < 2 → LSt D A s.heap H locs K hM ar R d P O F lo → R.hX = hx0 → R.ck < i → i < 2 ^ 20 → lv_has ls 4 [(0, .ref b), (1, .ref hx0), (2, .ref hM), (3, .int (nI i))] → W p la e room_1 s m args below meth c H locs 131 10920 Qz (F0 m 28 ls []) := by
  have hx := C.1.1
  have hb := C.1.2.1
  intro n
  induction n with
  | zero =>
    intro i hn R d P O F lo H locs ls hd hS hR0 hk hi20 hl
    have ho := hS.1
    refine lv_iload_n hx hb dXL_law_28 rfl (lv_at hl 3 rfl) ?_
    refine lv_aload_n hx hb dXL_law_29 rfl (lv_at hl 0 rfl) ?_
    refine o_slen C ho hX hbl hbA dXL_law_30 ?_
    refine lv_iconst (v := nI 3) hx hb dXL_law_31 (by decide) ?_
    refine lv_isub hx hb dXL_law_32 ?_
    refine lv_icmp_gt (tgt := 395) hx hb dXL_law_33 (by decide) (fun _ => hend H locs ls ho.2.2) (fun c1 => ?_)
    have hi : i + 2 < L := by have := le3 hi20 hL c1; omega
    exact absurd hi (by omega)
  | succ n ih =>
    intro i hn R d P O F lo H locs ls hd hS hR0 hk hi20 hl
    have ho := hS.1
    refine lv_iload_n hx hb dXL_law_28 rfl (lv_at hl 3 rfl) ?_
    refine lv_aload_n hx hb dXL_law_29 rfl (lv_at hl 0 rfl) ?_
    refine o_slen C ho hX hbl hbA dXL_law_30 ?_
    refine lv_iconst (v := nI 3) hx hb dXL_law_31 (by decide) ?_
    refine lv_isub hx hb dXL_law_32 ?_
    refine lv_icmp_gt (tgt := 395) hx hb dXL_law_33 (by decide) (fun _ => hend H locs ls ho.2.2) (fun c1 => ?_)
    have hi : i + 2 < L := by have := le3 hi20 hL c1; omega
    refine lv_aload_n hx hb dXL_law_36 rfl (lv_at hl 0 rfl) ?_
    refine lv_iload_n hx hb dXL_law_37 rfl (lv_at hl 3 rfl) ?_
    refine o_sld (v := xs i) C ho hX hbl hbA i rfl (by omega) (by omega) rfl dXL_law_38 ?_
    refine lv_bipush (v := nI 15) hx hb dXL_law_39 (by decide) ?_
    refine lv_iand hx hb dXL_law_41 ?_
    have IH : LIH p la e s m args below meth c A D K Qz b R.hX hM ar i 389 := by
      intro R2 d2 P2 O2 F2 lo2 H2 locs2 ls2 hd2 hS2 hR2 hk2 hl2
      refine lv_iinc (v := nI (i + 3)) (lv' := [(3, .int (nI (i + 3))), (0, .ref b), (1, .ref R.hX), (2, .ref hM)]) hx hb dXL_law_389 hl2 (k := 3) rfl (iincN _ _) (by decide) rfl (fun ls3 hl3 => ?_)
      refine lv_goto (tgt := 28) hx hb dXL_law_392 (by decide) ?_
      exact ih (i + 3) (by omega) R2 d2 P2 O2 F2 lo2 H2 locs2 ls3 hd2 hS2 (hR2.trans hR0) (by omega) (by omega) (hR0 ▸ lv_sub hl3 [1, 2, 3, 0] rfl)
    rw [← hR0] at hl
    obtain ⟨k, hk16, e16⟩ := and15 (xs i)
    refine o_top e16 ?_
    rcases (show k = 0 ∨ k = 1 ∨ k = 2 ∨ k = 3 ∨ k = 4 ∨ k = 5 ∨ k = 6 ∨ k = 7 ∨ k = 8 ∨ k = 9 ∨ k = 10 ∨ k = 11 ∨ k = 12 ∨ k = 13 ∨ k = 14 ∨ k = 15 by omega) with rfl | rfl | rfl | rfl | rfl | rfl | rfl | rfl | rfl | rfl | rfl | rfl | rfl | rfl | rfl | rfl
    · refine lv_tableIn (off := 58) (tgt := 100) hx hb dXL_law_42 (by decide) (by decide) rfl (by decide) ?_
      exact D_guard C hX hbl hbA hL hi IH hd hS hk hl
    · refine lv_tableIn (off := 107) (tgt := 149) hx hb dXL_law_42 (by decide) (by decide) rfl (by decide) ?_
      exact D_write C hX hbl hbA hL hi IH hd hS hk hl
    · refine lv_tableIn (off := 140) (tgt := 182) hx hb dXL_law_42 (by decide) (by decide) rfl (by decide) ?_
      exact D_send C hX hbl hbA hL hi IH hd hS hk hl
    · refine lv_tableIn (off := 163) (tgt := 205) hx hb dXL_law_42 (by decide) (by decide) rfl (by decide) ?_
      exact D_slot C hX hbl hbA hL hi IH hd hS hk hl
    · refine lv_tableIn (off := 176) (tgt := 218) hx hb dXL_law_42 (by decide) (by decide) rfl (by decide) ?_
      exact D_air C hX hbl hbA hL hi IH hd hS hk hl
    · refine lv_tableIn (off := 199) (tgt := 241) hx hb dXL_law_42 (by decide) (by decide) rfl (by decide) ?_
      exact D_flip C hX hbl hbA hL hi IH hd hS hk hl
    · refine lv_tableIn (off := 222) (tgt := 264) hx hb dXL_law_42 (by decide) (by decide) rfl (by decide) ?_
      exact D_hear C hX hbl hbA hL hi IH hd hS hk hl
    · refine lv_tableIn (off := 235) (tgt := 277) hx hb dXL_law_42 (by decide) (by decide) rfl (by decide) ?_
      exact D_read C hX hbl hbA hL hi IH hd hS hk hl
    · refine lv_tableIn (off := 268) (tgt := 310) hx hb dXL_law_42 (by decide) (by decide) rfl (by decide) ?_
      exact D_next C hX hbl hbA hL hi IH hd hS hk hl
    · refine lv_tableIn (off := 291) (tgt := 333) hx hb dXL_law_42 (by decide) (by decide) rfl (by decide) ?_
      exact D_state C hX hbl hbA hL hi IH hd hS hk hl
    · refine lv_tableIn (off := 324) (tgt := 366) hx hb dXL_law_42 (by decide) (by decide) rfl (by decide) ?_
      exact D_count C hX hbl hbA hL hi IH hd hS hk hl
    · refine lv_tableOut (tgt := 389) hx hb dXL_law_42 (by decide) (by decide) ?_
      exact IH R d P O F lo H locs ls hd hS rfl (Nat.le_of_lt hk) hl
    · refine lv_tableOut (tgt := 389) hx hb dXL_law_42 (by decide) (by decide) ?_
      exact IH R d P O F lo H locs ls hd hS rfl (Nat.le_of_lt hk) hl
    · refine lv_tableOut (tgt := 389) hx hb dXL_law_42 (by decide) (by decide) ?_
      exact IH R d P O F lo H locs ls hd hS rfl (Nat.le_of_lt hk) hl
    · refine lv_tableOut (tgt := 389) hx hb dXL_law_42 (by decide) (by decide) ?_
      exact IH R d P O F lo H locs ls hd hS rfl (Nat.le_of_lt hk) hl
    · refine lv_tableOut (tgt := 389) hx hb dXL_law_42 (by decide) (by decide) ?_
      exact IH R d P O F lo H locs ls hd hS rfl (Nat.le_of_lt hk) hl

set_option maxHeartbeats 4000000 in
set_option maxRecDepth 100000 in
theorem L_start {p : Program} {la : Launch} {e : Env} {s : State} {m : MethodId} {args : Array Value} {below : List Frame} {meth : Method} {c : Code} {A : Nat → Prop} {D : va_G} {K : Nat → ClassId} {Qz : State → Prop} {b L hM : Nat} {xs : Nat → Int32} {ar : Nat → Nat} (C : Cx p s m args meth c lw_T D vwCl (tyL K) A RXL cXL_law 4 (some .boolean)) (hX : va_X b L xs s s.heap) (hbl : b < s.heap.size) (hbA : ¬ A b) (hL : L ≤ 1537) (hend : ∀ (H : Heap) (locs : List Loc) (ls : Array Slot), va_S A s.heap H locs → W p la e room_1 s m args below meth c H locs 131 10920 Qz (F0 m 395 ls [])) {H : Heap} {locs : List Loc} {ls : Array Slot} (x : Int32) (R : RPic) (P0 P1 : DPic) (ho : ow D vwCl A s.heap H locs (rpL K R ++ (dvL K (R.da 0) 1 P0 ++ (dvL K (R.da 1) 2 P1 ++ [bX K hM ar R.ad 0 0 0 (va_up (fun _ _ => 0) 18 (upd (upd (fun _ => 0) 0 (-1)) 1 (-1)))])))) (r1 : R.ck = 0) (r2 : R.air = []) (r3 : R.ad = clampA x) (r4 : R.w1 = []) (r5 : R.w2 = []) (r6 : R.w3 = []) (r7 : R.w4 = []) (r8 : R.rk = 0) (r9 : R.y = []) (a0 : P0.wr = []) (a1 : P0.fi = 0) (a2 : P0.sz = 0) (a3 : P0.ls_ = []) (a4 : P0.fr = 0) (a5 : P0.fw = false) (a6 : P0.lm = []) (a7 : P0.tfi = 0) (a8 : P0.tsz = 0) (a9 : P0.pt = false) (a10 : P0.du = 0) (a11 : P0.pl = []) (a12 : P0.gu = true) (a13 : P0.tu = false) (a14 : P0.lt = false) (a15 : P0.gd = false) (a16 : P0.hd = false) (a17 : P0.dr = 0) (a18 : P0.co = 0) (b0 : P1.wr = []) (b1 : P1.fi = 0) (b2 : P1.sz = 0) (b3 : P1.ls_ = []) (b4 : P1.fr = 0) (b5 : P1.fw = false) (b6 : P1.lm = []) (b7 : P1.tfi = 0) (b8 : P1.tsz = 0) (b9 : P1.pt = false) (b10 : P1.du = 0) (b11 : P1.pl = []) (b12 : P1.gu = true) (b13 : P1.tu = false) (b14 : P1.lt = false) (b15 : P1.gd = false) (b16 : P1.hd = false) (b17 : P1.dr = 0) (b18 : P1.co = 0) (hl : lv_has ls 4 [(0, .ref b), (1, .ref R.hX), (2, .ref hM), (3, .int (nI 1))]) : W p la e room_1 s m args below meth c H locs 131 10920 Qz (F0 m 28 ls []) := by
  have hR : RelR R ((va_up (fun _ _ => 0) 18 (upd (upd (fun _ => 0) 0 (-1)) 1 (-1))) 0) := ⟨by rw [r3]; have := (clampA_all x).2.2; omega, by rw [r2]; decide, by rw [r2]; exact Or.inl rfl, by rw [r2]; exact fun j hj => absurd hj (Nat.not_lt_zero j), by rw [r4]; decide, by rw [r5]; decide, by rw [r6]; decide, by rw [r7]; decide, by rw [r8]; decide, by rw [r9]; decide⟩
  have h0 := rl_init (d := 0) (by decide) P0 a0 a1 a2 a3 a4 a5 a6 a7 a8 a9 a10 a11 a12 a13 a14 a15 a16 a17 a18
  have h1 := rl_init (d := 1) (by decide) P1 b0 b1 b2 b3 b4 b5 b6 b7 b8 b9 b10 b11 b12 b13 b14 b15 b16 b17 b18
  have ho2 := ow_fold2 ho
  have e1 : bX K hM ar R.ad 0 0 0 (va_up (fun _ _ => 0) 18 (upd (upd (fun _ => 0) 0 (-1)) 1 (-1))) = bX K hM ar R.ad R.ck R.air.length 0 (va_up (fun _ _ => 0) 18 (upd (upd (fun _ => 0) 0 (-1)) 1 (-1))) := by rw [r1, r2]; rfl
  rw [e1] at ho2
  exact L_loop C hX hbl hbA hL hend (L + 3) 1 (by omega) R 0 P0 P1 _ 0 H locs ls (by decide) ⟨ho2, hR, h0, h1⟩ rfl (by omega) (by decide) hl

set_option maxHeartbeats 4000000 in
set_option maxRecDepth 100000 in
theorem L_entry {p : Program} {la : Launch} {e : Env} {s : State} {m : MethodId} {args : Array Value} {below : List Frame} {meth : Method} {c : Code} {A : Nat → Prop} {D : va_G} {K : Nat → ClassId} {Qz : State → Prop} {b L : Nat} {xs : Nat → Int32} (C : Cx p s m args meth c lw_T D vwCl (tyL K) A RXL cXL_law 4 (some .boolean)) (hX : va_X b L xs s s.heap) (hbl : b < s.heap.size) (hbA : ¬ A b) (hL : L ≤ 1537) (hend : ∀ (H : Heap) (locs : List Loc) (ls : Array Slot), va_S A s.heap H locs → W p la e room_1 s m args below meth c H locs 131 10920 Qz (F0 m 395 ls [])) {H : Heap} {locs : List Loc} {ls : Array Slot} (ho : ow D vwCl A s.heap H locs []) (hl : lv_has ls 4 [(0, .ref b)]) : W p la e room_1 s m args below meth c H locs 0 0 Qz (F0 m 0 ls []) := by
  have hx := C.1.1
  have hb := C.1.2.1
  refine o_new (fs := [.null, .null, .null, .null, .int 0]) C ho (ci := 8) (r := (RX8, TX8, 5)) rfl iX8 tyX8 tX8 nXL_7 nfX8 (Nat.le_of_ble_eq_true rfl) (Nat.le_of_ble_eq_true rfl) dXL_law_0 (fun q_1 H ho => ?_)
  have ho : ow D vwCl A s.heap H locs [[(q_1, .inr (8, [.null, .null, .null, .null, .int 0]))]] := ho
  refine lv_dup hx hb dXL_law_3 rfl ?_
  refine lv_aload_n hx hb dXL_law_4 rfl (lv_at hl 0 rfl) ?_
  refine lv_iconst (v := nI 0) hx hb dXL_law_5 (by decide) ?_
  refine o_cell C hX hbl hbA (by omega) (by decide) ho hl.1 (Nat.le_of_ble_eq_true rfl) dXL_law_6 ⟨Nat.le_of_ble_eq_true rfl, Nat.le_of_ble_eq_true rfl⟩ (fun H locs ho => ?_)
  refine W.eq (g2 := F0 m 9 ls [.int (cellV L xs), .ref q_1, .ref q_1]) rfl ?_
  refine o_callI (wr := []) (rest := [.ref q_1]) (As := [.int (cellV L xs)]) C (c_RP_init la D K q_1 (cellV L xs) ) kXL_15 vX8_init (by decide) rfl ho [0] 1 (by decide +kernel) rfl rfl hl.1 rfl (Nat.le_of_ble_eq_true rfl) dXL_law_9 102 5406 rfl rfl (by decide) (fun v u_2 H locs hq ho => ?_)
  obtain rfl := hq
  have ho : ow D vwCl A s.heap H locs [bRP K q_1 (u_2.1 0) (u_2.1 1) (u_2.1 10) (u_2.1 12) 0, bDA K (u_2.1 0) (ads [u_2.1 15, u_2.1 16]), bC K (u_2.1 1) (clampA (cellV L xs)) (u_2.1 2) (u_2.1 3) (u_2.1 4) (u_2.1 5), bB K (u_2.1 2) (u_2.1 6) 168 [] (fun _ => 0), bB K (u_2.1 3) (u_2.1 7) 18 [] (fun _ => 0), bB K (u_2.1 4) (u_2.1 8) 150 [] (fun _ => 0), bB K (u_2.1 5) (u_2.1 9) 15 [] (fun _ => 0), bB K (u_2.1 10) (u_2.1 11) 204 [] (fun _ => 0), bF K (u_2.1 12) (u_2.1 13) 0 false false false 0, bM K (u_2.1 13) (u_2.1 14) 63 [] (fun _ => 0), bD K (u_2.1 15) (u_2.2.1.1 0) (u_2.2.1.1 10) (u_2.2.1.1 15) false false, bO K (u_2.2.1.1 0) (u_2.2.1.1 1) (u_2.2.1.1 3) (u_2.2.1.1 5) (u_2.2.1.1 7) 0 false true false, bM K (u_2.2.1.1 1) (u_2.2.1.1 2) 40 [] (fun _ => 0), bH K (u_2.2.1.1 3) (u_2.2.1.1 4) u_2.2.1.2.1 0 0, bPool K u_2.2.1.2.1 u_2.2.1.2.2.1 40 (fun _ => []) (fun _ _ => 0), bM K (u_2.2.1.1 5) (u_2.2.1.1 6) 41 [] (fun _ => 0), bF K (u_2.2.1.1 7) (u_2.2.1.1 8) 0 false false false 0, bM K (u_2.2.1.1 8) (u_2.2.1.1 9) 63 [] (fun _ => 0), bIn K (u_2.2.1.1 10) (u_2.2.1.1 11) (u_2.2.1.1 13) false 0 false 0 0, bH K (u_2.2.1.1 11) (u_2.2.1.1 12) u_2.2.1.2.2.2.1 0 0, bPool K u_2.2.1.2.2.2.1 u_2.2.1.2.2.2.2 255 (fun _ => []) (fun _ _ => 0), bM K (u_2.2.1.1 13) (u_2.2.1.1 14) 318 [] (fun _ => 0), bF K (u_2.2.1.1 15) (u_2.2.1.1 16) 1 false false false 0, bM K (u_2.2.1.1 16) (u_2.2.1.1 17) 63 [] (fun _ => 0), bD K (u_2.1 16) (u_2.2.2.1 0) (u_2.2.2.1 10) (u_2.2.2.1 15) false false, bO K (u_2.2.2.1 0) (u_2.2.2.1 1) (u_2.2.2.1 3) (u_2.2.2.1 5) (u_2.2.2.1 7) 0 false true false, bM K (u_2.2.2.1 1) (u_2.2.2.1 2) 40 [] (fun _ => 0), bH K (u_2.2.2.1 3) (u_2.2.2.1 4) u_2.2.2.2.1 0 0, bPool K u_2.2.2.2.1 u_2.2.2.2.2.1 40 (fun _ => []) (fun _ _ => 0), bM K (u_2.2.2.1 5) (u_2.2.2.1 6) 41 [] (fun _ => 0), bF K (u_2.2.2.1 7) (u_2.2.2.1 8) 0 false false false 0, bM K (u_2.2.2.1 8) (u_2.2.2.1 9) 63 [] (fun _ => 0), bIn K (u_2.2.2.1 10) (u_2.2.2.1 11) (u_2.2.2.1 13) false 0 false 0 0, bH K (u_2.2.2.1 11) (u_2.2.2.1 12) u_2.2.2.2.2.2.1 0 0, bPool K u_2.2.2.2.2.2.1 u_2.2.2.2.2.2.2 255 (fun _ => []) (fun _ _ => 0), bM K (u_2.2.2.1 13) (u_2.2.2.1 14) 318 [] (fun _ => 0), bF K (u_2.2.2.1 15) (u_2.2.2.1 16) 2 false false false 0, bM K (u_2.2.2.1 16) (u_2.2.2.1 17) 63 [] (fun _ => 0)] := ho
  refine W.eq (g2 := F0 m 12 ls [.ref q_1]) rfl ?_
  refine lv_astore_n (lv' := [(1, .ref q_1), (0, .ref b)]) hx hb dXL_law_12 rfl hl (by decide) rfl (fun ls hl => ?_)
  refine o_new (fs := [.int 0, .int 0, .int 0, .null, .null, .int 0, .null, .null, .null, .null, .null, .null, .null, .null, .null, .null, .null, .null, .null, .null, .null, .null, .null, .null, .null, .null, .null, .null, .null, .null, .null, .null]) C ho (ci := 9) (r := (RX9, TX9, 32)) rfl iX9 tyX9 tX9 nXL_18 nfX9 (Nat.le_of_ble_eq_true rfl) (Nat.le_of_ble_eq_true rfl) dXL_law_13 (fun q_3 H ho => ?_)
  have ho : ow D vwCl A s.heap H locs [bRP K q_1 (u_2.1 0) (u_2.1 1) (u_2.1 10) (u_2.1 12) 0, bDA K (u_2.1 0) (ads [u_2.1 15, u_2.1 16]), bC K (u_2.1 1) (clampA (cellV L xs)) (u_2.1 2) (u_2.1 3) (u_2.1 4) (u_2.1 5), bB K (u_2.1 2) (u_2.1 6) 168 [] (fun _ => 0), bB K (u_2.1 3) (u_2.1 7) 18 [] (fun _ => 0), bB K (u_2.1 4) (u_2.1 8) 150 [] (fun _ => 0), bB K (u_2.1 5) (u_2.1 9) 15 [] (fun _ => 0), bB K (u_2.1 10) (u_2.1 11) 204 [] (fun _ => 0), bF K (u_2.1 12) (u_2.1 13) 0 false false false 0, bM K (u_2.1 13) (u_2.1 14) 63 [] (fun _ => 0), bD K (u_2.1 15) (u_2.2.1.1 0) (u_2.2.1.1 10) (u_2.2.1.1 15) false false, bO K (u_2.2.1.1 0) (u_2.2.1.1 1) (u_2.2.1.1 3) (u_2.2.1.1 5) (u_2.2.1.1 7) 0 false true false, bM K (u_2.2.1.1 1) (u_2.2.1.1 2) 40 [] (fun _ => 0), bH K (u_2.2.1.1 3) (u_2.2.1.1 4) u_2.2.1.2.1 0 0, bPool K u_2.2.1.2.1 u_2.2.1.2.2.1 40 (fun _ => []) (fun _ _ => 0), bM K (u_2.2.1.1 5) (u_2.2.1.1 6) 41 [] (fun _ => 0), bF K (u_2.2.1.1 7) (u_2.2.1.1 8) 0 false false false 0, bM K (u_2.2.1.1 8) (u_2.2.1.1 9) 63 [] (fun _ => 0), bIn K (u_2.2.1.1 10) (u_2.2.1.1 11) (u_2.2.1.1 13) false 0 false 0 0, bH K (u_2.2.1.1 11) (u_2.2.1.1 12) u_2.2.1.2.2.2.1 0 0, bPool K u_2.2.1.2.2.2.1 u_2.2.1.2.2.2.2 255 (fun _ => []) (fun _ _ => 0), bM K (u_2.2.1.1 13) (u_2.2.1.1 14) 318 [] (fun _ => 0), bF K (u_2.2.1.1 15) (u_2.2.1.1 16) 1 false false false 0, bM K (u_2.2.1.1 16) (u_2.2.1.1 17) 63 [] (fun _ => 0), bD K (u_2.1 16) (u_2.2.2.1 0) (u_2.2.2.1 10) (u_2.2.2.1 15) false false, bO K (u_2.2.2.1 0) (u_2.2.2.1 1) (u_2.2.2.1 3) (u_2.2.2.1 5) (u_2.2.2.1 7) 0 false true false, bM K (u_2.2.2.1 1) (u_2.2.2.1 2) 40 [] (fun _ => 0), bH K (u_2.2.2.1 3) (u_2.2.2.1 4) u_2.2.2.2.1 0 0, bPool K u_2.2.2.2.1 u_2.2.2.2.2.1 40 (fun _ => []) (fun _ _ => 0), bM K (u_2.2.2.1 5) (u_2.2.2.1 6) 41 [] (fun _ => 0), bF K (u_2.2.2.1 7) (u_2.2.2.1 8) 0 false false false 0, bM K (u_2.2.2.1 8) (u_2.2.2.1 9) 63 [] (fun _ => 0), bIn K (u_2.2.2.1 10) (u_2.2.2.1 11) (u_2.2.2.1 13) false 0 false 0 0, bH K (u_2.2.2.1 11) (u_2.2.2.1 12) u_2.2.2.2.2.2.1 0 0, bPool K u_2.2.2.2.2.2.1 u_2.2.2.2.2.2.2 255 (fun _ => []) (fun _ _ => 0), bM K (u_2.2.2.1 13) (u_2.2.2.1 14) 318 [] (fun _ => 0), bF K (u_2.2.2.1 15) (u_2.2.2.1 16) 2 false false false 0, bM K (u_2.2.2.1 16) (u_2.2.2.1 17) 63 [] (fun _ => 0), [(q_3, .inr (9, [.int 0, .int 0, .int 0, .null, .null, .int 0, .null, .null, .null, .null, .null, .null, .null, .null, .null, .null, .null, .null, .null, .null, .null, .null, .null, .null, .null, .null, .null, .null, .null, .null, .null, .null]))]] := ho
  refine lv_dup hx hb dXL_law_16 rfl ?_
  refine lv_aload_n hx hb dXL_law_17 rfl (lv_at hl 1 rfl) ?_
  refine lv_iconst (v := nI 0) hx hb dXL_law_18 (by decide) ?_
  refine o_cell C hX hbl hbA (by omega) (by decide) ho hl.1 (Nat.le_of_ble_eq_true rfl) dXL_law_19 ⟨Nat.le_of_ble_eq_true rfl, Nat.le_of_ble_eq_true rfl⟩ (fun H locs ho => ?_)
  refine W.eq (g2 := F0 m 22 ls [.int (cellV L xs), .ref q_3, .ref q_3]) rfl ?_
  refine o_callI (wr := [bRP K q_1 (u_2.1 0) (u_2.1 1) (u_2.1 10) (u_2.1 12) 0, bDA K (u_2.1 0) (ads [u_2.1 15, u_2.1 16]), bC K (u_2.1 1) (clampA (cellV L xs)) (u_2.1 2) (u_2.1 3) (u_2.1 4) (u_2.1 5), bB K (u_2.1 2) (u_2.1 6) 168 [] (fun _ => 0), bB K (u_2.1 3) (u_2.1 7) 18 [] (fun _ => 0), bB K (u_2.1 4) (u_2.1 8) 150 [] (fun _ => 0), bB K (u_2.1 5) (u_2.1 9) 15 [] (fun _ => 0), bB K (u_2.1 10) (u_2.1 11) 204 [] (fun _ => 0), bF K (u_2.1 12) (u_2.1 13) 0 false false false 0, bM K (u_2.1 13) (u_2.1 14) 63 [] (fun _ => 0), bD K (u_2.1 15) (u_2.2.1.1 0) (u_2.2.1.1 10) (u_2.2.1.1 15) false false, bO K (u_2.2.1.1 0) (u_2.2.1.1 1) (u_2.2.1.1 3) (u_2.2.1.1 5) (u_2.2.1.1 7) 0 false true false, bM K (u_2.2.1.1 1) (u_2.2.1.1 2) 40 [] (fun _ => 0), bH K (u_2.2.1.1 3) (u_2.2.1.1 4) u_2.2.1.2.1 0 0, bPool K u_2.2.1.2.1 u_2.2.1.2.2.1 40 (fun _ => []) (fun _ _ => 0), bM K (u_2.2.1.1 5) (u_2.2.1.1 6) 41 [] (fun _ => 0), bF K (u_2.2.1.1 7) (u_2.2.1.1 8) 0 false false false 0, bM K (u_2.2.1.1 8) (u_2.2.1.1 9) 63 [] (fun _ => 0), bIn K (u_2.2.1.1 10) (u_2.2.1.1 11) (u_2.2.1.1 13) false 0 false 0 0, bH K (u_2.2.1.1 11) (u_2.2.1.1 12) u_2.2.1.2.2.2.1 0 0, bPool K u_2.2.1.2.2.2.1 u_2.2.1.2.2.2.2 255 (fun _ => []) (fun _ _ => 0), bM K (u_2.2.1.1 13) (u_2.2.1.1 14) 318 [] (fun _ => 0), bF K (u_2.2.1.1 15) (u_2.2.1.1 16) 1 false false false 0, bM K (u_2.2.1.1 16) (u_2.2.1.1 17) 63 [] (fun _ => 0), bD K (u_2.1 16) (u_2.2.2.1 0) (u_2.2.2.1 10) (u_2.2.2.1 15) false false, bO K (u_2.2.2.1 0) (u_2.2.2.1 1) (u_2.2.2.1 3) (u_2.2.2.1 5) (u_2.2.2.1 7) 0 false true false, bM K (u_2.2.2.1 1) (u_2.2.2.1 2) 40 [] (fun _ => 0), bH K (u_2.2.2.1 3) (u_2.2.2.1 4) u_2.2.2.2.1 0 0, bPool K u_2.2.2.2.1 u_2.2.2.2.2.1 40 (fun _ => []) (fun _ _ => 0), bM K (u_2.2.2.1 5) (u_2.2.2.1 6) 41 [] (fun _ => 0), bF K (u_2.2.2.1 7) (u_2.2.2.1 8) 0 false false false 0, bM K (u_2.2.2.1 8) (u_2.2.2.1 9) 63 [] (fun _ => 0), bIn K (u_2.2.2.1 10) (u_2.2.2.1 11) (u_2.2.2.1 13) false 0 false 0 0, bH K (u_2.2.2.1 11) (u_2.2.2.1 12) u_2.2.2.2.2.2.1 0 0, bPool K u_2.2.2.2.2.2.1 u_2.2.2.2.2.2.2 255 (fun _ => []) (fun _ _ => 0), bM K (u_2.2.2.1 13) (u_2.2.2.1 14) 318 [] (fun _ => 0), bF K (u_2.2.2.1 15) (u_2.2.2.1 16) 2 false false false 0, bM K (u_2.2.2.1 16) (u_2.2.2.1 17) 63 [] (fun _ => 0)]) (rest := [.ref q_3]) (As := [.int (cellV L xs)]) C (c_M_init la D K q_3 (cellV L xs) ) kXL_20 vX9_init (by decide) rfl ho [38, 0, 1, 2, 3, 4, 5, 6, 7, 8, 9, 10, 11, 12, 13, 14, 15, 16, 17, 18, 19, 20, 21, 22, 23, 24, 25, 26, 27, 28, 29, 30, 31, 32, 33, 34, 35, 36, 37] 39 (by decide +kernel) rfl rfl hl.1 rfl (Nat.le_of_ble_eq_true rfl) dXL_law_22 131 10920 rfl rfl (by decide) (fun v u_4 H locs hq ho => ?_)
  obtain rfl := hq
  have ho : ow D vwCl A s.heap H locs [bX K q_3 u_4 (clampA (cellV L xs)) 0 0 0 (va_up (fun _ _ => 0) 18 (upd (upd (fun _ => 0) 0 (-1)) 1 (-1))), bRP K q_1 (u_2.1 0) (u_2.1 1) (u_2.1 10) (u_2.1 12) 0, bDA K (u_2.1 0) (ads [u_2.1 15, u_2.1 16]), bC K (u_2.1 1) (clampA (cellV L xs)) (u_2.1 2) (u_2.1 3) (u_2.1 4) (u_2.1 5), bB K (u_2.1 2) (u_2.1 6) 168 [] (fun _ => 0), bB K (u_2.1 3) (u_2.1 7) 18 [] (fun _ => 0), bB K (u_2.1 4) (u_2.1 8) 150 [] (fun _ => 0), bB K (u_2.1 5) (u_2.1 9) 15 [] (fun _ => 0), bB K (u_2.1 10) (u_2.1 11) 204 [] (fun _ => 0), bF K (u_2.1 12) (u_2.1 13) 0 false false false 0, bM K (u_2.1 13) (u_2.1 14) 63 [] (fun _ => 0), bD K (u_2.1 15) (u_2.2.1.1 0) (u_2.2.1.1 10) (u_2.2.1.1 15) false false, bO K (u_2.2.1.1 0) (u_2.2.1.1 1) (u_2.2.1.1 3) (u_2.2.1.1 5) (u_2.2.1.1 7) 0 false true false, bM K (u_2.2.1.1 1) (u_2.2.1.1 2) 40 [] (fun _ => 0), bH K (u_2.2.1.1 3) (u_2.2.1.1 4) u_2.2.1.2.1 0 0, bPool K u_2.2.1.2.1 u_2.2.1.2.2.1 40 (fun _ => []) (fun _ _ => 0), bM K (u_2.2.1.1 5) (u_2.2.1.1 6) 41 [] (fun _ => 0), bF K (u_2.2.1.1 7) (u_2.2.1.1 8) 0 false false false 0, bM K (u_2.2.1.1 8) (u_2.2.1.1 9) 63 [] (fun _ => 0), bIn K (u_2.2.1.1 10) (u_2.2.1.1 11) (u_2.2.1.1 13) false 0 false 0 0, bH K (u_2.2.1.1 11) (u_2.2.1.1 12) u_2.2.1.2.2.2.1 0 0, bPool K u_2.2.1.2.2.2.1 u_2.2.1.2.2.2.2 255 (fun _ => []) (fun _ _ => 0), bM K (u_2.2.1.1 13) (u_2.2.1.1 14) 318 [] (fun _ => 0), bF K (u_2.2.1.1 15) (u_2.2.1.1 16) 1 false false false 0, bM K (u_2.2.1.1 16) (u_2.2.1.1 17) 63 [] (fun _ => 0), bD K (u_2.1 16) (u_2.2.2.1 0) (u_2.2.2.1 10) (u_2.2.2.1 15) false false, bO K (u_2.2.2.1 0) (u_2.2.2.1 1) (u_2.2.2.1 3) (u_2.2.2.1 5) (u_2.2.2.1 7) 0 false true false, bM K (u_2.2.2.1 1) (u_2.2.2.1 2) 40 [] (fun _ => 0), bH K (u_2.2.2.1 3) (u_2.2.2.1 4) u_2.2.2.2.1 0 0, bPool K u_2.2.2.2.1 u_2.2.2.2.2.1 40 (fun _ => []) (fun _ _ => 0), bM K (u_2.2.2.1 5) (u_2.2.2.1 6) 41 [] (fun _ => 0), bF K (u_2.2.2.1 7) (u_2.2.2.1 8) 0 false false false 0, bM K (u_2.2.2.1 8) (u_2.2.2.1 9) 63 [] (fun _ => 0), bIn K (u_2.2.2.1 10) (u_2.2.2.1 11) (u_2.2.2.1 13) false 0 false 0 0, bH K (u_2.2.2.1 11) (u_2.2.2.1 12) u_2.2.2.2.2.2.1 0 0, bPool K u_2.2.2.2.2.2.1 u_2.2.2.2.2.2.2 255 (fun _ => []) (fun _ _ => 0), bM K (u_2.2.2.1 13) (u_2.2.2.1 14) 318 [] (fun _ => 0), bF K (u_2.2.2.1 15) (u_2.2.2.1 16) 2 false false false 0, bM K (u_2.2.2.1 16) (u_2.2.2.1 17) 63 [] (fun _ => 0)] := ho
  refine W.eq (g2 := F0 m 25 ls [.ref q_3]) rfl ?_
  refine lv_astore_n (lv' := [(2, .ref q_3), (1, .ref q_1), (0, .ref b)]) hx hb dXL_law_25 rfl hl (by decide) rfl (fun ls hl => ?_)
  refine lv_iconst (v := nI 1) hx hb dXL_law_26 (by decide) ?_
  refine lv_istore_n (lv' := [(3, .int (nI 1)), (2, .ref q_3), (1, .ref q_1), (0, .ref b)]) hx hb dXL_law_27 rfl hl (by decide) rfl (fun ls hl => ?_)
  have ho : ow D vwCl A s.heap H locs [bRP K q_1 (u_2.1 0) (u_2.1 1) (u_2.1 10) (u_2.1 12) 0, bDA K (u_2.1 0) (ads [u_2.1 15, u_2.1 16]), bC K (u_2.1 1) (clampA (cellV L xs)) (u_2.1 2) (u_2.1 3) (u_2.1 4) (u_2.1 5), bB K (u_2.1 2) (u_2.1 6) 168 [] (fun _ => 0), bB K (u_2.1 3) (u_2.1 7) 18 [] (fun _ => 0), bB K (u_2.1 4) (u_2.1 8) 150 [] (fun _ => 0), bB K (u_2.1 5) (u_2.1 9) 15 [] (fun _ => 0), bB K (u_2.1 10) (u_2.1 11) 204 [] (fun _ => 0), bF K (u_2.1 12) (u_2.1 13) 0 false false false 0, bM K (u_2.1 13) (u_2.1 14) 63 [] (fun _ => 0), bD K (u_2.1 15) (u_2.2.1.1 0) (u_2.2.1.1 10) (u_2.2.1.1 15) false false, bO K (u_2.2.1.1 0) (u_2.2.1.1 1) (u_2.2.1.1 3) (u_2.2.1.1 5) (u_2.2.1.1 7) 0 false true false, bM K (u_2.2.1.1 1) (u_2.2.1.1 2) 40 [] (fun _ => 0), bH K (u_2.2.1.1 3) (u_2.2.1.1 4) u_2.2.1.2.1 0 0, bPool K u_2.2.1.2.1 u_2.2.1.2.2.1 40 (fun _ => []) (fun _ _ => 0), bM K (u_2.2.1.1 5) (u_2.2.1.1 6) 41 [] (fun _ => 0), bF K (u_2.2.1.1 7) (u_2.2.1.1 8) 0 false false false 0, bM K (u_2.2.1.1 8) (u_2.2.1.1 9) 63 [] (fun _ => 0), bIn K (u_2.2.1.1 10) (u_2.2.1.1 11) (u_2.2.1.1 13) false 0 false 0 0, bH K (u_2.2.1.1 11) (u_2.2.1.1 12) u_2.2.1.2.2.2.1 0 0, bPool K u_2.2.1.2.2.2.1 u_2.2.1.2.2.2.2 255 (fun _ => []) (fun _ _ => 0), bM K (u_2.2.1.1 13) (u_2.2.1.1 14) 318 [] (fun _ => 0), bF K (u_2.2.1.1 15) (u_2.2.1.1 16) 1 false false false 0, bM K (u_2.2.1.1 16) (u_2.2.1.1 17) 63 [] (fun _ => 0), bD K (u_2.1 16) (u_2.2.2.1 0) (u_2.2.2.1 10) (u_2.2.2.1 15) false false, bO K (u_2.2.2.1 0) (u_2.2.2.1 1) (u_2.2.2.1 3) (u_2.2.2.1 5) (u_2.2.2.1 7) 0 false true false, bM K (u_2.2.2.1 1) (u_2.2.2.1 2) 40 [] (fun _ => 0), bH K (u_2.2.2.1 3) (u_2.2.2.1 4) u_2.2.2.2.1 0 0, bPool K u_2.2.2.2.1 u_2.2.2.2.2.1 40 (fun _ => []) (fun _ _ => 0), bM K (u_2.2.2.1 5) (u_2.2.2.1 6) 41 [] (fun _ => 0), bF K (u_2.2.2.1 7) (u_2.2.2.1 8) 0 false false false 0, bM K (u_2.2.2.1 8) (u_2.2.2.1 9) 63 [] (fun _ => 0), bIn K (u_2.2.2.1 10) (u_2.2.2.1 11) (u_2.2.2.1 13) false 0 false 0 0, bH K (u_2.2.2.1 11) (u_2.2.2.1 12) u_2.2.2.2.2.2.1 0 0, bPool K u_2.2.2.2.2.2.1 u_2.2.2.2.2.2.2 255 (fun _ => []) (fun _ _ => 0), bM K (u_2.2.2.1 13) (u_2.2.2.1 14) 318 [] (fun _ => 0), bF K (u_2.2.2.1 15) (u_2.2.2.1 16) 2 false false false 0, bM K (u_2.2.2.1 16) (u_2.2.2.1 17) 63 [] (fun _ => 0), bX K q_3 u_4 (clampA (cellV L xs)) 0 0 0 (va_up (fun _ _ => 0) 18 (upd (upd (fun _ => 0) 0 (-1)) 1 (-1)))] := ho.re [1, 2, 3, 4, 5, 6, 7, 8, 9, 10, 11, 12, 13, 14, 15, 16, 17, 18, 19, 20, 21, 22, 23, 24, 25, 26, 27, 28, 29, 30, 31, 32, 33, 34, 35, 36, 37, 38, 0] 39 (by decide +kernel) rfl rfl
  exact L_start C hX hbl hbA hL hend (cellV L xs) ((q_1, u_2.1 0, u_2.1 1, u_2.1 10, u_2.1 12, 0, ads [u_2.1 15, u_2.1 16], u_2.1 11, [], fun _ => 0, clampA (cellV L xs), u_2.1 2, u_2.1 3, u_2.1 4, u_2.1 5, u_2.1 6, u_2.1 7, u_2.1 8, u_2.1 9, [], [], [], [], fun _ => 0, fun _ => 0, fun _ => 0, fun _ => 0, u_2.1 13, 0, false, false, false, 0, u_2.1 14, [], fun _ => 0) : RPic) ((u_2.2.1.1 0, u_2.2.1.1 10, u_2.2.1.1 15, false, false, u_2.2.1.1 1, u_2.2.1.1 3, u_2.2.1.1 5, u_2.2.1.1 7, 0, false, true, false, u_2.2.1.1 2, [], fun _ => 0, u_2.2.1.1 4, u_2.2.1.2.1, 0, 0, u_2.2.1.2.2.1, fun _ => [], fun _ _ => 0, u_2.2.1.1 6, [], fun _ => 0, u_2.2.1.1 8, 0, false, false, false, 0, u_2.2.1.1 9, [], fun _ => 0, u_2.2.1.1 11, u_2.2.1.1 13, false, 0, false, 0, 0, u_2.2.1.1 12, u_2.2.1.2.2.2.1, 0, 0, u_2.2.1.2.2.2.2, fun _ => [], fun _ _ => 0, u_2.2.1.1 14, [], fun _ => 0, u_2.2.1.1 16, false, false, false, 0, u_2.2.1.1 17, fun _ => 0) : DPic) ((u_2.2.2.1 0, u_2.2.2.1 10, u_2.2.2.1 15, false, false, u_2.2.2.1 1, u_2.2.2.1 3, u_2.2.2.1 5, u_2.2.2.1 7, 0, false, true, false, u_2.2.2.1 2, [], fun _ => 0, u_2.2.2.1 4, u_2.2.2.2.1, 0, 0, u_2.2.2.2.2.1, fun _ => [], fun _ _ => 0, u_2.2.2.1 6, [], fun _ => 0, u_2.2.2.1 8, 0, false, false, false, 0, u_2.2.2.1 9, [], fun _ => 0, u_2.2.2.1 11, u_2.2.2.1 13, false, 0, false, 0, 0, u_2.2.2.1 12, u_2.2.2.2.2.2.1, 0, 0, u_2.2.2.2.2.2.2, fun _ => [], fun _ _ => 0, u_2.2.2.1 14, [], fun _ => 0, u_2.2.2.1 16, false, false, false, 0, u_2.2.2.1 17, fun _ => 0) : DPic) ho rfl rfl rfl rfl rfl rfl rfl rfl rfl rfl rfl rfl rfl rfl rfl rfl rfl rfl rfl rfl rfl rfl rfl rfl rfl rfl rfl rfl rfl rfl rfl rfl rfl rfl rfl rfl rfl rfl rfl rfl rfl rfl rfl rfl rfl rfl rfl (lv_sub hl [3, 2, 1, 0] rfl)
