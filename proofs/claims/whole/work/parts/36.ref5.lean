set_option maxHeartbeats 4000000 in
set_option maxRecDepth 100000 in
theorem c_M_newFrameB (la : Launch) (D : va_G) (K : Nat → ClassId) (h : Nat) (ar : Nat → Nat) (ad : Nat) (ck : Nat) (bi : Nat) (lo : Nat) (F : Nat → Nat → Int32) (d : Nat) (pp : Bool) (at_ : Nat) (sl_ : Nat) (tu : Bool) (q2d : d < 2) (qa : F 9 d = nI at_) (qs : F 8 d = nI sl_) (qp : F 21 d = bI pp) (qt : F 22 d = bI tu) (qal : at_ < sl_) (qsl : sl_ ≤ 41) : MT la D K yX9_newFrame cX9_newFrame 5 none (rmL 1 0 0) [.ref h, .int (nI d)] [bX K h ar ad ck bi lo F] Unit (fun v _ => v = none) (fun _ => [bX K h ar ad ck bi lo (nfF F d pp at_ sl_ tu)]) := by
  refine Mt.ofW [(0, .ref h), (1, .int (nI d))] (by decide) rfl (Nat.le_of_ble_eq_true rfl) ?_
  intro p e s m args below meth c A ls H locs Qz hQ C hin hl ho
  have hx := C.1.1
  have hb := C.1.2.1
  cases pp
  · skip
    refine lv_aload_n hx hb dX9_newFrame_0 rfl (lv_at hl 0 rfl) ?_
    refine o_get (v := .ref (ar 9)) C ho 0 0 rfl rfl rfl 13 fX9_37 rfl dX9_newFrame_1 ?_
    refine lv_iload_n hx hb dX9_newFrame_4 rfl (lv_at hl 1 rfl) ?_
    refine o_iald (v := nI at_) C ho 0 10 rfl rfl 0 rfl d rfl (by omega) (by omega) qa dX9_newFrame_5 ?_
    refine lv_aload_n hx hb dX9_newFrame_6 rfl (lv_at hl 0 rfl) ?_
    refine o_get (v := .ref (ar 8)) C ho 0 0 rfl rfl rfl 12 fX9_34 rfl dX9_newFrame_7 ?_
    refine lv_iload_n hx hb dX9_newFrame_10 rfl (lv_at hl 1 rfl) ?_
    refine o_iald (v := nI sl_) C ho 0 9 rfl rfl 0 rfl d rfl (by omega) (by omega) qs dX9_newFrame_11 ?_
    refine o_icmp_ne (tgt := 20) hx hb dX9_newFrame_12 (by decide) (by first | omega | exact and1_lt _) (by first | omega | exact and1_lt _) (fun c_1 => ?_) (fun c_1 => ?_)
    · skip
      refine lv_aload_n hx hb dX9_newFrame_20 rfl (lv_at hl 0 rfl) ?_
      refine o_get (v := .ref (ar 21)) C ho 0 0 rfl rfl rfl 25 fX9_74 rfl dX9_newFrame_21 ?_
      refine lv_iload_n hx hb dX9_newFrame_24 rfl (lv_at hl 1 rfl) ?_
      refine o_zald (v := bI false) C ho 0 22 rfl rfl 3 rfl d rfl (by omega) (by decide) qp dX9_newFrame_25 ?_
      refine o_ifb_eq (tgt := 34) hx hb dX9_newFrame_26 (by decide) (fun _ => ?_) (fun c9 => absurd c9 (by decide))
      refine lv_bipush (v := nI 9) hx hb dX9_newFrame_34 (by decide) ?_
      refine lv_istore_n (lv' := [(2, .int (nI 9)), (0, .ref h), (1, .int (nI d))]) hx hb dX9_newFrame_36 rfl hl (by decide) rfl (fun ls hl => ?_)
      refine lv_aload_n hx hb dX9_newFrame_37 rfl (lv_at hl 1 rfl) ?_
      refine o_get (v := .ref (ar 8)) C ho 0 0 rfl rfl rfl 12 fX9_34 rfl dX9_newFrame_38 ?_
      refine lv_iload_n hx hb dX9_newFrame_41 rfl (lv_at hl 2 rfl) ?_
      refine o_iald (v := nI sl_) C ho 0 9 rfl rfl 0 rfl d rfl (by omega) (by omega) qs dX9_newFrame_42 ?_
      refine lv_aload_n hx hb dX9_newFrame_43 rfl (lv_at hl 1 rfl) ?_
      refine o_get (v := .ref (ar 9)) C ho 0 0 rfl rfl rfl 13 fX9_37 rfl dX9_newFrame_44 ?_
      refine lv_iload_n hx hb dX9_newFrame_47 rfl (lv_at hl 2 rfl) ?_
      refine o_iald (v := nI at_) C ho 0 10 rfl rfl 0 rfl d rfl (by omega) (by omega) qa dX9_newFrame_48 ?_
      refine o_sub hx hb dX9_newFrame_49 (by omega) ?_
      refine lv_istore_n (lv' := [(3, .int (nI (sl_ - at_))), (2, .int (nI 9)), (0, .ref h), (1, .int (nI d))]) hx hb dX9_newFrame_50 rfl hl (by decide) rfl (fun ls hl => ?_)
      refine lv_aload_n hx hb dX9_newFrame_51 rfl (lv_at hl 2 rfl) ?_
      refine o_get (v := .ref (ar 11)) C ho 0 0 rfl rfl rfl 15 fX9_43 rfl dX9_newFrame_52 ?_
      refine lv_iload_n hx hb dX9_newFrame_55 rfl (lv_at hl 3 rfl) ?_
      refine lv_iload_n hx hb dX9_newFrame_56 rfl (lv_at hl 0 rfl) ?_
      refine lv_iload_n hx hb dX9_newFrame_57 rfl (lv_at hl 1 rfl) ?_
      refine o_icmp_ge (tgt := 65) hx hb dX9_newFrame_58 (by decide) (by first | omega | exact and1_lt _) (by first | omega | exact and1_lt _) (fun c_2 => ?_) (fun c_2 => ?_)
      · skip
        refine lv_iload_n hx hb dX9_newFrame_65 rfl (lv_at hl 1 rfl) ?_
        refine o_top (y := nI (nxt (!false) (sl_ - at_))) (congrArg nI (show _ = min (sl_ - at_) 9 by omega)) ?_
        refine o_iast (bs' := [bX K h ar ad ck bi lo (va_up F 11 (upd (F 11) d (nI (nxt (!false) (sl_ - at_)))))]) C ho 0 12 rfl rfl 0 rfl d rfl (by omega) (by decide) dX9_newFrame_66 rfl (fun H locs ho => ?_)
        have hn9 : nxt (!false) (sl_ - at_) ≤ 13 := by unfold nxt; dsimp only [cond, not]; omega
        have hn8 : nxt (!false) (sl_ - at_) ≤ sl_ - at_ := by unfold nxt; omega
        refine lv_aload_n hx hb dX9_newFrame_67 rfl (lv_at hl 2 rfl) ?_
        refine o_get (v := .ref (ar 12)) C ho 0 0 rfl rfl rfl 16 fX9_46 rfl dX9_newFrame_68 ?_
        refine lv_iload_n hx hb dX9_newFrame_71 rfl (lv_at hl 3 rfl) ?_
        refine lv_aload_n hx hb dX9_newFrame_72 rfl (lv_at hl 2 rfl) ?_
        refine o_get (v := .ref (ar 21)) C ho 0 0 rfl rfl rfl 25 fX9_74 rfl dX9_newFrame_73 ?_
        refine lv_iload_n hx hb dX9_newFrame_76 rfl (lv_at hl 3 rfl) ?_
        refine o_zald (v := bI false) C ho 0 22 rfl rfl 3 rfl d rfl (by omega) (by decide) qp dX9_newFrame_77 ?_
        refine o_ifb_eq (tgt := 85) hx hb dX9_newFrame_78 (by decide) (fun _ => ?_) (fun c9 => absurd c9 (by decide))
        refine lv_iconst (v := nI 3) hx hb dX9_newFrame_85 (by decide) ?_
        refine o_iast (bs' := [bX K h ar ad ck bi lo (va_up (va_up F 11 (upd (F 11) d (nI (nxt (!false) (sl_ - at_))))) 12 (upd (F 12) d (nI 3)))]) C ho 0 13 rfl rfl 0 rfl d rfl (by omega) (by decide) dX9_newFrame_86 rfl (fun H locs ho => ?_)
        refine lv_aload_n hx hb dX9_newFrame_87 rfl (lv_at hl 2 rfl) ?_
        refine o_get (v := .ref (ar 13)) C ho 0 0 rfl rfl rfl 17 fX9_49 rfl dX9_newFrame_88 ?_
        refine lv_iload_n hx hb dX9_newFrame_91 rfl (lv_at hl 3 rfl) ?_
        refine lv_aload_n hx hb dX9_newFrame_92 rfl (lv_at hl 2 rfl) ?_
        refine o_get (v := .ref (ar 9)) C ho 0 0 rfl rfl rfl 13 fX9_37 rfl dX9_newFrame_93 ?_
        refine lv_iload_n hx hb dX9_newFrame_96 rfl (lv_at hl 3 rfl) ?_
        refine o_iald (v := nI at_) C ho 0 10 rfl rfl 0 rfl d rfl (by omega) (by omega) qa dX9_newFrame_97 ?_
        refine o_if_ne (tgt := 105) hx hb dX9_newFrame_98 (by decide) (by omega) (fun c_3 => ?_) (fun c_3 => ?_)
        · skip
          refine lv_iconst (v := nI 0) hx hb dX9_newFrame_105 (by decide) ?_
          refine o_top (y := bI false) (rfl) ?_
          refine o_zast (bs' := [bX K h ar ad ck bi lo (va_up (va_up (va_up F 11 (upd (F 11) d (nI (nxt (!false) (sl_ - at_))))) 12 (upd (F 12) d (nI 3))) 13 (upd (F 13) d (bI false)))]) C ho 0 14 rfl rfl 3 rfl d rfl (by omega) (by decide) dX9_newFrame_106 rfl (fun H locs ho => ?_)
          have e_4 : bX K h ar ad ck bi lo (va_up (va_up (va_up F 11 (upd (F 11) d (nI (nxt (!false) (sl_ - at_))))) 12 (upd (F 12) d (nI 3))) 13 (upd (F 13) d (bI false))) = bX K h ar ad ck bi lo (va_up (va_up (va_up F 11 (upd (F 11) d (nI (nxt (!false) (sl_ - at_))))) 12 (upd (F 12) d (nI 3))) 13 (upd (F 13) d (bI (decide (at_ = 0))))) := by rw [decide_eq_false c_3]
          have ho : ow D vwCl A s.heap H locs [bX K h ar ad ck bi lo (va_up (va_up (va_up F 11 (upd (F 11) d (nI (nxt (!false) (sl_ - at_))))) 12 (upd (F 12) d (nI 3))) 13 (upd (F 13) d (bI (decide (at_ = 0)))))] := by rw [← e_4]; exact ho
          refine lv_iconst (v := nI 0) hx hb dX9_newFrame_107 (by decide) ?_
          refine lv_istore (lv' := [(4, .int (nI 0)), (3, .int (nI (sl_ - at_))), (2, .int (nI 9)), (0, .ref h), (1, .int (nI d))]) hx hb dX9_newFrame_108 hl (by decide) rfl (fun ls hl => ?_)
          have e_5 : bX K h ar ad ck bi lo (va_up (va_up (va_up F 11 (upd (F 11) d (nI (nxt (!false) (sl_ - at_))))) 12 (upd (F 12) d (nI 3))) 13 (upd (F 13) d (bI (decide (at_ = 0))))) = bX K h ar ad ck bi lo (va_up (va_up (va_up (va_up F 11 (upd (F 11) d (nI (nxt (!false) (sl_ - at_))))) 12 (upd (F 12) d (nI 3))) 13 (upd (F 13) d (bI (decide (at_ = 0))))) 14 (va_cpy (F 10) (F 14) (41 * d + at_) (13 * d) 0)) := by rw [cpy_0]; exact congrArg (bX K h ar ad ck bi lo) (up_1 rfl)
          have ho : ow D vwCl A s.heap H locs [bX K h ar ad ck bi lo (va_up (va_up (va_up (va_up F 11 (upd (F 11) d (nI (nxt (!false) (sl_ - at_))))) 12 (upd (F 12) d (nI 3))) 13 (upd (F 13) d (bI (decide (at_ = 0))))) 14 (va_cpy (F 10) (F 14) (41 * d + at_) (13 * d) 0))] := by rw [← e_5]; exact ho
          have LP110 : ∀ (fuel : Nat) (i : Nat) (_ : (nxt (!false) (sl_ - at_)) - i < fuel) (_ : i ≤ nxt (!false) (sl_ - at_)) (H : Heap) (locs : List Loc) (ls : Array Slot) (_ : ow D vwCl A s.heap H locs [bX K h ar ad ck bi lo (va_up (va_up (va_up (va_up F 11 (upd (F 11) d (nI (nxt (!false) (sl_ - at_))))) 12 (upd (F 12) d (nI 3))) 13 (upd (F 13) d (bI (decide (at_ = 0))))) 14 (va_cpy (F 10) (F 14) (41 * d + at_) (13 * d) i))]) (_ : lv_has ls 5 [(0, .ref h), (1, .int (nI d)), (4, .int (nI i))]), W p la e (rmL 1 0 0) s m args below meth c H locs 0 0 Qz (F0 m 110 ls []) := by
            intro fuel
            induction fuel with
            | zero => intro i h0; exact absurd h0 (Nat.not_lt_zero _)
            | succ fuel ih110 =>
              intro i hfu hi H locs ls ho hl
              refine lv_iload hx hb dX9_newFrame_110 (lv_at hl 2 rfl) ?_
              refine lv_aload_n hx hb dX9_newFrame_112 rfl (lv_at hl 0 rfl) ?_
              refine o_get (v := .ref (ar 11)) C ho 0 0 rfl rfl rfl 15 fX9_43 rfl dX9_newFrame_113 ?_
              refine lv_iload_n hx hb dX9_newFrame_116 rfl (lv_at hl 1 rfl) ?_
              refine o_iald (v := nI (nxt (!false) (sl_ - at_))) C ho 0 12 rfl rfl 0 rfl d rfl (by omega) (by omega) pk_us dX9_newFrame_117 ?_
              refine o_icmp_ge (tgt := 158) hx hb dX9_newFrame_118 (by decide) (by first | omega | exact and1_lt _) (by first | omega | exact and1_lt _) (fun c_6 => ?_) (fun c_6 => ?_)
              · skip
                have e_7 : bX K h ar ad ck bi lo (va_up (va_up (va_up (va_up F 11 (upd (F 11) d (nI (nxt (!false) (sl_ - at_))))) 12 (upd (F 12) d (nI 3))) 13 (upd (F 13) d (bI (decide (at_ = 0))))) 14 (va_cpy (F 10) (F 14) (41 * d + at_) (13 * d) i)) = bX K h ar ad ck bi lo (va_up (va_up (va_up (va_up F 11 (upd (F 11) d (nI (nxt (!false) (sl_ - at_))))) 12 (upd (F 12) d (nI 3))) 13 (upd (F 13) d (bI (decide (at_ = 0))))) 14 (va_cpy (F 10) (F 14) (41 * d + at_) (13 * d) (nxt (!false) (sl_ - at_)))) := by rw [show i = nxt (!false) (sl_ - at_) by omega]
                have ho : ow D vwCl A s.heap H locs [bX K h ar ad ck bi lo (va_up (va_up (va_up (va_up F 11 (upd (F 11) d (nI (nxt (!false) (sl_ - at_))))) 12 (upd (F 12) d (nI 3))) 13 (upd (F 13) d (bI (decide (at_ = 0))))) 14 (va_cpy (F 10) (F 14) (41 * d + at_) (13 * d) (nxt (!false) (sl_ - at_))))] := by rw [← e_7]; exact ho
                refine lv_aload_n hx hb dX9_newFrame_158 rfl (lv_at hl 0 rfl) ?_
                refine o_get (v := .ref (ar 9)) C ho 0 0 rfl rfl rfl 13 fX9_37 rfl dX9_newFrame_159 ?_
                refine lv_iload_n hx hb dX9_newFrame_162 rfl (lv_at hl 1 rfl) ?_
                refine lv_dup2_11 hx hb dX9_newFrame_163 rfl rfl ?_
                refine o_iald (v := nI at_) C ho 0 10 rfl rfl 0 rfl d rfl (by omega) (by omega) qa dX9_newFrame_164 ?_
                refine lv_aload_n hx hb dX9_newFrame_165 rfl (lv_at hl 0 rfl) ?_
                refine o_get (v := .ref (ar 11)) C ho 0 0 rfl rfl rfl 15 fX9_43 rfl dX9_newFrame_166 ?_
                refine lv_iload_n hx hb dX9_newFrame_169 rfl (lv_at hl 1 rfl) ?_
                refine o_iald (v := nI (nxt (!false) (sl_ - at_))) C ho 0 12 rfl rfl 0 rfl d rfl (by omega) (by omega) pk_us dX9_newFrame_170 ?_
                refine o_add hx hb dX9_newFrame_171 ?_
                refine o_iast (bs' := [bX K h ar ad ck bi lo (va_up (va_up (va_up (va_up (va_up F 11 (upd (F 11) d (nI (nxt (!false) (sl_ - at_))))) 12 (upd (F 12) d (nI 3))) 13 (upd (F 13) d (bI (decide (at_ = 0))))) 14 (va_cpy (F 10) (F 14) (41 * d + at_) (13 * d) (nxt (!false) (sl_ - at_)))) 9 (upd (F 9) d (nI (at_ + (nxt (!false) (sl_ - at_))))))]) C ho 0 10 rfl rfl 0 rfl d rfl (by omega) (by decide) dX9_newFrame_172 rfl (fun H locs ho => ?_)
                refine lv_aload_n hx hb dX9_newFrame_173 rfl (lv_at hl 0 rfl) ?_
                refine o_get (v := .ref (ar 22)) C ho 0 0 rfl rfl rfl 26 fX9_77 rfl dX9_newFrame_174 ?_
                refine lv_iload_n hx hb dX9_newFrame_177 rfl (lv_at hl 1 rfl) ?_
                refine lv_iconst (v := nI 1) hx hb dX9_newFrame_178 (by decide) ?_
                refine lv_aload_n hx hb dX9_newFrame_179 rfl (lv_at hl 0 rfl) ?_
                refine o_get (v := .ref (ar 22)) C ho 0 0 rfl rfl rfl 26 fX9_77 rfl dX9_newFrame_180 ?_
                refine lv_iload_n hx hb dX9_newFrame_183 rfl (lv_at hl 1 rfl) ?_
                refine o_iald (v := bI tu) C ho 0 23 rfl rfl 0 rfl d rfl (by omega) (by omega) qt dX9_newFrame_184 ?_
                refine lv_isub hx hb dX9_newFrame_185 ?_
                refine o_top (y := bI (!tu)) (bI_sub tu) ?_
                refine o_iast (bs' := [bX K h ar ad ck bi lo (va_up (va_up (va_up (va_up (va_up (va_up F 11 (upd (F 11) d (nI (nxt (!false) (sl_ - at_))))) 12 (upd (F 12) d (nI 3))) 13 (upd (F 13) d (bI (decide (at_ = 0))))) 14 (va_cpy (F 10) (F 14) (41 * d + at_) (13 * d) (nxt (!false) (sl_ - at_)))) 9 (upd (F 9) d (nI (at_ + (nxt (!false) (sl_ - at_)))))) 22 (upd (F 22) d (bI (!tu))))]) C ho 0 23 rfl rfl 0 rfl d rfl (by omega) (by decide) dX9_newFrame_186 rfl (fun H locs ho => ?_)
                exact o_vret hQ C ho () rfl rfl (Nat.le_of_ble_eq_true rfl) (Nat.le_of_ble_eq_true rfl) dX9_newFrame_187
              · skip
                refine lv_aload_n hx hb dX9_newFrame_121 rfl (lv_at hl 0 rfl) ?_
                refine o_get (v := .ref (ar 14)) C ho 0 0 rfl rfl rfl 18 fX9_53 rfl dX9_newFrame_122 ?_
                refine lv_bipush (v := nI 13) hx hb dX9_newFrame_125 (by decide) ?_
                refine lv_iload_n hx hb dX9_newFrame_127 rfl (lv_at hl 1 rfl) ?_
                refine o_mul hx hb dX9_newFrame_128 ?_
                refine lv_iload hx hb dX9_newFrame_129 (lv_at hl 2 rfl) ?_
                refine o_add hx hb dX9_newFrame_131 ?_
                refine lv_aload_n hx hb dX9_newFrame_132 rfl (lv_at hl 0 rfl) ?_
                refine o_get (v := .ref (ar 10)) C ho 0 0 rfl rfl rfl 14 fX9_40 rfl dX9_newFrame_133 ?_
                refine lv_bipush (v := nI 41) hx hb dX9_newFrame_136 (by decide) ?_
                refine lv_iload_n hx hb dX9_newFrame_138 rfl (lv_at hl 1 rfl) ?_
                refine o_mul hx hb dX9_newFrame_139 ?_
                refine lv_aload_n hx hb dX9_newFrame_140 rfl (lv_at hl 0 rfl) ?_
                refine o_get (v := .ref (ar 9)) C ho 0 0 rfl rfl rfl 13 fX9_37 rfl dX9_newFrame_141 ?_
                refine lv_iload_n hx hb dX9_newFrame_144 rfl (lv_at hl 1 rfl) ?_
                refine o_iald (v := nI at_) C ho 0 10 rfl rfl 0 rfl d rfl (by omega) (by omega) qa dX9_newFrame_145 ?_
                refine o_add hx hb dX9_newFrame_146 ?_
                refine lv_iload hx hb dX9_newFrame_147 (lv_at hl 2 rfl) ?_
                refine o_add hx hb dX9_newFrame_149 ?_
                refine o_iald (v := F 10 (((41 * d) + at_) + i)) C ho 0 11 rfl rfl 0 rfl (((41 * d) + at_) + i) rfl (by omega) (by omega) rfl dX9_newFrame_150 ?_
                refine o_iast (bs' := [bX K h ar ad ck bi lo (va_up (va_up (va_up (va_up (va_up F 11 (upd (F 11) d (nI (nxt (!false) (sl_ - at_))))) 12 (upd (F 12) d (nI 3))) 13 (upd (F 13) d (bI (decide (at_ = 0))))) 14 (va_cpy (F 10) (F 14) (41 * d + at_) (13 * d) i)) 14 (upd (va_cpy (F 10) (F 14) (41 * d + at_) (13 * d) i) ((13 * d) + i) (F 10 (((41 * d) + at_) + i))))]) C ho 0 15 rfl rfl 0 rfl ((13 * d) + i) rfl (by omega) (by decide) dX9_newFrame_151 rfl (fun H locs ho => ?_)
                have e_8 : bX K h ar ad ck bi lo (va_up (va_up (va_up (va_up (va_up F 11 (upd (F 11) d (nI (nxt (!false) (sl_ - at_))))) 12 (upd (F 12) d (nI 3))) 13 (upd (F 13) d (bI (decide (at_ = 0))))) 14 (va_cpy (F 10) (F 14) (41 * d + at_) (13 * d) i)) 14 (upd (va_cpy (F 10) (F 14) (41 * d + at_) (13 * d) i) ((13 * d) + i) (F 10 (((41 * d) + at_) + i)))) = bX K h ar ad ck bi lo (va_up (va_up (va_up (va_up F 11 (upd (F 11) d (nI (nxt (!false) (sl_ - at_))))) 12 (upd (F 12) d (nI 3))) 13 (upd (F 13) d (bI (decide (at_ = 0))))) 14 (va_cpy (F 10) (F 14) (41 * d + at_) (13 * d) (i + 1))) := by rw [bx_uu, cpy_succ]
                have ho : ow D vwCl A s.heap H locs [bX K h ar ad ck bi lo (va_up (va_up (va_up (va_up F 11 (upd (F 11) d (nI (nxt (!false) (sl_ - at_))))) 12 (upd (F 12) d (nI 3))) 13 (upd (F 13) d (bI (decide (at_ = 0))))) 14 (va_cpy (F 10) (F 14) (41 * d + at_) (13 * d) (i + 1)))] := by rw [← e_8]; exact ho
                refine lv_iinc (v := nI (i + 1)) (lv' := [(4, .int (nI (i + 1))), (0, .ref h), (1, .int (nI d))]) hx hb dX9_newFrame_152 hl (k := 2) rfl (iincN _ _) (by decide) rfl (fun ls hl => ?_)
                refine lv_goto (tgt := 110) hx hb dX9_newFrame_155 (by decide) ?_
                exact ih110 (i + 1) (by omega) (by omega) _ _ _ ho (lv_sub hl [1, 2, 0] rfl)
          exact LP110 ((nxt (!false) (sl_ - at_)) - 0 + 1) 0 (Nat.lt_succ_self _) (by omega) _ _ _ ho (lv_sub hl [3, 4, 0] rfl)
        · skip
          refine lv_iconst (v := nI 1) hx hb dX9_newFrame_101 (by decide) ?_
          refine lv_goto (tgt := 106) hx hb dX9_newFrame_102 (by decide) ?_
          refine o_top (y := bI true) (rfl) ?_
          refine o_zast (bs' := [bX K h ar ad ck bi lo (va_up (va_up (va_up F 11 (upd (F 11) d (nI (nxt (!false) (sl_ - at_))))) 12 (upd (F 12) d (nI 3))) 13 (upd (F 13) d (bI true)))]) C ho 0 14 rfl rfl 3 rfl d rfl (by omega) (by decide) dX9_newFrame_106 rfl (fun H locs ho => ?_)
          have e_9 : bX K h ar ad ck bi lo (va_up (va_up (va_up F 11 (upd (F 11) d (nI (nxt (!false) (sl_ - at_))))) 12 (upd (F 12) d (nI 3))) 13 (upd (F 13) d (bI true))) = bX K h ar ad ck bi lo (va_up (va_up (va_up F 11 (upd (F 11) d (nI (nxt (!false) (sl_ - at_))))) 12 (upd (F 12) d (nI 3))) 13 (upd (F 13) d (bI (decide (at_ = 0))))) := by rw [decide_eq_true c_3]
          have ho : ow D vwCl A s.heap H locs [bX K h ar ad ck bi lo (va_up (va_up (va_up F 11 (upd (F 11) d (nI (nxt (!false) (sl_ - at_))))) 12 (upd (F 12) d (nI 3))) 13 (upd (F 13) d (bI (decide (at_ = 0)))))] := by rw [← e_9]; exact ho
          refine lv_iconst (v := nI 0) hx hb dX9_newFrame_107 (by decide) ?_
          refine lv_istore (lv' := [(4, .int (nI 0)), (3, .int (nI (sl_ - at_))), (2, .int (nI 9)), (0, .ref h), (1, .int (nI d))]) hx hb dX9_newFrame_108 hl (by decide) rfl (fun ls hl => ?_)
          have e_10 : bX K h ar ad ck bi lo (va_up (va_up (va_up F 11 (upd (F 11) d (nI (nxt (!false) (sl_ - at_))))) 12 (upd (F 12) d (nI 3))) 13 (upd (F 13) d (bI (decide (at_ = 0))))) = bX K h ar ad ck bi lo (va_up (va_up (va_up (va_up F 11 (upd (F 11) d (nI (nxt (!false) (sl_ - at_))))) 12 (upd (F 12) d (nI 3))) 13 (upd (F 13) d (bI (decide (at_ = 0))))) 14 (va_cpy (F 10) (F 14) (41 * d + at_) (13 * d) 0)) := by rw [cpy_0]; exact congrArg (bX K h ar ad ck bi lo) (up_1 rfl)
          have ho : ow D vwCl A s.heap H locs [bX K h ar ad ck bi lo (va_up (va_up (va_up (va_up F 11 (upd (F 11) d (nI (nxt (!false) (sl_ - at_))))) 12 (upd (F 12) d (nI 3))) 13 (upd (F 13) d (bI (decide (at_ = 0))))) 14 (va_cpy (F 10) (F 14) (41 * d + at_) (13 * d) 0))] := by rw [← e_10]; exact ho
          have LP110 : ∀ (fuel : Nat) (i : Nat) (_ : (nxt (!false) (sl_ - at_)) - i < fuel) (_ : i ≤ nxt (!false) (sl_ - at_)) (H : Heap) (locs : List Loc) (ls : Array Slot) (_ : ow D vwCl A s.heap H locs [bX K h ar ad ck bi lo (va_up (va_up (va_up (va_up F 11 (upd (F 11) d (nI (nxt (!false) (sl_ - at_))))) 12 (upd (F 12) d (nI 3))) 13 (upd (F 13) d (bI (decide (at_ = 0))))) 14 (va_cpy (F 10) (F 14) (41 * d + at_) (13 * d) i))]) (_ : lv_has ls 5 [(0, .ref h), (1, .int (nI d)), (4, .int (nI i))]), W p la e (rmL 1 0 0) s m args below meth c H locs 0 0 Qz (F0 m 110 ls []) := by
            intro fuel
            induction fuel with
            | zero => intro i h0; exact absurd h0 (Nat.not_lt_zero _)
            | succ fuel ih110 =>
              intro i hfu hi H locs ls ho hl
              refine lv_iload hx hb dX9_newFrame_110 (lv_at hl 2 rfl) ?_
              refine lv_aload_n hx hb dX9_newFrame_112 rfl (lv_at hl 0 rfl) ?_
              refine o_get (v := .ref (ar 11)) C ho 0 0 rfl rfl rfl 15 fX9_43 rfl dX9_newFrame_113 ?_
              refine lv_iload_n hx hb dX9_newFrame_116 rfl (lv_at hl 1 rfl) ?_
              refine o_iald (v := nI (nxt (!false) (sl_ - at_))) C ho 0 12 rfl rfl 0 rfl d rfl (by omega) (by omega) pk_us dX9_newFrame_117 ?_
              refine o_icmp_ge (tgt := 158) hx hb dX9_newFrame_118 (by decide) (by first | omega | exact and1_lt _) (by first | omega | exact and1_lt _) (fun c_11 => ?_) (fun c_11 => ?_)
              · skip
                have e_12 : bX K h ar ad ck bi lo (va_up (va_up (va_up (va_up F 11 (upd (F 11) d (nI (nxt (!false) (sl_ - at_))))) 12 (upd (F 12) d (nI 3))) 13 (upd (F 13) d (bI (decide (at_ = 0))))) 14 (va_cpy (F 10) (F 14) (41 * d + at_) (13 * d) i)) = bX K h ar ad ck bi lo (va_up (va_up (va_up (va_up F 11 (upd (F 11) d (nI (nxt (!false) (sl_ - at_))))) 12 (upd (F 12) d (nI 3))) 13 (upd (F 13) d (bI (decide (at_ = 0))))) 14 (va_cpy (F 10) (F 14) (41 * d + at_) (13 * d) (nxt (!false) (sl_ - at_)))) := by rw [show i = nxt (!false) (sl_ - at_) by omega]
                have ho : ow D vwCl A s.heap H locs [bX K h ar ad ck bi lo (va_up (va_up (va_up (va_up F 11 (upd (F 11) d (nI (nxt (!false) (sl_ - at_))))) 12 (upd (F 12) d (nI 3))) 13 (upd (F 13) d (bI (decide (at_ = 0))))) 14 (va_cpy (F 10) (F 14) (41 * d + at_) (13 * d) (nxt (!false) (sl_ - at_))))] := by rw [← e_12]; exact ho
                refine lv_aload_n hx hb dX9_newFrame_158 rfl (lv_at hl 0 rfl) ?_
                refine o_get (v := .ref (ar 9)) C ho 0 0 rfl rfl rfl 13 fX9_37 rfl dX9_newFrame_159 ?_
                refine lv_iload_n hx hb dX9_newFrame_162 rfl (lv_at hl 1 rfl) ?_
                refine lv_dup2_11 hx hb dX9_newFrame_163 rfl rfl ?_
                refine o_iald (v := nI at_) C ho 0 10 rfl rfl 0 rfl d rfl (by omega) (by omega) qa dX9_newFrame_164 ?_
                refine lv_aload_n hx hb dX9_newFrame_165 rfl (lv_at hl 0 rfl) ?_
                refine o_get (v := .ref (ar 11)) C ho 0 0 rfl rfl rfl 15 fX9_43 rfl dX9_newFrame_166 ?_
                refine lv_iload_n hx hb dX9_newFrame_169 rfl (lv_at hl 1 rfl) ?_
                refine o_iald (v := nI (nxt (!false) (sl_ - at_))) C ho 0 12 rfl rfl 0 rfl d rfl (by omega) (by omega) pk_us dX9_newFrame_170 ?_
                refine o_add hx hb dX9_newFrame_171 ?_
                refine o_iast (bs' := [bX K h ar ad ck bi lo (va_up (va_up (va_up (va_up (va_up F 11 (upd (F 11) d (nI (nxt (!false) (sl_ - at_))))) 12 (upd (F 12) d (nI 3))) 13 (upd (F 13) d (bI (decide (at_ = 0))))) 14 (va_cpy (F 10) (F 14) (41 * d + at_) (13 * d) (nxt (!false) (sl_ - at_)))) 9 (upd (F 9) d (nI (at_ + (nxt (!false) (sl_ - at_))))))]) C ho 0 10 rfl rfl 0 rfl d rfl (by omega) (by decide) dX9_newFrame_172 rfl (fun H locs ho => ?_)
                refine lv_aload_n hx hb dX9_newFrame_173 rfl (lv_at hl 0 rfl) ?_
                refine o_get (v := .ref (ar 22)) C ho 0 0 rfl rfl rfl 26 fX9_77 rfl dX9_newFrame_174 ?_
                refine lv_iload_n hx hb dX9_newFrame_177 rfl (lv_at hl 1 rfl) ?_
                refine lv_iconst (v := nI 1) hx hb dX9_newFrame_178 (by decide) ?_
                refine lv_aload_n hx hb dX9_newFrame_179 rfl (lv_at hl 0 rfl) ?_
                refine o_get (v := .ref (ar 22)) C ho 0 0 rfl rfl rfl 26 fX9_77 rfl dX9_newFrame_180 ?_
                refine lv_iload_n hx hb dX9_newFrame_183 rfl (lv_at hl 1 rfl) ?_
                refine o_iald (v := bI tu) C ho 0 23 rfl rfl 0 rfl d rfl (by omega) (by omega) qt dX9_newFrame_184 ?_
                refine lv_isub hx hb dX9_newFrame_185 ?_
                refine o_top (y := bI (!tu)) (bI_sub tu) ?_
                refine o_iast (bs' := [bX K h ar ad ck bi lo (va_up (va_up (va_up (va_up (va_up (va_up F 11 (upd (F 11) d (nI (nxt (!false) (sl_ - at_))))) 12 (upd (F 12) d (nI 3))) 13 (upd (F 13) d (bI (decide (at_ = 0))))) 14 (va_cpy (F 10) (F 14) (41 * d + at_) (13 * d) (nxt (!false) (sl_ - at_)))) 9 (upd (F 9) d (nI (at_ + (nxt (!false) (sl_ - at_)))))) 22 (upd (F 22) d (bI (!tu))))]) C ho 0 23 rfl rfl 0 rfl d rfl (by omega) (by decide) dX9_newFrame_186 rfl (fun H locs ho => ?_)
                exact o_vret hQ C ho () rfl rfl (Nat.le_of_ble_eq_true rfl) (Nat.le_of_ble_eq_true rfl) dX9_newFrame_187
              · skip
                refine lv_aload_n hx hb dX9_newFrame_121 rfl (lv_at hl 0 rfl) ?_
                refine o_get (v := .ref (ar 14)) C ho 0 0 rfl rfl rfl 18 fX9_53 rfl dX9_newFrame_122 ?_
                refine lv_bipush (v := nI 13) hx hb dX9_newFrame_125 (by decide) ?_
                refine lv_iload_n hx hb dX9_newFrame_127 rfl (lv_at hl 1 rfl) ?_
                refine o_mul hx hb dX9_newFrame_128 ?_
                refine lv_iload hx hb dX9_newFrame_129 (lv_at hl 2 rfl) ?_
                refine o_add hx hb dX9_newFrame_131 ?_
                refine lv_aload_n hx hb dX9_newFrame_132 rfl (lv_at hl 0 rfl) ?_
                refine o_get (v := .ref (ar 10)) C ho 0 0 rfl rfl rfl 14 fX9_40 rfl dX9_newFrame_133 ?_
                refine lv_bipush (v := nI 41) hx hb dX9_newFrame_136 (by decide) ?_
                refine lv_iload_n hx hb dX9_newFrame_138 rfl (lv_at hl 1 rfl) ?_
                refine o_mul hx hb dX9_newFrame_139 ?_
                refine lv_aload_n hx hb dX9_newFrame_140 rfl (lv_at hl 0 rfl) ?_
                refine o_get (v := .ref (ar 9)) C ho 0 0 rfl rfl rfl 13 fX9_37 rfl dX9_newFrame_141 ?_
                refine lv_iload_n hx hb dX9_newFrame_144 rfl (lv_at hl 1 rfl) ?_
                refine o_iald (v := nI at_) C ho 0 10 rfl rfl 0 rfl d rfl (by omega) (by omega) qa dX9_newFrame_145 ?_
                refine o_add hx hb dX9_newFrame_146 ?_
                refine lv_iload hx hb dX9_newFrame_147 (lv_at hl 2 rfl) ?_
                refine o_add hx hb dX9_newFrame_149 ?_
                refine o_iald (v := F 10 (((41 * d) + at_) + i)) C ho 0 11 rfl rfl 0 rfl (((41 * d) + at_) + i) rfl (by omega) (by omega) rfl dX9_newFrame_150 ?_
                refine o_iast (bs' := [bX K h ar ad ck bi lo (va_up (va_up (va_up (va_up (va_up F 11 (upd (F 11) d (nI (nxt (!false) (sl_ - at_))))) 12 (upd (F 12) d (nI 3))) 13 (upd (F 13) d (bI (decide (at_ = 0))))) 14 (va_cpy (F 10) (F 14) (41 * d + at_) (13 * d) i)) 14 (upd (va_cpy (F 10) (F 14) (41 * d + at_) (13 * d) i) ((13 * d) + i) (F 10 (((41 * d) + at_) + i))))]) C ho 0 15 rfl rfl 0 rfl ((13 * d) + i) rfl (by omega) (by decide) dX9_newFrame_151 rfl (fun H locs ho => ?_)
                have e_13 : bX K h ar ad ck bi lo (va_up (va_up (va_up (va_up (va_up F 11 (upd (F 11) d (nI (nxt (!false) (sl_ - at_))))) 12 (upd (F 12) d (nI 3))) 13 (upd (F 13) d (bI (decide (at_ = 0))))) 14 (va_cpy (F 10) (F 14) (41 * d + at_) (13 * d) i)) 14 (upd (va_cpy (F 10) (F 14) (41 * d + at_) (13 * d) i) ((13 * d) + i) (F 10 (((41 * d) + at_) + i)))) = bX K h ar ad ck bi lo (va_up (va_up (va_up (va_up F 11 (upd (F 11) d (nI (nxt (!false) (sl_ - at_))))) 12 (upd (F 12) d (nI 3))) 13 (upd (F 13) d (bI (decide (at_ = 0))))) 14 (va_cpy (F 10) (F 14) (41 * d + at_) (13 * d) (i + 1))) := by rw [bx_uu, cpy_succ]
                have ho : ow D vwCl A s.heap H locs [bX K h ar ad ck bi lo (va_up (va_up (va_up (va_up F 11 (upd (F 11) d (nI (nxt (!false) (sl_ - at_))))) 12 (upd (F 12) d (nI 3))) 13 (upd (F 13) d (bI (decide (at_ = 0))))) 14 (va_cpy (F 10) (F 14) (41 * d + at_) (13 * d) (i + 1)))] := by rw [← e_13]; exact ho
                refine lv_iinc (v := nI (i + 1)) (lv' := [(4, .int (nI (i + 1))), (0, .ref h), (1, .int (nI d))]) hx hb dX9_newFrame_152 hl (k := 2) rfl (iincN _ _) (by decide) rfl (fun ls hl => ?_)
                refine lv_goto (tgt := 110) hx hb dX9_newFrame_155 (by decide) ?_
                exact ih110 (i + 1) (by omega) (by omega) _ _ _ ho (lv_sub hl [1, 2, 0] rfl)
          exact LP110 ((nxt (!false) (sl_ - at_)) - 0 + 1) 0 (Nat.lt_succ_self _) (by omega) _ _ _ ho (lv_sub hl [3, 4, 0] rfl)
      · skip
        refine lv_iload_n hx hb dX9_newFrame_61 rfl (lv_at hl 0 rfl) ?_
        refine lv_goto (tgt := 66) hx hb dX9_newFrame_62 (by decide) ?_
        refine o_top (y := nI (nxt (!false) (sl_ - at_))) (congrArg nI (show _ = min (sl_ - at_) 9 by omega)) ?_
        refine o_iast (bs' := [bX K h ar ad ck bi lo (va_up F 11 (upd (F 11) d (nI (nxt (!false) (sl_ - at_)))))]) C ho 0 12 rfl rfl 0 rfl d rfl (by omega) (by decide) dX9_newFrame_66 rfl (fun H locs ho => ?_)
        have hn9 : nxt (!false) (sl_ - at_) ≤ 13 := by unfold nxt; dsimp only [cond, not]; omega
        have hn8 : nxt (!false) (sl_ - at_) ≤ sl_ - at_ := by unfold nxt; omega
        refine lv_aload_n hx hb dX9_newFrame_67 rfl (lv_at hl 2 rfl) ?_
        refine o_get (v := .ref (ar 12)) C ho 0 0 rfl rfl rfl 16 fX9_46 rfl dX9_newFrame_68 ?_
        refine lv_iload_n hx hb dX9_newFrame_71 rfl (lv_at hl 3 rfl) ?_
        refine lv_aload_n hx hb dX9_newFrame_72 rfl (lv_at hl 2 rfl) ?_
        refine o_get (v := .ref (ar 21)) C ho 0 0 rfl rfl rfl 25 fX9_74 rfl dX9_newFrame_73 ?_
        refine lv_iload_n hx hb dX9_newFrame_76 rfl (lv_at hl 3 rfl) ?_
        refine o_zald (v := bI false) C ho 0 22 rfl rfl 3 rfl d rfl (by omega) (by decide) qp dX9_newFrame_77 ?_
        refine o_ifb_eq (tgt := 85) hx hb dX9_newFrame_78 (by decide) (fun _ => ?_) (fun c9 => absurd c9 (by decide))
        refine lv_iconst (v := nI 3) hx hb dX9_newFrame_85 (by decide) ?_
        refine o_iast (bs' := [bX K h ar ad ck bi lo (va_up (va_up F 11 (upd (F 11) d (nI (nxt (!false) (sl_ - at_))))) 12 (upd (F 12) d (nI 3)))]) C ho 0 13 rfl rfl 0 rfl d rfl (by omega) (by decide) dX9_newFrame_86 rfl (fun H locs ho => ?_)
        refine lv_aload_n hx hb dX9_newFrame_87 rfl (lv_at hl 2 rfl) ?_
        refine o_get (v := .ref (ar 13)) C ho 0 0 rfl rfl rfl 17 fX9_49 rfl dX9_newFrame_88 ?_
        refine lv_iload_n hx hb dX9_newFrame_91 rfl (lv_at hl 3 rfl) ?_
        refine lv_aload_n hx hb dX9_newFrame_92 rfl (lv_at hl 2 rfl) ?_
        refine o_get (v := .ref (ar 9)) C ho 0 0 rfl rfl rfl 13 fX9_37 rfl dX9_newFrame_93 ?_
        refine lv_iload_n hx hb dX9_newFrame_96 rfl (lv_at hl 3 rfl) ?_
        refine o_iald (v := nI at_) C ho 0 10 rfl rfl 0 rfl d rfl (by omega) (by omega) qa dX9_newFrame_97 ?_
        refine o_if_ne (tgt := 105) hx hb dX9_newFrame_98 (by decide) (by omega) (fun c_14 => ?_) (fun c_14 => ?_)
        · skip
          refine lv_iconst (v := nI 0) hx hb dX9_newFrame_105 (by decide) ?_
          refine o_top (y := bI false) (rfl) ?_
          refine o_zast (bs' := [bX K h ar ad ck bi lo (va_up (va_up (va_up F 11 (upd (F 11) d (nI (nxt (!false) (sl_ - at_))))) 12 (upd (F 12) d (nI 3))) 13 (upd (F 13) d (bI false)))]) C ho 0 14 rfl rfl 3 rfl d rfl (by omega) (by decide) dX9_newFrame_106 rfl (fun H locs ho => ?_)
          have e_15 : bX K h ar ad ck bi lo (va_up (va_up (va_up F 11 (upd (F 11) d (nI (nxt (!false) (sl_ - at_))))) 12 (upd (F 12) d (nI 3))) 13 (upd (F 13) d (bI false))) = bX K h ar ad ck bi lo (va_up (va_up (va_up F 11 (upd (F 11) d (nI (nxt (!false) (sl_ - at_))))) 12 (upd (F 12) d (nI 3))) 13 (upd (F 13) d (bI (decide (at_ = 0))))) := by rw [decide_eq_false c_14]
          have ho : ow D vwCl A s.heap H locs [bX K h ar ad ck bi lo (va_up (va_up (va_up F 11 (upd (F 11) d (nI (nxt (!false) (sl_ - at_))))) 12 (upd (F 12) d (nI 3))) 13 (upd (F 13) d (bI (decide (at_ = 0)))))] := by rw [← e_15]; exact ho
          refine lv_iconst (v := nI 0) hx hb dX9_newFrame_107 (by decide) ?_
          refine lv_istore (lv' := [(4, .int (nI 0)), (3, .int (nI (sl_ - at_))), (2, .int (nI 9)), (0, .ref h), (1, .int (nI d))]) hx hb dX9_newFrame_108 hl (by decide) rfl (fun ls hl => ?_)
          have e_16 : bX K h ar ad ck bi lo (va_up (va_up (va_up F 11 (upd (F 11) d (nI (nxt (!false) (sl_ - at_))))) 12 (upd (F 12) d (nI 3))) 13 (upd (F 13) d (bI (decide (at_ = 0))))) = bX K h ar ad ck bi lo (va_up (va_up (va_up (va_up F 11 (upd (F 11) d (nI (nxt (!false) (sl_ - at_))))) 12 (upd (F 12) d (nI 3))) 13 (upd (F 13) d (bI (decide (at_ = 0))))) 14 (va_cpy (F 10) (F 14) (41 * d + at_) (13 * d) 0)) := by rw [cpy_0]; exact congrArg (bX K h ar ad ck bi lo) (up_1 rfl)
          have ho : ow D vwCl A s.heap H locs [bX K h ar ad ck bi lo (va_up (va_up (va_up (va_up F 11 (upd (F 11) d (nI (nxt (!false) (sl_ - at_))))) 12 (upd (F 12) d (nI 3))) 13 (upd (F 13) d (bI (decide (at_ = 0))))) 14 (va_cpy (F 10) (F 14) (41 * d + at_) (13 * d) 0))] := by rw [← e_16]; exact ho
          have LP110 : ∀ (fuel : Nat) (i : Nat) (_ : (nxt (!false) (sl_ - at_)) - i < fuel) (_ : i ≤ nxt (!false) (sl_ - at_)) (H : Heap) (locs : List Loc) (ls : Array Slot) (_ : ow D vwCl A s.heap H locs [bX K h ar ad ck bi lo (va_up (va_up (va_up (va_up F 11 (upd (F 11) d (nI (nxt (!false) (sl_ - at_))))) 12 (upd (F 12) d (nI 3))) 13 (upd (F 13) d (bI (decide (at_ = 0))))) 14 (va_cpy (F 10) (F 14) (41 * d + at_) (13 * d) i))]) (_ : lv_has ls 5 [(0, .ref h), (1, .int (nI d)), (4, .int (nI i))]), W p la e (rmL 1 0 0) s m args below meth c H locs 0 0 Qz (F0 m 110 ls []) := by
            intro fuel
            induction fuel with
            | zero => intro i h0; exact absurd h0 (Nat.not_lt_zero _)
            | succ fuel ih110 =>
              intro i hfu hi H locs ls ho hl
              refine lv_iload hx hb dX9_newFrame_110 (lv_at hl 2 rfl) ?_
              refine lv_aload_n hx hb dX9_newFrame_112 rfl (lv_at hl 0 rfl) ?_
              refine o_get (v := .ref (ar 11)) C ho 0 0 rfl rfl rfl 15 fX9_43 rfl dX9_newFrame_113 ?_
              refine lv_iload_n hx hb dX9_newFrame_116 rfl (lv_at hl 1 rfl) ?_
              refine o_iald (v := nI (nxt (!false) (sl_ - at_))) C ho 0 12 rfl rfl 0 rfl d rfl (by omega) (by omega) pk_us dX9_newFrame_117 ?_
              refine o_icmp_ge (tgt := 158) hx hb dX9_newFrame_118 (by decide) (by first | omega | exact and1_lt _) (by first | omega | exact and1_lt _) (fun c_17 => ?_) (fun c_17 => ?_)
              · skip
                have e_18 : bX K h ar ad ck bi lo (va_up (va_up (va_up (va_up F 11 (upd (F 11) d (nI (nxt (!false) (sl_ - at_))))) 12 (upd (F 12) d (nI 3))) 13 (upd (F 13) d (bI (decide (at_ = 0))))) 14 (va_cpy (F 10) (F 14) (41 * d + at_) (13 * d) i)) = bX K h ar ad ck bi lo (va_up (va_up (va_up (va_up F 11 (upd (F 11) d (nI (nxt (!false) (sl_ - at_))))) 12 (upd (F 12) d (nI 3))) 13 (upd (F 13) d (bI (decide (at_ = 0))))) 14 (va_cpy (F 10) (F 14) (41 * d + at_) (13 * d) (nxt (!false) (sl_ - at_)))) := by rw [show i = nxt (!false) (sl_ - at_) by omega]
                have ho : ow D vwCl A s.heap H locs [bX K h ar ad ck bi lo (va_up (va_up (va_up (va_up F 11 (upd (F 11) d (nI (nxt (!false) (sl_ - at_))))) 12 (upd (F 12) d (nI 3))) 13 (upd (F 13) d (bI (decide (at_ = 0))))) 14 (va_cpy (F 10) (F 14) (41 * d + at_) (13 * d) (nxt (!false) (sl_ - at_))))] := by rw [← e_18]; exact ho
                refine lv_aload_n hx hb dX9_newFrame_158 rfl (lv_at hl 0 rfl) ?_
                refine o_get (v := .ref (ar 9)) C ho 0 0 rfl rfl rfl 13 fX9_37 rfl dX9_newFrame_159 ?_
                refine lv_iload_n hx hb dX9_newFrame_162 rfl (lv_at hl 1 rfl) ?_
                refine lv_dup2_11 hx hb dX9_newFrame_163 rfl rfl ?_
                refine o_iald (v := nI at_) C ho 0 10 rfl rfl 0 rfl d rfl (by omega) (by omega) qa dX9_newFrame_164 ?_
                refine lv_aload_n hx hb dX9_newFrame_165 rfl (lv_at hl 0 rfl) ?_
                refine o_get (v := .ref (ar 11)) C ho 0 0 rfl rfl rfl 15 fX9_43 rfl dX9_newFrame_166 ?_
                refine lv_iload_n hx hb dX9_newFrame_169 rfl (lv_at hl 1 rfl) ?_
                refine o_iald (v := nI (nxt (!false) (sl_ - at_))) C ho 0 12 rfl rfl 0 rfl d rfl (by omega) (by omega) pk_us dX9_newFrame_170 ?_
                refine o_add hx hb dX9_newFrame_171 ?_
                refine o_iast (bs' := [bX K h ar ad ck bi lo (va_up (va_up (va_up (va_up (va_up F 11 (upd (F 11) d (nI (nxt (!false) (sl_ - at_))))) 12 (upd (F 12) d (nI 3))) 13 (upd (F 13) d (bI (decide (at_ = 0))))) 14 (va_cpy (F 10) (F 14) (41 * d + at_) (13 * d) (nxt (!false) (sl_ - at_)))) 9 (upd (F 9) d (nI (at_ + (nxt (!false) (sl_ - at_))))))]) C ho 0 10 rfl rfl 0 rfl d rfl (by omega) (by decide) dX9_newFrame_172 rfl (fun H locs ho => ?_)
                refine lv_aload_n hx hb dX9_newFrame_173 rfl (lv_at hl 0 rfl) ?_
                refine o_get (v := .ref (ar 22)) C ho 0 0 rfl rfl rfl 26 fX9_77 rfl dX9_newFrame_174 ?_
                refine lv_iload_n hx hb dX9_newFrame_177 rfl (lv_at hl 1 rfl) ?_
                refine lv_iconst (v := nI 1) hx hb dX9_newFrame_178 (by decide) ?_
                refine lv_aload_n hx hb dX9_newFrame_179 rfl (lv_at hl 0 rfl) ?_
                refine o_get (v := .ref (ar 22)) C ho 0 0 rfl rfl rfl 26 fX9_77 rfl dX9_newFrame_180 ?_
                refine lv_iload_n hx hb dX9_newFrame_183 rfl (lv_at hl 1 rfl) ?_
                refine o_iald (v := bI tu) C ho 0 23 rfl rfl 0 rfl d rfl (by omega) (by omega) qt dX9_newFrame_184 ?_
                refine lv_isub hx hb dX9_newFrame_185 ?_
                refine o_top (y := bI (!tu)) (bI_sub tu) ?_
                refine o_iast (bs' := [bX K h ar ad ck bi lo (va_up (va_up (va_up (va_up (va_up (va_up F 11 (upd (F 11) d (nI (nxt (!false) (sl_ - at_))))) 12 (upd (F 12) d (nI 3))) 13 (upd (F 13) d (bI (decide (at_ = 0))))) 14 (va_cpy (F 10) (F 14) (41 * d + at_) (13 * d) (nxt (!false) (sl_ - at_)))) 9 (upd (F 9) d (nI (at_ + (nxt (!false) (sl_ - at_)))))) 22 (upd (F 22) d (bI (!tu))))]) C ho 0 23 rfl rfl 0 rfl d rfl (by omega) (by decide) dX9_newFrame_186 rfl (fun H locs ho => ?_)
                exact o_vret hQ C ho () rfl rfl (Nat.le_of_ble_eq_true rfl) (Nat.le_of_ble_eq_true rfl) dX9_newFrame_187
              · skip
                refine lv_aload_n hx hb dX9_newFrame_121 rfl (lv_at hl 0 rfl) ?_
                refine o_get (v := .ref (ar 14)) C ho 0 0 rfl rfl rfl 18 fX9_53 rfl dX9_newFrame_122 ?_
                refine lv_bipush (v := nI 13) hx hb dX9_newFrame_125 (by decide) ?_
                refine lv_iload_n hx hb dX9_newFrame_127 rfl (lv_at hl 1 rfl) ?_
                refine o_mul hx hb dX9_newFrame_128 ?_
                refine lv_iload hx hb dX9_newFrame_129 (lv_at hl 2 rfl) ?_
                refine o_add hx hb dX9_newFrame_131 ?_
                refine lv_aload_n hx hb dX9_newFrame_132 rfl (lv_at hl 0 rfl) ?_
                refine o_get (v := .ref (ar 10)) C ho 0 0 rfl rfl rfl 14 fX9_40 rfl dX9_newFrame_133 ?_
                refine lv_bipush (v := nI 41) hx hb dX9_newFrame_136 (by decide) ?_
                refine lv_iload_n hx hb dX9_newFrame_138 rfl (lv_at hl 1 rfl) ?_
                refine o_mul hx hb dX9_newFrame_139 ?_
                refine lv_aload_n hx hb dX9_newFrame_140 rfl (lv_at hl 0 rfl) ?_
                refine o_get (v := .ref (ar 9)) C ho 0 0 rfl rfl rfl 13 fX9_37 rfl dX9_newFrame_141 ?_
                refine lv_iload_n hx hb dX9_newFrame_144 rfl (lv_at hl 1 rfl) ?_
                refine o_iald (v := nI at_) C ho 0 10 rfl rfl 0 rfl d rfl (by omega) (by omega) qa dX9_newFrame_145 ?_
                refine o_add hx hb dX9_newFrame_146 ?_
                refine lv_iload hx hb dX9_newFrame_147 (lv_at hl 2 rfl) ?_
                refine o_add hx hb dX9_newFrame_149 ?_
                refine o_iald (v := F 10 (((41 * d) + at_) + i)) C ho 0 11 rfl rfl 0 rfl (((41 * d) + at_) + i) rfl (by omega) (by omega) rfl dX9_newFrame_150 ?_
                refine o_iast (bs' := [bX K h ar ad ck bi lo (va_up (va_up (va_up (va_up (va_up F 11 (upd (F 11) d (nI (nxt (!false) (sl_ - at_))))) 12 (upd (F 12) d (nI 3))) 13 (upd (F 13) d (bI (decide (at_ = 0))))) 14 (va_cpy (F 10) (F 14) (41 * d + at_) (13 * d) i)) 14 (upd (va_cpy (F 10) (F 14) (41 * d + at_) (13 * d) i) ((13 * d) + i) (F 10 (((41 * d) + at_) + i))))]) C ho 0 15 rfl rfl 0 rfl ((13 * d) + i) rfl (by omega) (by decide) dX9_newFrame_151 rfl (fun H locs ho => ?_)
                have e_19 : bX K h ar ad ck bi lo (va_up (va_up (va_up (va_up (va_up F 11 (upd (F 11) d (nI (nxt (!false) (sl_ - at_))))) 12 (upd (F 12) d (nI 3))) 13 (upd (F 13) d (bI (decide (at_ = 0))))) 14 (va_cpy (F 10) (F 14) (41 * d + at_) (13 * d) i)) 14 (upd (va_cpy (F 10) (F 14) (41 * d + at_) (13 * d) i) ((13 * d) + i) (F 10 (((41 * d) + at_) + i)))) = bX K h ar ad ck bi lo (va_up (va_up (va_up (va_up F 11 (upd (F 11) d (nI (nxt (!false) (sl_ - at_))))) 12 (upd (F 12) d (nI 3))) 13 (upd (F 13) d (bI (decide (at_ = 0))))) 14 (va_cpy (F 10) (F 14) (41 * d + at_) (13 * d) (i + 1))) := by rw [bx_uu, cpy_succ]
                have ho : ow D vwCl A s.heap H locs [bX K h ar ad ck bi lo (va_up (va_up (va_up (va_up F 11 (upd (F 11) d (nI (nxt (!false) (sl_ - at_))))) 12 (upd (F 12) d (nI 3))) 13 (upd (F 13) d (bI (decide (at_ = 0))))) 14 (va_cpy (F 10) (F 14) (41 * d + at_) (13 * d) (i + 1)))] := by rw [← e_19]; exact ho
                refine lv_iinc (v := nI (i + 1)) (lv' := [(4, .int (nI (i + 1))), (0, .ref h), (1, .int (nI d))]) hx hb dX9_newFrame_152 hl (k := 2) rfl (iincN _ _) (by decide) rfl (fun ls hl => ?_)
                refine lv_goto (tgt := 110) hx hb dX9_newFrame_155 (by decide) ?_
                exact ih110 (i + 1) (by omega) (by omega) _ _ _ ho (lv_sub hl [1, 2, 0] rfl)
          exact LP110 ((nxt (!false) (sl_ - at_)) - 0 + 1) 0 (Nat.lt_succ_self _) (by omega) _ _ _ ho (lv_sub hl [3, 4, 0] rfl)
        · skip
          refine lv_iconst (v := nI 1) hx hb dX9_newFrame_101 (by decide) ?_
          refine lv_goto (tgt := 106) hx hb dX9_newFrame_102 (by decide) ?_
          refine o_top (y := bI true) (rfl) ?_
          refine o_zast (bs' := [bX K h ar ad ck bi lo (va_up (va_up (va_up F 11 (upd (F 11) d (nI (nxt (!false) (sl_ - at_))))) 12 (upd (F 12) d (nI 3))) 13 (upd (F 13) d (bI true)))]) C ho 0 14 rfl rfl 3 rfl d rfl (by omega) (by decide) dX9_newFrame_106 rfl (fun H locs ho => ?_)
          have e_20 : bX K h ar ad ck bi lo (va_up (va_up (va_up F 11 (upd (F 11) d (nI (nxt (!false) (sl_ - at_))))) 12 (upd (F 12) d (nI 3))) 13 (upd (F 13) d (bI true))) = bX K h ar ad ck bi lo (va_up (va_up (va_up F 11 (upd (F 11) d (nI (nxt (!false) (sl_ - at_))))) 12 (upd (F 12) d (nI 3))) 13 (upd (F 13) d (bI (decide (at_ = 0))))) := by rw [decide_eq_true c_14]
          have ho : ow D vwCl A s.heap H locs [bX K h ar ad ck bi lo (va_up (va_up (va_up F 11 (upd (F 11) d (nI (nxt (!false) (sl_ - at_))))) 12 (upd (F 12) d (nI 3))) 13 (upd (F 13) d (bI (decide (at_ = 0)))))] := by rw [← e_20]; exact ho
          refine lv_iconst (v := nI 0) hx hb dX9_newFrame_107 (by decide) ?_
          refine lv_istore (lv' := [(4, .int (nI 0)), (3, .int (nI (sl_ - at_))), (2, .int (nI 9)), (0, .ref h), (1, .int (nI d))]) hx hb dX9_newFrame_108 hl (by decide) rfl (fun ls hl => ?_)
          have e_21 : bX K h ar ad ck bi lo (va_up (va_up (va_up F 11 (upd (F 11) d (nI (nxt (!false) (sl_ - at_))))) 12 (upd (F 12) d (nI 3))) 13 (upd (F 13) d (bI (decide (at_ = 0))))) = bX K h ar ad ck bi lo (va_up (va_up (va_up (va_up F 11 (upd (F 11) d (nI (nxt (!false) (sl_ - at_))))) 12 (upd (F 12) d (nI 3))) 13 (upd (F 13) d (bI (decide (at_ = 0))))) 14 (va_cpy (F 10) (F 14) (41 * d + at_) (13 * d) 0)) := by rw [cpy_0]; exact congrArg (bX K h ar ad ck bi lo) (up_1 rfl)
          have ho : ow D vwCl A s.heap H locs [bX K h ar ad ck bi lo (va_up (va_up (va_up (va_up F 11 (upd (F 11) d (nI (nxt (!false) (sl_ - at_))))) 12 (upd (F 12) d (nI 3))) 13 (upd (F 13) d (bI (decide (at_ = 0))))) 14 (va_cpy (F 10) (F 14) (41 * d + at_) (13 * d) 0))] := by rw [← e_21]; exact ho
          have LP110 : ∀ (fuel : Nat) (i : Nat) (_ : (nxt (!false) (sl_ - at_)) - i < fuel) (_ : i ≤ nxt (!false) (sl_ - at_)) (H : Heap) (locs : List Loc) (ls : Array Slot) (_ : ow D vwCl A s.heap H locs [bX K h ar ad ck bi lo (va_up (va_up (va_up (va_up F 11 (upd (F 11) d (nI (nxt (!false) (sl_ - at_))))) 12 (upd (F 12) d (nI 3))) 13 (upd (F 13) d (bI (decide (at_ = 0))))) 14 (va_cpy (F 10) (F 14) (41 * d + at_) (13 * d) i))]) (_ : lv_has ls 5 [(0, .ref h), (1, .int (nI d)), (4, .int (nI i))]), W p la e (rmL 1 0 0) s m args below meth c H locs 0 0 Qz (F0 m 110 ls []) := by
            intro fuel
            induction fuel with
            | zero => intro i h0; exact absurd h0 (Nat.not_lt_zero _)
            | succ fuel ih110 =>
              intro i hfu hi H locs ls ho hl
              refine lv_iload hx hb dX9_newFrame_110 (lv_at hl 2 rfl) ?_
              refine lv_aload_n hx hb dX9_newFrame_112 rfl (lv_at hl 0 rfl) ?_
              refine o_get (v := .ref (ar 11)) C ho 0 0 rfl rfl rfl 15 fX9_43 rfl dX9_newFrame_113 ?_
              refine lv_iload_n hx hb dX9_newFrame_116 rfl (lv_at hl 1 rfl) ?_
              refine o_iald (v := nI (nxt (!false) (sl_ - at_))) C ho 0 12 rfl rfl 0 rfl d rfl (by omega) (by omega) pk_us dX9_newFrame_117 ?_
              refine o_icmp_ge (tgt := 158) hx hb dX9_newFrame_118 (by decide) (by first | omega | exact and1_lt _) (by first | omega | exact and1_lt _) (fun c_22 => ?_) (fun c_22 => ?_)
              · skip
                have e_23 : bX K h ar ad ck bi lo (va_up (va_up (va_up (va_up F 11 (upd (F 11) d (nI (nxt (!false) (sl_ - at_))))) 12 (upd (F 12) d (nI 3))) 13 (upd (F 13) d (bI (decide (at_ = 0))))) 14 (va_cpy (F 10) (F 14) (41 * d + at_) (13 * d) i)) = bX K h ar ad ck bi lo (va_up (va_up (va_up (va_up F 11 (upd (F 11) d (nI (nxt (!false) (sl_ - at_))))) 12 (upd (F 12) d (nI 3))) 13 (upd (F 13) d (bI (decide (at_ = 0))))) 14 (va_cpy (F 10) (F 14) (41 * d + at_) (13 * d) (nxt (!false) (sl_ - at_)))) := by rw [show i = nxt (!false) (sl_ - at_) by omega]
                have ho : ow D vwCl A s.heap H locs [bX K h ar ad ck bi lo (va_up (va_up (va_up (va_up F 11 (upd (F 11) d (nI (nxt (!false) (sl_ - at_))))) 12 (upd (F 12) d (nI 3))) 13 (upd (F 13) d (bI (decide (at_ = 0))))) 14 (va_cpy (F 10) (F 14) (41 * d + at_) (13 * d) (nxt (!false) (sl_ - at_))))] := by rw [← e_23]; exact ho
                refine lv_aload_n hx hb dX9_newFrame_158 rfl (lv_at hl 0 rfl) ?_
                refine o_get (v := .ref (ar 9)) C ho 0 0 rfl rfl rfl 13 fX9_37 rfl dX9_newFrame_159 ?_
                refine lv_iload_n hx hb dX9_newFrame_162 rfl (lv_at hl 1 rfl) ?_
                refine lv_dup2_11 hx hb dX9_newFrame_163 rfl rfl ?_
                refine o_iald (v := nI at_) C ho 0 10 rfl rfl 0 rfl d rfl (by omega) (by omega) qa dX9_newFrame_164 ?_
                refine lv_aload_n hx hb dX9_newFrame_165 rfl (lv_at hl 0 rfl) ?_
                refine o_get (v := .ref (ar 11)) C ho 0 0 rfl rfl rfl 15 fX9_43 rfl dX9_newFrame_166 ?_
                refine lv_iload_n hx hb dX9_newFrame_169 rfl (lv_at hl 1 rfl) ?_
                refine o_iald (v := nI (nxt (!false) (sl_ - at_))) C ho 0 12 rfl rfl 0 rfl d rfl (by omega) (by omega) pk_us dX9_newFrame_170 ?_
                refine o_add hx hb dX9_newFrame_171 ?_
                refine o_iast (bs' := [bX K h ar ad ck bi lo (va_up (va_up (va_up (va_up (va_up F 11 (upd (F 11) d (nI (nxt (!false) (sl_ - at_))))) 12 (upd (F 12) d (nI 3))) 13 (upd (F 13) d (bI (decide (at_ = 0))))) 14 (va_cpy (F 10) (F 14) (41 * d + at_) (13 * d) (nxt (!false) (sl_ - at_)))) 9 (upd (F 9) d (nI (at_ + (nxt (!false) (sl_ - at_))))))]) C ho 0 10 rfl rfl 0 rfl d rfl (by omega) (by decide) dX9_newFrame_172 rfl (fun H locs ho => ?_)
                refine lv_aload_n hx hb dX9_newFrame_173 rfl (lv_at hl 0 rfl) ?_
                refine o_get (v := .ref (ar 22)) C ho 0 0 rfl rfl rfl 26 fX9_77 rfl dX9_newFrame_174 ?_
                refine lv_iload_n hx hb dX9_newFrame_177 rfl (lv_at hl 1 rfl) ?_
                refine lv_iconst (v := nI 1) hx hb dX9_newFrame_178 (by decide) ?_
                refine lv_aload_n hx hb dX9_newFrame_179 rfl (lv_at hl 0 rfl) ?_
                refine o_get (v := .ref (ar 22)) C ho 0 0 rfl rfl rfl 26 fX9_77 rfl dX9_newFrame_180 ?_
                refine lv_iload_n hx hb dX9_newFrame_183 rfl (lv_at hl 1 rfl) ?_
                refine o_iald (v := bI tu) C ho 0 23 rfl rfl 0 rfl d rfl (by omega) (by omega) qt dX9_newFrame_184 ?_
                refine lv_isub hx hb dX9_newFrame_185 ?_
                refine o_top (y := bI (!tu)) (bI_sub tu) ?_
                refine o_iast (bs' := [bX K h ar ad ck bi lo (va_up (va_up (va_up (va_up (va_up (va_up F 11 (upd (F 11) d (nI (nxt (!false) (sl_ - at_))))) 12 (upd (F 12) d (nI 3))) 13 (upd (F 13) d (bI (decide (at_ = 0))))) 14 (va_cpy (F 10) (F 14) (41 * d + at_) (13 * d) (nxt (!false) (sl_ - at_)))) 9 (upd (F 9) d (nI (at_ + (nxt (!false) (sl_ - at_)))))) 22 (upd (F 22) d (bI (!tu))))]) C ho 0 23 rfl rfl 0 rfl d rfl (by omega) (by decide) dX9_newFrame_186 rfl (fun H locs ho => ?_)
                exact o_vret hQ C ho () rfl rfl (Nat.le_of_ble_eq_true rfl) (Nat.le_of_ble_eq_true rfl) dX9_newFrame_187
              · skip
                refine lv_aload_n hx hb dX9_newFrame_121 rfl (lv_at hl 0 rfl) ?_
                refine o_get (v := .ref (ar 14)) C ho 0 0 rfl rfl rfl 18 fX9_53 rfl dX9_newFrame_122 ?_
                refine lv_bipush (v := nI 13) hx hb dX9_newFrame_125 (by decide) ?_
                refine lv_iload_n hx hb dX9_newFrame_127 rfl (lv_at hl 1 rfl) ?_
                refine o_mul hx hb dX9_newFrame_128 ?_
                refine lv_iload hx hb dX9_newFrame_129 (lv_at hl 2 rfl) ?_
                refine o_add hx hb dX9_newFrame_131 ?_
                refine lv_aload_n hx hb dX9_newFrame_132 rfl (lv_at hl 0 rfl) ?_
                refine o_get (v := .ref (ar 10)) C ho 0 0 rfl rfl rfl 14 fX9_40 rfl dX9_newFrame_133 ?_
                refine lv_bipush (v := nI 41) hx hb dX9_newFrame_136 (by decide) ?_
                refine lv_iload_n hx hb dX9_newFrame_138 rfl (lv_at hl 1 rfl) ?_
                refine o_mul hx hb dX9_newFrame_139 ?_
                refine lv_aload_n hx hb dX9_newFrame_140 rfl (lv_at hl 0 rfl) ?_
                refine o_get (v := .ref (ar 9)) C ho 0 0 rfl rfl rfl 13 fX9_37 rfl dX9_newFrame_141 ?_
                refine lv_iload_n hx hb dX9_newFrame_144 rfl (lv_at hl 1 rfl) ?_
                refine o_iald (v := nI at_) C ho 0 10 rfl rfl 0 rfl d rfl (by omega) (by omega) qa dX9_newFrame_145 ?_
                refine o_add hx hb dX9_newFrame_146 ?_
                refine lv_iload hx hb dX9_newFrame_147 (lv_at hl 2 rfl) ?_
                refine o_add hx hb dX9_newFrame_149 ?_
                refine o_iald (v := F 10 (((41 * d) + at_) + i)) C ho 0 11 rfl rfl 0 rfl (((41 * d) + at_) + i) rfl (by omega) (by omega) rfl dX9_newFrame_150 ?_
                refine o_iast (bs' := [bX K h ar ad ck bi lo (va_up (va_up (va_up (va_up (va_up F 11 (upd (F 11) d (nI (nxt (!false) (sl_ - at_))))) 12 (upd (F 12) d (nI 3))) 13 (upd (F 13) d (bI (decide (at_ = 0))))) 14 (va_cpy (F 10) (F 14) (41 * d + at_) (13 * d) i)) 14 (upd (va_cpy (F 10) (F 14) (41 * d + at_) (13 * d) i) ((13 * d) + i) (F 10 (((41 * d) + at_) + i))))]) C ho 0 15 rfl rfl 0 rfl ((13 * d) + i) rfl (by omega) (by decide) dX9_newFrame_151 rfl (fun H locs ho => ?_)
                have e_24 : bX K h ar ad ck bi lo (va_up (va_up (va_up (va_up (va_up F 11 (upd (F 11) d (nI (nxt (!false) (sl_ - at_))))) 12 (upd (F 12) d (nI 3))) 13 (upd (F 13) d (bI (decide (at_ = 0))))) 14 (va_cpy (F 10) (F 14) (41 * d + at_) (13 * d) i)) 14 (upd (va_cpy (F 10) (F 14) (41 * d + at_) (13 * d) i) ((13 * d) + i) (F 10 (((41 * d) + at_) + i)))) = bX K h ar ad ck bi lo (va_up (va_up (va_up (va_up F 11 (upd (F 11) d (nI (nxt (!false) (sl_ - at_))))) 12 (upd (F 12) d (nI 3))) 13 (upd (F 13) d (bI (decide (at_ = 0))))) 14 (va_cpy (F 10) (F 14) (41 * d + at_) (13 * d) (i + 1))) := by rw [bx_uu, cpy_succ]
                have ho : ow D vwCl A s.heap H locs [bX K h ar ad ck bi lo (va_up (va_up (va_up (va_up F 11 (upd (F 11) d (nI (nxt (!false) (sl_ - at_))))) 12 (upd (F 12) d (nI 3))) 13 (upd (F 13) d (bI (decide (at_ = 0))))) 14 (va_cpy (F 10) (F 14) (41 * d + at_) (13 * d) (i + 1)))] := by rw [← e_24]; exact ho
                refine lv_iinc (v := nI (i + 1)) (lv' := [(4, .int (nI (i + 1))), (0, .ref h), (1, .int (nI d))]) hx hb dX9_newFrame_152 hl (k := 2) rfl (iincN _ _) (by decide) rfl (fun ls hl => ?_)
                refine lv_goto (tgt := 110) hx hb dX9_newFrame_155 (by decide) ?_
                exact ih110 (i + 1) (by omega) (by omega) _ _ _ ho (lv_sub hl [1, 2, 0] rfl)
          exact LP110 ((nxt (!false) (sl_ - at_)) - 0 + 1) 0 (Nat.lt_succ_self _) (by omega) _ _ _ ho (lv_sub hl [3, 4, 0] rfl)
    · skip
      exact absurd c_1 (by omega)
  · skip
    refine lv_aload_n hx hb dX9_newFrame_0 rfl (lv_at hl 0 rfl) ?_
    refine o_get (v := .ref (ar 9)) C ho 0 0 rfl rfl rfl 13 fX9_37 rfl dX9_newFrame_1 ?_
    refine lv_iload_n hx hb dX9_newFrame_4 rfl (lv_at hl 1 rfl) ?_
    refine o_iald (v := nI at_) C ho 0 10 rfl rfl 0 rfl d rfl (by omega) (by omega) qa dX9_newFrame_5 ?_
    refine lv_aload_n hx hb dX9_newFrame_6 rfl (lv_at hl 0 rfl) ?_
    refine o_get (v := .ref (ar 8)) C ho 0 0 rfl rfl rfl 12 fX9_34 rfl dX9_newFrame_7 ?_
    refine lv_iload_n hx hb dX9_newFrame_10 rfl (lv_at hl 1 rfl) ?_
    refine o_iald (v := nI sl_) C ho 0 9 rfl rfl 0 rfl d rfl (by omega) (by omega) qs dX9_newFrame_11 ?_
    refine o_icmp_ne (tgt := 20) hx hb dX9_newFrame_12 (by decide) (by first | omega | exact and1_lt _) (by first | omega | exact and1_lt _) (fun c_25 => ?_) (fun c_25 => ?_)
    · skip
      refine lv_aload_n hx hb dX9_newFrame_20 rfl (lv_at hl 0 rfl) ?_
      refine o_get (v := .ref (ar 21)) C ho 0 0 rfl rfl rfl 25 fX9_74 rfl dX9_newFrame_21 ?_
      refine lv_iload_n hx hb dX9_newFrame_24 rfl (lv_at hl 1 rfl) ?_
      refine o_zald (v := bI true) C ho 0 22 rfl rfl 3 rfl d rfl (by omega) (by decide) qp dX9_newFrame_25 ?_
      refine o_ifb_eq (tgt := 34) hx hb dX9_newFrame_26 (by decide) (fun c9 => absurd c9 (by decide)) (fun _ => ?_)
      refine lv_bipush (v := nI 13) hx hb dX9_newFrame_29 (by decide) ?_
      refine lv_goto (tgt := 36) hx hb dX9_newFrame_31 (by decide) ?_
      refine lv_istore_n (lv' := [(2, .int (nI 13)), (0, .ref h), (1, .int (nI d))]) hx hb dX9_newFrame_36 rfl hl (by decide) rfl (fun ls hl => ?_)
      refine lv_aload_n hx hb dX9_newFrame_37 rfl (lv_at hl 1 rfl) ?_
      refine o_get (v := .ref (ar 8)) C ho 0 0 rfl rfl rfl 12 fX9_34 rfl dX9_newFrame_38 ?_
      refine lv_iload_n hx hb dX9_newFrame_41 rfl (lv_at hl 2 rfl) ?_
      refine o_iald (v := nI sl_) C ho 0 9 rfl rfl 0 rfl d rfl (by omega) (by omega) qs dX9_newFrame_42 ?_
      refine lv_aload_n hx hb dX9_newFrame_43 rfl (lv_at hl 1 rfl) ?_
      refine o_get (v := .ref (ar 9)) C ho 0 0 rfl rfl rfl 13 fX9_37 rfl dX9_newFrame_44 ?_
      refine lv_iload_n hx hb dX9_newFrame_47 rfl (lv_at hl 2 rfl) ?_
      refine o_iald (v := nI at_) C ho 0 10 rfl rfl 0 rfl d rfl (by omega) (by omega) qa dX9_newFrame_48 ?_
      refine o_sub hx hb dX9_newFrame_49 (by omega) ?_
      refine lv_istore_n (lv' := [(3, .int (nI (sl_ - at_))), (2, .int (nI 13)), (0, .ref h), (1, .int (nI d))]) hx hb dX9_newFrame_50 rfl hl (by decide) rfl (fun ls hl => ?_)
      refine lv_aload_n hx hb dX9_newFrame_51 rfl (lv_at hl 2 rfl) ?_
      refine o_get (v := .ref (ar 11)) C ho 0 0 rfl rfl rfl 15 fX9_43 rfl dX9_newFrame_52 ?_
      refine lv_iload_n hx hb dX9_newFrame_55 rfl (lv_at hl 3 rfl) ?_
      refine lv_iload_n hx hb dX9_newFrame_56 rfl (lv_at hl 0 rfl) ?_
      refine lv_iload_n hx hb dX9_newFrame_57 rfl (lv_at hl 1 rfl) ?_
      refine o_icmp_ge (tgt := 65) hx hb dX9_newFrame_58 (by decide) (by first | omega | exact and1_lt _) (by first | omega | exact and1_lt _) (fun c_26 => ?_) (fun c_26 => ?_)
      · skip
        refine lv_iload_n hx hb dX9_newFrame_65 rfl (lv_at hl 1 rfl) ?_
        refine o_top (y := nI (nxt (!true) (sl_ - at_))) (congrArg nI (show _ = min (sl_ - at_) 13 by omega)) ?_
        refine o_iast (bs' := [bX K h ar ad ck bi lo (va_up F 11 (upd (F 11) d (nI (nxt (!true) (sl_ - at_)))))]) C ho 0 12 rfl rfl 0 rfl d rfl (by omega) (by decide) dX9_newFrame_66 rfl (fun H locs ho => ?_)
        have hn9 : nxt (!true) (sl_ - at_) ≤ 13 := by unfold nxt; dsimp only [cond, not]; omega
        have hn8 : nxt (!true) (sl_ - at_) ≤ sl_ - at_ := by unfold nxt; omega
        refine lv_aload_n hx hb dX9_newFrame_67 rfl (lv_at hl 2 rfl) ?_
        refine o_get (v := .ref (ar 12)) C ho 0 0 rfl rfl rfl 16 fX9_46 rfl dX9_newFrame_68 ?_
        refine lv_iload_n hx hb dX9_newFrame_71 rfl (lv_at hl 3 rfl) ?_
        refine lv_aload_n hx hb dX9_newFrame_72 rfl (lv_at hl 2 rfl) ?_
        refine o_get (v := .ref (ar 21)) C ho 0 0 rfl rfl rfl 25 fX9_74 rfl dX9_newFrame_73 ?_
        refine lv_iload_n hx hb dX9_newFrame_76 rfl (lv_at hl 3 rfl) ?_
        refine o_zald (v := bI true) C ho 0 22 rfl rfl 3 rfl d rfl (by omega) (by decide) qp dX9_newFrame_77 ?_
        refine o_ifb_eq (tgt := 85) hx hb dX9_newFrame_78 (by decide) (fun c9 => absurd c9 (by decide)) (fun _ => ?_)
        refine lv_iconst (v := nI 4) hx hb dX9_newFrame_81 (by decide) ?_
        refine lv_goto (tgt := 86) hx hb dX9_newFrame_82 (by decide) ?_
        refine o_iast (bs' := [bX K h ar ad ck bi lo (va_up (va_up F 11 (upd (F 11) d (nI (nxt (!true) (sl_ - at_))))) 12 (upd (F 12) d (nI 4)))]) C ho 0 13 rfl rfl 0 rfl d rfl (by omega) (by decide) dX9_newFrame_86 rfl (fun H locs ho => ?_)
        refine lv_aload_n hx hb dX9_newFrame_87 rfl (lv_at hl 2 rfl) ?_
        refine o_get (v := .ref (ar 13)) C ho 0 0 rfl rfl rfl 17 fX9_49 rfl dX9_newFrame_88 ?_
        refine lv_iload_n hx hb dX9_newFrame_91 rfl (lv_at hl 3 rfl) ?_
        refine lv_aload_n hx hb dX9_newFrame_92 rfl (lv_at hl 2 rfl) ?_
        refine o_get (v := .ref (ar 9)) C ho 0 0 rfl rfl rfl 13 fX9_37 rfl dX9_newFrame_93 ?_
        refine lv_iload_n hx hb dX9_newFrame_96 rfl (lv_at hl 3 rfl) ?_
        refine o_iald (v := nI at_) C ho 0 10 rfl rfl 0 rfl d rfl (by omega) (by omega) qa dX9_newFrame_97 ?_
        refine o_if_ne (tgt := 105) hx hb dX9_newFrame_98 (by decide) (by omega) (fun c_27 => ?_) (fun c_27 => ?_)
        · skip
          refine lv_iconst (v := nI 0) hx hb dX9_newFrame_105 (by decide) ?_
          refine o_top (y := bI false) (rfl) ?_
          refine o_zast (bs' := [bX K h ar ad ck bi lo (va_up (va_up (va_up F 11 (upd (F 11) d (nI (nxt (!true) (sl_ - at_))))) 12 (upd (F 12) d (nI 4))) 13 (upd (F 13) d (bI false)))]) C ho 0 14 rfl rfl 3 rfl d rfl (by omega) (by decide) dX9_newFrame_106 rfl (fun H locs ho => ?_)
          have e_28 : bX K h ar ad ck bi lo (va_up (va_up (va_up F 11 (upd (F 11) d (nI (nxt (!true) (sl_ - at_))))) 12 (upd (F 12) d (nI 4))) 13 (upd (F 13) d (bI false))) = bX K h ar ad ck bi lo (va_up (va_up (va_up F 11 (upd (F 11) d (nI (nxt (!true) (sl_ - at_))))) 12 (upd (F 12) d (nI 4))) 13 (upd (F 13) d (bI (decide (at_ = 0))))) := by rw [decide_eq_false c_27]
          have ho : ow D vwCl A s.heap H locs [bX K h ar ad ck bi lo (va_up (va_up (va_up F 11 (upd (F 11) d (nI (nxt (!true) (sl_ - at_))))) 12 (upd (F 12) d (nI 4))) 13 (upd (F 13) d (bI (decide (at_ = 0)))))] := by rw [← e_28]; exact ho
          refine lv_iconst (v := nI 0) hx hb dX9_newFrame_107 (by decide) ?_
          refine lv_istore (lv' := [(4, .int (nI 0)), (3, .int (nI (sl_ - at_))), (2, .int (nI 13)), (0, .ref h), (1, .int (nI d))]) hx hb dX9_newFrame_108 hl (by decide) rfl (fun ls hl => ?_)
          have e_29 : bX K h ar ad ck bi lo (va_up (va_up (va_up F 11 (upd (F 11) d (nI (nxt (!true) (sl_ - at_))))) 12 (upd (F 12) d (nI 4))) 13 (upd (F 13) d (bI (decide (at_ = 0))))) = bX K h ar ad ck bi lo (va_up (va_up (va_up (va_up F 11 (upd (F 11) d (nI (nxt (!true) (sl_ - at_))))) 12 (upd (F 12) d (nI 4))) 13 (upd (F 13) d (bI (decide (at_ = 0))))) 14 (va_cpy (F 10) (F 14) (41 * d + at_) (13 * d) 0)) := by rw [cpy_0]; exact congrArg (bX K h ar ad ck bi lo) (up_1 rfl)
          have ho : ow D vwCl A s.heap H locs [bX K h ar ad ck bi lo (va_up (va_up (va_up (va_up F 11 (upd (F 11) d (nI (nxt (!true) (sl_ - at_))))) 12 (upd (F 12) d (nI 4))) 13 (upd (F 13) d (bI (decide (at_ = 0))))) 14 (va_cpy (F 10) (F 14) (41 * d + at_) (13 * d) 0))] := by rw [← e_29]; exact ho
          have LP110 : ∀ (fuel : Nat) (i : Nat) (_ : (nxt (!true) (sl_ - at_)) - i < fuel) (_ : i ≤ nxt (!true) (sl_ - at_)) (H : Heap) (locs : List Loc) (ls : Array Slot) (_ : ow D vwCl A s.heap H locs [bX K h ar ad ck bi lo (va_up (va_up (va_up (va_up F 11 (upd (F 11) d (nI (nxt (!true) (sl_ - at_))))) 12 (upd (F 12) d (nI 4))) 13 (upd (F 13) d (bI (decide (at_ = 0))))) 14 (va_cpy (F 10) (F 14) (41 * d + at_) (13 * d) i))]) (_ : lv_has ls 5 [(0, .ref h), (1, .int (nI d)), (4, .int (nI i))]), W p la e (rmL 1 0 0) s m args below meth c H locs 0 0 Qz (F0 m 110 ls []) := by
            intro fuel
            induction fuel with
            | zero => intro i h0; exact absurd h0 (Nat.not_lt_zero _)
            | succ fuel ih110 =>
              intro i hfu hi H locs ls ho hl
              refine lv_iload hx hb dX9_newFrame_110 (lv_at hl 2 rfl) ?_
              refine lv_aload_n hx hb dX9_newFrame_112 rfl (lv_at hl 0 rfl) ?_
              refine o_get (v := .ref (ar 11)) C ho 0 0 rfl rfl rfl 15 fX9_43 rfl dX9_newFrame_113 ?_
              refine lv_iload_n hx hb dX9_newFrame_116 rfl (lv_at hl 1 rfl) ?_
              refine o_iald (v := nI (nxt (!true) (sl_ - at_))) C ho 0 12 rfl rfl 0 rfl d rfl (by omega) (by omega) pk_us dX9_newFrame_117 ?_
              refine o_icmp_ge (tgt := 158) hx hb dX9_newFrame_118 (by decide) (by first | omega | exact and1_lt _) (by first | omega | exact and1_lt _) (fun c_30 => ?_) (fun c_30 => ?_)
              · skip
                have e_31 : bX K h ar ad ck bi lo (va_up (va_up (va_up (va_up F 11 (upd (F 11) d (nI (nxt (!true) (sl_ - at_))))) 12 (upd (F 12) d (nI 4))) 13 (upd (F 13) d (bI (decide (at_ = 0))))) 14 (va_cpy (F 10) (F 14) (41 * d + at_) (13 * d) i)) = bX K h ar ad ck bi lo (va_up (va_up (va_up (va_up F 11 (upd (F 11) d (nI (nxt (!true) (sl_ - at_))))) 12 (upd (F 12) d (nI 4))) 13 (upd (F 13) d (bI (decide (at_ = 0))))) 14 (va_cpy (F 10) (F 14) (41 * d + at_) (13 * d) (nxt (!true) (sl_ - at_)))) := by rw [show i = nxt (!true) (sl_ - at_) by omega]
                have ho : ow D vwCl A s.heap H locs [bX K h ar ad ck bi lo (va_up (va_up (va_up (va_up F 11 (upd (F 11) d (nI (nxt (!true) (sl_ - at_))))) 12 (upd (F 12) d (nI 4))) 13 (upd (F 13) d (bI (decide (at_ = 0))))) 14 (va_cpy (F 10) (F 14) (41 * d + at_) (13 * d) (nxt (!true) (sl_ - at_))))] := by rw [← e_31]; exact ho
                refine lv_aload_n hx hb dX9_newFrame_158 rfl (lv_at hl 0 rfl) ?_
                refine o_get (v := .ref (ar 9)) C ho 0 0 rfl rfl rfl 13 fX9_37 rfl dX9_newFrame_159 ?_
                refine lv_iload_n hx hb dX9_newFrame_162 rfl (lv_at hl 1 rfl) ?_
                refine lv_dup2_11 hx hb dX9_newFrame_163 rfl rfl ?_
                refine o_iald (v := nI at_) C ho 0 10 rfl rfl 0 rfl d rfl (by omega) (by omega) qa dX9_newFrame_164 ?_
                refine lv_aload_n hx hb dX9_newFrame_165 rfl (lv_at hl 0 rfl) ?_
                refine o_get (v := .ref (ar 11)) C ho 0 0 rfl rfl rfl 15 fX9_43 rfl dX9_newFrame_166 ?_
                refine lv_iload_n hx hb dX9_newFrame_169 rfl (lv_at hl 1 rfl) ?_
                refine o_iald (v := nI (nxt (!true) (sl_ - at_))) C ho 0 12 rfl rfl 0 rfl d rfl (by omega) (by omega) pk_us dX9_newFrame_170 ?_
                refine o_add hx hb dX9_newFrame_171 ?_
                refine o_iast (bs' := [bX K h ar ad ck bi lo (va_up (va_up (va_up (va_up (va_up F 11 (upd (F 11) d (nI (nxt (!true) (sl_ - at_))))) 12 (upd (F 12) d (nI 4))) 13 (upd (F 13) d (bI (decide (at_ = 0))))) 14 (va_cpy (F 10) (F 14) (41 * d + at_) (13 * d) (nxt (!true) (sl_ - at_)))) 9 (upd (F 9) d (nI (at_ + (nxt (!true) (sl_ - at_))))))]) C ho 0 10 rfl rfl 0 rfl d rfl (by omega) (by decide) dX9_newFrame_172 rfl (fun H locs ho => ?_)
                refine lv_aload_n hx hb dX9_newFrame_173 rfl (lv_at hl 0 rfl) ?_
                refine o_get (v := .ref (ar 22)) C ho 0 0 rfl rfl rfl 26 fX9_77 rfl dX9_newFrame_174 ?_
                refine lv_iload_n hx hb dX9_newFrame_177 rfl (lv_at hl 1 rfl) ?_
                refine lv_iconst (v := nI 1) hx hb dX9_newFrame_178 (by decide) ?_
                refine lv_aload_n hx hb dX9_newFrame_179 rfl (lv_at hl 0 rfl) ?_
                refine o_get (v := .ref (ar 22)) C ho 0 0 rfl rfl rfl 26 fX9_77 rfl dX9_newFrame_180 ?_
                refine lv_iload_n hx hb dX9_newFrame_183 rfl (lv_at hl 1 rfl) ?_
                refine o_iald (v := bI tu) C ho 0 23 rfl rfl 0 rfl d rfl (by omega) (by omega) qt dX9_newFrame_184 ?_
                refine lv_isub hx hb dX9_newFrame_185 ?_
                refine o_top (y := bI (!tu)) (bI_sub tu) ?_
                refine o_iast (bs' := [bX K h ar ad ck bi lo (va_up (va_up (va_up (va_up (va_up (va_up F 11 (upd (F 11) d (nI (nxt (!true) (sl_ - at_))))) 12 (upd (F 12) d (nI 4))) 13 (upd (F 13) d (bI (decide (at_ = 0))))) 14 (va_cpy (F 10) (F 14) (41 * d + at_) (13 * d) (nxt (!true) (sl_ - at_)))) 9 (upd (F 9) d (nI (at_ + (nxt (!true) (sl_ - at_)))))) 22 (upd (F 22) d (bI (!tu))))]) C ho 0 23 rfl rfl 0 rfl d rfl (by omega) (by decide) dX9_newFrame_186 rfl (fun H locs ho => ?_)
                exact o_vret hQ C ho () rfl rfl (Nat.le_of_ble_eq_true rfl) (Nat.le_of_ble_eq_true rfl) dX9_newFrame_187
              · skip
                refine lv_aload_n hx hb dX9_newFrame_121 rfl (lv_at hl 0 rfl) ?_
                refine o_get (v := .ref (ar 14)) C ho 0 0 rfl rfl rfl 18 fX9_53 rfl dX9_newFrame_122 ?_
                refine lv_bipush (v := nI 13) hx hb dX9_newFrame_125 (by decide) ?_
                refine lv_iload_n hx hb dX9_newFrame_127 rfl (lv_at hl 1 rfl) ?_
                refine o_mul hx hb dX9_newFrame_128 ?_
                refine lv_iload hx hb dX9_newFrame_129 (lv_at hl 2 rfl) ?_
                refine o_add hx hb dX9_newFrame_131 ?_
                refine lv_aload_n hx hb dX9_newFrame_132 rfl (lv_at hl 0 rfl) ?_
                refine o_get (v := .ref (ar 10)) C ho 0 0 rfl rfl rfl 14 fX9_40 rfl dX9_newFrame_133 ?_
                refine lv_bipush (v := nI 41) hx hb dX9_newFrame_136 (by decide) ?_
                refine lv_iload_n hx hb dX9_newFrame_138 rfl (lv_at hl 1 rfl) ?_
                refine o_mul hx hb dX9_newFrame_139 ?_
                refine lv_aload_n hx hb dX9_newFrame_140 rfl (lv_at hl 0 rfl) ?_
                refine o_get (v := .ref (ar 9)) C ho 0 0 rfl rfl rfl 13 fX9_37 rfl dX9_newFrame_141 ?_
                refine lv_iload_n hx hb dX9_newFrame_144 rfl (lv_at hl 1 rfl) ?_
                refine o_iald (v := nI at_) C ho 0 10 rfl rfl 0 rfl d rfl (by omega) (by omega) qa dX9_newFrame_145 ?_
                refine o_add hx hb dX9_newFrame_146 ?_
                refine lv_iload hx hb dX9_newFrame_147 (lv_at hl 2 rfl) ?_
                refine o_add hx hb dX9_newFrame_149 ?_
                refine o_iald (v := F 10 (((41 * d) + at_) + i)) C ho 0 11 rfl rfl 0 rfl (((41 * d) + at_) + i) rfl (by omega) (by omega) rfl dX9_newFrame_150 ?_
                refine o_iast (bs' := [bX K h ar ad ck bi lo (va_up (va_up (va_up (va_up (va_up F 11 (upd (F 11) d (nI (nxt (!true) (sl_ - at_))))) 12 (upd (F 12) d (nI 4))) 13 (upd (F 13) d (bI (decide (at_ = 0))))) 14 (va_cpy (F 10) (F 14) (41 * d + at_) (13 * d) i)) 14 (upd (va_cpy (F 10) (F 14) (41 * d + at_) (13 * d) i) ((13 * d) + i) (F 10 (((41 * d) + at_) + i))))]) C ho 0 15 rfl rfl 0 rfl ((13 * d) + i) rfl (by omega) (by decide) dX9_newFrame_151 rfl (fun H locs ho => ?_)
                have e_32 : bX K h ar ad ck bi lo (va_up (va_up (va_up (va_up (va_up F 11 (upd (F 11) d (nI (nxt (!true) (sl_ - at_))))) 12 (upd (F 12) d (nI 4))) 13 (upd (F 13) d (bI (decide (at_ = 0))))) 14 (va_cpy (F 10) (F 14) (41 * d + at_) (13 * d) i)) 14 (upd (va_cpy (F 10) (F 14) (41 * d + at_) (13 * d) i) ((13 * d) + i) (F 10 (((41 * d) + at_) + i)))) = bX K h ar ad ck bi lo (va_up (va_up (va_up (va_up F 11 (upd (F 11) d (nI (nxt (!true) (sl_ - at_))))) 12 (upd (F 12) d (nI 4))) 13 (upd (F 13) d (bI (decide (at_ = 0))))) 14 (va_cpy (F 10) (F 14) (41 * d + at_) (13 * d) (i + 1))) := by rw [bx_uu, cpy_succ]
                have ho : ow D vwCl A s.heap H locs [bX K h ar ad ck bi lo (va_up (va_up (va_up (va_up F 11 (upd (F 11) d (nI (nxt (!true) (sl_ - at_))))) 12 (upd (F 12) d (nI 4))) 13 (upd (F 13) d (bI (decide (at_ = 0))))) 14 (va_cpy (F 10) (F 14) (41 * d + at_) (13 * d) (i + 1)))] := by rw [← e_32]; exact ho
                refine lv_iinc (v := nI (i + 1)) (lv' := [(4, .int (nI (i + 1))), (0, .ref h), (1, .int (nI d))]) hx hb dX9_newFrame_152 hl (k := 2) rfl (iincN _ _) (by decide) rfl (fun ls hl => ?_)
                refine lv_goto (tgt := 110) hx hb dX9_newFrame_155 (by decide) ?_
                exact ih110 (i + 1) (by omega) (by omega) _ _ _ ho (lv_sub hl [1, 2, 0] rfl)
          exact LP110 ((nxt (!true) (sl_ - at_)) - 0 + 1) 0 (Nat.lt_succ_self _) (by omega) _ _ _ ho (lv_sub hl [3, 4, 0] rfl)
        · skip
          refine lv_iconst (v := nI 1) hx hb dX9_newFrame_101 (by decide) ?_
          refine lv_goto (tgt := 106) hx hb dX9_newFrame_102 (by decide) ?_
          refine o_top (y := bI true) (rfl) ?_
          refine o_zast (bs' := [bX K h ar ad ck bi lo (va_up (va_up (va_up F 11 (upd (F 11) d (nI (nxt (!true) (sl_ - at_))))) 12 (upd (F 12) d (nI 4))) 13 (upd (F 13) d (bI true)))]) C ho 0 14 rfl rfl 3 rfl d rfl (by omega) (by decide) dX9_newFrame_106 rfl (fun H locs ho => ?_)
          have e_33 : bX K h ar ad ck bi lo (va_up (va_up (va_up F 11 (upd (F 11) d (nI (nxt (!true) (sl_ - at_))))) 12 (upd (F 12) d (nI 4))) 13 (upd (F 13) d (bI true))) = bX K h ar ad ck bi lo (va_up (va_up (va_up F 11 (upd (F 11) d (nI (nxt (!true) (sl_ - at_))))) 12 (upd (F 12) d (nI 4))) 13 (upd (F 13) d (bI (decide (at_ = 0))))) := by rw [decide_eq_true c_27]
          have ho : ow D vwCl A s.heap H locs [bX K h ar ad ck bi lo (va_up (va_up (va_up F 11 (upd (F 11) d (nI (nxt (!true) (sl_ - at_))))) 12 (upd (F 12) d (nI 4))) 13 (upd (F 13) d (bI (decide (at_ = 0)))))] := by rw [← e_33]; exact ho
          refine lv_iconst (v := nI 0) hx hb dX9_newFrame_107 (by decide) ?_
          refine lv_istore (lv' := [(4, .int (nI 0)), (3, .int (nI (sl_ - at_))), (2, .int (nI 13)), (0, .ref h), (1, .int (nI d))]) hx hb dX9_newFrame_108 hl (by decide) rfl (fun ls hl => ?_)
          have e_34 : bX K h ar ad ck bi lo (va_up (va_up (va_up F 11 (upd (F 11) d (nI (nxt (!true) (sl_ - at_))))) 12 (upd (F 12) d (nI 4))) 13 (upd (F 13) d (bI (decide (at_ = 0))))) = bX K h ar ad ck bi lo (va_up (va_up (va_up (va_up F 11 (upd (F 11) d (nI (nxt (!true) (sl_ - at_))))) 12 (upd (F 12) d (nI 4))) 13 (upd (F 13) d (bI (decide (at_ = 0))))) 14 (va_cpy (F 10) (F 14) (41 * d + at_) (13 * d) 0)) := by rw [cpy_0]; exact congrArg (bX K h ar ad ck bi lo) (up_1 rfl)
          have ho : ow D vwCl A s.heap H locs [bX K h ar ad ck bi lo (va_up (va_up (va_up (va_up F 11 (upd (F 11) d (nI (nxt (!true) (sl_ - at_))))) 12 (upd (F 12) d (nI 4))) 13 (upd (F 13) d (bI (decide (at_ = 0))))) 14 (va_cpy (F 10) (F 14) (41 * d + at_) (13 * d) 0))] := by rw [← e_34]; exact ho
          have LP110 : ∀ (fuel : Nat) (i : Nat) (_ : (nxt (!true) (sl_ - at_)) - i < fuel) (_ : i ≤ nxt (!true) (sl_ - at_)) (H : Heap) (locs : List Loc) (ls : Array Slot) (_ : ow D vwCl A s.heap H locs [bX K h ar ad ck bi lo (va_up (va_up (va_up (va_up F 11 (upd (F 11) d (nI (nxt (!true) (sl_ - at_))))) 12 (upd (F 12) d (nI 4))) 13 (upd (F 13) d (bI (decide (at_ = 0))))) 14 (va_cpy (F 10) (F 14) (41 * d + at_) (13 * d) i))]) (_ : lv_has ls 5 [(0, .ref h), (1, .int (nI d)), (4, .int (nI i))]), W p la e (rmL 1 0 0) s m args below meth c H locs 0 0 Qz (F0 m 110 ls []) := by
            intro fuel
            induction fuel with
            | zero => intro i h0; exact absurd h0 (Nat.not_lt_zero _)
            | succ fuel ih110 =>
              intro i hfu hi H locs ls ho hl
              refine lv_iload hx hb dX9_newFrame_110 (lv_at hl 2 rfl) ?_
              refine lv_aload_n hx hb dX9_newFrame_112 rfl (lv_at hl 0 rfl) ?_
              refine o_get (v := .ref (ar 11)) C ho 0 0 rfl rfl rfl 15 fX9_43 rfl dX9_newFrame_113 ?_
              refine lv_iload_n hx hb dX9_newFrame_116 rfl (lv_at hl 1 rfl) ?_
              refine o_iald (v := nI (nxt (!true) (sl_ - at_))) C ho 0 12 rfl rfl 0 rfl d rfl (by omega) (by omega) pk_us dX9_newFrame_117 ?_
              refine o_icmp_ge (tgt := 158) hx hb dX9_newFrame_118 (by decide) (by first | omega | exact and1_lt _) (by first | omega | exact and1_lt _) (fun c_35 => ?_) (fun c_35 => ?_)
              · skip
                have e_36 : bX K h ar ad ck bi lo (va_up (va_up (va_up (va_up F 11 (upd (F 11) d (nI (nxt (!true) (sl_ - at_))))) 12 (upd (F 12) d (nI 4))) 13 (upd (F 13) d (bI (decide (at_ = 0))))) 14 (va_cpy (F 10) (F 14) (41 * d + at_) (13 * d) i)) = bX K h ar ad ck bi lo (va_up (va_up (va_up (va_up F 11 (upd (F 11) d (nI (nxt (!true) (sl_ - at_))))) 12 (upd (F 12) d (nI 4))) 13 (upd (F 13) d (bI (decide (at_ = 0))))) 14 (va_cpy (F 10) (F 14) (41 * d + at_) (13 * d) (nxt (!true) (sl_ - at_)))) := by rw [show i = nxt (!true) (sl_ - at_) by omega]
                have ho : ow D vwCl A s.heap H locs [bX K h ar ad ck bi lo (va_up (va_up (va_up (va_up F 11 (upd (F 11) d (nI (nxt (!true) (sl_ - at_))))) 12 (upd (F 12) d (nI 4))) 13 (upd (F 13) d (bI (decide (at_ = 0))))) 14 (va_cpy (F 10) (F 14) (41 * d + at_) (13 * d) (nxt (!true) (sl_ - at_))))] := by rw [← e_36]; exact ho
                refine lv_aload_n hx hb dX9_newFrame_158 rfl (lv_at hl 0 rfl) ?_
                refine o_get (v := .ref (ar 9)) C ho 0 0 rfl rfl rfl 13 fX9_37 rfl dX9_newFrame_159 ?_
                refine lv_iload_n hx hb dX9_newFrame_162 rfl (lv_at hl 1 rfl) ?_
                refine lv_dup2_11 hx hb dX9_newFrame_163 rfl rfl ?_
                refine o_iald (v := nI at_) C ho 0 10 rfl rfl 0 rfl d rfl (by omega) (by omega) qa dX9_newFrame_164 ?_
                refine lv_aload_n hx hb dX9_newFrame_165 rfl (lv_at hl 0 rfl) ?_
                refine o_get (v := .ref (ar 11)) C ho 0 0 rfl rfl rfl 15 fX9_43 rfl dX9_newFrame_166 ?_
                refine lv_iload_n hx hb dX9_newFrame_169 rfl (lv_at hl 1 rfl) ?_
                refine o_iald (v := nI (nxt (!true) (sl_ - at_))) C ho 0 12 rfl rfl 0 rfl d rfl (by omega) (by omega) pk_us dX9_newFrame_170 ?_
                refine o_add hx hb dX9_newFrame_171 ?_
                refine o_iast (bs' := [bX K h ar ad ck bi lo (va_up (va_up (va_up (va_up (va_up F 11 (upd (F 11) d (nI (nxt (!true) (sl_ - at_))))) 12 (upd (F 12) d (nI 4))) 13 (upd (F 13) d (bI (decide (at_ = 0))))) 14 (va_cpy (F 10) (F 14) (41 * d + at_) (13 * d) (nxt (!true) (sl_ - at_)))) 9 (upd (F 9) d (nI (at_ + (nxt (!true) (sl_ - at_))))))]) C ho 0 10 rfl rfl 0 rfl d rfl (by omega) (by decide) dX9_newFrame_172 rfl (fun H locs ho => ?_)
                refine lv_aload_n hx hb dX9_newFrame_173 rfl (lv_at hl 0 rfl) ?_
                refine o_get (v := .ref (ar 22)) C ho 0 0 rfl rfl rfl 26 fX9_77 rfl dX9_newFrame_174 ?_
                refine lv_iload_n hx hb dX9_newFrame_177 rfl (lv_at hl 1 rfl) ?_
                refine lv_iconst (v := nI 1) hx hb dX9_newFrame_178 (by decide) ?_
                refine lv_aload_n hx hb dX9_newFrame_179 rfl (lv_at hl 0 rfl) ?_
                refine o_get (v := .ref (ar 22)) C ho 0 0 rfl rfl rfl 26 fX9_77 rfl dX9_newFrame_180 ?_
                refine lv_iload_n hx hb dX9_newFrame_183 rfl (lv_at hl 1 rfl) ?_
                refine o_iald (v := bI tu) C ho 0 23 rfl rfl 0 rfl d rfl (by omega) (by omega) qt dX9_newFrame_184 ?_
                refine lv_isub hx hb dX9_newFrame_185 ?_
                refine o_top (y := bI (!tu)) (bI_sub tu) ?_
                refine o_iast (bs' := [bX K h ar ad ck bi lo (va_up (va_up (va_up (va_up (va_up (va_up F 11 (upd (F 11) d (nI (nxt (!true) (sl_ - at_))))) 12 (upd (F 12) d (nI 4))) 13 (upd (F 13) d (bI (decide (at_ = 0))))) 14 (va_cpy (F 10) (F 14) (41 * d + at_) (13 * d) (nxt (!true) (sl_ - at_)))) 9 (upd (F 9) d (nI (at_ + (nxt (!true) (sl_ - at_)))))) 22 (upd (F 22) d (bI (!tu))))]) C ho 0 23 rfl rfl 0 rfl d rfl (by omega) (by decide) dX9_newFrame_186 rfl (fun H locs ho => ?_)
                exact o_vret hQ C ho () rfl rfl (Nat.le_of_ble_eq_true rfl) (Nat.le_of_ble_eq_true rfl) dX9_newFrame_187
              · skip
                refine lv_aload_n hx hb dX9_newFrame_121 rfl (lv_at hl 0 rfl) ?_
                refine o_get (v := .ref (ar 14)) C ho 0 0 rfl rfl rfl 18 fX9_53 rfl dX9_newFrame_122 ?_
                refine lv_bipush (v := nI 13) hx hb dX9_newFrame_125 (by decide) ?_
                refine lv_iload_n hx hb dX9_newFrame_127 rfl (lv_at hl 1 rfl) ?_
                refine o_mul hx hb dX9_newFrame_128 ?_
                refine lv_iload hx hb dX9_newFrame_129 (lv_at hl 2 rfl) ?_
                refine o_add hx hb dX9_newFrame_131 ?_
                refine lv_aload_n hx hb dX9_newFrame_132 rfl (lv_at hl 0 rfl) ?_
                refine o_get (v := .ref (ar 10)) C ho 0 0 rfl rfl rfl 14 fX9_40 rfl dX9_newFrame_133 ?_
                refine lv_bipush (v := nI 41) hx hb dX9_newFrame_136 (by decide) ?_
                refine lv_iload_n hx hb dX9_newFrame_138 rfl (lv_at hl 1 rfl) ?_
                refine o_mul hx hb dX9_newFrame_139 ?_
                refine lv_aload_n hx hb dX9_newFrame_140 rfl (lv_at hl 0 rfl) ?_
                refine o_get (v := .ref (ar 9)) C ho 0 0 rfl rfl rfl 13 fX9_37 rfl dX9_newFrame_141 ?_
                refine lv_iload_n hx hb dX9_newFrame_144 rfl (lv_at hl 1 rfl) ?_
                refine o_iald (v := nI at_) C ho 0 10 rfl rfl 0 rfl d rfl (by omega) (by omega) qa dX9_newFrame_145 ?_
                refine o_add hx hb dX9_newFrame_146 ?_
                refine lv_iload hx hb dX9_newFrame_147 (lv_at hl 2 rfl) ?_
                refine o_add hx hb dX9_newFrame_149 ?_
                refine o_iald (v := F 10 (((41 * d) + at_) + i)) C ho 0 11 rfl rfl 0 rfl (((41 * d) + at_) + i) rfl (by omega) (by omega) rfl dX9_newFrame_150 ?_
                refine o_iast (bs' := [bX K h ar ad ck bi lo (va_up (va_up (va_up (va_up (va_up F 11 (upd (F 11) d (nI (nxt (!true) (sl_ - at_))))) 12 (upd (F 12) d (nI 4))) 13 (upd (F 13) d (bI (decide (at_ = 0))))) 14 (va_cpy (F 10) (F 14) (41 * d + at_) (13 * d) i)) 14 (upd (va_cpy (F 10) (F 14) (41 * d + at_) (13 * d) i) ((13 * d) + i) (F 10 (((41 * d) + at_) + i))))]) C ho 0 15 rfl rfl 0 rfl ((13 * d) + i) rfl (by omega) (by decide) dX9_newFrame_151 rfl (fun H locs ho => ?_)
                have e_37 : bX K h ar ad ck bi lo (va_up (va_up (va_up (va_up (va_up F 11 (upd (F 11) d (nI (nxt (!true) (sl_ - at_))))) 12 (upd (F 12) d (nI 4))) 13 (upd (F 13) d (bI (decide (at_ = 0))))) 14 (va_cpy (F 10) (F 14) (41 * d + at_) (13 * d) i)) 14 (upd (va_cpy (F 10) (F 14) (41 * d + at_) (13 * d) i) ((13 * d) + i) (F 10 (((41 * d) + at_) + i)))) = bX K h ar ad ck bi lo (va_up (va_up (va_up (va_up F 11 (upd (F 11) d (nI (nxt (!true) (sl_ - at_))))) 12 (upd (F 12) d (nI 4))) 13 (upd (F 13) d (bI (decide (at_ = 0))))) 14 (va_cpy (F 10) (F 14) (41 * d + at_) (13 * d) (i + 1))) := by rw [bx_uu, cpy_succ]
                have ho : ow D vwCl A s.heap H locs [bX K h ar ad ck bi lo (va_up (va_up (va_up (va_up F 11 (upd (F 11) d (nI (nxt (!true) (sl_ - at_))))) 12 (upd (F 12) d (nI 4))) 13 (upd (F 13) d (bI (decide (at_ = 0))))) 14 (va_cpy (F 10) (F 14) (41 * d + at_) (13 * d) (i + 1)))] := by rw [← e_37]; exact ho
                refine lv_iinc (v := nI (i + 1)) (lv' := [(4, .int (nI (i + 1))), (0, .ref h), (1, .int (nI d))]) hx hb dX9_newFrame_152 hl (k := 2) rfl (iincN _ _) (by decide) rfl (fun ls hl => ?_)
                refine lv_goto (tgt := 110) hx hb dX9_newFrame_155 (by decide) ?_
                exact ih110 (i + 1) (by omega) (by omega) _ _ _ ho (lv_sub hl [1, 2, 0] rfl)
          exact LP110 ((nxt (!true) (sl_ - at_)) - 0 + 1) 0 (Nat.lt_succ_self _) (by omega) _ _ _ ho (lv_sub hl [3, 4, 0] rfl)
      · skip
        refine lv_iload_n hx hb dX9_newFrame_61 rfl (lv_at hl 0 rfl) ?_
        refine lv_goto (tgt := 66) hx hb dX9_newFrame_62 (by decide) ?_
        refine o_top (y := nI (nxt (!true) (sl_ - at_))) (congrArg nI (show _ = min (sl_ - at_) 13 by omega)) ?_
        refine o_iast (bs' := [bX K h ar ad ck bi lo (va_up F 11 (upd (F 11) d (nI (nxt (!true) (sl_ - at_)))))]) C ho 0 12 rfl rfl 0 rfl d rfl (by omega) (by decide) dX9_newFrame_66 rfl (fun H locs ho => ?_)
        have hn9 : nxt (!true) (sl_ - at_) ≤ 13 := by unfold nxt; dsimp only [cond, not]; omega
        have hn8 : nxt (!true) (sl_ - at_) ≤ sl_ - at_ := by unfold nxt; omega
        refine lv_aload_n hx hb dX9_newFrame_67 rfl (lv_at hl 2 rfl) ?_
        refine o_get (v := .ref (ar 12)) C ho 0 0 rfl rfl rfl 16 fX9_46 rfl dX9_newFrame_68 ?_
        refine lv_iload_n hx hb dX9_newFrame_71 rfl (lv_at hl 3 rfl) ?_
        refine lv_aload_n hx hb dX9_newFrame_72 rfl (lv_at hl 2 rfl) ?_
        refine o_get (v := .ref (ar 21)) C ho 0 0 rfl rfl rfl 25 fX9_74 rfl dX9_newFrame_73 ?_
        refine lv_iload_n hx hb dX9_newFrame_76 rfl (lv_at hl 3 rfl) ?_
        refine o_zald (v := bI true) C ho 0 22 rfl rfl 3 rfl d rfl (by omega) (by decide) qp dX9_newFrame_77 ?_
        refine o_ifb_eq (tgt := 85) hx hb dX9_newFrame_78 (by decide) (fun c9 => absurd c9 (by decide)) (fun _ => ?_)
        refine lv_iconst (v := nI 4) hx hb dX9_newFrame_81 (by decide) ?_
        refine lv_goto (tgt := 86) hx hb dX9_newFrame_82 (by decide) ?_
        refine o_iast (bs' := [bX K h ar ad ck bi lo (va_up (va_up F 11 (upd (F 11) d (nI (nxt (!true) (sl_ - at_))))) 12 (upd (F 12) d (nI 4)))]) C ho 0 13 rfl rfl 0 rfl d rfl (by omega) (by decide) dX9_newFrame_86 rfl (fun H locs ho => ?_)
        refine lv_aload_n hx hb dX9_newFrame_87 rfl (lv_at hl 2 rfl) ?_
        refine o_get (v := .ref (ar 13)) C ho 0 0 rfl rfl rfl 17 fX9_49 rfl dX9_newFrame_88 ?_
        refine lv_iload_n hx hb dX9_newFrame_91 rfl (lv_at hl 3 rfl) ?_
        refine lv_aload_n hx hb dX9_newFrame_92 rfl (lv_at hl 2 rfl) ?_
        refine o_get (v := .ref (ar 9)) C ho 0 0 rfl rfl rfl 13 fX9_37 rfl dX9_newFrame_93 ?_
        refine lv_iload_n hx hb dX9_newFrame_96 rfl (lv_at hl 3 rfl) ?_
        refine o_iald (v := nI at_) C ho 0 10 rfl rfl 0 rfl d rfl (by omega) (by omega) qa dX9_newFrame_97 ?_
        refine o_if_ne (tgt := 105) hx hb dX9_newFrame_98 (by decide) (by omega) (fun c_38 => ?_) (fun c_38 => ?_)
        · skip
          refine lv_iconst (v := nI 0) hx hb dX9_newFrame_105 (by decide) ?_
          refine o_top (y := bI false) (rfl) ?_
          refine o_zast (bs' := [bX K h ar ad ck bi lo (va_up (va_up (va_up F 11 (upd (F 11) d (nI (nxt (!true) (sl_ - at_))))) 12 (upd (F 12) d (nI 4))) 13 (upd (F 13) d (bI false)))]) C ho 0 14 rfl rfl 3 rfl d rfl (by omega) (by decide) dX9_newFrame_106 rfl (fun H locs ho => ?_)
          have e_39 : bX K h ar ad ck bi lo (va_up (va_up (va_up F 11 (upd (F 11) d (nI (nxt (!true) (sl_ - at_))))) 12 (upd (F 12) d (nI 4))) 13 (upd (F 13) d (bI false))) = bX K h ar ad ck bi lo (va_up (va_up (va_up F 11 (upd (F 11) d (nI (nxt (!true) (sl_ - at_))))) 12 (upd (F 12) d (nI 4))) 13 (upd (F 13) d (bI (decide (at_ = 0))))) := by rw [decide_eq_false c_38]
          have ho : ow D vwCl A s.heap H locs [bX K h ar ad ck bi lo (va_up (va_up (va_up F 11 (upd (F 11) d (nI (nxt (!true) (sl_ - at_))))) 12 (upd (F 12) d (nI 4))) 13 (upd (F 13) d (bI (decide (at_ = 0)))))] := by rw [← e_39]; exact ho
          refine lv_iconst (v := nI 0) hx hb dX9_newFrame_107 (by decide) ?_
          refine lv_istore (lv' := [(4, .int (nI 0)), (3, .int (nI (sl_ - at_))), (2, .int (nI 13)), (0, .ref h), (1, .int (nI d))]) hx hb dX9_newFrame_108 hl (by decide) rfl (fun ls hl => ?_)
          have e_40 : bX K h ar ad ck bi lo (va_up (va_up (va_up F 11 (upd (F 11) d (nI (nxt (!true) (sl_ - at_))))) 12 (upd (F 12) d (nI 4))) 13 (upd (F 13) d (bI (decide (at_ = 0))))) = bX K h ar ad ck bi lo (va_up (va_up (va_up (va_up F 11 (upd (F 11) d (nI (nxt (!true) (sl_ - at_))))) 12 (upd (F 12) d (nI 4))) 13 (upd (F 13) d (bI (decide (at_ = 0))))) 14 (va_cpy (F 10) (F 14) (41 * d + at_) (13 * d) 0)) := by rw [cpy_0]; exact congrArg (bX K h ar ad ck bi lo) (up_1 rfl)
          have ho : ow D vwCl A s.heap H locs [bX K h ar ad ck bi lo (va_up (va_up (va_up (va_up F 11 (upd (F 11) d (nI (nxt (!true) (sl_ - at_))))) 12 (upd (F 12) d (nI 4))) 13 (upd (F 13) d (bI (decide (at_ = 0))))) 14 (va_cpy (F 10) (F 14) (41 * d + at_) (13 * d) 0))] := by rw [← e_40]; exact ho
          have LP110 : ∀ (fuel : Nat) (i : Nat) (_ : (nxt (!true) (sl_ - at_)) - i < fuel) (_ : i ≤ nxt (!true) (sl_ - at_)) (H : Heap) (locs : List Loc) (ls : Array Slot) (_ : ow D vwCl A s.heap H locs [bX K h ar ad ck bi lo (va_up (va_up (va_up (va_up F 11 (upd (F 11) d (nI (nxt (!true) (sl_ - at_))))) 12 (upd (F 12) d (nI 4))) 13 (upd (F 13) d (bI (decide (at_ = 0))))) 14 (va_cpy (F 10) (F 14) (41 * d + at_) (13 * d) i))]) (_ : lv_has ls 5 [(0, .ref h), (1, .int (nI d)), (4, .int (nI i))]), W p la e (rmL 1 0 0) s m args below meth c H locs 0 0 Qz (F0 m 110 ls []) := by
            intro fuel
            induction fuel with
            | zero => intro i h0; exact absurd h0 (Nat.not_lt_zero _)
            | succ fuel ih110 =>
              intro i hfu hi H locs ls ho hl
              refine lv_iload hx hb dX9_newFrame_110 (lv_at hl 2 rfl) ?_
              refine lv_aload_n hx hb dX9_newFrame_112 rfl (lv_at hl 0 rfl) ?_
              refine o_get (v := .ref (ar 11)) C ho 0 0 rfl rfl rfl 15 fX9_43 rfl dX9_newFrame_113 ?_
              refine lv_iload_n hx hb dX9_newFrame_116 rfl (lv_at hl 1 rfl) ?_
              refine o_iald (v := nI (nxt (!true) (sl_ - at_))) C ho 0 12 rfl rfl 0 rfl d rfl (by omega) (by omega) pk_us dX9_newFrame_117 ?_
              refine o_icmp_ge (tgt := 158) hx hb dX9_newFrame_118 (by decide) (by first | omega | exact and1_lt _) (by first | omega | exact and1_lt _) (fun c_41 => ?_) (fun c_41 => ?_)
              · skip
                have e_42 : bX K h ar ad ck bi lo (va_up (va_up (va_up (va_up F 11 (upd (F 11) d (nI (nxt (!true) (sl_ - at_))))) 12 (upd (F 12) d (nI 4))) 13 (upd (F 13) d (bI (decide (at_ = 0))))) 14 (va_cpy (F 10) (F 14) (41 * d + at_) (13 * d) i)) = bX K h ar ad ck bi lo (va_up (va_up (va_up (va_up F 11 (upd (F 11) d (nI (nxt (!true) (sl_ - at_))))) 12 (upd (F 12) d (nI 4))) 13 (upd (F 13) d (bI (decide (at_ = 0))))) 14 (va_cpy (F 10) (F 14) (41 * d + at_) (13 * d) (nxt (!true) (sl_ - at_)))) := by rw [show i = nxt (!true) (sl_ - at_) by omega]
                have ho : ow D vwCl A s.heap H locs [bX K h ar ad ck bi lo (va_up (va_up (va_up (va_up F 11 (upd (F 11) d (nI (nxt (!true) (sl_ - at_))))) 12 (upd (F 12) d (nI 4))) 13 (upd (F 13) d (bI (decide (at_ = 0))))) 14 (va_cpy (F 10) (F 14) (41 * d + at_) (13 * d) (nxt (!true) (sl_ - at_))))] := by rw [← e_42]; exact ho
                refine lv_aload_n hx hb dX9_newFrame_158 rfl (lv_at hl 0 rfl) ?_
                refine o_get (v := .ref (ar 9)) C ho 0 0 rfl rfl rfl 13 fX9_37 rfl dX9_newFrame_159 ?_
                refine lv_iload_n hx hb dX9_newFrame_162 rfl (lv_at hl 1 rfl) ?_
                refine lv_dup2_11 hx hb dX9_newFrame_163 rfl rfl ?_
                refine o_iald (v := nI at_) C ho 0 10 rfl rfl 0 rfl d rfl (by omega) (by omega) qa dX9_newFrame_164 ?_
                refine lv_aload_n hx hb dX9_newFrame_165 rfl (lv_at hl 0 rfl) ?_
                refine o_get (v := .ref (ar 11)) C ho 0 0 rfl rfl rfl 15 fX9_43 rfl dX9_newFrame_166 ?_
                refine lv_iload_n hx hb dX9_newFrame_169 rfl (lv_at hl 1 rfl) ?_
                refine o_iald (v := nI (nxt (!true) (sl_ - at_))) C ho 0 12 rfl rfl 0 rfl d rfl (by omega) (by omega) pk_us dX9_newFrame_170 ?_
                refine o_add hx hb dX9_newFrame_171 ?_
                refine o_iast (bs' := [bX K h ar ad ck bi lo (va_up (va_up (va_up (va_up (va_up F 11 (upd (F 11) d (nI (nxt (!true) (sl_ - at_))))) 12 (upd (F 12) d (nI 4))) 13 (upd (F 13) d (bI (decide (at_ = 0))))) 14 (va_cpy (F 10) (F 14) (41 * d + at_) (13 * d) (nxt (!true) (sl_ - at_)))) 9 (upd (F 9) d (nI (at_ + (nxt (!true) (sl_ - at_))))))]) C ho 0 10 rfl rfl 0 rfl d rfl (by omega) (by decide) dX9_newFrame_172 rfl (fun H locs ho => ?_)
                refine lv_aload_n hx hb dX9_newFrame_173 rfl (lv_at hl 0 rfl) ?_
                refine o_get (v := .ref (ar 22)) C ho 0 0 rfl rfl rfl 26 fX9_77 rfl dX9_newFrame_174 ?_
                refine lv_iload_n hx hb dX9_newFrame_177 rfl (lv_at hl 1 rfl) ?_
                refine lv_iconst (v := nI 1) hx hb dX9_newFrame_178 (by decide) ?_
                refine lv_aload_n hx hb dX9_newFrame_179 rfl (lv_at hl 0 rfl) ?_
                refine o_get (v := .ref (ar 22)) C ho 0 0 rfl rfl rfl 26 fX9_77 rfl dX9_newFrame_180 ?_
                refine lv_iload_n hx hb dX9_newFrame_183 rfl (lv_at hl 1 rfl) ?_
                refine o_iald (v := bI tu) C ho 0 23 rfl rfl 0 rfl d rfl (by omega) (by omega) qt dX9_newFrame_184 ?_
                refine lv_isub hx hb dX9_newFrame_185 ?_
                refine o_top (y := bI (!tu)) (bI_sub tu) ?_
                refine o_iast (bs' := [bX K h ar ad ck bi lo (va_up (va_up (va_up (va_up (va_up (va_up F 11 (upd (F 11) d (nI (nxt (!true) (sl_ - at_))))) 12 (upd (F 12) d (nI 4))) 13 (upd (F 13) d (bI (decide (at_ = 0))))) 14 (va_cpy (F 10) (F 14) (41 * d + at_) (13 * d) (nxt (!true) (sl_ - at_)))) 9 (upd (F 9) d (nI (at_ + (nxt (!true) (sl_ - at_)))))) 22 (upd (F 22) d (bI (!tu))))]) C ho 0 23 rfl rfl 0 rfl d rfl (by omega) (by decide) dX9_newFrame_186 rfl (fun H locs ho => ?_)
                exact o_vret hQ C ho () rfl rfl (Nat.le_of_ble_eq_true rfl) (Nat.le_of_ble_eq_true rfl) dX9_newFrame_187
              · skip
                refine lv_aload_n hx hb dX9_newFrame_121 rfl (lv_at hl 0 rfl) ?_
                refine o_get (v := .ref (ar 14)) C ho 0 0 rfl rfl rfl 18 fX9_53 rfl dX9_newFrame_122 ?_
                refine lv_bipush (v := nI 13) hx hb dX9_newFrame_125 (by decide) ?_
                refine lv_iload_n hx hb dX9_newFrame_127 rfl (lv_at hl 1 rfl) ?_
                refine o_mul hx hb dX9_newFrame_128 ?_
                refine lv_iload hx hb dX9_newFrame_129 (lv_at hl 2 rfl) ?_
                refine o_add hx hb dX9_newFrame_131 ?_
                refine lv_aload_n hx hb dX9_newFrame_132 rfl (lv_at hl 0 rfl) ?_
                refine o_get (v := .ref (ar 10)) C ho 0 0 rfl rfl rfl 14 fX9_40 rfl dX9_newFrame_133 ?_
                refine lv_bipush (v := nI 41) hx hb dX9_newFrame_136 (by decide) ?_
                refine lv_iload_n hx hb dX9_newFrame_138 rfl (lv_at hl 1 rfl) ?_
                refine o_mul hx hb dX9_newFrame_139 ?_
                refine lv_aload_n hx hb dX9_newFrame_140 rfl (lv_at hl 0 rfl) ?_
                refine o_get (v := .ref (ar 9)) C ho 0 0 rfl rfl rfl 13 fX9_37 rfl dX9_newFrame_141 ?_
                refine lv_iload_n hx hb dX9_newFrame_144 rfl (lv_at hl 1 rfl) ?_
                refine o_iald (v := nI at_) C ho 0 10 rfl rfl 0 rfl d rfl (by omega) (by omega) qa dX9_newFrame_145 ?_
                refine o_add hx hb dX9_newFrame_146 ?_
                refine lv_iload hx hb dX9_newFrame_147 (lv_at hl 2 rfl) ?_
                refine o_add hx hb dX9_newFrame_149 ?_
                refine o_iald (v := F 10 (((41 * d) + at_) + i)) C ho 0 11 rfl rfl 0 rfl (((41 * d) + at_) + i) rfl (by omega) (by omega) rfl dX9_newFrame_150 ?_
                refine o_iast (bs' := [bX K h ar ad ck bi lo (va_up (va_up (va_up (va_up (va_up F 11 (upd (F 11) d (nI (nxt (!true) (sl_ - at_))))) 12 (upd (F 12) d (nI 4))) 13 (upd (F 13) d (bI (decide (at_ = 0))))) 14 (va_cpy (F 10) (F 14) (41 * d + at_) (13 * d) i)) 14 (upd (va_cpy (F 10) (F 14) (41 * d + at_) (13 * d) i) ((13 * d) + i) (F 10 (((41 * d) + at_) + i))))]) C ho 0 15 rfl rfl 0 rfl ((13 * d) + i) rfl (by omega) (by decide) dX9_newFrame_151 rfl (fun H locs ho => ?_)
                have e_43 : bX K h ar ad ck bi lo (va_up (va_up (va_up (va_up (va_up F 11 (upd (F 11) d (nI (nxt (!true) (sl_ - at_))))) 12 (upd (F 12) d (nI 4))) 13 (upd (F 13) d (bI (decide (at_ = 0))))) 14 (va_cpy (F 10) (F 14) (41 * d + at_) (13 * d) i)) 14 (upd (va_cpy (F 10) (F 14) (41 * d + at_) (13 * d) i) ((13 * d) + i) (F 10 (((41 * d) + at_) + i)))) = bX K h ar ad ck bi lo (va_up (va_up (va_up (va_up F 11 (upd (F 11) d (nI (nxt (!true) (sl_ - at_))))) 12 (upd (F 12) d (nI 4))) 13 (upd (F 13) d (bI (decide (at_ = 0))))) 14 (va_cpy (F 10) (F 14) (41 * d + at_) (13 * d) (i + 1))) := by rw [bx_uu, cpy_succ]
                have ho : ow D vwCl A s.heap H locs [bX K h ar ad ck bi lo (va_up (va_up (va_up (va_up F 11 (upd (F 11) d (nI (nxt (!true) (sl_ - at_))))) 12 (upd (F 12) d (nI 4))) 13 (upd (F 13) d (bI (decide (at_ = 0))))) 14 (va_cpy (F 10) (F 14) (41 * d + at_) (13 * d) (i + 1)))] := by rw [← e_43]; exact ho
                refine lv_iinc (v := nI (i + 1)) (lv' := [(4, .int (nI (i + 1))), (0, .ref h), (1, .int (nI d))]) hx hb dX9_newFrame_152 hl (k := 2) rfl (iincN _ _) (by decide) rfl (fun ls hl => ?_)
                refine lv_goto (tgt := 110) hx hb dX9_newFrame_155 (by decide) ?_
                exact ih110 (i + 1) (by omega) (by omega) _ _ _ ho (lv_sub hl [1, 2, 0] rfl)
          exact LP110 ((nxt (!true) (sl_ - at_)) - 0 + 1) 0 (Nat.lt_succ_self _) (by omega) _ _ _ ho (lv_sub hl [3, 4, 0] rfl)
        · skip
          refine lv_iconst (v := nI 1) hx hb dX9_newFrame_101 (by decide) ?_
          refine lv_goto (tgt := 106) hx hb dX9_newFrame_102 (by decide) ?_
          refine o_top (y := bI true) (rfl) ?_
          refine o_zast (bs' := [bX K h ar ad ck bi lo (va_up (va_up (va_up F 11 (upd (F 11) d (nI (nxt (!true) (sl_ - at_))))) 12 (upd (F 12) d (nI 4))) 13 (upd (F 13) d (bI true)))]) C ho 0 14 rfl rfl 3 rfl d rfl (by omega) (by decide) dX9_newFrame_106 rfl (fun H locs ho => ?_)
          have e_44 : bX K h ar ad ck bi lo (va_up (va_up (va_up F 11 (upd (F 11) d (nI (nxt (!true) (sl_ - at_))))) 12 (upd (F 12) d (nI 4))) 13 (upd (F 13) d (bI true))) = bX K h ar ad ck bi lo (va_up (va_up (va_up F 11 (upd (F 11) d (nI (nxt (!true) (sl_ - at_))))) 12 (upd (F 12) d (nI 4))) 13 (upd (F 13) d (bI (decide (at_ = 0))))) := by rw [decide_eq_true c_38]
          have ho : ow D vwCl A s.heap H locs [bX K h ar ad ck bi lo (va_up (va_up (va_up F 11 (upd (F 11) d (nI (nxt (!true) (sl_ - at_))))) 12 (upd (F 12) d (nI 4))) 13 (upd (F 13) d (bI (decide (at_ = 0)))))] := by rw [← e_44]; exact ho
          refine lv_iconst (v := nI 0) hx hb dX9_newFrame_107 (by decide) ?_
          refine lv_istore (lv' := [(4, .int (nI 0)), (3, .int (nI (sl_ - at_))), (2, .int (nI 13)), (0, .ref h), (1, .int (nI d))]) hx hb dX9_newFrame_108 hl (by decide) rfl (fun ls hl => ?_)
          have e_45 : bX K h ar ad ck bi lo (va_up (va_up (va_up F 11 (upd (F 11) d (nI (nxt (!true) (sl_ - at_))))) 12 (upd (F 12) d (nI 4))) 13 (upd (F 13) d (bI (decide (at_ = 0))))) = bX K h ar ad ck bi lo (va_up (va_up (va_up (va_up F 11 (upd (F 11) d (nI (nxt (!true) (sl_ - at_))))) 12 (upd (F 12) d (nI 4))) 13 (upd (F 13) d (bI (decide (at_ = 0))))) 14 (va_cpy (F 10) (F 14) (41 * d + at_) (13 * d) 0)) := by rw [cpy_0]; exact congrArg (bX K h ar ad ck bi lo) (up_1 rfl)
          have ho : ow D vwCl A s.heap H locs [bX K h ar ad ck bi lo (va_up (va_up (va_up (va_up F 11 (upd (F 11) d (nI (nxt (!true) (sl_ - at_))))) 12 (upd (F 12) d (nI 4))) 13 (upd (F 13) d (bI (decide (at_ = 0))))) 14 (va_cpy (F 10) (F 14) (41 * d + at_) (13 * d) 0))] := by rw [← e_45]; exact ho
          have LP110 : ∀ (fuel : Nat) (i : Nat) (_ : (nxt (!true) (sl_ - at_)) - i < fuel) (_ : i ≤ nxt (!true) (sl_ - at_)) (H : Heap) (locs : List Loc) (ls : Array Slot) (_ : ow D vwCl A s.heap H locs [bX K h ar ad ck bi lo (va_up (va_up (va_up (va_up F 11 (upd (F 11) d (nI (nxt (!true) (sl_ - at_))))) 12 (upd (F 12) d (nI 4))) 13 (upd (F 13) d (bI (decide (at_ = 0))))) 14 (va_cpy (F 10) (F 14) (41 * d + at_) (13 * d) i))]) (_ : lv_has ls 5 [(0, .ref h), (1, .int (nI d)), (4, .int (nI i))]), W p la e (rmL 1 0 0) s m args below meth c H locs 0 0 Qz (F0 m 110 ls []) := by
            intro fuel
            induction fuel with
            | zero => intro i h0; exact absurd h0 (Nat.not_lt_zero _)
            | succ fuel ih110 =>
              intro i hfu hi H locs ls ho hl
              refine lv_iload hx hb dX9_newFrame_110 (lv_at hl 2 rfl) ?_
              refine lv_aload_n hx hb dX9_newFrame_112 rfl (lv_at hl 0 rfl) ?_
              refine o_get (v := .ref (ar 11)) C ho 0 0 rfl rfl rfl 15 fX9_43 rfl dX9_newFrame_113 ?_
              refine lv_iload_n hx hb dX9_newFrame_116 rfl (lv_at hl 1 rfl) ?_
              refine o_iald (v := nI (nxt (!true) (sl_ - at_))) C ho 0 12 rfl rfl 0 rfl d rfl (by omega) (by omega) pk_us dX9_newFrame_117 ?_
              refine o_icmp_ge (tgt := 158) hx hb dX9_newFrame_118 (by decide) (by first | omega | exact and1_lt _) (by first | omega | exact and1_lt _) (fun c_46 => ?_) (fun c_46 => ?_)
              · skip
                have e_47 : bX K h ar ad ck bi lo (va_up (va_up (va_up (va_up F 11 (upd (F 11) d (nI (nxt (!true) (sl_ - at_))))) 12 (upd (F 12) d (nI 4))) 13 (upd (F 13) d (bI (decide (at_ = 0))))) 14 (va_cpy (F 10) (F 14) (41 * d + at_) (13 * d) i)) = bX K h ar ad ck bi lo (va_up (va_up (va_up (va_up F 11 (upd (F 11) d (nI (nxt (!true) (sl_ - at_))))) 12 (upd (F 12) d (nI 4))) 13 (upd (F 13) d (bI (decide (at_ = 0))))) 14 (va_cpy (F 10) (F 14) (41 * d + at_) (13 * d) (nxt (!true) (sl_ - at_)))) := by rw [show i = nxt (!true) (sl_ - at_) by omega]
                have ho : ow D vwCl A s.heap H locs [bX K h ar ad ck bi lo (va_up (va_up (va_up (va_up F 11 (upd (F 11) d (nI (nxt (!true) (sl_ - at_))))) 12 (upd (F 12) d (nI 4))) 13 (upd (F 13) d (bI (decide (at_ = 0))))) 14 (va_cpy (F 10) (F 14) (41 * d + at_) (13 * d) (nxt (!true) (sl_ - at_))))] := by rw [← e_47]; exact ho
                refine lv_aload_n hx hb dX9_newFrame_158 rfl (lv_at hl 0 rfl) ?_
                refine o_get (v := .ref (ar 9)) C ho 0 0 rfl rfl rfl 13 fX9_37 rfl dX9_newFrame_159 ?_
                refine lv_iload_n hx hb dX9_newFrame_162 rfl (lv_at hl 1 rfl) ?_
                refine lv_dup2_11 hx hb dX9_newFrame_163 rfl rfl ?_
                refine o_iald (v := nI at_) C ho 0 10 rfl rfl 0 rfl d rfl (by omega) (by omega) qa dX9_newFrame_164 ?_
                refine lv_aload_n hx hb dX9_newFrame_165 rfl (lv_at hl 0 rfl) ?_
                refine o_get (v := .ref (ar 11)) C ho 0 0 rfl rfl rfl 15 fX9_43 rfl dX9_newFrame_166 ?_
                refine lv_iload_n hx hb dX9_newFrame_169 rfl (lv_at hl 1 rfl) ?_
                refine o_iald (v := nI (nxt (!true) (sl_ - at_))) C ho 0 12 rfl rfl 0 rfl d rfl (by omega) (by omega) pk_us dX9_newFrame_170 ?_
                refine o_add hx hb dX9_newFrame_171 ?_
                refine o_iast (bs' := [bX K h ar ad ck bi lo (va_up (va_up (va_up (va_up (va_up F 11 (upd (F 11) d (nI (nxt (!true) (sl_ - at_))))) 12 (upd (F 12) d (nI 4))) 13 (upd (F 13) d (bI (decide (at_ = 0))))) 14 (va_cpy (F 10) (F 14) (41 * d + at_) (13 * d) (nxt (!true) (sl_ - at_)))) 9 (upd (F 9) d (nI (at_ + (nxt (!true) (sl_ - at_))))))]) C ho 0 10 rfl rfl 0 rfl d rfl (by omega) (by decide) dX9_newFrame_172 rfl (fun H locs ho => ?_)
                refine lv_aload_n hx hb dX9_newFrame_173 rfl (lv_at hl 0 rfl) ?_
                refine o_get (v := .ref (ar 22)) C ho 0 0 rfl rfl rfl 26 fX9_77 rfl dX9_newFrame_174 ?_
                refine lv_iload_n hx hb dX9_newFrame_177 rfl (lv_at hl 1 rfl) ?_
                refine lv_iconst (v := nI 1) hx hb dX9_newFrame_178 (by decide) ?_
                refine lv_aload_n hx hb dX9_newFrame_179 rfl (lv_at hl 0 rfl) ?_
                refine o_get (v := .ref (ar 22)) C ho 0 0 rfl rfl rfl 26 fX9_77 rfl dX9_newFrame_180 ?_
                refine lv_iload_n hx hb dX9_newFrame_183 rfl (lv_at hl 1 rfl) ?_
                refine o_iald (v := bI tu) C ho 0 23 rfl rfl 0 rfl d rfl (by omega) (by omega) qt dX9_newFrame_184 ?_
                refine lv_isub hx hb dX9_newFrame_185 ?_
                refine o_top (y := bI (!tu)) (bI_sub tu) ?_
                refine o_iast (bs' := [bX K h ar ad ck bi lo (va_up (va_up (va_up (va_up (va_up (va_up F 11 (upd (F 11) d (nI (nxt (!true) (sl_ - at_))))) 12 (upd (F 12) d (nI 4))) 13 (upd (F 13) d (bI (decide (at_ = 0))))) 14 (va_cpy (F 10) (F 14) (41 * d + at_) (13 * d) (nxt (!true) (sl_ - at_)))) 9 (upd (F 9) d (nI (at_ + (nxt (!true) (sl_ - at_)))))) 22 (upd (F 22) d (bI (!tu))))]) C ho 0 23 rfl rfl 0 rfl d rfl (by omega) (by decide) dX9_newFrame_186 rfl (fun H locs ho => ?_)
                exact o_vret hQ C ho () rfl rfl (Nat.le_of_ble_eq_true rfl) (Nat.le_of_ble_eq_true rfl) dX9_newFrame_187
              · skip
                refine lv_aload_n hx hb dX9_newFrame_121 rfl (lv_at hl 0 rfl) ?_
                refine o_get (v := .ref (ar 14)) C ho 0 0 rfl rfl rfl 18 fX9_53 rfl dX9_newFrame_122 ?_
                refine lv_bipush (v := nI 13) hx hb dX9_newFrame_125 (by decide) ?_
                refine lv_iload_n hx hb dX9_newFrame_127 rfl (lv_at hl 1 rfl) ?_
                refine o_mul hx hb dX9_newFrame_128 ?_
                refine lv_iload hx hb dX9_newFrame_129 (lv_at hl 2 rfl) ?_
                refine o_add hx hb dX9_newFrame_131 ?_
                refine lv_aload_n hx hb dX9_newFrame_132 rfl (lv_at hl 0 rfl) ?_
                refine o_get (v := .ref (ar 10)) C ho 0 0 rfl rfl rfl 14 fX9_40 rfl dX9_newFrame_133 ?_
                refine lv_bipush (v := nI 41) hx hb dX9_newFrame_136 (by decide) ?_
                refine lv_iload_n hx hb dX9_newFrame_138 rfl (lv_at hl 1 rfl) ?_
                refine o_mul hx hb dX9_newFrame_139 ?_
                refine lv_aload_n hx hb dX9_newFrame_140 rfl (lv_at hl 0 rfl) ?_
                refine o_get (v := .ref (ar 9)) C ho 0 0 rfl rfl rfl 13 fX9_37 rfl dX9_newFrame_141 ?_
                refine lv_iload_n hx hb dX9_newFrame_144 rfl (lv_at hl 1 rfl) ?_
                refine o_iald (v := nI at_) C ho 0 10 rfl rfl 0 rfl d rfl (by omega) (by omega) qa dX9_newFrame_145 ?_
                refine o_add hx hb dX9_newFrame_146 ?_
                refine lv_iload hx hb dX9_newFrame_147 (lv_at hl 2 rfl) ?_
                refine o_add hx hb dX9_newFrame_149 ?_
                refine o_iald (v := F 10 (((41 * d) + at_) + i)) C ho 0 11 rfl rfl 0 rfl (((41 * d) + at_) + i) rfl (by omega) (by omega) rfl dX9_newFrame_150 ?_
                refine o_iast (bs' := [bX K h ar ad ck bi lo (va_up (va_up (va_up (va_up (va_up F 11 (upd (F 11) d (nI (nxt (!true) (sl_ - at_))))) 12 (upd (F 12) d (nI 4))) 13 (upd (F 13) d (bI (decide (at_ = 0))))) 14 (va_cpy (F 10) (F 14) (41 * d + at_) (13 * d) i)) 14 (upd (va_cpy (F 10) (F 14) (41 * d + at_) (13 * d) i) ((13 * d) + i) (F 10 (((41 * d) + at_) + i))))]) C ho 0 15 rfl rfl 0 rfl ((13 * d) + i) rfl (by omega) (by decide) dX9_newFrame_151 rfl (fun H locs ho => ?_)
                have e_48 : bX K h ar ad ck bi lo (va_up (va_up (va_up (va_up (va_up F 11 (upd (F 11) d (nI (nxt (!true) (sl_ - at_))))) 12 (upd (F 12) d (nI 4))) 13 (upd (F 13) d (bI (decide (at_ = 0))))) 14 (va_cpy (F 10) (F 14) (41 * d + at_) (13 * d) i)) 14 (upd (va_cpy (F 10) (F 14) (41 * d + at_) (13 * d) i) ((13 * d) + i) (F 10 (((41 * d) + at_) + i)))) = bX K h ar ad ck bi lo (va_up (va_up (va_up (va_up F 11 (upd (F 11) d (nI (nxt (!true) (sl_ - at_))))) 12 (upd (F 12) d (nI 4))) 13 (upd (F 13) d (bI (decide (at_ = 0))))) 14 (va_cpy (F 10) (F 14) (41 * d + at_) (13 * d) (i + 1))) := by rw [bx_uu, cpy_succ]
                have ho : ow D vwCl A s.heap H locs [bX K h ar ad ck bi lo (va_up (va_up (va_up (va_up F 11 (upd (F 11) d (nI (nxt (!true) (sl_ - at_))))) 12 (upd (F 12) d (nI 4))) 13 (upd (F 13) d (bI (decide (at_ = 0))))) 14 (va_cpy (F 10) (F 14) (41 * d + at_) (13 * d) (i + 1)))] := by rw [← e_48]; exact ho
                refine lv_iinc (v := nI (i + 1)) (lv' := [(4, .int (nI (i + 1))), (0, .ref h), (1, .int (nI d))]) hx hb dX9_newFrame_152 hl (k := 2) rfl (iincN _ _) (by decide) rfl (fun ls hl => ?_)
                refine lv_goto (tgt := 110) hx hb dX9_newFrame_155 (by decide) ?_
                exact ih110 (i + 1) (by omega) (by omega) _ _ _ ho (lv_sub hl [1, 2, 0] rfl)
          exact LP110 ((nxt (!true) (sl_ - at_)) - 0 + 1) 0 (Nat.lt_succ_self _) (by omega) _ _ _ ho (lv_sub hl [3, 4, 0] rfl)
    · skip
      exact absurd c_25 (by omega)

set_option maxHeartbeats 4000000 in
set_option maxRecDepth 100000 in
theorem c_M_newFrameC (la : Launch) (D : va_G) (K : Nat → ClassId) (h : Nat) (ar : Nat → Nat) (ad : Nat) (ck : Nat) (bi : Nat) (lo : Nat) (F : Nat → Nat → Int32) (d : Nat) (pp : Bool) (at_ : Nat) (sn : Nat) (ln : Nat) (tu : Bool) (q2d : d < 2) (qa : F 9 d = nI at_) (qs : F 8 d = nI at_) (qat : at_ ≤ 41) (qp : F 21 d = bI pp) (qt : F 22 d = bI tu) (q0 : F 5 d = nI sn) (qn : 0 < sn) (qn2 : sn ≤ 6) (ql : F 6 (6 * d) = nI ln) (qln : ln ≤ 40) : MT la D K yX9_newFrame cX9_newFrame 5 none (rmL 2 0 0) [.ref h, .int (nI d)] [bX K h ar ad ck bi lo F] Unit (fun v _ => v = none) (fun _ => [bX K h ar ad ck bi lo (nfF (ssF F d sn ln) d pp 0 (ln + 1) tu)]) := by
  refine Mt.ofW [(0, .ref h), (1, .int (nI d))] (by decide) rfl (Nat.le_of_ble_eq_true rfl) ?_
  intro p e s m args below meth c A ls H locs Qz hQ C hin hl ho
  have hx := C.1.1
  have hb := C.1.2.1
  cases pp
  · skip
    refine lv_aload_n hx hb dX9_newFrame_0 rfl (lv_at hl 0 rfl) ?_
    refine o_get (v := .ref (ar 9)) C ho 0 0 rfl rfl rfl 13 fX9_37 rfl dX9_newFrame_1 ?_
    refine lv_iload_n hx hb dX9_newFrame_4 rfl (lv_at hl 1 rfl) ?_
    refine o_iald (v := nI at_) C ho 0 10 rfl rfl 0 rfl d rfl (by omega) (by omega) qa dX9_newFrame_5 ?_
    refine lv_aload_n hx hb dX9_newFrame_6 rfl (lv_at hl 0 rfl) ?_
    refine o_get (v := .ref (ar 8)) C ho 0 0 rfl rfl rfl 12 fX9_34 rfl dX9_newFrame_7 ?_
    refine lv_iload_n hx hb dX9_newFrame_10 rfl (lv_at hl 1 rfl) ?_
    refine o_iald (v := nI at_) C ho 0 9 rfl rfl 0 rfl d rfl (by omega) (by omega) qs dX9_newFrame_11 ?_
    refine o_icmp_ne (tgt := 20) hx hb dX9_newFrame_12 (by decide) (by first | omega | exact and1_lt _) (by first | omega | exact and1_lt _) (fun c_1 => ?_) (fun c_1 => ?_)
    · skip
      exact absurd rfl c_1
    · skip
      refine lv_aload_n hx hb dX9_newFrame_15 rfl (lv_at hl 0 rfl) ?_
      refine lv_iload_n hx hb dX9_newFrame_16 rfl (lv_at hl 1 rfl) ?_
      refine o_callV (wr := []) (rest := []) (As := [.int (nI d)]) C (c_M_startSending la D K h ar ad ck bi lo F d sn ln (by first | omega | assumption | (simp only [List.length_append, List.length_cons, List.length_nil, List.length_modify, List.length_set, nb_len, rb_len, rbp_len, sl_len, slN_len, wh_len, wt_len, hd10_len, hdB_len, thr_len, ldp_len, ldB_len, tens_len, whz_len, majL_len, mf_len, tkL_len, ldY_len, fif_len, ldY_len]; omega) | decide) q0 (by first | omega | assumption | (simp only [List.length_append, List.length_cons, List.length_nil, List.length_modify, List.length_set, nb_len, rb_len, rbp_len, sl_len, slN_len, wh_len, wt_len, hd10_len, hdB_len, thr_len, ldp_len, ldB_len, tens_len, whz_len, majL_len, mf_len, tkL_len, ldY_len, fif_len, ldY_len]; omega) | decide) (by first | omega | assumption | (simp only [List.length_append, List.length_cons, List.length_nil, List.length_modify, List.length_set, nb_len, rb_len, rbp_len, sl_len, slN_len, wh_len, wt_len, hd10_len, hdB_len, thr_len, ldp_len, ldB_len, tens_len, whz_len, majL_len, mf_len, tkL_len, ldY_len, fif_len, ldY_len]; omega) | decide) ql (by first | omega | assumption | (simp only [List.length_append, List.length_cons, List.length_nil, List.length_modify, List.length_set, nb_len, rb_len, rbp_len, sl_len, slN_len, wh_len, wt_len, hd10_len, hdB_len, thr_len, ldp_len, ldB_len, tens_len, whz_len, majL_len, mf_len, tkL_len, ldY_len, fif_len, ldY_len]; omega) | decide)) kX9_118 vX9_startSending (by decide) rfl ho [0] 1 (by decide +kernel) rfl rfl rfl rfl rfl hl.1 rfl (Nat.le_of_ble_eq_true rfl) dX9_newFrame_17 0 0 rfl rfl (by decide) (fun v u_2 H locs hq ho => ?_)
      obtain rfl := hq
      have ho : ow D vwCl A s.heap H locs [bX K h ar ad ck bi lo (va_up (va_up (va_up (va_up (va_up (va_up F 10 (va_cpy (F 7) (upd (F 10) (41 * d) (nI ln)) (40 * (6 * d)) (41 * d + 1) ln)) 8 (upd (F 8) d (nI (ln + 1)))) 9 (upd (F 9) d (nI 0))) 5 (upd (F 5) d (nI (sn - 1)))) 6 (va_cpy (F 6) (F 6) (6 * d + 1) (6 * d) (sn - 1))) 7 (va_cpy (F 7) (F 7) (40 * (6 * d) + 40) (40 * (6 * d)) (40 * (sn - 1))))] := ho
      refine W.eq (g2 := F0 m 20 ls []) rfl ?_
      have e_3 : bX K h ar ad ck bi lo (va_up (va_up (va_up (va_up (va_up (va_up F 10 (va_cpy (F 7) (upd (F 10) (41 * d) (nI ln)) (40 * (6 * d)) (41 * d + 1) ln)) 8 (upd (F 8) d (nI (ln + 1)))) 9 (upd (F 9) d (nI 0))) 5 (upd (F 5) d (nI (sn - 1)))) 6 (va_cpy (F 6) (F 6) (6 * d + 1) (6 * d) (sn - 1))) 7 (va_cpy (F 7) (F 7) (40 * (6 * d) + 40) (40 * (6 * d)) (40 * (sn - 1)))) = bX K h ar ad ck bi lo (ssF F d sn ln) := rfl
      have ho : ow D vwCl A s.heap H locs [bX K h ar ad ck bi lo (ssF F d sn ln)] := by rw [← e_3]; exact ho
      have g9 := ss_9 F d sn ln
      have g8 := ss_8 F d sn ln
      have g21 : ssF F d sn ln 21 d = bI false := qp
      have g22 : ssF F d sn ln 22 d = bI tu := qt
      generalize hv_F1 : ssF F d sn ln = F1 at ho g9 g8 g21 g22
      refine lv_aload_n hx hb dX9_newFrame_20 rfl (lv_at hl 0 rfl) ?_
      refine o_get (v := .ref (ar 21)) C ho 0 0 rfl rfl rfl 25 fX9_74 rfl dX9_newFrame_21 ?_
      refine lv_iload_n hx hb dX9_newFrame_24 rfl (lv_at hl 1 rfl) ?_
      refine o_zald (v := bI false) C ho 0 22 rfl rfl 3 rfl d rfl (by omega) (by decide) g21 dX9_newFrame_25 ?_
      refine o_ifb_eq (tgt := 34) hx hb dX9_newFrame_26 (by decide) (fun _ => ?_) (fun c9 => absurd c9 (by decide))
      refine lv_bipush (v := nI 9) hx hb dX9_newFrame_34 (by decide) ?_
      refine lv_istore_n (lv' := [(2, .int (nI 9)), (0, .ref h), (1, .int (nI d))]) hx hb dX9_newFrame_36 rfl hl (by decide) rfl (fun ls hl => ?_)
      refine lv_aload_n hx hb dX9_newFrame_37 rfl (lv_at hl 1 rfl) ?_
      refine o_get (v := .ref (ar 8)) C ho 0 0 rfl rfl rfl 12 fX9_34 rfl dX9_newFrame_38 ?_
      refine lv_iload_n hx hb dX9_newFrame_41 rfl (lv_at hl 2 rfl) ?_
      refine o_iald (v := nI (ln + 1)) C ho 0 9 rfl rfl 0 rfl d rfl (by omega) (by omega) g8 dX9_newFrame_42 ?_
      refine lv_aload_n hx hb dX9_newFrame_43 rfl (lv_at hl 1 rfl) ?_
      refine o_get (v := .ref (ar 9)) C ho 0 0 rfl rfl rfl 13 fX9_37 rfl dX9_newFrame_44 ?_
      refine lv_iload_n hx hb dX9_newFrame_47 rfl (lv_at hl 2 rfl) ?_
      refine o_iald (v := nI 0) C ho 0 10 rfl rfl 0 rfl d rfl (by omega) (by omega) g9 dX9_newFrame_48 ?_
      refine o_sub hx hb dX9_newFrame_49 (by omega) ?_
      refine lv_istore_n (lv' := [(3, .int (nI ((ln + 1) - 0))), (2, .int (nI 9)), (0, .ref h), (1, .int (nI d))]) hx hb dX9_newFrame_50 rfl hl (by decide) rfl (fun ls hl => ?_)
      refine lv_aload_n hx hb dX9_newFrame_51 rfl (lv_at hl 2 rfl) ?_
      refine o_get (v := .ref (ar 11)) C ho 0 0 rfl rfl rfl 15 fX9_43 rfl dX9_newFrame_52 ?_
      refine lv_iload_n hx hb dX9_newFrame_55 rfl (lv_at hl 3 rfl) ?_
      refine lv_iload_n hx hb dX9_newFrame_56 rfl (lv_at hl 0 rfl) ?_
      refine lv_iload_n hx hb dX9_newFrame_57 rfl (lv_at hl 1 rfl) ?_
      refine o_icmp_ge (tgt := 65) hx hb dX9_newFrame_58 (by decide) (by first | omega | exact and1_lt _) (by first | omega | exact and1_lt _) (fun c_4 => ?_) (fun c_4 => ?_)
      · skip
        refine lv_iload_n hx hb dX9_newFrame_65 rfl (lv_at hl 1 rfl) ?_
        refine o_top (y := nI (nxt (!false) ((ln + 1) - 0))) (congrArg nI (show _ = min ((ln + 1) - 0) 9 by omega)) ?_
        refine o_iast (bs' := [bX K h ar ad ck bi lo (va_up F1 11 (upd (F1 11) d (nI (nxt (!false) ((ln + 1) - 0)))))]) C ho 0 12 rfl rfl 0 rfl d rfl (by omega) (by decide) dX9_newFrame_66 rfl (fun H locs ho => ?_)
        have hn9 : nxt (!false) ((ln + 1) - 0) ≤ 13 := by unfold nxt; dsimp only [cond, not]; omega
        have hn8 : nxt (!false) ((ln + 1) - 0) ≤ (ln + 1) - 0 := by unfold nxt; omega
        refine lv_aload_n hx hb dX9_newFrame_67 rfl (lv_at hl 2 rfl) ?_
        refine o_get (v := .ref (ar 12)) C ho 0 0 rfl rfl rfl 16 fX9_46 rfl dX9_newFrame_68 ?_
        refine lv_iload_n hx hb dX9_newFrame_71 rfl (lv_at hl 3 rfl) ?_
        refine lv_aload_n hx hb dX9_newFrame_72 rfl (lv_at hl 2 rfl) ?_
        refine o_get (v := .ref (ar 21)) C ho 0 0 rfl rfl rfl 25 fX9_74 rfl dX9_newFrame_73 ?_
        refine lv_iload_n hx hb dX9_newFrame_76 rfl (lv_at hl 3 rfl) ?_
        refine o_zald (v := bI false) C ho 0 22 rfl rfl 3 rfl d rfl (by omega) (by decide) g21 dX9_newFrame_77 ?_
        refine o_ifb_eq (tgt := 85) hx hb dX9_newFrame_78 (by decide) (fun _ => ?_) (fun c9 => absurd c9 (by decide))
        refine lv_iconst (v := nI 3) hx hb dX9_newFrame_85 (by decide) ?_
        refine o_iast (bs' := [bX K h ar ad ck bi lo (va_up (va_up F1 11 (upd (F1 11) d (nI (nxt (!false) ((ln + 1) - 0))))) 12 (upd (F1 12) d (nI 3)))]) C ho 0 13 rfl rfl 0 rfl d rfl (by omega) (by decide) dX9_newFrame_86 rfl (fun H locs ho => ?_)
        refine lv_aload_n hx hb dX9_newFrame_87 rfl (lv_at hl 2 rfl) ?_
        refine o_get (v := .ref (ar 13)) C ho 0 0 rfl rfl rfl 17 fX9_49 rfl dX9_newFrame_88 ?_
        refine lv_iload_n hx hb dX9_newFrame_91 rfl (lv_at hl 3 rfl) ?_
        refine lv_aload_n hx hb dX9_newFrame_92 rfl (lv_at hl 2 rfl) ?_
        refine o_get (v := .ref (ar 9)) C ho 0 0 rfl rfl rfl 13 fX9_37 rfl dX9_newFrame_93 ?_
        refine lv_iload_n hx hb dX9_newFrame_96 rfl (lv_at hl 3 rfl) ?_
        refine o_iald (v := nI 0) C ho 0 10 rfl rfl 0 rfl d rfl (by omega) (by omega) g9 dX9_newFrame_97 ?_
        refine o_if_ne (tgt := 105) hx hb dX9_newFrame_98 (by decide) (by decide) (fun c9 => absurd c9 (by decide)) (fun _ => ?_)
        refine lv_iconst (v := nI 1) hx hb dX9_newFrame_101 (by decide) ?_
        refine lv_goto (tgt := 106) hx hb dX9_newFrame_102 (by decide) ?_
        refine o_top (y := bI true) (rfl) ?_
        refine o_zast (bs' := [bX K h ar ad ck bi lo (va_up (va_up (va_up F1 11 (upd (F1 11) d (nI (nxt (!false) ((ln + 1) - 0))))) 12 (upd (F1 12) d (nI 3))) 13 (upd (F1 13) d (bI true)))]) C ho 0 14 rfl rfl 3 rfl d rfl (by omega) (by decide) dX9_newFrame_106 rfl (fun H locs ho => ?_)
        have e_5 : bX K h ar ad ck bi lo (va_up (va_up (va_up F1 11 (upd (F1 11) d (nI (nxt (!false) ((ln + 1) - 0))))) 12 (upd (F1 12) d (nI 3))) 13 (upd (F1 13) d (bI true))) = bX K h ar ad ck bi lo (va_up (va_up (va_up F1 11 (upd (F1 11) d (nI (nxt (!false) ((ln + 1) - 0))))) 12 (upd (F1 12) d (nI 3))) 13 (upd (F1 13) d (bI (decide (0 = 0))))) := rfl
        have ho : ow D vwCl A s.heap H locs [bX K h ar ad ck bi lo (va_up (va_up (va_up F1 11 (upd (F1 11) d (nI (nxt (!false) ((ln + 1) - 0))))) 12 (upd (F1 12) d (nI 3))) 13 (upd (F1 13) d (bI (decide (0 = 0)))))] := by rw [← e_5]; exact ho
        refine lv_iconst (v := nI 0) hx hb dX9_newFrame_107 (by decide) ?_
        refine lv_istore (lv' := [(4, .int (nI 0)), (3, .int (nI ((ln + 1) - 0))), (2, .int (nI 9)), (0, .ref h), (1, .int (nI d))]) hx hb dX9_newFrame_108 hl (by decide) rfl (fun ls hl => ?_)
        have e_6 : bX K h ar ad ck bi lo (va_up (va_up (va_up F1 11 (upd (F1 11) d (nI (nxt (!false) ((ln + 1) - 0))))) 12 (upd (F1 12) d (nI 3))) 13 (upd (F1 13) d (bI (decide (0 = 0))))) = bX K h ar ad ck bi lo (va_up (va_up (va_up (va_up F1 11 (upd (F1 11) d (nI (nxt (!false) ((ln + 1) - 0))))) 12 (upd (F1 12) d (nI 3))) 13 (upd (F1 13) d (bI (decide (0 = 0))))) 14 (va_cpy (F1 10) (F1 14) (41 * d + 0) (13 * d) 0)) := by rw [cpy_0]; exact congrArg (bX K h ar ad ck bi lo) (up_1 rfl)
        have ho : ow D vwCl A s.heap H locs [bX K h ar ad ck bi lo (va_up (va_up (va_up (va_up F1 11 (upd (F1 11) d (nI (nxt (!false) ((ln + 1) - 0))))) 12 (upd (F1 12) d (nI 3))) 13 (upd (F1 13) d (bI (decide (0 = 0))))) 14 (va_cpy (F1 10) (F1 14) (41 * d + 0) (13 * d) 0))] := by rw [← e_6]; exact ho
        have LP110 : ∀ (fuel : Nat) (i : Nat) (_ : (nxt (!false) ((ln + 1) - 0)) - i < fuel) (_ : i ≤ nxt (!false) ((ln + 1) - 0)) (H : Heap) (locs : List Loc) (ls : Array Slot) (_ : ow D vwCl A s.heap H locs [bX K h ar ad ck bi lo (va_up (va_up (va_up (va_up F1 11 (upd (F1 11) d (nI (nxt (!false) ((ln + 1) - 0))))) 12 (upd (F1 12) d (nI 3))) 13 (upd (F1 13) d (bI (decide (0 = 0))))) 14 (va_cpy (F1 10) (F1 14) (41 * d + 0) (13 * d) i))]) (_ : lv_has ls 5 [(0, .ref h), (1, .int (nI d)), (4, .int (nI i))]), W p la e (rmL 2 0 0) s m args below meth c H locs 0 0 Qz (F0 m 110 ls []) := by
          intro fuel
          induction fuel with
          | zero => intro i h0; exact absurd h0 (Nat.not_lt_zero _)
          | succ fuel ih110 =>
            intro i hfu hi H locs ls ho hl
            refine lv_iload hx hb dX9_newFrame_110 (lv_at hl 2 rfl) ?_
            refine lv_aload_n hx hb dX9_newFrame_112 rfl (lv_at hl 0 rfl) ?_
            refine o_get (v := .ref (ar 11)) C ho 0 0 rfl rfl rfl 15 fX9_43 rfl dX9_newFrame_113 ?_
            refine lv_iload_n hx hb dX9_newFrame_116 rfl (lv_at hl 1 rfl) ?_
            refine o_iald (v := nI (nxt (!false) ((ln + 1) - 0))) C ho 0 12 rfl rfl 0 rfl d rfl (by omega) (by omega) pk_us dX9_newFrame_117 ?_
            refine o_icmp_ge (tgt := 158) hx hb dX9_newFrame_118 (by decide) (by first | omega | exact and1_lt _) (by first | omega | exact and1_lt _) (fun c_7 => ?_) (fun c_7 => ?_)
            · skip
              have e_8 : bX K h ar ad ck bi lo (va_up (va_up (va_up (va_up F1 11 (upd (F1 11) d (nI (nxt (!false) ((ln + 1) - 0))))) 12 (upd (F1 12) d (nI 3))) 13 (upd (F1 13) d (bI (decide (0 = 0))))) 14 (va_cpy (F1 10) (F1 14) (41 * d + 0) (13 * d) i)) = bX K h ar ad ck bi lo (va_up (va_up (va_up (va_up F1 11 (upd (F1 11) d (nI (nxt (!false) ((ln + 1) - 0))))) 12 (upd (F1 12) d (nI 3))) 13 (upd (F1 13) d (bI (decide (0 = 0))))) 14 (va_cpy (F1 10) (F1 14) (41 * d + 0) (13 * d) (nxt (!false) ((ln + 1) - 0)))) := by rw [show i = nxt (!false) ((ln + 1) - 0) by omega]
              have ho : ow D vwCl A s.heap H locs [bX K h ar ad ck bi lo (va_up (va_up (va_up (va_up F1 11 (upd (F1 11) d (nI (nxt (!false) ((ln + 1) - 0))))) 12 (upd (F1 12) d (nI 3))) 13 (upd (F1 13) d (bI (decide (0 = 0))))) 14 (va_cpy (F1 10) (F1 14) (41 * d + 0) (13 * d) (nxt (!false) ((ln + 1) - 0))))] := by rw [← e_8]; exact ho
              refine lv_aload_n hx hb dX9_newFrame_158 rfl (lv_at hl 0 rfl) ?_
              refine o_get (v := .ref (ar 9)) C ho 0 0 rfl rfl rfl 13 fX9_37 rfl dX9_newFrame_159 ?_
              refine lv_iload_n hx hb dX9_newFrame_162 rfl (lv_at hl 1 rfl) ?_
              refine lv_dup2_11 hx hb dX9_newFrame_163 rfl rfl ?_
              refine o_iald (v := nI 0) C ho 0 10 rfl rfl 0 rfl d rfl (by omega) (by omega) g9 dX9_newFrame_164 ?_
              refine lv_aload_n hx hb dX9_newFrame_165 rfl (lv_at hl 0 rfl) ?_
              refine o_get (v := .ref (ar 11)) C ho 0 0 rfl rfl rfl 15 fX9_43 rfl dX9_newFrame_166 ?_
              refine lv_iload_n hx hb dX9_newFrame_169 rfl (lv_at hl 1 rfl) ?_
              refine o_iald (v := nI (nxt (!false) ((ln + 1) - 0))) C ho 0 12 rfl rfl 0 rfl d rfl (by omega) (by omega) pk_us dX9_newFrame_170 ?_
              refine o_add hx hb dX9_newFrame_171 ?_
              refine o_iast (bs' := [bX K h ar ad ck bi lo (va_up (va_up (va_up (va_up (va_up F1 11 (upd (F1 11) d (nI (nxt (!false) ((ln + 1) - 0))))) 12 (upd (F1 12) d (nI 3))) 13 (upd (F1 13) d (bI (decide (0 = 0))))) 14 (va_cpy (F1 10) (F1 14) (41 * d + 0) (13 * d) (nxt (!false) ((ln + 1) - 0)))) 9 (upd (F1 9) d (nI (0 + (nxt (!false) ((ln + 1) - 0))))))]) C ho 0 10 rfl rfl 0 rfl d rfl (by omega) (by decide) dX9_newFrame_172 rfl (fun H locs ho => ?_)
              refine lv_aload_n hx hb dX9_newFrame_173 rfl (lv_at hl 0 rfl) ?_
              refine o_get (v := .ref (ar 22)) C ho 0 0 rfl rfl rfl 26 fX9_77 rfl dX9_newFrame_174 ?_
              refine lv_iload_n hx hb dX9_newFrame_177 rfl (lv_at hl 1 rfl) ?_
              refine lv_iconst (v := nI 1) hx hb dX9_newFrame_178 (by decide) ?_
              refine lv_aload_n hx hb dX9_newFrame_179 rfl (lv_at hl 0 rfl) ?_
              refine o_get (v := .ref (ar 22)) C ho 0 0 rfl rfl rfl 26 fX9_77 rfl dX9_newFrame_180 ?_
              refine lv_iload_n hx hb dX9_newFrame_183 rfl (lv_at hl 1 rfl) ?_
              refine o_iald (v := bI tu) C ho 0 23 rfl rfl 0 rfl d rfl (by omega) (by omega) g22 dX9_newFrame_184 ?_
              refine lv_isub hx hb dX9_newFrame_185 ?_
              refine o_top (y := bI (!tu)) (bI_sub tu) ?_
              refine o_iast (bs' := [bX K h ar ad ck bi lo (va_up (va_up (va_up (va_up (va_up (va_up F1 11 (upd (F1 11) d (nI (nxt (!false) ((ln + 1) - 0))))) 12 (upd (F1 12) d (nI 3))) 13 (upd (F1 13) d (bI (decide (0 = 0))))) 14 (va_cpy (F1 10) (F1 14) (41 * d + 0) (13 * d) (nxt (!false) ((ln + 1) - 0)))) 9 (upd (F1 9) d (nI (0 + (nxt (!false) ((ln + 1) - 0)))))) 22 (upd (F1 22) d (bI (!tu))))]) C ho 0 23 rfl rfl 0 rfl d rfl (by omega) (by decide) dX9_newFrame_186 rfl (fun H locs ho => ?_)
              exact o_vret hQ C ho () rfl (by rw [hv_F1]; rfl) (Nat.le_of_ble_eq_true rfl) (Nat.le_of_ble_eq_true rfl) dX9_newFrame_187
            · skip
              refine lv_aload_n hx hb dX9_newFrame_121 rfl (lv_at hl 0 rfl) ?_
              refine o_get (v := .ref (ar 14)) C ho 0 0 rfl rfl rfl 18 fX9_53 rfl dX9_newFrame_122 ?_
              refine lv_bipush (v := nI 13) hx hb dX9_newFrame_125 (by decide) ?_
              refine lv_iload_n hx hb dX9_newFrame_127 rfl (lv_at hl 1 rfl) ?_
              refine o_mul hx hb dX9_newFrame_128 ?_
              refine lv_iload hx hb dX9_newFrame_129 (lv_at hl 2 rfl) ?_
              refine o_add hx hb dX9_newFrame_131 ?_
              refine lv_aload_n hx hb dX9_newFrame_132 rfl (lv_at hl 0 rfl) ?_
              refine o_get (v := .ref (ar 10)) C ho 0 0 rfl rfl rfl 14 fX9_40 rfl dX9_newFrame_133 ?_
              refine lv_bipush (v := nI 41) hx hb dX9_newFrame_136 (by decide) ?_
              refine lv_iload_n hx hb dX9_newFrame_138 rfl (lv_at hl 1 rfl) ?_
              refine o_mul hx hb dX9_newFrame_139 ?_
              refine lv_aload_n hx hb dX9_newFrame_140 rfl (lv_at hl 0 rfl) ?_
              refine o_get (v := .ref (ar 9)) C ho 0 0 rfl rfl rfl 13 fX9_37 rfl dX9_newFrame_141 ?_
              refine lv_iload_n hx hb dX9_newFrame_144 rfl (lv_at hl 1 rfl) ?_
              refine o_iald (v := nI 0) C ho 0 10 rfl rfl 0 rfl d rfl (by omega) (by omega) g9 dX9_newFrame_145 ?_
              refine o_add hx hb dX9_newFrame_146 ?_
              refine lv_iload hx hb dX9_newFrame_147 (lv_at hl 2 rfl) ?_
              refine o_add hx hb dX9_newFrame_149 ?_
              refine o_iald (v := F1 10 (((41 * d) + 0) + i)) C ho 0 11 rfl rfl 0 rfl (((41 * d) + 0) + i) rfl (by omega) (by omega) rfl dX9_newFrame_150 ?_
              refine o_iast (bs' := [bX K h ar ad ck bi lo (va_up (va_up (va_up (va_up (va_up F1 11 (upd (F1 11) d (nI (nxt (!false) ((ln + 1) - 0))))) 12 (upd (F1 12) d (nI 3))) 13 (upd (F1 13) d (bI (decide (0 = 0))))) 14 (va_cpy (F1 10) (F1 14) (41 * d + 0) (13 * d) i)) 14 (upd (va_cpy (F1 10) (F1 14) (41 * d + 0) (13 * d) i) ((13 * d) + i) (F1 10 (((41 * d) + 0) + i))))]) C ho 0 15 rfl rfl 0 rfl ((13 * d) + i) rfl (by omega) (by decide) dX9_newFrame_151 rfl (fun H locs ho => ?_)
              have e_9 : bX K h ar ad ck bi lo (va_up (va_up (va_up (va_up (va_up F1 11 (upd (F1 11) d (nI (nxt (!false) ((ln + 1) - 0))))) 12 (upd (F1 12) d (nI 3))) 13 (upd (F1 13) d (bI (decide (0 = 0))))) 14 (va_cpy (F1 10) (F1 14) (41 * d + 0) (13 * d) i)) 14 (upd (va_cpy (F1 10) (F1 14) (41 * d + 0) (13 * d) i) ((13 * d) + i) (F1 10 (((41 * d) + 0) + i)))) = bX K h ar ad ck bi lo (va_up (va_up (va_up (va_up F1 11 (upd (F1 11) d (nI (nxt (!false) ((ln + 1) - 0))))) 12 (upd (F1 12) d (nI 3))) 13 (upd (F1 13) d (bI (decide (0 = 0))))) 14 (va_cpy (F1 10) (F1 14) (41 * d + 0) (13 * d) (i + 1))) := by rw [bx_uu, cpy_succ]
              have ho : ow D vwCl A s.heap H locs [bX K h ar ad ck bi lo (va_up (va_up (va_up (va_up F1 11 (upd (F1 11) d (nI (nxt (!false) ((ln + 1) - 0))))) 12 (upd (F1 12) d (nI 3))) 13 (upd (F1 13) d (bI (decide (0 = 0))))) 14 (va_cpy (F1 10) (F1 14) (41 * d + 0) (13 * d) (i + 1)))] := by rw [← e_9]; exact ho
              refine lv_iinc (v := nI (i + 1)) (lv' := [(4, .int (nI (i + 1))), (0, .ref h), (1, .int (nI d))]) hx hb dX9_newFrame_152 hl (k := 2) rfl (iincN _ _) (by decide) rfl (fun ls hl => ?_)
              refine lv_goto (tgt := 110) hx hb dX9_newFrame_155 (by decide) ?_
              exact ih110 (i + 1) (by omega) (by omega) _ _ _ ho (lv_sub hl [1, 2, 0] rfl)
        exact LP110 ((nxt (!false) ((ln + 1) - 0)) - 0 + 1) 0 (Nat.lt_succ_self _) (by omega) _ _ _ ho (lv_sub hl [3, 4, 0] rfl)
      · skip
        refine lv_iload_n hx hb dX9_newFrame_61 rfl (lv_at hl 0 rfl) ?_
        refine lv_goto (tgt := 66) hx hb dX9_newFrame_62 (by decide) ?_
        refine o_top (y := nI (nxt (!false) ((ln + 1) - 0))) (congrArg nI (show _ = min ((ln + 1) - 0) 9 by omega)) ?_
        refine o_iast (bs' := [bX K h ar ad ck bi lo (va_up F1 11 (upd (F1 11) d (nI (nxt (!false) ((ln + 1) - 0)))))]) C ho 0 12 rfl rfl 0 rfl d rfl (by omega) (by decide) dX9_newFrame_66 rfl (fun H locs ho => ?_)
        have hn9 : nxt (!false) ((ln + 1) - 0) ≤ 13 := by unfold nxt; dsimp only [cond, not]; omega
        have hn8 : nxt (!false) ((ln + 1) - 0) ≤ (ln + 1) - 0 := by unfold nxt; omega
        refine lv_aload_n hx hb dX9_newFrame_67 rfl (lv_at hl 2 rfl) ?_
        refine o_get (v := .ref (ar 12)) C ho 0 0 rfl rfl rfl 16 fX9_46 rfl dX9_newFrame_68 ?_
        refine lv_iload_n hx hb dX9_newFrame_71 rfl (lv_at hl 3 rfl) ?_
        refine lv_aload_n hx hb dX9_newFrame_72 rfl (lv_at hl 2 rfl) ?_
        refine o_get (v := .ref (ar 21)) C ho 0 0 rfl rfl rfl 25 fX9_74 rfl dX9_newFrame_73 ?_
        refine lv_iload_n hx hb dX9_newFrame_76 rfl (lv_at hl 3 rfl) ?_
        refine o_zald (v := bI false) C ho 0 22 rfl rfl 3 rfl d rfl (by omega) (by decide) g21 dX9_newFrame_77 ?_
        refine o_ifb_eq (tgt := 85) hx hb dX9_newFrame_78 (by decide) (fun _ => ?_) (fun c9 => absurd c9 (by decide))
        refine lv_iconst (v := nI 3) hx hb dX9_newFrame_85 (by decide) ?_
        refine o_iast (bs' := [bX K h ar ad ck bi lo (va_up (va_up F1 11 (upd (F1 11) d (nI (nxt (!false) ((ln + 1) - 0))))) 12 (upd (F1 12) d (nI 3)))]) C ho 0 13 rfl rfl 0 rfl d rfl (by omega) (by decide) dX9_newFrame_86 rfl (fun H locs ho => ?_)
        refine lv_aload_n hx hb dX9_newFrame_87 rfl (lv_at hl 2 rfl) ?_
        refine o_get (v := .ref (ar 13)) C ho 0 0 rfl rfl rfl 17 fX9_49 rfl dX9_newFrame_88 ?_
        refine lv_iload_n hx hb dX9_newFrame_91 rfl (lv_at hl 3 rfl) ?_
        refine lv_aload_n hx hb dX9_newFrame_92 rfl (lv_at hl 2 rfl) ?_
        refine o_get (v := .ref (ar 9)) C ho 0 0 rfl rfl rfl 13 fX9_37 rfl dX9_newFrame_93 ?_
        refine lv_iload_n hx hb dX9_newFrame_96 rfl (lv_at hl 3 rfl) ?_
        refine o_iald (v := nI 0) C ho 0 10 rfl rfl 0 rfl d rfl (by omega) (by omega) g9 dX9_newFrame_97 ?_
        refine o_if_ne (tgt := 105) hx hb dX9_newFrame_98 (by decide) (by decide) (fun c9 => absurd c9 (by decide)) (fun _ => ?_)
        refine lv_iconst (v := nI 1) hx hb dX9_newFrame_101 (by decide) ?_
        refine lv_goto (tgt := 106) hx hb dX9_newFrame_102 (by decide) ?_
        refine o_top (y := bI true) (rfl) ?_
        refine o_zast (bs' := [bX K h ar ad ck bi lo (va_up (va_up (va_up F1 11 (upd (F1 11) d (nI (nxt (!false) ((ln + 1) - 0))))) 12 (upd (F1 12) d (nI 3))) 13 (upd (F1 13) d (bI true)))]) C ho 0 14 rfl rfl 3 rfl d rfl (by omega) (by decide) dX9_newFrame_106 rfl (fun H locs ho => ?_)
        have e_10 : bX K h ar ad ck bi lo (va_up (va_up (va_up F1 11 (upd (F1 11) d (nI (nxt (!false) ((ln + 1) - 0))))) 12 (upd (F1 12) d (nI 3))) 13 (upd (F1 13) d (bI true))) = bX K h ar ad ck bi lo (va_up (va_up (va_up F1 11 (upd (F1 11) d (nI (nxt (!false) ((ln + 1) - 0))))) 12 (upd (F1 12) d (nI 3))) 13 (upd (F1 13) d (bI (decide (0 = 0))))) := rfl
        have ho : ow D vwCl A s.heap H locs [bX K h ar ad ck bi lo (va_up (va_up (va_up F1 11 (upd (F1 11) d (nI (nxt (!false) ((ln + 1) - 0))))) 12 (upd (F1 12) d (nI 3))) 13 (upd (F1 13) d (bI (decide (0 = 0)))))] := by rw [← e_10]; exact ho
        refine lv_iconst (v := nI 0) hx hb dX9_newFrame_107 (by decide) ?_
        refine lv_istore (lv' := [(4, .int (nI 0)), (3, .int (nI ((ln + 1) - 0))), (2, .int (nI 9)), (0, .ref h), (1, .int (nI d))]) hx hb dX9_newFrame_108 hl (by decide) rfl (fun ls hl => ?_)
        have e_11 : bX K h ar ad ck bi lo (va_up (va_up (va_up F1 11 (upd (F1 11) d (nI (nxt (!false) ((ln + 1) - 0))))) 12 (upd (F1 12) d (nI 3))) 13 (upd (F1 13) d (bI (decide (0 = 0))))) = bX K h ar ad ck bi lo (va_up (va_up (va_up (va_up F1 11 (upd (F1 11) d (nI (nxt (!false) ((ln + 1) - 0))))) 12 (upd (F1 12) d (nI 3))) 13 (upd (F1 13) d (bI (decide (0 = 0))))) 14 (va_cpy (F1 10) (F1 14) (41 * d + 0) (13 * d) 0)) := by rw [cpy_0]; exact congrArg (bX K h ar ad ck bi lo) (up_1 rfl)
        have ho : ow D vwCl A s.heap H locs [bX K h ar ad ck bi lo (va_up (va_up (va_up (va_up F1 11 (upd (F1 11) d (nI (nxt (!false) ((ln + 1) - 0))))) 12 (upd (F1 12) d (nI 3))) 13 (upd (F1 13) d (bI (decide (0 = 0))))) 14 (va_cpy (F1 10) (F1 14) (41 * d + 0) (13 * d) 0))] := by rw [← e_11]; exact ho
        have LP110 : ∀ (fuel : Nat) (i : Nat) (_ : (nxt (!false) ((ln + 1) - 0)) - i < fuel) (_ : i ≤ nxt (!false) ((ln + 1) - 0)) (H : Heap) (locs : List Loc) (ls : Array Slot) (_ : ow D vwCl A s.heap H locs [bX K h ar ad ck bi lo (va_up (va_up (va_up (va_up F1 11 (upd (F1 11) d (nI (nxt (!false) ((ln + 1) - 0))))) 12 (upd (F1 12) d (nI 3))) 13 (upd (F1 13) d (bI (decide (0 = 0))))) 14 (va_cpy (F1 10) (F1 14) (41 * d + 0) (13 * d) i))]) (_ : lv_has ls 5 [(0, .ref h), (1, .int (nI d)), (4, .int (nI i))]), W p la e (rmL 2 0 0) s m args below meth c H locs 0 0 Qz (F0 m 110 ls []) := by
          intro fuel
          induction fuel with
          | zero => intro i h0; exact absurd h0 (Nat.not_lt_zero _)
          | succ fuel ih110 =>
            intro i hfu hi H locs ls ho hl
            refine lv_iload hx hb dX9_newFrame_110 (lv_at hl 2 rfl) ?_
            refine lv_aload_n hx hb dX9_newFrame_112 rfl (lv_at hl 0 rfl) ?_
            refine o_get (v := .ref (ar 11)) C ho 0 0 rfl rfl rfl 15 fX9_43 rfl dX9_newFrame_113 ?_
            refine lv_iload_n hx hb dX9_newFrame_116 rfl (lv_at hl 1 rfl) ?_
            refine o_iald (v := nI (nxt (!false) ((ln + 1) - 0))) C ho 0 12 rfl rfl 0 rfl d rfl (by omega) (by omega) pk_us dX9_newFrame_117 ?_
            refine o_icmp_ge (tgt := 158) hx hb dX9_newFrame_118 (by decide) (by first | omega | exact and1_lt _) (by first | omega | exact and1_lt _) (fun c_12 => ?_) (fun c_12 => ?_)
            · skip
              have e_13 : bX K h ar ad ck bi lo (va_up (va_up (va_up (va_up F1 11 (upd (F1 11) d (nI (nxt (!false) ((ln + 1) - 0))))) 12 (upd (F1 12) d (nI 3))) 13 (upd (F1 13) d (bI (decide (0 = 0))))) 14 (va_cpy (F1 10) (F1 14) (41 * d + 0) (13 * d) i)) = bX K h ar ad ck bi lo (va_up (va_up (va_up (va_up F1 11 (upd (F1 11) d (nI (nxt (!false) ((ln + 1) - 0))))) 12 (upd (F1 12) d (nI 3))) 13 (upd (F1 13) d (bI (decide (0 = 0))))) 14 (va_cpy (F1 10) (F1 14) (41 * d + 0) (13 * d) (nxt (!false) ((ln + 1) - 0)))) := by rw [show i = nxt (!false) ((ln + 1) - 0) by omega]
              have ho : ow D vwCl A s.heap H locs [bX K h ar ad ck bi lo (va_up (va_up (va_up (va_up F1 11 (upd (F1 11) d (nI (nxt (!false) ((ln + 1) - 0))))) 12 (upd (F1 12) d (nI 3))) 13 (upd (F1 13) d (bI (decide (0 = 0))))) 14 (va_cpy (F1 10) (F1 14) (41 * d + 0) (13 * d) (nxt (!false) ((ln + 1) - 0))))] := by rw [← e_13]; exact ho
              refine lv_aload_n hx hb dX9_newFrame_158 rfl (lv_at hl 0 rfl) ?_
              refine o_get (v := .ref (ar 9)) C ho 0 0 rfl rfl rfl 13 fX9_37 rfl dX9_newFrame_159 ?_
              refine lv_iload_n hx hb dX9_newFrame_162 rfl (lv_at hl 1 rfl) ?_
              refine lv_dup2_11 hx hb dX9_newFrame_163 rfl rfl ?_
              refine o_iald (v := nI 0) C ho 0 10 rfl rfl 0 rfl d rfl (by omega) (by omega) g9 dX9_newFrame_164 ?_
              refine lv_aload_n hx hb dX9_newFrame_165 rfl (lv_at hl 0 rfl) ?_
              refine o_get (v := .ref (ar 11)) C ho 0 0 rfl rfl rfl 15 fX9_43 rfl dX9_newFrame_166 ?_
              refine lv_iload_n hx hb dX9_newFrame_169 rfl (lv_at hl 1 rfl) ?_
              refine o_iald (v := nI (nxt (!false) ((ln + 1) - 0))) C ho 0 12 rfl rfl 0 rfl d rfl (by omega) (by omega) pk_us dX9_newFrame_170 ?_
              refine o_add hx hb dX9_newFrame_171 ?_
              refine o_iast (bs' := [bX K h ar ad ck bi lo (va_up (va_up (va_up (va_up (va_up F1 11 (upd (F1 11) d (nI (nxt (!false) ((ln + 1) - 0))))) 12 (upd (F1 12) d (nI 3))) 13 (upd (F1 13) d (bI (decide (0 = 0))))) 14 (va_cpy (F1 10) (F1 14) (41 * d + 0) (13 * d) (nxt (!false) ((ln + 1) - 0)))) 9 (upd (F1 9) d (nI (0 + (nxt (!false) ((ln + 1) - 0))))))]) C ho 0 10 rfl rfl 0 rfl d rfl (by omega) (by decide) dX9_newFrame_172 rfl (fun H locs ho => ?_)
              refine lv_aload_n hx hb dX9_newFrame_173 rfl (lv_at hl 0 rfl) ?_
              refine o_get (v := .ref (ar 22)) C ho 0 0 rfl rfl rfl 26 fX9_77 rfl dX9_newFrame_174 ?_
              refine lv_iload_n hx hb dX9_newFrame_177 rfl (lv_at hl 1 rfl) ?_
              refine lv_iconst (v := nI 1) hx hb dX9_newFrame_178 (by decide) ?_
              refine lv_aload_n hx hb dX9_newFrame_179 rfl (lv_at hl 0 rfl) ?_
              refine o_get (v := .ref (ar 22)) C ho 0 0 rfl rfl rfl 26 fX9_77 rfl dX9_newFrame_180 ?_
              refine lv_iload_n hx hb dX9_newFrame_183 rfl (lv_at hl 1 rfl) ?_
              refine o_iald (v := bI tu) C ho 0 23 rfl rfl 0 rfl d rfl (by omega) (by omega) g22 dX9_newFrame_184 ?_
              refine lv_isub hx hb dX9_newFrame_185 ?_
              refine o_top (y := bI (!tu)) (bI_sub tu) ?_
              refine o_iast (bs' := [bX K h ar ad ck bi lo (va_up (va_up (va_up (va_up (va_up (va_up F1 11 (upd (F1 11) d (nI (nxt (!false) ((ln + 1) - 0))))) 12 (upd (F1 12) d (nI 3))) 13 (upd (F1 13) d (bI (decide (0 = 0))))) 14 (va_cpy (F1 10) (F1 14) (41 * d + 0) (13 * d) (nxt (!false) ((ln + 1) - 0)))) 9 (upd (F1 9) d (nI (0 + (nxt (!false) ((ln + 1) - 0)))))) 22 (upd (F1 22) d (bI (!tu))))]) C ho 0 23 rfl rfl 0 rfl d rfl (by omega) (by decide) dX9_newFrame_186 rfl (fun H locs ho => ?_)
              exact o_vret hQ C ho () rfl (by rw [hv_F1]; rfl) (Nat.le_of_ble_eq_true rfl) (Nat.le_of_ble_eq_true rfl) dX9_newFrame_187
            · skip
              refine lv_aload_n hx hb dX9_newFrame_121 rfl (lv_at hl 0 rfl) ?_
              refine o_get (v := .ref (ar 14)) C ho 0 0 rfl rfl rfl 18 fX9_53 rfl dX9_newFrame_122 ?_
              refine lv_bipush (v := nI 13) hx hb dX9_newFrame_125 (by decide) ?_
              refine lv_iload_n hx hb dX9_newFrame_127 rfl (lv_at hl 1 rfl) ?_
              refine o_mul hx hb dX9_newFrame_128 ?_
              refine lv_iload hx hb dX9_newFrame_129 (lv_at hl 2 rfl) ?_
              refine o_add hx hb dX9_newFrame_131 ?_
              refine lv_aload_n hx hb dX9_newFrame_132 rfl (lv_at hl 0 rfl) ?_
              refine o_get (v := .ref (ar 10)) C ho 0 0 rfl rfl rfl 14 fX9_40 rfl dX9_newFrame_133 ?_
              refine lv_bipush (v := nI 41) hx hb dX9_newFrame_136 (by decide) ?_
              refine lv_iload_n hx hb dX9_newFrame_138 rfl (lv_at hl 1 rfl) ?_
              refine o_mul hx hb dX9_newFrame_139 ?_
              refine lv_aload_n hx hb dX9_newFrame_140 rfl (lv_at hl 0 rfl) ?_
              refine o_get (v := .ref (ar 9)) C ho 0 0 rfl rfl rfl 13 fX9_37 rfl dX9_newFrame_141 ?_
              refine lv_iload_n hx hb dX9_newFrame_144 rfl (lv_at hl 1 rfl) ?_
              refine o_iald (v := nI 0) C ho 0 10 rfl rfl 0 rfl d rfl (by omega) (by omega) g9 dX9_newFrame_145 ?_
              refine o_add hx hb dX9_newFrame_146 ?_
              refine lv_iload hx hb dX9_newFrame_147 (lv_at hl 2 rfl) ?_
              refine o_add hx hb dX9_newFrame_149 ?_
              refine o_iald (v := F1 10 (((41 * d) + 0) + i)) C ho 0 11 rfl rfl 0 rfl (((41 * d) + 0) + i) rfl (by omega) (by omega) rfl dX9_newFrame_150 ?_
              refine o_iast (bs' := [bX K h ar ad ck bi lo (va_up (va_up (va_up (va_up (va_up F1 11 (upd (F1 11) d (nI (nxt (!false) ((ln + 1) - 0))))) 12 (upd (F1 12) d (nI 3))) 13 (upd (F1 13) d (bI (decide (0 = 0))))) 14 (va_cpy (F1 10) (F1 14) (41 * d + 0) (13 * d) i)) 14 (upd (va_cpy (F1 10) (F1 14) (41 * d + 0) (13 * d) i) ((13 * d) + i) (F1 10 (((41 * d) + 0) + i))))]) C ho 0 15 rfl rfl 0 rfl ((13 * d) + i) rfl (by omega) (by decide) dX9_newFrame_151 rfl (fun H locs ho => ?_)
              have e_14 : bX K h ar ad ck bi lo (va_up (va_up (va_up (va_up (va_up F1 11 (upd (F1 11) d (nI (nxt (!false) ((ln + 1) - 0))))) 12 (upd (F1 12) d (nI 3))) 13 (upd (F1 13) d (bI (decide (0 = 0))))) 14 (va_cpy (F1 10) (F1 14) (41 * d + 0) (13 * d) i)) 14 (upd (va_cpy (F1 10) (F1 14) (41 * d + 0) (13 * d) i) ((13 * d) + i) (F1 10 (((41 * d) + 0) + i)))) = bX K h ar ad ck bi lo (va_up (va_up (va_up (va_up F1 11 (upd (F1 11) d (nI (nxt (!false) ((ln + 1) - 0))))) 12 (upd (F1 12) d (nI 3))) 13 (upd (F1 13) d (bI (decide (0 = 0))))) 14 (va_cpy (F1 10) (F1 14) (41 * d + 0) (13 * d) (i + 1))) := by rw [bx_uu, cpy_succ]
              have ho : ow D vwCl A s.heap H locs [bX K h ar ad ck bi lo (va_up (va_up (va_up (va_up F1 11 (upd (F1 11) d (nI (nxt (!false) ((ln + 1) - 0))))) 12 (upd (F1 12) d (nI 3))) 13 (upd (F1 13) d (bI (decide (0 = 0))))) 14 (va_cpy (F1 10) (F1 14) (41 * d + 0) (13 * d) (i + 1)))] := by rw [← e_14]; exact ho
              refine lv_iinc (v := nI (i + 1)) (lv' := [(4, .int (nI (i + 1))), (0, .ref h), (1, .int (nI d))]) hx hb dX9_newFrame_152 hl (k := 2) rfl (iincN _ _) (by decide) rfl (fun ls hl => ?_)
              refine lv_goto (tgt := 110) hx hb dX9_newFrame_155 (by decide) ?_
              exact ih110 (i + 1) (by omega) (by omega) _ _ _ ho (lv_sub hl [1, 2, 0] rfl)
        exact LP110 ((nxt (!false) ((ln + 1) - 0)) - 0 + 1) 0 (Nat.lt_succ_self _) (by omega) _ _ _ ho (lv_sub hl [3, 4, 0] rfl)
  · skip
    refine lv_aload_n hx hb dX9_newFrame_0 rfl (lv_at hl 0 rfl) ?_
    refine o_get (v := .ref (ar 9)) C ho 0 0 rfl rfl rfl 13 fX9_37 rfl dX9_newFrame_1 ?_
    refine lv_iload_n hx hb dX9_newFrame_4 rfl (lv_at hl 1 rfl) ?_
    refine o_iald (v := nI at_) C ho 0 10 rfl rfl 0 rfl d rfl (by omega) (by omega) qa dX9_newFrame_5 ?_
    refine lv_aload_n hx hb dX9_newFrame_6 rfl (lv_at hl 0 rfl) ?_
    refine o_get (v := .ref (ar 8)) C ho 0 0 rfl rfl rfl 12 fX9_34 rfl dX9_newFrame_7 ?_
    refine lv_iload_n hx hb dX9_newFrame_10 rfl (lv_at hl 1 rfl) ?_
    refine o_iald (v := nI at_) C ho 0 9 rfl rfl 0 rfl d rfl (by omega) (by omega) qs dX9_newFrame_11 ?_
    refine o_icmp_ne (tgt := 20) hx hb dX9_newFrame_12 (by decide) (by first | omega | exact and1_lt _) (by first | omega | exact and1_lt _) (fun c_15 => ?_) (fun c_15 => ?_)
    · skip
      exact absurd rfl c_15
    · skip
      refine lv_aload_n hx hb dX9_newFrame_15 rfl (lv_at hl 0 rfl) ?_
      refine lv_iload_n hx hb dX9_newFrame_16 rfl (lv_at hl 1 rfl) ?_
      refine o_callV (wr := []) (rest := []) (As := [.int (nI d)]) C (c_M_startSending la D K h ar ad ck bi lo F d sn ln (by first | omega | assumption | (simp only [List.length_append, List.length_cons, List.length_nil, List.length_modify, List.length_set, nb_len, rb_len, rbp_len, sl_len, slN_len, wh_len, wt_len, hd10_len, hdB_len, thr_len, ldp_len, ldB_len, tens_len, whz_len, majL_len, mf_len, tkL_len, ldY_len, fif_len, ldY_len]; omega) | decide) q0 (by first | omega | assumption | (simp only [List.length_append, List.length_cons, List.length_nil, List.length_modify, List.length_set, nb_len, rb_len, rbp_len, sl_len, slN_len, wh_len, wt_len, hd10_len, hdB_len, thr_len, ldp_len, ldB_len, tens_len, whz_len, majL_len, mf_len, tkL_len, ldY_len, fif_len, ldY_len]; omega) | decide) (by first | omega | assumption | (simp only [List.length_append, List.length_cons, List.length_nil, List.length_modify, List.length_set, nb_len, rb_len, rbp_len, sl_len, slN_len, wh_len, wt_len, hd10_len, hdB_len, thr_len, ldp_len, ldB_len, tens_len, whz_len, majL_len, mf_len, tkL_len, ldY_len, fif_len, ldY_len]; omega) | decide) ql (by first | omega | assumption | (simp only [List.length_append, List.length_cons, List.length_nil, List.length_modify, List.length_set, nb_len, rb_len, rbp_len, sl_len, slN_len, wh_len, wt_len, hd10_len, hdB_len, thr_len, ldp_len, ldB_len, tens_len, whz_len, majL_len, mf_len, tkL_len, ldY_len, fif_len, ldY_len]; omega) | decide)) kX9_118 vX9_startSending (by decide) rfl ho [0] 1 (by decide +kernel) rfl rfl rfl rfl rfl hl.1 rfl (Nat.le_of_ble_eq_true rfl) dX9_newFrame_17 0 0 rfl rfl (by decide) (fun v u_16 H locs hq ho => ?_)
      obtain rfl := hq
      have ho : ow D vwCl A s.heap H locs [bX K h ar ad ck bi lo (va_up (va_up (va_up (va_up (va_up (va_up F 10 (va_cpy (F 7) (upd (F 10) (41 * d) (nI ln)) (40 * (6 * d)) (41 * d + 1) ln)) 8 (upd (F 8) d (nI (ln + 1)))) 9 (upd (F 9) d (nI 0))) 5 (upd (F 5) d (nI (sn - 1)))) 6 (va_cpy (F 6) (F 6) (6 * d + 1) (6 * d) (sn - 1))) 7 (va_cpy (F 7) (F 7) (40 * (6 * d) + 40) (40 * (6 * d)) (40 * (sn - 1))))] := ho
      refine W.eq (g2 := F0 m 20 ls []) rfl ?_
      have e_17 : bX K h ar ad ck bi lo (va_up (va_up (va_up (va_up (va_up (va_up F 10 (va_cpy (F 7) (upd (F 10) (41 * d) (nI ln)) (40 * (6 * d)) (41 * d + 1) ln)) 8 (upd (F 8) d (nI (ln + 1)))) 9 (upd (F 9) d (nI 0))) 5 (upd (F 5) d (nI (sn - 1)))) 6 (va_cpy (F 6) (F 6) (6 * d + 1) (6 * d) (sn - 1))) 7 (va_cpy (F 7) (F 7) (40 * (6 * d) + 40) (40 * (6 * d)) (40 * (sn - 1)))) = bX K h ar ad ck bi lo (ssF F d sn ln) := rfl
      have ho : ow D vwCl A s.heap H locs [bX K h ar ad ck bi lo (ssF F d sn ln)] := by rw [← e_17]; exact ho
      have g9 := ss_9 F d sn ln
      have g8 := ss_8 F d sn ln
      have g21 : ssF F d sn ln 21 d = bI true := qp
      have g22 : ssF F d sn ln 22 d = bI tu := qt
      generalize hv_F1 : ssF F d sn ln = F1 at ho g9 g8 g21 g22
      refine lv_aload_n hx hb dX9_newFrame_20 rfl (lv_at hl 0 rfl) ?_
      refine o_get (v := .ref (ar 21)) C ho 0 0 rfl rfl rfl 25 fX9_74 rfl dX9_newFrame_21 ?_
      refine lv_iload_n hx hb dX9_newFrame_24 rfl (lv_at hl 1 rfl) ?_
      refine o_zald (v := bI true) C ho 0 22 rfl rfl 3 rfl d rfl (by omega) (by decide) g21 dX9_newFrame_25 ?_
      refine o_ifb_eq (tgt := 34) hx hb dX9_newFrame_26 (by decide) (fun c9 => absurd c9 (by decide)) (fun _ => ?_)
      refine lv_bipush (v := nI 13) hx hb dX9_newFrame_29 (by decide) ?_
      refine lv_goto (tgt := 36) hx hb dX9_newFrame_31 (by decide) ?_
      refine lv_istore_n (lv' := [(2, .int (nI 13)), (0, .ref h), (1, .int (nI d))]) hx hb dX9_newFrame_36 rfl hl (by decide) rfl (fun ls hl => ?_)
      refine lv_aload_n hx hb dX9_newFrame_37 rfl (lv_at hl 1 rfl) ?_
      refine o_get (v := .ref (ar 8)) C ho 0 0 rfl rfl rfl 12 fX9_34 rfl dX9_newFrame_38 ?_
      refine lv_iload_n hx hb dX9_newFrame_41 rfl (lv_at hl 2 rfl) ?_
      refine o_iald (v := nI (ln + 1)) C ho 0 9 rfl rfl 0 rfl d rfl (by omega) (by omega) g8 dX9_newFrame_42 ?_
      refine lv_aload_n hx hb dX9_newFrame_43 rfl (lv_at hl 1 rfl) ?_
      refine o_get (v := .ref (ar 9)) C ho 0 0 rfl rfl rfl 13 fX9_37 rfl dX9_newFrame_44 ?_
      refine lv_iload_n hx hb dX9_newFrame_47 rfl (lv_at hl 2 rfl) ?_
      refine o_iald (v := nI 0) C ho 0 10 rfl rfl 0 rfl d rfl (by omega) (by omega) g9 dX9_newFrame_48 ?_
      refine o_sub hx hb dX9_newFrame_49 (by omega) ?_
      refine lv_istore_n (lv' := [(3, .int (nI ((ln + 1) - 0))), (2, .int (nI 13)), (0, .ref h), (1, .int (nI d))]) hx hb dX9_newFrame_50 rfl hl (by decide) rfl (fun ls hl => ?_)
      refine lv_aload_n hx hb dX9_newFrame_51 rfl (lv_at hl 2 rfl) ?_
      refine o_get (v := .ref (ar 11)) C ho 0 0 rfl rfl rfl 15 fX9_43 rfl dX9_newFrame_52 ?_
      refine lv_iload_n hx hb dX9_newFrame_55 rfl (lv_at hl 3 rfl) ?_
      refine lv_iload_n hx hb dX9_newFrame_56 rfl (lv_at hl 0 rfl) ?_
      refine lv_iload_n hx hb dX9_newFrame_57 rfl (lv_at hl 1 rfl) ?_
      refine o_icmp_ge (tgt := 65) hx hb dX9_newFrame_58 (by decide) (by first | omega | exact and1_lt _) (by first | omega | exact and1_lt _) (fun c_18 => ?_) (fun c_18 => ?_)
      · skip
        refine lv_iload_n hx hb dX9_newFrame_65 rfl (lv_at hl 1 rfl) ?_
        refine o_top (y := nI (nxt (!true) ((ln + 1) - 0))) (congrArg nI (show _ = min ((ln + 1) - 0) 13 by omega)) ?_
        refine o_iast (bs' := [bX K h ar ad ck bi lo (va_up F1 11 (upd (F1 11) d (nI (nxt (!true) ((ln + 1) - 0)))))]) C ho 0 12 rfl rfl 0 rfl d rfl (by omega) (by decide) dX9_newFrame_66 rfl (fun H locs ho => ?_)
        have hn9 : nxt (!true) ((ln + 1) - 0) ≤ 13 := by unfold nxt; dsimp only [cond, not]; omega
        have hn8 : nxt (!true) ((ln + 1) - 0) ≤ (ln + 1) - 0 := by unfold nxt; omega
        refine lv_aload_n hx hb dX9_newFrame_67 rfl (lv_at hl 2 rfl) ?_
        refine o_get (v := .ref (ar 12)) C ho 0 0 rfl rfl rfl 16 fX9_46 rfl dX9_newFrame_68 ?_
        refine lv_iload_n hx hb dX9_newFrame_71 rfl (lv_at hl 3 rfl) ?_
        refine lv_aload_n hx hb dX9_newFrame_72 rfl (lv_at hl 2 rfl) ?_
        refine o_get (v := .ref (ar 21)) C ho 0 0 rfl rfl rfl 25 fX9_74 rfl dX9_newFrame_73 ?_
        refine lv_iload_n hx hb dX9_newFrame_76 rfl (lv_at hl 3 rfl) ?_
        refine o_zald (v := bI true) C ho 0 22 rfl rfl 3 rfl d rfl (by omega) (by decide) g21 dX9_newFrame_77 ?_
        refine o_ifb_eq (tgt := 85) hx hb dX9_newFrame_78 (by decide) (fun c9 => absurd c9 (by decide)) (fun _ => ?_)
        refine lv_iconst (v := nI 4) hx hb dX9_newFrame_81 (by decide) ?_
        refine lv_goto (tgt := 86) hx hb dX9_newFrame_82 (by decide) ?_
        refine o_iast (bs' := [bX K h ar ad ck bi lo (va_up (va_up F1 11 (upd (F1 11) d (nI (nxt (!true) ((ln + 1) - 0))))) 12 (upd (F1 12) d (nI 4)))]) C ho 0 13 rfl rfl 0 rfl d rfl (by omega) (by decide) dX9_newFrame_86 rfl (fun H locs ho => ?_)
        refine lv_aload_n hx hb dX9_newFrame_87 rfl (lv_at hl 2 rfl) ?_
        refine o_get (v := .ref (ar 13)) C ho 0 0 rfl rfl rfl 17 fX9_49 rfl dX9_newFrame_88 ?_
        refine lv_iload_n hx hb dX9_newFrame_91 rfl (lv_at hl 3 rfl) ?_
        refine lv_aload_n hx hb dX9_newFrame_92 rfl (lv_at hl 2 rfl) ?_
        refine o_get (v := .ref (ar 9)) C ho 0 0 rfl rfl rfl 13 fX9_37 rfl dX9_newFrame_93 ?_
        refine lv_iload_n hx hb dX9_newFrame_96 rfl (lv_at hl 3 rfl) ?_
        refine o_iald (v := nI 0) C ho 0 10 rfl rfl 0 rfl d rfl (by omega) (by omega) g9 dX9_newFrame_97 ?_
        refine o_if_ne (tgt := 105) hx hb dX9_newFrame_98 (by decide) (by decide) (fun c9 => absurd c9 (by decide)) (fun _ => ?_)
        refine lv_iconst (v := nI 1) hx hb dX9_newFrame_101 (by decide) ?_
        refine lv_goto (tgt := 106) hx hb dX9_newFrame_102 (by decide) ?_
        refine o_top (y := bI true) (rfl) ?_
        refine o_zast (bs' := [bX K h ar ad ck bi lo (va_up (va_up (va_up F1 11 (upd (F1 11) d (nI (nxt (!true) ((ln + 1) - 0))))) 12 (upd (F1 12) d (nI 4))) 13 (upd (F1 13) d (bI true)))]) C ho 0 14 rfl rfl 3 rfl d rfl (by omega) (by decide) dX9_newFrame_106 rfl (fun H locs ho => ?_)
        have e_19 : bX K h ar ad ck bi lo (va_up (va_up (va_up F1 11 (upd (F1 11) d (nI (nxt (!true) ((ln + 1) - 0))))) 12 (upd (F1 12) d (nI 4))) 13 (upd (F1 13) d (bI true))) = bX K h ar ad ck bi lo (va_up (va_up (va_up F1 11 (upd (F1 11) d (nI (nxt (!true) ((ln + 1) - 0))))) 12 (upd (F1 12) d (nI 4))) 13 (upd (F1 13) d (bI (decide (0 = 0))))) := rfl
        have ho : ow D vwCl A s.heap H locs [bX K h ar ad ck bi lo (va_up (va_up (va_up F1 11 (upd (F1 11) d (nI (nxt (!true) ((ln + 1) - 0))))) 12 (upd (F1 12) d (nI 4))) 13 (upd (F1 13) d (bI (decide (0 = 0)))))] := by rw [← e_19]; exact ho
        refine lv_iconst (v := nI 0) hx hb dX9_newFrame_107 (by decide) ?_
        refine lv_istore (lv' := [(4, .int (nI 0)), (3, .int (nI ((ln + 1) - 0))), (2, .int (nI 13)), (0, .ref h), (1, .int (nI d))]) hx hb dX9_newFrame_108 hl (by decide) rfl (fun ls hl => ?_)
        have e_20 : bX K h ar ad ck bi lo (va_up (va_up (va_up F1 11 (upd (F1 11) d (nI (nxt (!true) ((ln + 1) - 0))))) 12 (upd (F1 12) d (nI 4))) 13 (upd (F1 13) d (bI (decide (0 = 0))))) = bX K h ar ad ck bi lo (va_up (va_up (va_up (va_up F1 11 (upd (F1 11) d (nI (nxt (!true) ((ln + 1) - 0))))) 12 (upd (F1 12) d (nI 4))) 13 (upd (F1 13) d (bI (decide (0 = 0))))) 14 (va_cpy (F1 10) (F1 14) (41 * d + 0) (13 * d) 0)) := by rw [cpy_0]; exact congrArg (bX K h ar ad ck bi lo) (up_1 rfl)
        have ho : ow D vwCl A s.heap H locs [bX K h ar ad ck bi lo (va_up (va_up (va_up (va_up F1 11 (upd (F1 11) d (nI (nxt (!true) ((ln + 1) - 0))))) 12 (upd (F1 12) d (nI 4))) 13 (upd (F1 13) d (bI (decide (0 = 0))))) 14 (va_cpy (F1 10) (F1 14) (41 * d + 0) (13 * d) 0))] := by rw [← e_20]; exact ho
        have LP110 : ∀ (fuel : Nat) (i : Nat) (_ : (nxt (!true) ((ln + 1) - 0)) - i < fuel) (_ : i ≤ nxt (!true) ((ln + 1) - 0)) (H : Heap) (locs : List Loc) (ls : Array Slot) (_ : ow D vwCl A s.heap H locs [bX K h ar ad ck bi lo (va_up (va_up (va_up (va_up F1 11 (upd (F1 11) d (nI (nxt (!true) ((ln + 1) - 0))))) 12 (upd (F1 12) d (nI 4))) 13 (upd (F1 13) d (bI (decide (0 = 0))))) 14 (va_cpy (F1 10) (F1 14) (41 * d + 0) (13 * d) i))]) (_ : lv_has ls 5 [(0, .ref h), (1, .int (nI d)), (4, .int (nI i))]), W p la e (rmL 2 0 0) s m args below meth c H locs 0 0 Qz (F0 m 110 ls []) := by
          intro fuel
          induction fuel with
          | zero => intro i h0; exact absurd h0 (Nat.not_lt_zero _)
          | succ fuel ih110 =>
            intro i hfu hi H locs ls ho hl
            refine lv_iload hx hb dX9_newFrame_110 (lv_at hl 2 rfl) ?_
            refine lv_aload_n hx hb dX9_newFrame_112 rfl (lv_at hl 0 rfl) ?_
            refine o_get (v := .ref (ar 11)) C ho 0 0 rfl rfl rfl 15 fX9_43 rfl dX9_newFrame_113 ?_
            refine lv_iload_n hx hb dX9_newFrame_116 rfl (lv_at hl 1 rfl) ?_
            refine o_iald (v := nI (nxt (!true) ((ln + 1) - 0))) C ho 0 12 rfl rfl 0 rfl d rfl (by omega) (by omega) pk_us dX9_newFrame_117 ?_
            refine o_icmp_ge (tgt := 158) hx hb dX9_newFrame_118 (by decide) (by first | omega | exact and1_lt _) (by first | omega | exact and1_lt _) (fun c_21 => ?_) (fun c_21 => ?_)
            · skip
              have e_22 : bX K h ar ad ck bi lo (va_up (va_up (va_up (va_up F1 11 (upd (F1 11) d (nI (nxt (!true) ((ln + 1) - 0))))) 12 (upd (F1 12) d (nI 4))) 13 (upd (F1 13) d (bI (decide (0 = 0))))) 14 (va_cpy (F1 10) (F1 14) (41 * d + 0) (13 * d) i)) = bX K h ar ad ck bi lo (va_up (va_up (va_up (va_up F1 11 (upd (F1 11) d (nI (nxt (!true) ((ln + 1) - 0))))) 12 (upd (F1 12) d (nI 4))) 13 (upd (F1 13) d (bI (decide (0 = 0))))) 14 (va_cpy (F1 10) (F1 14) (41 * d + 0) (13 * d) (nxt (!true) ((ln + 1) - 0)))) := by rw [show i = nxt (!true) ((ln + 1) - 0) by omega]
              have ho : ow D vwCl A s.heap H locs [bX K h ar ad ck bi lo (va_up (va_up (va_up (va_up F1 11 (upd (F1 11) d (nI (nxt (!true) ((ln + 1) - 0))))) 12 (upd (F1 12) d (nI 4))) 13 (upd (F1 13) d (bI (decide (0 = 0))))) 14 (va_cpy (F1 10) (F1 14) (41 * d + 0) (13 * d) (nxt (!true) ((ln + 1) - 0))))] := by rw [← e_22]; exact ho
              refine lv_aload_n hx hb dX9_newFrame_158 rfl (lv_at hl 0 rfl) ?_
              refine o_get (v := .ref (ar 9)) C ho 0 0 rfl rfl rfl 13 fX9_37 rfl dX9_newFrame_159 ?_
              refine lv_iload_n hx hb dX9_newFrame_162 rfl (lv_at hl 1 rfl) ?_
              refine lv_dup2_11 hx hb dX9_newFrame_163 rfl rfl ?_
              refine o_iald (v := nI 0) C ho 0 10 rfl rfl 0 rfl d rfl (by omega) (by omega) g9 dX9_newFrame_164 ?_
              refine lv_aload_n hx hb dX9_newFrame_165 rfl (lv_at hl 0 rfl) ?_
              refine o_get (v := .ref (ar 11)) C ho 0 0 rfl rfl rfl 15 fX9_43 rfl dX9_newFrame_166 ?_
              refine lv_iload_n hx hb dX9_newFrame_169 rfl (lv_at hl 1 rfl) ?_
              refine o_iald (v := nI (nxt (!true) ((ln + 1) - 0))) C ho 0 12 rfl rfl 0 rfl d rfl (by omega) (by omega) pk_us dX9_newFrame_170 ?_
              refine o_add hx hb dX9_newFrame_171 ?_
              refine o_iast (bs' := [bX K h ar ad ck bi lo (va_up (va_up (va_up (va_up (va_up F1 11 (upd (F1 11) d (nI (nxt (!true) ((ln + 1) - 0))))) 12 (upd (F1 12) d (nI 4))) 13 (upd (F1 13) d (bI (decide (0 = 0))))) 14 (va_cpy (F1 10) (F1 14) (41 * d + 0) (13 * d) (nxt (!true) ((ln + 1) - 0)))) 9 (upd (F1 9) d (nI (0 + (nxt (!true) ((ln + 1) - 0))))))]) C ho 0 10 rfl rfl 0 rfl d rfl (by omega) (by decide) dX9_newFrame_172 rfl (fun H locs ho => ?_)
              refine lv_aload_n hx hb dX9_newFrame_173 rfl (lv_at hl 0 rfl) ?_
              refine o_get (v := .ref (ar 22)) C ho 0 0 rfl rfl rfl 26 fX9_77 rfl dX9_newFrame_174 ?_
              refine lv_iload_n hx hb dX9_newFrame_177 rfl (lv_at hl 1 rfl) ?_
              refine lv_iconst (v := nI 1) hx hb dX9_newFrame_178 (by decide) ?_
              refine lv_aload_n hx hb dX9_newFrame_179 rfl (lv_at hl 0 rfl) ?_
              refine o_get (v := .ref (ar 22)) C ho 0 0 rfl rfl rfl 26 fX9_77 rfl dX9_newFrame_180 ?_
              refine lv_iload_n hx hb dX9_newFrame_183 rfl (lv_at hl 1 rfl) ?_
              refine o_iald (v := bI tu) C ho 0 23 rfl rfl 0 rfl d rfl (by omega) (by omega) g22 dX9_newFrame_184 ?_
              refine lv_isub hx hb dX9_newFrame_185 ?_
              refine o_top (y := bI (!tu)) (bI_sub tu) ?_
              refine o_iast (bs' := [bX K h ar ad ck bi lo (va_up (va_up (va_up (va_up (va_up (va_up F1 11 (upd (F1 11) d (nI (nxt (!true) ((ln + 1) - 0))))) 12 (upd (F1 12) d (nI 4))) 13 (upd (F1 13) d (bI (decide (0 = 0))))) 14 (va_cpy (F1 10) (F1 14) (41 * d + 0) (13 * d) (nxt (!true) ((ln + 1) - 0)))) 9 (upd (F1 9) d (nI (0 + (nxt (!true) ((ln + 1) - 0)))))) 22 (upd (F1 22) d (bI (!tu))))]) C ho 0 23 rfl rfl 0 rfl d rfl (by omega) (by decide) dX9_newFrame_186 rfl (fun H locs ho => ?_)
              exact o_vret hQ C ho () rfl (by rw [hv_F1]; rfl) (Nat.le_of_ble_eq_true rfl) (Nat.le_of_ble_eq_true rfl) dX9_newFrame_187
            · skip
              refine lv_aload_n hx hb dX9_newFrame_121 rfl (lv_at hl 0 rfl) ?_
              refine o_get (v := .ref (ar 14)) C ho 0 0 rfl rfl rfl 18 fX9_53 rfl dX9_newFrame_122 ?_
              refine lv_bipush (v := nI 13) hx hb dX9_newFrame_125 (by decide) ?_
              refine lv_iload_n hx hb dX9_newFrame_127 rfl (lv_at hl 1 rfl) ?_
              refine o_mul hx hb dX9_newFrame_128 ?_
              refine lv_iload hx hb dX9_newFrame_129 (lv_at hl 2 rfl) ?_
              refine o_add hx hb dX9_newFrame_131 ?_
              refine lv_aload_n hx hb dX9_newFrame_132 rfl (lv_at hl 0 rfl) ?_
              refine o_get (v := .ref (ar 10)) C ho 0 0 rfl rfl rfl 14 fX9_40 rfl dX9_newFrame_133 ?_
              refine lv_bipush (v := nI 41) hx hb dX9_newFrame_136 (by decide) ?_
              refine lv_iload_n hx hb dX9_newFrame_138 rfl (lv_at hl 1 rfl) ?_
              refine o_mul hx hb dX9_newFrame_139 ?_
              refine lv_aload_n hx hb dX9_newFrame_140 rfl (lv_at hl 0 rfl) ?_
              refine o_get (v := .ref (ar 9)) C ho 0 0 rfl rfl rfl 13 fX9_37 rfl dX9_newFrame_141 ?_
              refine lv_iload_n hx hb dX9_newFrame_144 rfl (lv_at hl 1 rfl) ?_
              refine o_iald (v := nI 0) C ho 0 10 rfl rfl 0 rfl d rfl (by omega) (by omega) g9 dX9_newFrame_145 ?_
              refine o_add hx hb dX9_newFrame_146 ?_
              refine lv_iload hx hb dX9_newFrame_147 (lv_at hl 2 rfl) ?_
              refine o_add hx hb dX9_newFrame_149 ?_
              refine o_iald (v := F1 10 (((41 * d) + 0) + i)) C ho 0 11 rfl rfl 0 rfl (((41 * d) + 0) + i) rfl (by omega) (by omega) rfl dX9_newFrame_150 ?_
              refine o_iast (bs' := [bX K h ar ad ck bi lo (va_up (va_up (va_up (va_up (va_up F1 11 (upd (F1 11) d (nI (nxt (!true) ((ln + 1) - 0))))) 12 (upd (F1 12) d (nI 4))) 13 (upd (F1 13) d (bI (decide (0 = 0))))) 14 (va_cpy (F1 10) (F1 14) (41 * d + 0) (13 * d) i)) 14 (upd (va_cpy (F1 10) (F1 14) (41 * d + 0) (13 * d) i) ((13 * d) + i) (F1 10 (((41 * d) + 0) + i))))]) C ho 0 15 rfl rfl 0 rfl ((13 * d) + i) rfl (by omega) (by decide) dX9_newFrame_151 rfl (fun H locs ho => ?_)
              have e_23 : bX K h ar ad ck bi lo (va_up (va_up (va_up (va_up (va_up F1 11 (upd (F1 11) d (nI (nxt (!true) ((ln + 1) - 0))))) 12 (upd (F1 12) d (nI 4))) 13 (upd (F1 13) d (bI (decide (0 = 0))))) 14 (va_cpy (F1 10) (F1 14) (41 * d + 0) (13 * d) i)) 14 (upd (va_cpy (F1 10) (F1 14) (41 * d + 0) (13 * d) i) ((13 * d) + i) (F1 10 (((41 * d) + 0) + i)))) = bX K h ar ad ck bi lo (va_up (va_up (va_up (va_up F1 11 (upd (F1 11) d (nI (nxt (!true) ((ln + 1) - 0))))) 12 (upd (F1 12) d (nI 4))) 13 (upd (F1 13) d (bI (decide (0 = 0))))) 14 (va_cpy (F1 10) (F1 14) (41 * d + 0) (13 * d) (i + 1))) := by rw [bx_uu, cpy_succ]
              have ho : ow D vwCl A s.heap H locs [bX K h ar ad ck bi lo (va_up (va_up (va_up (va_up F1 11 (upd (F1 11) d (nI (nxt (!true) ((ln + 1) - 0))))) 12 (upd (F1 12) d (nI 4))) 13 (upd (F1 13) d (bI (decide (0 = 0))))) 14 (va_cpy (F1 10) (F1 14) (41 * d + 0) (13 * d) (i + 1)))] := by rw [← e_23]; exact ho
              refine lv_iinc (v := nI (i + 1)) (lv' := [(4, .int (nI (i + 1))), (0, .ref h), (1, .int (nI d))]) hx hb dX9_newFrame_152 hl (k := 2) rfl (iincN _ _) (by decide) rfl (fun ls hl => ?_)
              refine lv_goto (tgt := 110) hx hb dX9_newFrame_155 (by decide) ?_
              exact ih110 (i + 1) (by omega) (by omega) _ _ _ ho (lv_sub hl [1, 2, 0] rfl)
        exact LP110 ((nxt (!true) ((ln + 1) - 0)) - 0 + 1) 0 (Nat.lt_succ_self _) (by omega) _ _ _ ho (lv_sub hl [3, 4, 0] rfl)
      · skip
        refine lv_iload_n hx hb dX9_newFrame_61 rfl (lv_at hl 0 rfl) ?_
        refine lv_goto (tgt := 66) hx hb dX9_newFrame_62 (by decide) ?_
        refine o_top (y := nI (nxt (!true) ((ln + 1) - 0))) (congrArg nI (show _ = min ((ln + 1) - 0) 13 by omega)) ?_
        refine o_iast (bs' := [bX K h ar ad ck bi lo (va_up F1 11 (upd (F1 11) d (nI (nxt (!true) ((ln + 1) - 0)))))]) C ho 0 12 rfl rfl 0 rfl d rfl (by omega) (by decide) dX9_newFrame_66 rfl (fun H locs ho => ?_)
        have hn9 : nxt (!true) ((ln + 1) - 0) ≤ 13 := by unfold nxt; dsimp only [cond, not]; omega
        have hn8 : nxt (!true) ((ln + 1) - 0) ≤ (ln + 1) - 0 := by unfold nxt; omega
        refine lv_aload_n hx hb dX9_newFrame_67 rfl (lv_at hl 2 rfl) ?_
        refine o_get (v := .ref (ar 12)) C ho 0 0 rfl rfl rfl 16 fX9_46 rfl dX9_newFrame_68 ?_
        refine lv_iload_n hx hb dX9_newFrame_71 rfl (lv_at hl 3 rfl) ?_
        refine lv_aload_n hx hb dX9_newFrame_72 rfl (lv_at hl 2 rfl) ?_
        refine o_get (v := .ref (ar 21)) C ho 0 0 rfl rfl rfl 25 fX9_74 rfl dX9_newFrame_73 ?_
        refine lv_iload_n hx hb dX9_newFrame_76 rfl (lv_at hl 3 rfl) ?_
        refine o_zald (v := bI true) C ho 0 22 rfl rfl 3 rfl d rfl (by omega) (by decide) g21 dX9_newFrame_77 ?_
        refine o_ifb_eq (tgt := 85) hx hb dX9_newFrame_78 (by decide) (fun c9 => absurd c9 (by decide)) (fun _ => ?_)
        refine lv_iconst (v := nI 4) hx hb dX9_newFrame_81 (by decide) ?_
        refine lv_goto (tgt := 86) hx hb dX9_newFrame_82 (by decide) ?_
        refine o_iast (bs' := [bX K h ar ad ck bi lo (va_up (va_up F1 11 (upd (F1 11) d (nI (nxt (!true) ((ln + 1) - 0))))) 12 (upd (F1 12) d (nI 4)))]) C ho 0 13 rfl rfl 0 rfl d rfl (by omega) (by decide) dX9_newFrame_86 rfl (fun H locs ho => ?_)
        refine lv_aload_n hx hb dX9_newFrame_87 rfl (lv_at hl 2 rfl) ?_
        refine o_get (v := .ref (ar 13)) C ho 0 0 rfl rfl rfl 17 fX9_49 rfl dX9_newFrame_88 ?_
        refine lv_iload_n hx hb dX9_newFrame_91 rfl (lv_at hl 3 rfl) ?_
        refine lv_aload_n hx hb dX9_newFrame_92 rfl (lv_at hl 2 rfl) ?_
        refine o_get (v := .ref (ar 9)) C ho 0 0 rfl rfl rfl 13 fX9_37 rfl dX9_newFrame_93 ?_
        refine lv_iload_n hx hb dX9_newFrame_96 rfl (lv_at hl 3 rfl) ?_
        refine o_iald (v := nI 0) C ho 0 10 rfl rfl 0 rfl d rfl (by omega) (by omega) g9 dX9_newFrame_97 ?_
        refine o_if_ne (tgt := 105) hx hb dX9_newFrame_98 (by decide) (by decide) (fun c9 => absurd c9 (by decide)) (fun _ => ?_)
        refine lv_iconst (v := nI 1) hx hb dX9_newFrame_101 (by decide) ?_
        refine lv_goto (tgt := 106) hx hb dX9_newFrame_102 (by decide) ?_
        refine o_top (y := bI true) (rfl) ?_
        refine o_zast (bs' := [bX K h ar ad ck bi lo (va_up (va_up (va_up F1 11 (upd (F1 11) d (nI (nxt (!true) ((ln + 1) - 0))))) 12 (upd (F1 12) d (nI 4))) 13 (upd (F1 13) d (bI true)))]) C ho 0 14 rfl rfl 3 rfl d rfl (by omega) (by decide) dX9_newFrame_106 rfl (fun H locs ho => ?_)
        have e_24 : bX K h ar ad ck bi lo (va_up (va_up (va_up F1 11 (upd (F1 11) d (nI (nxt (!true) ((ln + 1) - 0))))) 12 (upd (F1 12) d (nI 4))) 13 (upd (F1 13) d (bI true))) = bX K h ar ad ck bi lo (va_up (va_up (va_up F1 11 (upd (F1 11) d (nI (nxt (!true) ((ln + 1) - 0))))) 12 (upd (F1 12) d (nI 4))) 13 (upd (F1 13) d (bI (decide (0 = 0))))) := rfl
        have ho : ow D vwCl A s.heap H locs [bX K h ar ad ck bi lo (va_up (va_up (va_up F1 11 (upd (F1 11) d (nI (nxt (!true) ((ln + 1) - 0))))) 12 (upd (F1 12) d (nI 4))) 13 (upd (F1 13) d (bI (decide (0 = 0)))))] := by rw [← e_24]; exact ho
        refine lv_iconst (v := nI 0) hx hb dX9_newFrame_107 (by decide) ?_
        refine lv_istore (lv' := [(4, .int (nI 0)), (3, .int (nI ((ln + 1) - 0))), (2, .int (nI 13)), (0, .ref h), (1, .int (nI d))]) hx hb dX9_newFrame_108 hl (by decide) rfl (fun ls hl => ?_)
        have e_25 : bX K h ar ad ck bi lo (va_up (va_up (va_up F1 11 (upd (F1 11) d (nI (nxt (!true) ((ln + 1) - 0))))) 12 (upd (F1 12) d (nI 4))) 13 (upd (F1 13) d (bI (decide (0 = 0))))) = bX K h ar ad ck bi lo (va_up (va_up (va_up (va_up F1 11 (upd (F1 11) d (nI (nxt (!true) ((ln + 1) - 0))))) 12 (upd (F1 12) d (nI 4))) 13 (upd (F1 13) d (bI (decide (0 = 0))))) 14 (va_cpy (F1 10) (F1 14) (41 * d + 0) (13 * d) 0)) := by rw [cpy_0]; exact congrArg (bX K h ar ad ck bi lo) (up_1 rfl)
        have ho : ow D vwCl A s.heap H locs [bX K h ar ad ck bi lo (va_up (va_up (va_up (va_up F1 11 (upd (F1 11) d (nI (nxt (!true) ((ln + 1) - 0))))) 12 (upd (F1 12) d (nI 4))) 13 (upd (F1 13) d (bI (decide (0 = 0))))) 14 (va_cpy (F1 10) (F1 14) (41 * d + 0) (13 * d) 0))] := by rw [← e_25]; exact ho
        have LP110 : ∀ (fuel : Nat) (i : Nat) (_ : (nxt (!true) ((ln + 1) - 0)) - i < fuel) (_ : i ≤ nxt (!true) ((ln + 1) - 0)) (H : Heap) (locs : List Loc) (ls : Array Slot) (_ : ow D vwCl A s.heap H locs [bX K h ar ad ck bi lo (va_up (va_up (va_up (va_up F1 11 (upd (F1 11) d (nI (nxt (!true) ((ln + 1) - 0))))) 12 (upd (F1 12) d (nI 4))) 13 (upd (F1 13) d (bI (decide (0 = 0))))) 14 (va_cpy (F1 10) (F1 14) (41 * d + 0) (13 * d) i))]) (_ : lv_has ls 5 [(0, .ref h), (1, .int (nI d)), (4, .int (nI i))]), W p la e (rmL 2 0 0) s m args below meth c H locs 0 0 Qz (F0 m 110 ls []) := by
          intro fuel
          induction fuel with
          | zero => intro i h0; exact absurd h0 (Nat.not_lt_zero _)
          | succ fuel ih110 =>
            intro i hfu hi H locs ls ho hl
            refine lv_iload hx hb dX9_newFrame_110 (lv_at hl 2 rfl) ?_
            refine lv_aload_n hx hb dX9_newFrame_112 rfl (lv_at hl 0 rfl) ?_
            refine o_get (v := .ref (ar 11)) C ho 0 0 rfl rfl rfl 15 fX9_43 rfl dX9_newFrame_113 ?_
            refine lv_iload_n hx hb dX9_newFrame_116 rfl (lv_at hl 1 rfl) ?_
            refine o_iald (v := nI (nxt (!true) ((ln + 1) - 0))) C ho 0 12 rfl rfl 0 rfl d rfl (by omega) (by omega) pk_us dX9_newFrame_117 ?_
            refine o_icmp_ge (tgt := 158) hx hb dX9_newFrame_118 (by decide) (by first | omega | exact and1_lt _) (by first | omega | exact and1_lt _) (fun c_26 => ?_) (fun c_26 => ?_)
            · skip
              have e_27 : bX K h ar ad ck bi lo (va_up (va_up (va_up (va_up F1 11 (upd (F1 11) d (nI (nxt (!true) ((ln + 1) - 0))))) 12 (upd (F1 12) d (nI 4))) 13 (upd (F1 13) d (bI (decide (0 = 0))))) 14 (va_cpy (F1 10) (F1 14) (41 * d + 0) (13 * d) i)) = bX K h ar ad ck bi lo (va_up (va_up (va_up (va_up F1 11 (upd (F1 11) d (nI (nxt (!true) ((ln + 1) - 0))))) 12 (upd (F1 12) d (nI 4))) 13 (upd (F1 13) d (bI (decide (0 = 0))))) 14 (va_cpy (F1 10) (F1 14) (41 * d + 0) (13 * d) (nxt (!true) ((ln + 1) - 0)))) := by rw [show i = nxt (!true) ((ln + 1) - 0) by omega]
              have ho : ow D vwCl A s.heap H locs [bX K h ar ad ck bi lo (va_up (va_up (va_up (va_up F1 11 (upd (F1 11) d (nI (nxt (!true) ((ln + 1) - 0))))) 12 (upd (F1 12) d (nI 4))) 13 (upd (F1 13) d (bI (decide (0 = 0))))) 14 (va_cpy (F1 10) (F1 14) (41 * d + 0) (13 * d) (nxt (!true) ((ln + 1) - 0))))] := by rw [← e_27]; exact ho
              refine lv_aload_n hx hb dX9_newFrame_158 rfl (lv_at hl 0 rfl) ?_
              refine o_get (v := .ref (ar 9)) C ho 0 0 rfl rfl rfl 13 fX9_37 rfl dX9_newFrame_159 ?_
              refine lv_iload_n hx hb dX9_newFrame_162 rfl (lv_at hl 1 rfl) ?_
              refine lv_dup2_11 hx hb dX9_newFrame_163 rfl rfl ?_
              refine o_iald (v := nI 0) C ho 0 10 rfl rfl 0 rfl d rfl (by omega) (by omega) g9 dX9_newFrame_164 ?_
              refine lv_aload_n hx hb dX9_newFrame_165 rfl (lv_at hl 0 rfl) ?_
              refine o_get (v := .ref (ar 11)) C ho 0 0 rfl rfl rfl 15 fX9_43 rfl dX9_newFrame_166 ?_
              refine lv_iload_n hx hb dX9_newFrame_169 rfl (lv_at hl 1 rfl) ?_
              refine o_iald (v := nI (nxt (!true) ((ln + 1) - 0))) C ho 0 12 rfl rfl 0 rfl d rfl (by omega) (by omega) pk_us dX9_newFrame_170 ?_
              refine o_add hx hb dX9_newFrame_171 ?_
              refine o_iast (bs' := [bX K h ar ad ck bi lo (va_up (va_up (va_up (va_up (va_up F1 11 (upd (F1 11) d (nI (nxt (!true) ((ln + 1) - 0))))) 12 (upd (F1 12) d (nI 4))) 13 (upd (F1 13) d (bI (decide (0 = 0))))) 14 (va_cpy (F1 10) (F1 14) (41 * d + 0) (13 * d) (nxt (!true) ((ln + 1) - 0)))) 9 (upd (F1 9) d (nI (0 + (nxt (!true) ((ln + 1) - 0))))))]) C ho 0 10 rfl rfl 0 rfl d rfl (by omega) (by decide) dX9_newFrame_172 rfl (fun H locs ho => ?_)
              refine lv_aload_n hx hb dX9_newFrame_173 rfl (lv_at hl 0 rfl) ?_
              refine o_get (v := .ref (ar 22)) C ho 0 0 rfl rfl rfl 26 fX9_77 rfl dX9_newFrame_174 ?_
              refine lv_iload_n hx hb dX9_newFrame_177 rfl (lv_at hl 1 rfl) ?_
              refine lv_iconst (v := nI 1) hx hb dX9_newFrame_178 (by decide) ?_
              refine lv_aload_n hx hb dX9_newFrame_179 rfl (lv_at hl 0 rfl) ?_
              refine o_get (v := .ref (ar 22)) C ho 0 0 rfl rfl rfl 26 fX9_77 rfl dX9_newFrame_180 ?_
              refine lv_iload_n hx hb dX9_newFrame_183 rfl (lv_at hl 1 rfl) ?_
              refine o_iald (v := bI tu) C ho 0 23 rfl rfl 0 rfl d rfl (by omega) (by omega) g22 dX9_newFrame_184 ?_
              refine lv_isub hx hb dX9_newFrame_185 ?_
              refine o_top (y := bI (!tu)) (bI_sub tu) ?_
              refine o_iast (bs' := [bX K h ar ad ck bi lo (va_up (va_up (va_up (va_up (va_up (va_up F1 11 (upd (F1 11) d (nI (nxt (!true) ((ln + 1) - 0))))) 12 (upd (F1 12) d (nI 4))) 13 (upd (F1 13) d (bI (decide (0 = 0))))) 14 (va_cpy (F1 10) (F1 14) (41 * d + 0) (13 * d) (nxt (!true) ((ln + 1) - 0)))) 9 (upd (F1 9) d (nI (0 + (nxt (!true) ((ln + 1) - 0)))))) 22 (upd (F1 22) d (bI (!tu))))]) C ho 0 23 rfl rfl 0 rfl d rfl (by omega) (by decide) dX9_newFrame_186 rfl (fun H locs ho => ?_)
              exact o_vret hQ C ho () rfl (by rw [hv_F1]; rfl) (Nat.le_of_ble_eq_true rfl) (Nat.le_of_ble_eq_true rfl) dX9_newFrame_187
            · skip
              refine lv_aload_n hx hb dX9_newFrame_121 rfl (lv_at hl 0 rfl) ?_
              refine o_get (v := .ref (ar 14)) C ho 0 0 rfl rfl rfl 18 fX9_53 rfl dX9_newFrame_122 ?_
              refine lv_bipush (v := nI 13) hx hb dX9_newFrame_125 (by decide) ?_
              refine lv_iload_n hx hb dX9_newFrame_127 rfl (lv_at hl 1 rfl) ?_
              refine o_mul hx hb dX9_newFrame_128 ?_
              refine lv_iload hx hb dX9_newFrame_129 (lv_at hl 2 rfl) ?_
              refine o_add hx hb dX9_newFrame_131 ?_
              refine lv_aload_n hx hb dX9_newFrame_132 rfl (lv_at hl 0 rfl) ?_
              refine o_get (v := .ref (ar 10)) C ho 0 0 rfl rfl rfl 14 fX9_40 rfl dX9_newFrame_133 ?_
              refine lv_bipush (v := nI 41) hx hb dX9_newFrame_136 (by decide) ?_
              refine lv_iload_n hx hb dX9_newFrame_138 rfl (lv_at hl 1 rfl) ?_
              refine o_mul hx hb dX9_newFrame_139 ?_
              refine lv_aload_n hx hb dX9_newFrame_140 rfl (lv_at hl 0 rfl) ?_
              refine o_get (v := .ref (ar 9)) C ho 0 0 rfl rfl rfl 13 fX9_37 rfl dX9_newFrame_141 ?_
              refine lv_iload_n hx hb dX9_newFrame_144 rfl (lv_at hl 1 rfl) ?_
              refine o_iald (v := nI 0) C ho 0 10 rfl rfl 0 rfl d rfl (by omega) (by omega) g9 dX9_newFrame_145 ?_
              refine o_add hx hb dX9_newFrame_146 ?_
              refine lv_iload hx hb dX9_newFrame_147 (lv_at hl 2 rfl) ?_
              refine o_add hx hb dX9_newFrame_149 ?_
              refine o_iald (v := F1 10 (((41 * d) + 0) + i)) C ho 0 11 rfl rfl 0 rfl (((41 * d) + 0) + i) rfl (by omega) (by omega) rfl dX9_newFrame_150 ?_
              refine o_iast (bs' := [bX K h ar ad ck bi lo (va_up (va_up (va_up (va_up (va_up F1 11 (upd (F1 11) d (nI (nxt (!true) ((ln + 1) - 0))))) 12 (upd (F1 12) d (nI 4))) 13 (upd (F1 13) d (bI (decide (0 = 0))))) 14 (va_cpy (F1 10) (F1 14) (41 * d + 0) (13 * d) i)) 14 (upd (va_cpy (F1 10) (F1 14) (41 * d + 0) (13 * d) i) ((13 * d) + i) (F1 10 (((41 * d) + 0) + i))))]) C ho 0 15 rfl rfl 0 rfl ((13 * d) + i) rfl (by omega) (by decide) dX9_newFrame_151 rfl (fun H locs ho => ?_)
              have e_28 : bX K h ar ad ck bi lo (va_up (va_up (va_up (va_up (va_up F1 11 (upd (F1 11) d (nI (nxt (!true) ((ln + 1) - 0))))) 12 (upd (F1 12) d (nI 4))) 13 (upd (F1 13) d (bI (decide (0 = 0))))) 14 (va_cpy (F1 10) (F1 14) (41 * d + 0) (13 * d) i)) 14 (upd (va_cpy (F1 10) (F1 14) (41 * d + 0) (13 * d) i) ((13 * d) + i) (F1 10 (((41 * d) + 0) + i)))) = bX K h ar ad ck bi lo (va_up (va_up (va_up (va_up F1 11 (upd (F1 11) d (nI (nxt (!true) ((ln + 1) - 0))))) 12 (upd (F1 12) d (nI 4))) 13 (upd (F1 13) d (bI (decide (0 = 0))))) 14 (va_cpy (F1 10) (F1 14) (41 * d + 0) (13 * d) (i + 1))) := by rw [bx_uu, cpy_succ]
              have ho : ow D vwCl A s.heap H locs [bX K h ar ad ck bi lo (va_up (va_up (va_up (va_up F1 11 (upd (F1 11) d (nI (nxt (!true) ((ln + 1) - 0))))) 12 (upd (F1 12) d (nI 4))) 13 (upd (F1 13) d (bI (decide (0 = 0))))) 14 (va_cpy (F1 10) (F1 14) (41 * d + 0) (13 * d) (i + 1)))] := by rw [← e_28]; exact ho
              refine lv_iinc (v := nI (i + 1)) (lv' := [(4, .int (nI (i + 1))), (0, .ref h), (1, .int (nI d))]) hx hb dX9_newFrame_152 hl (k := 2) rfl (iincN _ _) (by decide) rfl (fun ls hl => ?_)
              refine lv_goto (tgt := 110) hx hb dX9_newFrame_155 (by decide) ?_
              exact ih110 (i + 1) (by omega) (by omega) _ _ _ ho (lv_sub hl [1, 2, 0] rfl)
        exact LP110 ((nxt (!true) ((ln + 1) - 0)) - 0 + 1) 0 (Nat.lt_succ_self _) (by omega) _ _ _ ho (lv_sub hl [3, 4, 0] rfl)
