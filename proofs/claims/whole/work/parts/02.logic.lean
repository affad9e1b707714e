/-! MY LOGIC: a world is a list of blocks (each a list of cells); contracts over them; one row an instruction, one a call -/
abbrev BW : Type := List va_W
theorem bw_at : ∀ {bs : BW} {k j : Nat} {b : va_W} {x : Nat × va_E}, bs[k]? = some b → b[j]? = some x → bs.flatten[((bs.take k).flatten).length + j]? = some x
  | [], k, j, b, x, hk, _ => by simp at hk
  | a :: t, 0, j, b, x, hk, hj => by
    have h : a = b := by simpa using hk
    subst h
    have hlt : j < a.length := (List.getElem?_eq_some_iff.mp hj).1
    simp only [List.take_zero, List.flatten_nil, List.length_nil, Nat.zero_add, List.flatten_cons]
    rw [List.getElem?_append_left hlt]; exact hj
  | a :: t, k + 1, j, b, x, hk, hj => by
    have hk' : t[k]? = some b := by simpa using hk
    have ih := bw_at hk' hj
    simp only [List.take_succ_cons, List.flatten_cons, List.length_append]
    rw [List.getElem?_append_right (by omega), show a.length + (List.take k t).flatten.length + j - a.length = (List.take k t).flatten.length + j by omega]
    exact ih
theorem bw_set : ∀ {bs : BW} {k j : Nat} {b : va_W} {x : Nat × va_E}, bs[k]? = some b → j < b.length → bs.flatten.set (((bs.take k).flatten).length + j) x = (bs.set k (b.set j x)).flatten
  | [], k, j, b, x, hk, _ => by simp at hk
  | a :: t, 0, j, b, x, hk, hj => by
    have h : a = b := by simpa using hk
    subst h
    simp only [List.take_zero, List.flatten_nil, List.length_nil, Nat.zero_add, List.flatten_cons, List.set_cons_zero]
    rw [List.set_append, if_pos hj]
  | a :: t, k + 1, j, b, x, hk, hj => by
    have hk' : t[k]? = some b := by simpa using hk
    have ih := bw_set (x := x) hk' hj
    simp only [List.take_succ_cons, List.flatten_cons, List.length_append, List.set_cons_succ]
    rw [List.set_append, if_neg (by omega), show a.length + (List.take k t).flatten.length + j - a.length = (List.take k t).flatten.length + j by omega, ih]
theorem p_perm {D : va_G} {cl : List vw_C} {w w' : va_W} {H : Heap} (h : va_P D cl w H) (hp : w.Perm w') : va_P D cl w' H := by
  intro k q hq
  obtain ⟨i, hi⟩ := List.getElem?_of_mem (hp.mem_iff.mpr (List.mem_of_getElem? hq))
  exact h i q hi
theorem d_nd {w : va_W} : (∀ (i j : Nat) (p q : Nat × va_E), w[i]? = some p → w[j]? = some q → p.1 = q.1 → i = j) ↔ (w.map Prod.fst).Nodup := by
  induction w with
  | nil => simp
  | cons a t ih =>
    rw [List.map_cons, List.nodup_cons, ← ih]
    constructor
    · intro h
      refine ⟨fun hm => ?_, fun i j p q hi hj he => ?_⟩
      · obtain ⟨q, hq, he⟩ := List.mem_map.mp hm
        obtain ⟨j, hj⟩ := List.getElem?_of_mem hq
        have := h 0 (j + 1) a q (by simp) (by simpa using hj) he.symm
        omega
      · have := h (i + 1) (j + 1) p q (by simpa using hi) (by simpa using hj) he
        omega
    · rintro ⟨hm, h⟩ i j p q hi hj he
      match i, j, hi, hj with
      | 0, 0, _, _ => rfl
      | 0, j + 1, hi, hj =>
        have hp : a = p := by simpa using hi
        subst hp
        exact absurd (List.mem_map.mpr ⟨q, List.mem_of_getElem? (by simpa using hj), he.symm⟩) hm
      | i + 1, 0, hi, hj =>
        have hp : a = q := by simpa using hj
        subst hp
        exact absurd (List.mem_map.mpr ⟨p, List.mem_of_getElem? (by simpa using hi), he⟩) hm
      | i + 1, j + 1, hi, hj => rw [h i j p q (by simpa using hi) (by simpa using hj) he]
theorem d_perm {A : Nat → Prop} {w w' : va_W} (h : va_D A w) (hp : w.Perm w') : va_D A w' := by
  refine ⟨d_nd.mpr (((hp.map Prod.fst).nodup_iff).mp (d_nd.mp h.1)), fun k q hq => ?_⟩
  obtain ⟨i, hi⟩ := List.getElem?_of_mem (hp.mem_iff.mpr (List.mem_of_getElem? hq))
  exact h.2 i q hi
theorem d_left {A : Nat → Prop} {w w' : va_W} (h : va_D A (w ++ w')) : va_D A w := by
  refine ⟨d_nd.mpr ?_, fun k q hq => ?_⟩
  · have := d_nd.mp h.1
    rw [List.map_append] at this
    exact (List.nodup_append.mp this).1
  · obtain ⟨i, hi⟩ := List.getElem?_of_mem (List.mem_append_left w' (List.mem_of_getElem? hq))
    exact h.2 i q hi
theorem p_left {D : va_G} {cl : List vw_C} {w w' : va_W} {H : Heap} (h : va_P D cl (w ++ w') H) : va_P D cl w H := by
  intro k q hq
  obtain ⟨i, hi⟩ := List.getElem?_of_mem (List.mem_append_left w' (List.mem_of_getElem? hq))
  exact h i q hi
/-- behind a call: what came back beside the rest -/
theorem pd_join {A0 : Nat → Prop} {D : va_G} {cl : List vw_C} {wc wr w1 : va_W} {H H1 : Heap} (hP : va_P D cl (wc ++ wr) H) (hD : va_D A0 (wc ++ wr))
    (hk : ∀ q : Nat, q < H.size → ¬ va_A wc H.size q → H1[q]? = H[q]?) (hF : ∀ q, va_A wc H.size q → A0 q) (hP1 : va_P D cl w1 H1) (hD1 : va_D (va_A wc H.size) w1) : va_P D cl (w1 ++ wr) H1 ∧ va_D A0 (w1 ++ wr) := by
  have hnd := d_nd.mp hD.1
  rw [List.map_append, List.nodup_append] at hnd
  obtain ⟨n1, n2, n3⟩ := hnd
  have apart : ∀ q ∈ wr, q.1 < H.size ∧ ¬ va_A wc H.size q.1 := by
    intro q hq
    obtain ⟨i, hi⟩ := List.getElem?_of_mem (List.mem_append_right wc hq)
    have hlt := (hP i q hi).lt
    refine ⟨hlt, fun h => ?_⟩
    rcases h with ⟨k, e, h⟩ | h
    · exact n3 q.1 (List.mem_map.mpr ⟨(q.1, e), List.mem_of_getElem? h, rfl⟩) q.1 (List.mem_map.mpr ⟨q, hq, rfl⟩) rfl
    · omega
  have hPr : va_P D cl wr H1 := by
    intro k q hq
    have hm := List.mem_of_getElem? hq
    obtain ⟨i, hi⟩ := List.getElem?_of_mem (List.mem_append_right wc hm)
    obtain ⟨g1, g2⟩ := apart q hm
    exact (hP i q hi).kept (hk q.1 g1 g2)
  refine ⟨hP1.app hPr, d_nd.mpr ?_, fun k q hq => ?_⟩
  · rw [List.map_append, List.nodup_append]
    refine ⟨d_nd.mp hD1.1, n2, fun a ha b hb e => ?_⟩
    obtain ⟨x, hx, rfl⟩ := List.mem_map.mp ha
    obtain ⟨y, hy, rfl⟩ := List.mem_map.mp hb
    obtain ⟨i, hi⟩ := List.getElem?_of_mem hx
    exact (apart y hy).2 (by rw [← e]; exact hD1.2 i x hi)
  · rcases List.mem_append.mp (List.mem_of_getElem? hq) with h | h
    · obtain ⟨i, hi⟩ := List.getElem?_of_mem h
      exact hF _ (hD1.2 i q hi)
    · obtain ⟨i, hi⟩ := List.getElem?_of_mem (List.mem_append_right wc h)
      exact hD.2 i q hi
/-- blocks by their places -/
def bw_pick (bs : BW) (is : List Nat) : BW := is.map (fun i => bs.getD i [])
theorem bw_pick_perm {bs bs' : BW} (is : List Nat) (nb : Nat) (hp : is.isPerm (List.range nb) = true) (hlen : bs.length = nb) (he : bw_pick bs is = bs') : bs.Perm bs' := by
  subst hlen
  have h1 : (List.range bs.length).map (fun i => bs.getD i []) = bs := by
    apply List.ext_getElem
    · simp
    · intro i h1 h2
      simp [List.getElem?_eq_getElem h2]
  have h2 := (List.isPerm_iff.mp hp).map (fun i => bs.getD i [])
  rw [h1] at h2
  rw [← he]
  exact h2.symm
/-- what a method owns, since H0: its blocks are there and apart, nothing outside A has changed -/
def ow (D : va_G) (cl : List vw_C) (A : Nat → Prop) (H0 H : Heap) (locs : List Loc) (bs : BW) : Prop := va_P D cl bs.flatten H ∧ va_D A bs.flatten ∧ va_S A H0 H locs
theorem ow.perm {D : va_G} {cl : List vw_C} {A : Nat → Prop} {H0 H : Heap} {locs : List Loc} {bs bs' : BW} (h : ow D cl A H0 H locs bs) (hp : bs.Perm bs') : ow D cl A H0 H locs bs' := ⟨p_perm h.1 hp.flatten, d_perm h.2.1 hp.flatten, h.2.2⟩
theorem ow.re {D : va_G} {cl : List vw_C} {A : Nat → Prop} {H0 H : Heap} {locs : List Loc} {bs bs' : BW} (h : ow D cl A H0 H locs bs) (is : List Nat) (nb : Nat) (hp : is.isPerm (List.range nb) = true) (hlen : bs.length = nb) (he : bw_pick bs is = bs') : ow D cl A H0 H locs bs' := h.perm (bw_pick_perm is nb hp hlen he)
theorem ow.flat {D : va_G} {cl : List vw_C} {A : Nat → Prop} {H0 H : Heap} {locs : List Loc} {bs bs' : BW} (h : ow D cl A H0 H locs bs) (he : bs.flatten = bs'.flatten) : ow D cl A H0 H locs bs' := ⟨by rw [← he]; exact h.1, by rw [← he]; exact h.2.1, h.2.2⟩
theorem ow.flatP {D : va_G} {cl : List vw_C} {A : Nat → Prop} {H0 H : Heap} {locs : List Loc} {bs bs' : BW} (h : ow D cl A H0 H locs bs) (he : bs.flatten.Perm bs'.flatten) : ow D cl A H0 H locs bs' := ⟨p_perm h.1 he, d_perm h.2.1 he, h.2.2⟩
/-- what the tables say that isn't among the words of a contract: links of nest mates, classes of arrays of references -/
def Xw (U : State) : Prop := (∀ q ∈ nestL, va_Nw (.methodLinkNest q.1 q.2.1 q.2.2.1 q.2.2.2) U) ∧ ∀ C ∈ overL, va_AO C U
theorem Xw.warm {s U : State} (hW : s.WarmedH U.vm) (h : Xw s) : Xw U := ⟨fun q hq => va_Nw.warmM hW (h.1 q hq), fun C hC => va_AO.moved hW.alike (h.2 C hC)⟩
theorem Xw.same {u U : State} (hv : u.vm = U.vm) (h : Xw u) : Xw U := ⟨fun q hq => va_Nw.same rfl hv (h.1 q hq), fun C hC => va_AO.moved (by rw [hv]; exact Vm.Alike.refl _) (h.2 C hC)⟩
def Kz (D : va_G) (cl : List vw_C) (tys : List (ClassId × FieldType)) (U : State) : Prop := va_K D cl tys U ∧ Xw U
/-- what a walk stands on -/
def Cx (p : Program) (s : State) (m : MethodId) (args : Array Value) (meth : Method) (c : Code) (Tb : List Cond) (D : va_G) (cl : List vw_C) (tys : List (ClassId × FieldType)) (A : Nat → Prop) (own : String) (cc : ByteArray) (nL : Nat) (ret : Option FieldType) : Prop :=
  (p.tables.exec = Jvm.exec ∧ c.code = cc ∧ c.maxLocals = nL ∧ s.vm.findClass own = some m.cls ∧ ∀ w ∈ Tb, w.before args s = true) ∧ Kz D cl tys s ∧ (∀ q, s.heap.size ≤ q → A q) ∧ meth.sig.returnType = ret ∧ meth.locks = false
/-- a contract's end -/
def Rq (D : va_G) (cl : List vw_C) (A : Nat → Prop) (S : Type) (Q : Option Value → S → Prop) (w' : S → BW) : Array Value → State → Outcome → State → Prop := fun _ st oc t => (∃ (v : Option Value) (u : S), oc = .returned v ∧ Q v u ∧ va_P D cl (w' u).flatten t.heap ∧ va_D A (w' u).flatten) ∧ va_F A st t
def Ps (D : va_G) (cl : List vw_C) (tys : List (ClassId × FieldType)) (As : List Value) (w : BW) (sz : Nat) : Array Value → State → Prop := va_Pc As (fun U => U.heap.size = sz ∧ va_P D cl w.flatten U.heap ∧ Kz D cl tys U ∧ va_D (fun _ => True) w.flatten)
/-- A CONTRACT: with arguments As and the blocks w: it returns v, 'Q v u', its blocks are w' u, nothing else has changed -/
def Mt (l : Launch) (Tb : List Cond) (D : va_G) (cl : List vw_C) (tys : List (ClassId × FieldType)) (y : MethodName) (cc : ByteArray) (nL : Nat) (ret : Option FieldType) (rm : Room) (As : List Value) (w : BW) (S : Type) (Q : Option Value → S → Prop) (w' : S → BW) : Prop :=
  ∀ sz : Nat, Met l y (Cond.code y cc nL ret :: Tb) rm (Ps D cl tys As w sz) (Rq D cl (va_A w.flatten sz) S Q w') rm.cells rm.slots (va_A w.flatten sz)
theorem Ps.blind {D : va_G} {cl : List vw_C} {tys : List (ClassId × FieldType)} {As : List Value} {w : BW} {sz : Nat} : FrameBlind (Ps D cl tys As w sz) := fun a U g mk q => by
  obtain ⟨q0, q1, qP, qK, qD⟩ := q
  exact ⟨q0, q1, qP, ⟨va_K.moved (u := U) (U := U.calling g mk a) (Vm.Alike.refl U.vm) qK.1, Xw.same (u := U) (U := U.calling g mk a) rfl qK.2⟩, qD⟩
theorem Mt.ofW {l : Launch} {Tb : List Cond} {D : va_G} {cl : List vw_C} {tys : List (ClassId × FieldType)} {y : MethodName} {cc : ByteArray} {nL : Nat} {ret : Option FieldType} {rm : Room} {As : List Value} {w : BW} {S : Type} {Q : Option Value → S → Prop} {w' : S → BW} (lv : List (Nat × Value)) (hy : plainName y.cls = true) (hlv : lv_args 0 As = lv) (hlen : (lg_sl As).length ≤ nL)
    (body : ∀ (p : Program) (e : Env) (s : State) (m : MethodId) (args : Array Value) (below : List Frame) (meth : Method) (c : Code) (A : Nat → Prop) (ls : Array Slot) (H : Heap) (locs : List Loc) (Qz : State → Prop), Qz = MQ below (Rq D cl A S Q w') args s rm.cells rm.slots A → Cx p s m args meth c Tb D cl tys A y.cls cc nL ret → meth.name = y.name → lv_has ls nL lv → ow D cl A s.heap H locs w →
      W p l e rm s m args below meth c H locs 0 0 Qz (F0 m 0 ls [])) : Mt l Tb D cl tys y cc nL ret rm As w S Q w' := by
  intro sz
  refine Met.ofW (cc := cc) (maxL := nL) (ret := ret) hy rfl ?_
  intro p e s m args below meth c s₁ B hml hv
  obtain ⟨rfl, hsz, hP, hK, hD0⟩ := hv
  subst hsz
  subst hlv
  have hts0 := atoms_spec (ws := Cond.code y cc nL ret :: Tb) B.pre
  rw [lg_entry_eq]
  exact body p e s m _ below meth c (va_A w.flatten s.heap.size) _ s.heap [] _ rfl ⟨⟨B.exec, B.bytes, hml, findClass_of_methodNamed B.named, fun w h => hts0 w (List.mem_cons_of_mem _ h)⟩, hK, fun q h => Or.inr h, B.returns, B.notSynchronized⟩ (name_of_methodNamed B.named B.method).1 (lv_entry As hlen) ⟨hP, hD0.self, va_S.rf⟩
/-- the words of a call -/
def Kw (Tb : List Cond) (own : String) (index : Nat) (y : MethodName) (cc : ByteArray) (nL : Nat) (ret : Option FieldType) (n : Nat) : Prop :=
  (∀ w ∈ Tb, (w.onTables && w.keeps) = true ∨ ∃ ty, w = .arrayClass ty) ∧ Cond.methodLink own index y ∈ Tb ∧ Cond.initialized y.cls ∈ Tb ∧ Cond.code y cc nL ret ∈ Tb ∧ (y.cls ≠ "java/lang/invoke/MethodHandle" ∧ y.cls ≠ "java/lang/invoke/VarHandle" ∧ (parseMethodDescriptor y.desc).map (fun d => d.parameters.length) = some n)
theorem Kw.B {Tb : List Cond} {own : String} {index : Nat} {y : MethodName} {cc : ByteArray} {nL : Nat} {ret : Option FieldType} {n : Nat} (h : Kw Tb own index y cc nL ret n) {R rm : Room} {s : State} {args : Array Value} (hts : ∀ w ∈ Tb, w.before args s = true) (hR : rm.frames + 1 ≤ R.frames ∧ 8 + (nL + 11) + rm.locals ≤ R.locals) : CallB R s args own index y cc nL ret (Cond.code y cc nL ret :: Tb) rm rm.cells rm.slots n := by
  obtain ⟨hg, hl, hi, hc, hd⟩ := h
  refine callB_of n hts (fun w hw => ?_) rfl rfl rfl (hts _ hi) (hts _ hl) hd hR
  rcases List.mem_cons.mp hw with rfl | hw
  · exact ⟨hc, hg _ hc⟩
  · exact ⟨hw, hg _ hw⟩
section OW
variable {p : Program} {l : Launch} {e : Env} {R : Room} {s : State} {m : MethodId} {args : Array Value} {below : List Frame} {meth : Method} {c : Code} {H : Heap} {locs : List Loc} {cells slots : Nat} {Qz : State → Prop}
variable {Tb : List Cond} {D : va_G} {cl : List vw_C} {tys : List (ClassId × FieldType)} {A : Nat → Prop} {own : String} {cc : ByteArray} {nL : Nat} {ret : Option FieldType} {pc : Nat} {ls : Array Slot} {rest st : List Value} {bs bs' wc wr : BW}
/-- a call's run, out of its blocks -/
theorem o_pre {As : List Value} {sz : Nat} (C : Cx p s m args meth c Tb D cl tys A own cc nL ret) (ho : ow D cl A s.heap H locs (wc ++ wr)) (hsz : H.size = sz) : ∀ U : State, U.heap = H → s.WarmedH U.vm → Ps D cl tys As wc sz As.toArray U := by
  intro U hU hW
  have hP := ho.1
  have hD := ho.2.1
  rw [List.flatten_append] at hP hD
  exact ⟨rfl, by rw [hU]; exact hsz, by rw [hU]; exact p_left hP, ⟨va_K.moved hW.alike C.2.1.1, Xw.warm hW C.2.1.2⟩, (d_left hD).weaken (fun _ _ _ _ => trivial)⟩
theorem o_back {a : Array Value} {rm : Room} {S : Type} {Q : Option Value → S → Prop} {w' : S → BW} (C : Cx p s m args meth c Tb D cl tys A own cc nL ret) (ho : ow D cl A s.heap H locs (wc ++ wr)) {g : JFrame}
    (hr : va_Run p l e R s m args below meth c H locs cells slots rm.cells rm.slots g rest (Rq D cl (va_A wc.flatten H.size) S Q w' a) (va_A wc.flatten H.size))
    (kk : ∀ (v : Option Value) (u : S) (H1 : Heap) (locs1 : List Loc), Q v u → ow D cl A s.heap H1 locs1 (w' u ++ wr) → W p l e R s m args below meth c H1 locs1 (cells + rm.cells) (slots + rm.slots) Qz { g with pc := g.pc + 3, stack := v.toList ++ rest }) : W p l e R s m args below meth c H locs cells slots Qz g := by
  intro T hT X
  obtain ⟨v, st₀, t, T', L, h0, X', hL, e1, e2, ⟨⟨v', u, hv, hq, hP1, hD1⟩, hz, hk⟩, st⟩ := hr T hT X
  cases hv
  rw [h0] at hz hk
  have hP := ho.1
  have hD := ho.2.1
  have hS := ho.2.2
  rw [List.flatten_append] at hP hD
  have hF : ∀ q, va_A wc.flatten H.size q → A q := by
    intro q h
    rcases h with ⟨k, e, h⟩ | h
    · obtain ⟨i, hi⟩ := List.getElem?_of_mem (List.mem_append_left wr.flatten (List.mem_of_getElem? h))
      exact hD.2 i (q, e) hi
    · exact C.2.2.1 q (Nat.le_trans hS.1 h)
  rw [← e1] at hz hk hP1
  obtain ⟨j1, j2⟩ := pd_join hP hD hk hF hP1 hD1
  obtain ⟨t2, a1, b1⟩ := kk v u T'.heap (locs ++ L) hq ⟨by rw [List.flatten_append]; exact j1, by rw [List.flatten_append]; exact j2, Nat.le_trans hS.1 hz, fun q h1 h2 => by rw [hk q (Nat.lt_of_lt_of_le h1 hS.1) (fun z => h2 (hF q z))]; exact hS.2.1 q h1 h2, fun q hq => by
      rcases List.mem_append.mp hq with h | h
      · exact hS.2.2 q h
      · exact hF _ (hL q h)⟩ T' rfl X'
  exact ⟨t2, st t2 a1, b1⟩
end OW
section OC
variable {p : Program} {l : Launch} {e : Env} {R : Room} {s : State} {m : MethodId} {args : Array Value} {below : List Frame} {meth : Method} {c : Code} {H : Heap} {locs : List Loc} {cells slots : Nat} {Qz : State → Prop}
variable {Tb : List Cond} {D : va_G} {cl : List vw_C} {tys : List (ClassId × FieldType)} {A : Nat → Prop} {own : String} {cc : ByteArray} {nL : Nat} {ret : Option FieldType} {pc : Nat} {ls : Array Slot} {rest st : List Value} {bs bs' wc wr : BW}
variable {index maxL n : Nat} {y : MethodName} {bytes : ByteArray} {rt : Option FieldType} {rm : Room} {As : List Value} {b ci : Nat} {fs : List Value} {r : vw_C} {S : Type} {Q : Option Value → S → Prop} {w' : S → BW}
/-- invokevirtual, any answer -/
theorem o_callV (C : Cx p s m args meth c Tb D cl tys A own cc nL ret) (hM : Mt l Tb D cl tys y bytes maxL rt rm (Value.ref b :: As) wc S Q w') (hw : Kw Tb own index y bytes maxL rt n) (hw2 : Cond.instanceMethod y ∈ Tb ∧ Cond.selects y.cls y y ∈ Tb)
    (hR : rm.frames + 1 ≤ R.frames ∧ 8 + (maxL + 11) + rm.locals ≤ R.locals) (hn : As.length = n) (ho : ow D cl A s.heap H locs bs) (is : List Nat) (nb : Nat) (hp : is.isPerm (List.range nb) = true) (hlen : bs.length = nb) (he : bw_pick bs is = wc ++ wr)
    (hrc : wc.flatten[0]? = some (b, .inr (ci, fs))) (hcl : cl[ci]? = some r) (hry : r.1 = y.cls) (hls : ls.size = nL) (hst : st = As.reverse ++ .ref b :: rest) (hW : (rest.map fun v => v.category).sum ≤ 8) (hdg : decode cc pc = .ok (.invokevirtual index, 3)) (cells' slots' : Nat) (hcc : cells + rm.cells = cells') (hss : slots + rm.slots = slots') (hf : cells' ≤ R.cells ∧ slots' ≤ R.slots)
    (kk : ∀ (v : Option Value) (u : S) (H1 : Heap) (locs1 : List Loc), Q v u → ow D cl A s.heap H1 locs1 (w' u ++ wr) → W p l e R s m args below meth c H1 locs1 cells' slots' Qz (F0 m (pc + 3) ls (v.toList ++ rest))) : W p l e R s m args below meth c H locs cells slots Qz (F0 m pc ls st) := by
  subst hcc hss
  have ho := ho.re is nb hp hlen he
  have hts := C.1.2.2.2.2
  have hPc : va_P D cl wc.flatten H := by
    have := ho.1
    rw [List.flatten_append] at this
    exact p_left this
  obtain ⟨cell, h1, h2, h3⟩ := va_recv C.2.1.1 hPc hcl hrc
  exact o_back C ho (va_runV C.1 (hM H.size) ⟨hw.B hts hR, hts _ hw2.1, hts _ hw2.2⟩ ⟨Ps.blind, ⟨cell, h1, h2, by rw [← hry]; exact h3⟩, o_pre C ho rfl⟩ rfl hn hls hst (lv_room hW) hdg hf) kk
/-- invokespecial of a constructor -/
theorem o_callI (C : Cx p s m args meth c Tb D cl tys A own cc nL ret) (hM : Mt l Tb D cl tys y bytes maxL none rm (Value.ref b :: As) wc S Q w') (hw : Kw Tb own index y bytes maxL none n) (hw2 : Cond.instanceMethod y ∈ Tb ∧ y.name = "<init>")
    (hR : rm.frames + 1 ≤ R.frames ∧ 8 + (maxL + 11) + rm.locals ≤ R.locals) (hn : As.length = n) (ho : ow D cl A s.heap H locs bs) (is : List Nat) (nb : Nat) (hp : is.isPerm (List.range nb) = true) (hlen : bs.length = nb) (he : bw_pick bs is = wc ++ wr)
    (hls : ls.size = nL) (hst : st = As.reverse ++ .ref b :: rest) (hW : (rest.map fun v => v.category).sum ≤ 8) (hdg : decode cc pc = .ok (.invokespecial index, 3)) (cells' slots' : Nat) (hcc : cells + rm.cells = cells') (hss : slots + rm.slots = slots') (hf : cells' ≤ R.cells ∧ slots' ≤ R.slots)
    (kk : ∀ (v : Option Value) (u : S) (H1 : Heap) (locs1 : List Loc), Q v u → ow D cl A s.heap H1 locs1 (w' u ++ wr) → W p l e R s m args below meth c H1 locs1 cells' slots' Qz (F0 m (pc + 3) ls (v.toList ++ rest))) : W p l e R s m args below meth c H locs cells slots Qz (F0 m pc ls st) := by
  subst hcc hss
  have ho := ho.re is nb hp hlen he
  have hts := C.1.2.2.2.2
  exact o_back C ho (va_runI C.1 (hM H.size) ⟨hw.B hts hR, hw2.2, hts _ hw2.1⟩ ⟨Ps.blind, o_pre C ho rfl⟩ rfl hn hls hst (lv_room hW) hdg hf) kk
/-- invokestatic -/
theorem o_callS (C : Cx p s m args meth c Tb D cl tys A own cc nL ret) (hM : Mt l Tb D cl tys y bytes maxL rt rm As wc S Q w') (hw : Kw Tb own index y bytes maxL rt n) (hw2 : Cond.static y ∈ Tb)
    (hR : rm.frames + 1 ≤ R.frames ∧ 8 + (maxL + 11) + rm.locals ≤ R.locals) (hn : As.length = n) (ho : ow D cl A s.heap H locs bs) (is : List Nat) (nb : Nat) (hp : is.isPerm (List.range nb) = true) (hlen : bs.length = nb) (he : bw_pick bs is = wc ++ wr)
    (hls : ls.size = nL) (hst : st = As.reverse ++ rest) (hW : (rest.map fun v => v.category).sum ≤ 8) (hdg : decode cc pc = .ok (.invokestatic index, 3)) (cells' slots' : Nat) (hcc : cells + rm.cells = cells') (hss : slots + rm.slots = slots') (hf : cells' ≤ R.cells ∧ slots' ≤ R.slots)
    (kk : ∀ (v : Option Value) (u : S) (H1 : Heap) (locs1 : List Loc), Q v u → ow D cl A s.heap H1 locs1 (w' u ++ wr) → W p l e R s m args below meth c H1 locs1 cells' slots' Qz (F0 m (pc + 3) ls (v.toList ++ rest))) : W p l e R s m args below meth c H locs cells slots Qz (F0 m pc ls st) := by
  subst hcc hss
  have ho := ho.re is nb hp hlen he
  have hts := C.1.2.2.2.2
  exact o_back C ho (va_runS C.1 (hM H.size) ⟨hw.B hts hR, hts _ hw2⟩ ⟨Ps.blind, o_pre C ho rfl⟩ rfl hn hls hst (lv_room hW) hdg hf) kk
/-- a value that is known by an equation -/
theorem o_top {x y : Int32} (h : x = y) (k : W p l e R s m args below meth c H locs cells slots Qz (F0 m pc ls (.int y :: rest))) : W p l e R s m args below meth c H locs cells slots Qz (F0 m pc ls (.int x :: rest)) := by rw [h]; exact k
/-- fields -/
def Fg (Tb : List Cond) (own : String) (index : Nat) (q : vw_C) (k : Nat) : Prop := (∀ w ∈ u_ws q.1 q.2.1 q.2.2, w ∈ Tb) ∧ k < q.2.2 ∧ Cond.fieldLink own index (q.2.1 k).1 (q.2.1 k).2.1 (q.2.1 k).2.2.1 ∈ Tb
def Fp (q : vw_C) (ty0 : Nat → FieldType) (k : Nat) (ty : FieldType) (fin : Bool) : Prop := (∀ k, k < q.2.2 → parseFieldDescriptor (q.2.1 k).2.2.1 = some (ty0 k)) ∧ (∀ a, a < q.2.2 → ∀ b, b < q.2.2 → a ≠ b → (q.2.1 a).2.1 ≠ (q.2.1 b).2.1) ∧ (q.2.1 k).2.2.2 = fin ∧ parseFieldDescriptor (q.2.1 k).2.2.1 = some ty
theorem o_get (C : Cx p s m args meth c Tb D cl tys A own cc nL ret) (ho : ow D cl A s.heap H locs bs) (k j : Nat) {blk : va_W} (hk : bs[k]? = some blk) {a : Nat} (hj : blk[j]? = some (a, .inr (ci, fs))) (hcl : cl[ci]? = some r) (f : Nat) (hF : Fg Tb own index r f) {v : Value} (hv : fs[f]? = some v) (hdg : decode cc pc = .ok (.getfield index, 3))
    (kk : W p l e R s m args below meth c H locs cells slots Qz (F0 m (pc + 3) ls (v :: rest))) : W p l e R s m args below meth c H locs cells slots Qz (F0 m pc ls (.ref a :: rest)) :=
  va_get (C := r.1) (T := r.2.1) (N := r.2.2) C.1.1 C.1.2.1 C.1.2.2.2.2 hF.1 C.1.2.2.2.1 C.2.1.1 ho.1 _ (bw_at hk hj) hcl f hF.2.1 (C.1.2.2.2.2 _ hF.2.2) (fun _ h9 => h9) hv hdg kk
theorem o_put (C : Cx p s m args meth c Tb D cl tys A own cc nL ret) (ho : ow D cl A s.heap H locs bs) (k j : Nat) {blk : va_W} (hk : bs[k]? = some blk) {a : Nat} (hj : blk[j]? = some (a, .inr (ci, fs))) (hcl : cl[ci]? = some r) (f : Nat) (hF : Fg Tb own index r f) {ty0 : Nat → FieldType} {ty : FieldType} (hT : Fp r ty0 f ty false) {v : Value} (hn : narrow ty v = v) (hfit : fits ty v = true) (hl : f < fs.length) (hdg : decode cc pc = .ok (.putfield index, 3)) (hb : bs.set k (blk.set j (a, .inr (ci, fs.set f v))) = bs')
    (kk : ∀ (H1 : Heap) (locs1 : List Loc), ow D cl A s.heap H1 locs1 bs' → W p l e R s m args below meth c H1 locs1 cells slots Qz (F0 m (pc + 3) ls rest)) : W p l e R s m args below meth c H locs cells slots Qz (F0 m pc ls (v :: .ref a :: rest)) := by
  subst hb
  refine va_put (C := r.1) (T := r.2.1) (N := r.2.2) C.1.1 C.1.2.1 C.1.2.2.2.2 hF.1 ty0 hT.1 hT.2.1 C.1.2.2.2.1 C.2.1.1 ho.1 ho.2.1 ho.2.2 _ (bw_at hk hj) hcl f hF.2.1 (C.1.2.2.2.2 _ hF.2.2) (fun _ h9 => h9) hT.2.2.1 hT.2.2.2 hn hfit hl hdg (fun H1 locs1 h1 h2 h3 => kk H1 locs1 ?_)
  rw [bw_set hk (List.getElem?_eq_some_iff.mp hj).1] at h1 h2
  exact ⟨h1, h2, h3⟩
theorem o_putF (C : Cx p s m args meth c Tb D cl tys A own cc nL ret) (hin : meth.name = "<init>") (ho : ow D cl A s.heap H locs bs) (k j : Nat) {blk : va_W} (hk : bs[k]? = some blk) {a : Nat} (hj : blk[j]? = some (a, .inr (ci, fs))) (hcl : cl[ci]? = some r) (f : Nat) (hF : Fg Tb own index r f) {ty0 : Nat → FieldType} {ty : FieldType} (hT : Fp r ty0 f ty true) (hdecl : (r.2.1 f).1 = own) {v : Value} (hn : narrow ty v = v) (hfit : fits ty v = true) (hl : f < fs.length) (hdg : decode cc pc = .ok (.putfield index, 3)) (hb : bs.set k (blk.set j (a, .inr (ci, fs.set f v))) = bs')
    (kk : ∀ (H1 : Heap) (locs1 : List Loc), ow D cl A s.heap H1 locs1 bs' → W p l e R s m args below meth c H1 locs1 cells slots Qz (F0 m (pc + 3) ls rest)) : W p l e R s m args below meth c H locs cells slots Qz (F0 m pc ls (v :: .ref a :: rest)) := by
  subst hb
  refine va_putF (C := r.1) (T := r.2.1) (N := r.2.2) C.1.1 C.1.2.1 C.1.2.2.2.2 hF.1 ty0 hT.1 hT.2.1 C.1.2.2.2.1 C.2.1.1 ho.1 ho.2.1 ho.2.2 _ (bw_at hk hj) hcl f hF.2.1 (C.1.2.2.2.2 _ hF.2.2) (fun _ h9 => h9) hT.2.2.1 hin hdecl hT.2.2.2 hn hfit hl hdg (fun H1 locs1 h1 h2 h3 => kk H1 locs1 ?_)
  rw [bw_set hk (List.getElem?_eq_some_iff.mp hj).1] at h1 h2
  exact ⟨h1, h2, h3⟩
/-- arrays of ints, at a place that is a number -/
theorem o_iald (C : Cx p s m args meth c Tb D cl tys A own cc nL ret) (ho : ow D cl A s.heap H locs bs) (k j : Nat) {blk : va_W} (hk : bs[k]? = some blk) {a : Nat} {cA : ClassId} {n : Nat} {f : Nat → Int32} (hj : blk[j]? = some (a, .inl (cA, n, .inl f))) (t0 : Nat) (ht : tys[t0]? = some (cA, .int)) {x : Int32} (i : Nat) (hx : x = nI i) (hi : i < n) (hn : n < 2 ^ 31) {v : Int32} (hv : f i = v) (hdg : decode cc pc = .ok (.iaload, 1))
    (kk : W p l e R s m args below meth c H locs cells slots Qz (F0 m (pc + 1) ls (.int v :: rest))) : W p l e R s m args below meth c H locs cells slots Qz (F0 m pc ls (.int x :: .ref a :: rest)) := by
  subst hx hv
  refine va_iald C.1.1 C.1.2.1 C.2.1.1 ho.1 _ t0 (bw_at hk hj) ht (vp_in_nI hi hn) hdg ?_
  rw [nI_clamp (by omega)]
  exact kk
theorem o_iast (C : Cx p s m args meth c Tb D cl tys A own cc nL ret) (ho : ow D cl A s.heap H locs bs) (k j : Nat) {blk : va_W} (hk : bs[k]? = some blk) {a : Nat} {cA : ClassId} {n : Nat} {f : Nat → Int32} (hj : blk[j]? = some (a, .inl (cA, n, .inl f))) (t0 : Nat) (ht : tys[t0]? = some (cA, .int)) {x v : Int32} (i : Nat) (hx : x = nI i) (hi : i < n) (hn : n < 2 ^ 31) (hdg : decode cc pc = .ok (.iastore, 1)) (hb : bs.set k (blk.set j (a, .inl (cA, n, .inl (upd f i v)))) = bs')
    (kk : ∀ (H1 : Heap) (locs1 : List Loc), ow D cl A s.heap H1 locs1 bs' → W p l e R s m args below meth c H1 locs1 cells slots Qz (F0 m (pc + 1) ls rest)) : W p l e R s m args below meth c H locs cells slots Qz (F0 m pc ls (.int v :: .int x :: .ref a :: rest)) := by
  subst hx hb
  refine va_iast C.1.1 C.1.2.1 C.2.1.1 ho.1 ho.2.1 ho.2.2 _ t0 (bw_at hk hj) ht (vp_in_nI hi hn) hdg (fun H1 locs1 h1 h2 h3 => kk H1 locs1 ?_)
  rw [nI_clamp (by omega), bw_set hk (List.getElem?_eq_some_iff.mp hj).1] at h1 h2
  exact ⟨h1, h2, h3⟩
theorem o_alen (C : Cx p s m args meth c Tb D cl tys A own cc nL ret) (ho : ow D cl A s.heap H locs bs) (k j : Nat) {blk : va_W} (hk : bs[k]? = some blk) {a : Nat} {cA : ClassId} {x : vp_A} (hj : blk[j]? = some (a, .inl (cA, x))) (t0 : Nat) {ty : FieldType} (ht : tys[t0]? = some (cA, ty)) {v : Int32} (hv : nI x.1 = v) (hdg : decode cc pc = .ok (.arraylength, 1))
    (kk : W p l e R s m args below meth c H locs cells slots Qz (F0 m (pc + 1) ls (.int v :: rest))) : W p l e R s m args below meth c H locs cells slots Qz (F0 m pc ls (.ref a :: rest)) :=
  va_alen C.1.1 C.1.2.1 C.2.1.1 ho.1 _ t0 (bw_at hk hj) ht hv hdg kk
/-- arrays of references -/
theorem o_aald (C : Cx p s m args meth c Tb D cl tys A own cc nL ret) (ho : ow D cl A s.heap H locs bs) (k j : Nat) {blk : va_W} (hk : bs[k]? = some blk) {a : Nat} {cA : ClassId} {n : Nat} {f : Nat → Option Nat} (hj : blk[j]? = some (a, .inl (cA, n, .inr (.inr (.inr (.inr f)))))) (t0 : Nat) {Cn : String} (ht : tys[t0]? = some (cA, .object Cn)) {x : Int32} (i : Nat) (hx : x = nI i) (hi : i < n) (hn : n < 2 ^ 31) {v : Nat} (hv : f i = some v) (hdg : decode cc pc = .ok (.aaload, 1))
    (kk : W p l e R s m args below meth c H locs cells slots Qz (F0 m (pc + 1) ls (.ref v :: rest))) : W p l e R s m args below meth c H locs cells slots Qz (F0 m pc ls (.int x :: .ref a :: rest)) := by
  subst hx
  refine va_aldq C.1.1 C.1.2.1 C.2.1.1 ho.1 _ t0 (bw_at hk hj) ht (vp_in_nI hi hn) hdg ?_
  rw [nI_clamp (by omega), hv]
  exact kk
theorem o_aast (C : Cx p s m args meth c Tb D cl tys A own cc nL ret) (ho : ow D cl A s.heap H locs bs) (k j : Nat) {blk : va_W} (hk : bs[k]? = some blk) {a : Nat} {cA : ClassId} {n : Nat} {f : Nat → Option Nat} (hj : blk[j]? = some (a, .inl (cA, n, .inr (.inr (.inr (.inr f)))))) (t0 : Nat) (ht : tys[t0]? = some (cA, .object r.1)) (k2 j2 : Nat) {blk2 : va_W} (hk2 : bs[k2]? = some blk2) {v : Nat} (hj2 : blk2[j2]? = some (v, .inr (ci, fs))) (hcl : cl[ci]? = some r) {x : Int32} (i : Nat) (hx : x = nI i) (hi : i < n) (hn : n < 2 ^ 31) (hdg : decode cc pc = .ok (.aastore, 1)) (hb : bs.set k (blk.set j (a, .inl (cA, n, .inr (.inr (.inr (.inr (va_up f i (some v)))))))) = bs')
    (kk : ∀ (H1 : Heap) (locs1 : List Loc), ow D cl A s.heap H1 locs1 bs' → W p l e R s m args below meth c H1 locs1 cells slots Qz (F0 m (pc + 1) ls rest)) : W p l e R s m args below meth c H locs cells slots Qz (F0 m pc ls (.ref v :: .int x :: .ref a :: rest)) := by
  subst hx hb
  refine va_astq C.1.1 C.1.2.1 C.2.1.1 ho.1 ho.2.1 ho.2.2 _ t0 _ ci (bw_at hk hj) ht (bw_at hk2 hj2) hcl (vp_in_nI hi hn) hdg (fun H1 locs1 h1 h2 h3 => kk H1 locs1 ?_)
  rw [nI_clamp (by omega), bw_set hk (List.getElem?_eq_some_iff.mp hj).1] at h1 h2
  exact ⟨h1, h2, h3⟩
theorem fl_push (bs : BW) (b : va_W) : (bs ++ [b]).flatten = bs.flatten ++ b := by simp
/-- a new array of ints: its class is the one that the tables have -/
theorem o_newi (C : Cx p s m args meth c Tb D cl tys A own cc nL ret) (ho : ow D cl A s.heap H locs bs) (harr : Cond.arrayClass .int ∈ Tb) (t0 : Nat) {cA : ClassId} (ht : tys[t0]? = some (cA, .int)) {x : Int32} (N : Nat) (hx : x = nI N) (hN : N < 100000) (hcells : cells + 1 ≤ R.cells) (hslots : slots + N ≤ R.slots) (hdg : decode cc pc = .ok (.newarray .int, 2))
    (kk : ∀ (q : Nat) (H1 : Heap), ow D cl A s.heap H1 locs (bs ++ [[(q, .inl (cA, N, .inl (fun _ => 0)))]]) → W p l e R s m args below meth c H1 locs (cells + 1) (slots + N) Qz (F0 m (pc + 2) ls (.ref q :: rest))) : W p l e R s m args below meth c H locs cells slots Qz (F0 m pc ls (.int x :: rest)) := by
  subst hx
  refine va_newa (atype := .int) (ty := .int) (N' := N) (a0 := (N, .inl (fun _ => 0))) C.1.1 C.1.2.1 (C.1.2.2.2.2 _ harr) rfl C.2.1.1 ho.1 ho.2.1 ho.2.2 C.2.2.1 (fun _ => rfl) (nI_pos (by omega)) (nI_clamp (by omega)) (by show N * 4 ≤ _; omega) hcells hslots hdg (fun q cA' H1 hK' h1 h2 h3 => kk q H1 ?_)
  have e1 := (hK'.2 tys.length (cA', .int) (by simp)).2
  have e2 := (C.2.1.1.2 t0 _ ht).2
  obtain rfl : cA' = cA := Option.some.inj (Eq.trans (Eq.symm e1) e2)
  exact ⟨by rw [fl_push]; exact h1, by rw [fl_push]; exact h2, h3⟩
theorem o_newq (C : Cx p s m args meth c Tb D cl tys A own cc nL ret) (ho : ow D cl A s.heap H locs bs) {Cn : String} (hlk : Cond.classLink own index Cn ∈ Tb) (hov : Cn ∈ overL) (t0 : Nat) {cA : ClassId} (ht : tys[t0]? = some (cA, .object Cn)) {x : Int32} (N : Nat) (hx : x = nI N) (hN : N < 100000) (hcells : cells + 1 ≤ R.cells) (hslots : slots + N ≤ R.slots) (hdg : decode cc pc = .ok (.anewarray index, 3))
    (kk : ∀ (q : Nat) (H1 : Heap), ow D cl A s.heap H1 locs (bs ++ [[(q, .inl (cA, N, .inr (.inr (.inr (.inr (fun _ => none))))))]]) → W p l e R s m args below meth c H1 locs (cells + 1) (slots + N) Qz (F0 m (pc + 3) ls (.ref q :: rest))) : W p l e R s m args below meth c H locs cells slots Qz (F0 m pc ls (.int x :: rest)) := by
  subst hx
  refine va_newq (N' := N) C.1.1 C.1.2.1 C.1.2.2.2.1 (C.1.2.2.2.2 _ hlk) (C.2.1.2.2 _ hov) C.2.1.1 ho.1 ho.2.1 ho.2.2 C.2.2.1 (nI_pos (by omega)) (nI_clamp (by omega)) (by omega) hcells hslots hdg (fun q cA' H1 hK' h1 h2 h3 => kk q H1 ?_)
  obtain ⟨_, _, _, _, _, e1⟩ := (hK'.2 tys.length (cA', .object Cn) (by simp)).2
  obtain ⟨_, _, _, _, _, e2⟩ := (C.2.1.1.2 t0 _ ht).2
  obtain rfl : cA' = cA := Option.some.inj (Eq.trans (Eq.symm e1) e2)
  exact ⟨by rw [fl_push]; exact h1, by rw [fl_push]; exact h2, h3⟩
theorem o_new (C : Cx p s m args meth c Tb D cl tys A own cc nL ret) (ho : ow D cl A s.heap H locs bs) (hcl : cl[ci]? = some r) (hin : ∀ w ∈ u_ws r.1 r.2.1 r.2.2, w ∈ Tb) (ty : Nat → FieldType) (hty : ∀ k, k < r.2.2 → parseFieldDescriptor (r.2.1 k).2.2.1 = some (ty k)) (hw : Cond.classLink own index r.1 ∈ Tb ∧ Cond.instantiable r.1 r.2.2 ∈ Tb ∧ Cond.initialized r.1 ∈ Tb) (hfs : ∀ j, j < r.2.2 → defaultValue (ty j) = vp_V fs j) (hcells : cells + 1 ≤ R.cells) (hslots : slots + r.2.2 ≤ R.slots) (hdg : decode cc pc = .ok (.new index, 3))
    (kk : ∀ (q : Nat) (H1 : Heap), ow D cl A s.heap H1 locs (bs ++ [[(q, .inr (ci, fs))]]) → W p l e R s m args below meth c H1 locs (cells + 1) (slots + r.2.2) Qz (F0 m (pc + 3) ls (.ref q :: rest))) : W p l e R s m args below meth c H locs cells slots Qz (F0 m pc ls rest) := by
  have hts := C.1.2.2.2.2
  refine va_new (C := r.1) (T := r.2.1) (N := r.2.2) C.1.1 C.1.2.1 hts hin ty hty C.1.2.2.2.1 (hts _ hw.1) (hts _ hw.2.1) (hts _ hw.2.2) C.2.1.1 ho.1 ho.2.1 ho.2.2 C.2.2.1 hcl hfs hcells hslots hdg (fun q H1 h1 h2 h3 => kk q H1 ?_)
  exact ⟨by rw [fl_push]; exact h1, by rw [fl_push]; exact h2, h3⟩
end OC
section OR
variable {p : Program} {l : Launch} {e : Env} {R : Room} {s : State} {m : MethodId} {args : Array Value} {below : List Frame} {meth : Method} {c : Code} {H : Heap} {locs : List Loc} {cells slots mc ms : Nat}
variable {Tb : List Cond} {D : va_G} {cl : List vw_C} {tys : List (ClassId × FieldType)} {A : Nat → Prop} {own : String} {cc : ByteArray} {nL : Nat} {pc : Nat} {ls : Array Slot} {bs : BW} {S : Type} {Q : Option Value → S → Prop} {w' : S → BW} {Qz : State → Prop}
theorem o_iret {ty : FieldType} {v : Int32} (hQ : Qz = MQ below (Rq D cl A S Q w') args s mc ms A) (C : Cx p s m args meth c Tb D cl tys A own cc nL (some ty)) (hn : narrow ty (.int v) = .int v) (ho : ow D cl A s.heap H locs bs) (u : S) (hq : Q (some (.int v)) u) (hb : bs = w' u) (hc : cells ≤ mc) (hs : slots ≤ ms) (hdg : decode cc pc = .ok (.ireturn, 1)) : W p l e R s m args below meth c H locs cells slots Qz (F0 m pc ls [.int v]) := by
  subst hb hQ
  refine W.widen hc hs ?_
  exact W.zret C.1.1 C.1.2.1 C.2.2.2.1 hn (fun t ht hW => ⟨⟨_, u, rfl, hq, by rw [ht]; exact ho.1, ho.2.1⟩, ho.2.2.F ht⟩) ho.2.2.2.2 hdg C.2.2.2.2
theorem o_vret (hQ : Qz = MQ below (Rq D cl A S Q w') args s mc ms A) (C : Cx p s m args meth c Tb D cl tys A own cc nL none) (ho : ow D cl A s.heap H locs bs) (u : S) (hq : Q none u) (hb : bs = w' u) (hc : cells ≤ mc) (hs : slots ≤ ms) (hdg : decode cc pc = .ok (.return_, 1)) : W p l e R s m args below meth c H locs cells slots Qz (F0 m pc ls []) := by
  subst hb hQ
  refine W.widen hc hs ?_
  exact W.vret C.1.1 C.1.2.1 C.2.2.2.1 (fun t ht hW => ⟨⟨_, u, rfl, hq, by rw [ht]; exact ho.1, ho.2.1⟩, ho.2.2.F ht⟩) ho.2.2.2.2 hdg C.2.2.2.2
theorem o_aret {Cn : String} {v : Value} (hQ : Qz = MQ below (Rq D cl A S Q w') args s mc ms A) (C : Cx p s m args meth c Tb D cl tys A own cc nL (some (.object Cn))) (hv : v = .null ∨ ∃ a, v = .ref a) (ho : ow D cl A s.heap H locs bs) (u : S) (hq : Q (some v) u) (hb : bs = w' u) (hc : cells ≤ mc) (hs : slots ≤ ms) (hdg : decode cc pc = .ok (.areturn, 1)) : W p l e R s m args below meth c H locs cells slots Qz (F0 m pc ls [v]) := by
  subst hb hQ
  refine W.widen hc hs ?_
  exact W.aret C.1.1 C.1.2.1 C.2.2.2.1 (Or.inl ⟨_, rfl⟩) hv (fun t ht hW => ⟨⟨_, u, rfl, hq, by rw [ht]; exact ho.1, ho.2.1⟩, ho.2.2.F ht⟩) ho.2.2.2.2 hdg C.2.2.2.2
end OR
/-! numbers -/
def bI (b : Bool) : Int32 := if b then 1 else 0
theorem nar_b (b : Bool) : narrow .boolean (.int (bI b)) = .int (bI b) := by cases b <;> rfl
theorem fit_b (b : Bool) : fits .boolean (.int (bI b)) = true := by cases b <;> rfl
theorem bI_N (b : Bool) : bI b = nI b.toNat := by cases b <;> rfl
def rmL (fr cells slots : Nat) : Room := { frames := fr, cells := cells, slots := slots, locals := 40 * fr }
theorem iincN (a n : Nat) : nI a + Int32.ofInt (n : Int) = nI (a + n) := by rw [← nI_add]; rfl
theorem iincM (a : Nat) : nI a + Int32.ofInt (-1) = nI a - 1 := by rw [Int32.sub_eq_add_neg]; rfl
theorem imax_N {a b : Nat} (ha : a < 2 ^ 31) (hb : b < 2 ^ 31) : (if nI a < nI b then nI b else nI a) = nI (max a b) := by
  by_cases h : a < b
  · rw [if_pos ((nI_ltI ha hb).mpr h), Nat.max_eq_right (by omega)]
  · rw [if_neg (fun q => h ((nI_ltI ha hb).mp q)), Nat.max_eq_left (by omega)]
theorem imin_N {a b : Nat} (ha : a < 2 ^ 31) (hb : b < 2 ^ 31) : (if nI b < nI a then nI b else nI a) = nI (min a b) := by
  by_cases h : b < a
  · rw [if_pos ((nI_ltI hb ha).mpr h), Nat.min_eq_right (by omega)]
  · rw [if_neg (fun q => h ((nI_ltI hb ha).mp q)), Nat.min_eq_left (by omega)]
theorem nx_and (a b : Nat) : nI a &&& nI b = nI (a &&& b) := by
  apply Int32.toBitVec_inj.1
  show BitVec.ofNat 32 a &&& BitVec.ofNat 32 b = BitVec.ofNat 32 (a &&& b)
  apply BitVec.eq_of_getLsbD_eq
  intro i hi
  simp [BitVec.getLsbD_ofNat, Nat.testBit_and, hi]
theorem nx_xor (a b : Nat) : nI a ^^^ nI b = nI (a ^^^ b) := by
  apply Int32.toBitVec_inj.1
  show BitVec.ofNat 32 a ^^^ BitVec.ofNat 32 b = BitVec.ofNat 32 (a ^^^ b)
  apply BitVec.eq_of_getLsbD_eq
  intro i hi
  simp [BitVec.getLsbD_ofNat, Nat.testBit_xor, hi]
theorem nx_or (a b : Nat) : nI a ||| nI b = nI (a ||| b) := by
  apply Int32.toBitVec_inj.1
  show BitVec.ofNat 32 a ||| BitVec.ofNat 32 b = BitVec.ofNat 32 (a ||| b)
  apply BitVec.eq_of_getLsbD_eq
  intro i hi
  simp [BitVec.getLsbD_ofNat, Nat.testBit_or, hi]
theorem sh_n : ∀ n, n < 32 → ((nI n &&& 31).toBitVec.smod 32).toNat = n := by decide +kernel
theorem nx_shl {a k : Nat} (hk : k < 32) (h : a * 2 ^ k < 2 ^ 32) : nI a <<< (nI k &&& 31) = nI (a * 2 ^ k) := pk_shlN _ k (sh_n k hk) h
theorem nx_shr {a k : Nat} (ha : a < 2 ^ 31) (hk : k < 32) : nI a >>> (nI k &&& 31) = nI (a / 2 ^ k) := pk_shrN ha _ k (sh_n k hk)
section ON
variable {p : Program} {l : Launch} {e : Env} {R : Room} {s : State} {m : MethodId} {args : Array Value} {below : List Frame} {meth : Method} {c : Code} {H : Heap} {locs : List Loc} {cells slots : Nat} {Qz : State → Prop}
variable {cc : ByteArray} {pc : Nat} {ls : Array Slot} {rest : List Value} {a b : Nat} {off : Int} {tgt : Nat}
theorem o_add (hexec : p.tables.exec = Jvm.exec) (hb : c.code = cc) (hdg : decode cc pc = .ok (.iadd, 1)) (k : W p l e R s m args below meth c H locs cells slots Qz (F0 m (pc + 1) ls (.int (nI (a + b)) :: rest))) : W p l e R s m args below meth c H locs cells slots Qz (F0 m pc ls (.int (nI b) :: .int (nI a) :: rest)) := lv_iadd hexec hb hdg (by rw [nI_add]; exact k)
theorem o_sub (hexec : p.tables.exec = Jvm.exec) (hb : c.code = cc) (hdg : decode cc pc = .ok (.isub, 1)) (h : b ≤ a) (k : W p l e R s m args below meth c H locs cells slots Qz (F0 m (pc + 1) ls (.int (nI (a - b)) :: rest))) : W p l e R s m args below meth c H locs cells slots Qz (F0 m pc ls (.int (nI b) :: .int (nI a) :: rest)) := lv_isub hexec hb hdg (by rw [pk_sub h]; exact k)
theorem o_mul (hexec : p.tables.exec = Jvm.exec) (hb : c.code = cc) (hdg : decode cc pc = .ok (.imul, 1)) (k : W p l e R s m args below meth c H locs cells slots Qz (F0 m (pc + 1) ls (.int (nI (a * b)) :: rest))) : W p l e R s m args below meth c H locs cells slots Qz (F0 m pc ls (.int (nI b) :: .int (nI a) :: rest)) := lv_imul hexec hb hdg (by rw [pk_mul]; exact k)
theorem o_xor (hexec : p.tables.exec = Jvm.exec) (hb : c.code = cc) (hdg : decode cc pc = .ok (.ixor, 1)) (k : W p l e R s m args below meth c H locs cells slots Qz (F0 m (pc + 1) ls (.int (nI (a ^^^ b)) :: rest))) : W p l e R s m args below meth c H locs cells slots Qz (F0 m pc ls (.int (nI b) :: .int (nI a) :: rest)) := lv_ixor hexec hb hdg (by rw [nx_xor]; exact k)
theorem o_and (hexec : p.tables.exec = Jvm.exec) (hb : c.code = cc) (hdg : decode cc pc = .ok (.iand, 1)) (k : W p l e R s m args below meth c H locs cells slots Qz (F0 m (pc + 1) ls (.int (nI (a &&& b)) :: rest))) : W p l e R s m args below meth c H locs cells slots Qz (F0 m pc ls (.int (nI b) :: .int (nI a) :: rest)) := lv_iand hexec hb hdg (by rw [nx_and]; exact k)
theorem o_or (hexec : p.tables.exec = Jvm.exec) (hb : c.code = cc) (hdg : decode cc pc = .ok (.ior, 1)) (k : W p l e R s m args below meth c H locs cells slots Qz (F0 m (pc + 1) ls (.int (nI (a ||| b)) :: rest))) : W p l e R s m args below meth c H locs cells slots Qz (F0 m pc ls (.int (nI b) :: .int (nI a) :: rest)) := lv_ior hexec hb hdg (by rw [nx_or]; exact k)
theorem o_shl (hexec : p.tables.exec = Jvm.exec) (hb : c.code = cc) (hdg : decode cc pc = .ok (.ishl, 1)) (h1 : b < 32) (h2 : a * 2 ^ b < 2 ^ 32) (k : W p l e R s m args below meth c H locs cells slots Qz (F0 m (pc + 1) ls (.int (nI (a * 2 ^ b)) :: rest))) : W p l e R s m args below meth c H locs cells slots Qz (F0 m pc ls (.int (nI b) :: .int (nI a) :: rest)) := lv_ishl hexec hb hdg (by rw [nx_shl h1 h2]; exact k)
theorem o_shr (hexec : p.tables.exec = Jvm.exec) (hb : c.code = cc) (hdg : decode cc pc = .ok (.ishr, 1)) (h1 : b < 32) (h2 : a < 2 ^ 31) (k : W p l e R s m args below meth c H locs cells slots Qz (F0 m (pc + 1) ls (.int (nI (a / 2 ^ b)) :: rest))) : W p l e R s m args below meth c H locs cells slots Qz (F0 m pc ls (.int (nI b) :: .int (nI a) :: rest)) := lv_ishr hexec hb hdg (by rw [nx_shr h2 h1]; exact k)
theorem o_div (hexec : p.tables.exec = Jvm.exec) (hb : c.code = cc) (hdg : decode cc pc = .ok (.idiv, 1)) (h1 : a < 2 ^ 31) (h0 : 0 < b) (h2 : b < 2 ^ 31) (k : W p l e R s m args below meth c H locs cells slots Qz (F0 m (pc + 1) ls (.int (nI (a / b)) :: rest))) : W p l e R s m args below meth c H locs cells slots Qz (F0 m pc ls (.int (nI b) :: .int (nI a) :: rest)) := lv_idiv hexec hb hdg (nI_ne0 h0 h2) (by rw [pk_div h1 h0 h2]; exact k)
theorem o_rem (hexec : p.tables.exec = Jvm.exec) (hb : c.code = cc) (hdg : decode cc pc = .ok (.irem, 1)) (h1 : a < 2 ^ 31) (h0 : 0 < b) (h2 : b < 2 ^ 31) (k : W p l e R s m args below meth c H locs cells slots Qz (F0 m (pc + 1) ls (.int (nI (a % b)) :: rest))) : W p l e R s m args below meth c H locs cells slots Qz (F0 m pc ls (.int (nI b) :: .int (nI a) :: rest)) := lv_irem hexec hb hdg (nI_ne0 h0 h2) (by rw [pk_rem h1 h0 h2]; exact k)
theorem o_icmp_ge (hexec : p.tables.exec = Jvm.exec) (hb : c.code = cc) (hdg : decode cc pc = .ok (.if_icmp .ge off, 3)) (ht : (pc : Int) + off = (tgt : Int)) (h1 : a < 2 ^ 31) (h2 : b < 2 ^ 31) (kt : b ≤ a → W p l e R s m args below meth c H locs cells slots Qz (F0 m tgt ls rest)) (kf : a < b → W p l e R s m args below meth c H locs cells slots Qz (F0 m (pc + 3) ls rest)) : W p l e R s m args below meth c H locs cells slots Qz (F0 m pc ls (.int (nI b) :: .int (nI a) :: rest)) := lv_icmp_ge hexec hb hdg ht (fun q => kt ((nI_leI h2 h1).mp q)) (fun q => kf (Nat.lt_of_not_le fun z => q ((nI_leI h2 h1).mpr z)))
theorem o_icmp_lt (hexec : p.tables.exec = Jvm.exec) (hb : c.code = cc) (hdg : decode cc pc = .ok (.if_icmp .lt off, 3)) (ht : (pc : Int) + off = (tgt : Int)) (h1 : a < 2 ^ 31) (h2 : b < 2 ^ 31) (kt : a < b → W p l e R s m args below meth c H locs cells slots Qz (F0 m tgt ls rest)) (kf : b ≤ a → W p l e R s m args below meth c H locs cells slots Qz (F0 m (pc + 3) ls rest)) : W p l e R s m args below meth c H locs cells slots Qz (F0 m pc ls (.int (nI b) :: .int (nI a) :: rest)) := lv_icmp_lt hexec hb hdg ht (fun q => kt ((nI_ltI h1 h2).mp q)) (fun q => kf (Nat.le_of_not_lt fun z => q ((nI_ltI h1 h2).mpr z)))
theorem o_icmp_gt (hexec : p.tables.exec = Jvm.exec) (hb : c.code = cc) (hdg : decode cc pc = .ok (.if_icmp .gt off, 3)) (ht : (pc : Int) + off = (tgt : Int)) (h1 : a < 2 ^ 31) (h2 : b < 2 ^ 31) (kt : b < a → W p l e R s m args below meth c H locs cells slots Qz (F0 m tgt ls rest)) (kf : a ≤ b → W p l e R s m args below meth c H locs cells slots Qz (F0 m (pc + 3) ls rest)) : W p l e R s m args below meth c H locs cells slots Qz (F0 m pc ls (.int (nI b) :: .int (nI a) :: rest)) := lv_icmp_gt hexec hb hdg ht (fun q => kt ((nI_ltI h2 h1).mp q)) (fun q => kf (Nat.le_of_not_lt fun z => q ((nI_ltI h2 h1).mpr z)))
theorem o_icmp_le (hexec : p.tables.exec = Jvm.exec) (hb : c.code = cc) (hdg : decode cc pc = .ok (.if_icmp .le off, 3)) (ht : (pc : Int) + off = (tgt : Int)) (h1 : a < 2 ^ 31) (h2 : b < 2 ^ 31) (kt : a ≤ b → W p l e R s m args below meth c H locs cells slots Qz (F0 m tgt ls rest)) (kf : b < a → W p l e R s m args below meth c H locs cells slots Qz (F0 m (pc + 3) ls rest)) : W p l e R s m args below meth c H locs cells slots Qz (F0 m pc ls (.int (nI b) :: .int (nI a) :: rest)) := lv_icmp_le hexec hb hdg ht (fun q => kt ((nI_leI h1 h2).mp q)) (fun q => kf (Nat.lt_of_not_le fun z => q ((nI_leI h1 h2).mpr z)))
theorem o_icmp_eq (hexec : p.tables.exec = Jvm.exec) (hb : c.code = cc) (hdg : decode cc pc = .ok (.if_icmp .eq off, 3)) (ht : (pc : Int) + off = (tgt : Int)) (h1 : a < 2 ^ 31) (h2 : b < 2 ^ 31) (kt : a = b → W p l e R s m args below meth c H locs cells slots Qz (F0 m tgt ls rest)) (kf : ¬ a = b → W p l e R s m args below meth c H locs cells slots Qz (F0 m (pc + 3) ls rest)) : W p l e R s m args below meth c H locs cells slots Qz (F0 m pc ls (.int (nI b) :: .int (nI a) :: rest)) := lv_icmp_eq hexec hb hdg ht (fun q => kt ((nI_eq h1 h2).mp q)) (fun q => kf fun z => q ((nI_eq h1 h2).mpr z))
theorem o_icmp_ne (hexec : p.tables.exec = Jvm.exec) (hb : c.code = cc) (hdg : decode cc pc = .ok (.if_icmp .ne off, 3)) (ht : (pc : Int) + off = (tgt : Int)) (h1 : a < 2 ^ 31) (h2 : b < 2 ^ 31) (kt : ¬ a = b → W p l e R s m args below meth c H locs cells slots Qz (F0 m tgt ls rest)) (kf : a = b → W p l e R s m args below meth c H locs cells slots Qz (F0 m (pc + 3) ls rest)) : W p l e R s m args below meth c H locs cells slots Qz (F0 m pc ls (.int (nI b) :: .int (nI a) :: rest)) := lv_icmp_ne hexec hb hdg ht (fun q => kt fun z => q ((nI_eq h1 h2).mpr z)) (fun q => kf ((nI_eq h1 h2).mp q))
theorem nI_z {a : Nat} (h : a < 2 ^ 31) : nI a = 0 ↔ a = 0 := by rw [← nI_0]; exact nI_eq h (by decide)
theorem o_if_eq (hexec : p.tables.exec = Jvm.exec) (hb : c.code = cc) (hdg : decode cc pc = .ok (.ifCond .eq off, 3)) (ht : (pc : Int) + off = (tgt : Int)) (h1 : a < 2 ^ 31) (kt : a = 0 → W p l e R s m args below meth c H locs cells slots Qz (F0 m tgt ls rest)) (kf : ¬ a = 0 → W p l e R s m args below meth c H locs cells slots Qz (F0 m (pc + 3) ls rest)) : W p l e R s m args below meth c H locs cells slots Qz (F0 m pc ls (.int (nI a) :: rest)) := lv_if_eq hexec hb hdg ht (fun q => kt ((nI_z h1).mp q)) (fun q => kf fun z => q ((nI_z h1).mpr z))
theorem o_if_ne (hexec : p.tables.exec = Jvm.exec) (hb : c.code = cc) (hdg : decode cc pc = .ok (.ifCond .ne off, 3)) (ht : (pc : Int) + off = (tgt : Int)) (h1 : a < 2 ^ 31) (kt : ¬ a = 0 → W p l e R s m args below meth c H locs cells slots Qz (F0 m tgt ls rest)) (kf : a = 0 → W p l e R s m args below meth c H locs cells slots Qz (F0 m (pc + 3) ls rest)) : W p l e R s m args below meth c H locs cells slots Qz (F0 m pc ls (.int (nI a) :: rest)) := lv_if_ne hexec hb hdg ht (fun q => kt fun z => q ((nI_z h1).mpr z)) (fun q => kf ((nI_z h1).mp q))
theorem o_if_gt (hexec : p.tables.exec = Jvm.exec) (hb : c.code = cc) (hdg : decode cc pc = .ok (.ifCond .gt off, 3)) (ht : (pc : Int) + off = (tgt : Int)) (h1 : a < 2 ^ 31) (kt : 0 < a → W p l e R s m args below meth c H locs cells slots Qz (F0 m tgt ls rest)) (kf : a = 0 → W p l e R s m args below meth c H locs cells slots Qz (F0 m (pc + 3) ls rest)) : W p l e R s m args below meth c H locs cells slots Qz (F0 m pc ls (.int (nI a) :: rest)) := lv_if_gt hexec hb hdg ht (fun q => kt (by rw [← nI_0] at q; exact (nI_ltI (by decide) h1).mp q)) (fun q => kf (by rw [← nI_0] at q; have := mt (nI_ltI (by decide) h1).mpr q; omega))
theorem o_if_le (hexec : p.tables.exec = Jvm.exec) (hb : c.code = cc) (hdg : decode cc pc = .ok (.ifCond .le off, 3)) (ht : (pc : Int) + off = (tgt : Int)) (h1 : a < 2 ^ 31) (kt : a = 0 → W p l e R s m args below meth c H locs cells slots Qz (F0 m tgt ls rest)) (kf : 0 < a → W p l e R s m args below meth c H locs cells slots Qz (F0 m (pc + 3) ls rest)) : W p l e R s m args below meth c H locs cells slots Qz (F0 m pc ls (.int (nI a) :: rest)) := lv_if_le hexec hb hdg ht (fun q => kt (by rw [← nI_0] at q; have := (nI_leI h1 (by decide)).mp q; omega)) (fun q => kf (by rw [← nI_0] at q; have := mt (nI_leI h1 (by decide)).mpr q; omega))
theorem o_if_lt (hexec : p.tables.exec = Jvm.exec) (hb : c.code = cc) (hdg : decode cc pc = .ok (.ifCond .lt off, 3)) (ht : (pc : Int) + off = (tgt : Int)) (h1 : a < 2 ^ 31) (kf : W p l e R s m args below meth c H locs cells slots Qz (F0 m (pc + 3) ls rest)) : W p l e R s m args below meth c H locs cells slots Qz (F0 m pc ls (.int (nI a) :: rest)) := lv_if_lt hexec hb hdg ht (fun q => absurd q (nI_pos h1)) (fun _ => kf)
theorem o_if_ge (hexec : p.tables.exec = Jvm.exec) (hb : c.code = cc) (hdg : decode cc pc = .ok (.ifCond .ge off, 3)) (ht : (pc : Int) + off = (tgt : Int)) (h1 : a < 2 ^ 31) (kt : W p l e R s m args below meth c H locs cells slots Qz (F0 m tgt ls rest)) : W p l e R s m args below meth c H locs cells slots Qz (F0 m pc ls (.int (nI a) :: rest)) := lv_if_ge hexec hb hdg ht (fun _ => kt) (fun q => absurd (nI_pos' h1) q)
theorem bI_z (x : Bool) : bI x = 0 ↔ x = false := by cases x <;> decide
theorem o_ifb_eq {x : Bool} (hexec : p.tables.exec = Jvm.exec) (hb : c.code = cc) (hdg : decode cc pc = .ok (.ifCond .eq off, 3)) (ht : (pc : Int) + off = (tgt : Int)) (kt : x = false → W p l e R s m args below meth c H locs cells slots Qz (F0 m tgt ls rest)) (kf : x = true → W p l e R s m args below meth c H locs cells slots Qz (F0 m (pc + 3) ls rest)) : W p l e R s m args below meth c H locs cells slots Qz (F0 m pc ls (.int (bI x) :: rest)) := lv_if_eq hexec hb hdg ht (fun q => kt ((bI_z x).mp q)) (fun q => kf (by cases x; exact absurd rfl q; rfl))
theorem o_ifb_ne {x : Bool} (hexec : p.tables.exec = Jvm.exec) (hb : c.code = cc) (hdg : decode cc pc = .ok (.ifCond .ne off, 3)) (ht : (pc : Int) + off = (tgt : Int)) (kt : x = true → W p l e R s m args below meth c H locs cells slots Qz (F0 m tgt ls rest)) (kf : x = false → W p l e R s m args below meth c H locs cells slots Qz (F0 m (pc + 3) ls rest)) : W p l e R s m args below meth c H locs cells slots Qz (F0 m pc ls (.int (bI x) :: rest)) := lv_if_ne hexec hb hdg ht (fun q => kt (by cases x; exact absurd rfl q; rfl)) (fun q => kf ((bI_z x).mp q))
theorem bI_inj {x y : Bool} : bI x = bI y ↔ x = y := by cases x <;> cases y <;> decide
theorem bI_xor (x y : Bool) : bI x ^^^ bI y = bI (x ^^ y) := by cases x <;> cases y <;> decide
theorem bI_not (x : Bool) : bI x ^^^ nI 1 = bI (!x) := by cases x <;> decide
theorem o_xorb {x y : Bool} (hexec : p.tables.exec = Jvm.exec) (hb : c.code = cc) (hdg : decode cc pc = .ok (.ixor, 1)) (k : W p l e R s m args below meth c H locs cells slots Qz (F0 m (pc + 1) ls (.int (bI (x ^^ y)) :: rest))) : W p l e R s m args below meth c H locs cells slots Qz (F0 m pc ls (.int (bI y) :: .int (bI x) :: rest)) := lv_ixor hexec hb hdg (by rw [bI_xor]; exact k)
theorem o_icmpb_eq {x y : Bool} (hexec : p.tables.exec = Jvm.exec) (hb : c.code = cc) (hdg : decode cc pc = .ok (.if_icmp .eq off, 3)) (ht : (pc : Int) + off = (tgt : Int)) (kt : x = y → W p l e R s m args below meth c H locs cells slots Qz (F0 m tgt ls rest)) (kf : ¬ x = y → W p l e R s m args below meth c H locs cells slots Qz (F0 m (pc + 3) ls rest)) : W p l e R s m args below meth c H locs cells slots Qz (F0 m pc ls (.int (bI y) :: .int (bI x) :: rest)) := lv_icmp_eq hexec hb hdg ht (fun q => kt (bI_inj.mp q)) (fun q => kf fun z => q (bI_inj.mpr z))
theorem o_icmpb_ne {x y : Bool} (hexec : p.tables.exec = Jvm.exec) (hb : c.code = cc) (hdg : decode cc pc = .ok (.if_icmp .ne off, 3)) (ht : (pc : Int) + off = (tgt : Int)) (kt : ¬ x = y → W p l e R s m args below meth c H locs cells slots Qz (F0 m tgt ls rest)) (kf : x = y → W p l e R s m args below meth c H locs cells slots Qz (F0 m (pc + 3) ls rest)) : W p l e R s m args below meth c H locs cells slots Qz (F0 m pc ls (.int (bI y) :: .int (bI x) :: rest)) := lv_icmp_ne hexec hb hdg ht (fun q => kt fun z => q (bI_inj.mpr z)) (fun q => kf (bI_inj.mp q))
theorem o_init {Tb : List Cond} {D : va_G} {cl : List vw_C} {tys : List (ClassId × FieldType)} {A : Nat → Prop} {own : String} {nL : Nat} {ret : Option FieldType} {idx q : Nat} (C : Cx p s m args meth c Tb D cl tys A own cc nL ret) (h1 : Cond.methodLink own idx Lib.objectInit ∈ Tb) (h2 : Cond.instanceMethod Lib.objectInit ∈ Tb) (h3 : Cond.code Lib.objectInit ⟨#[0xb1]⟩ 1 none ∈ Tb) (hls : ls.size = nL) (hdg : decode cc pc = .ok (.invokespecial idx, 3)) (hf : 1 ≤ R.frames) (hlo : (rest.map fun v => v.category).sum + 12 ≤ R.locals)
    (kk : W p l e R s m args below meth c H locs cells slots Qz (F0 m (pc + 3) ls rest)) : W p l e R s m args below meth c H locs cells slots Qz (F0 m pc ls (.ref q :: rest)) :=
  W.objInit C.1.1 C.1.2.1 C.1.2.2.2.1 (C.1.2.2.2.2 _ h1) (C.1.2.2.2.2 _ h2) (C.1.2.2.2.2 _ h3) rfl (hls.trans C.1.2.2.1.symm) rfl hdg hf (by show 2 * 0 + _ + 12 ≤ _; omega) kk
end ON
section OK
variable {p : Program} {l : Launch} {e : Env} {R : Room} {s : State} {m : MethodId} {args : Array Value} {below : List Frame} {meth : Method} {c : Code} {H : Heap} {locs : List Loc} {cells slots : Nat} {Qz : State → Prop}
variable {Tb : List Cond} {D : va_G} {cl : List vw_C} {tys : List (ClassId × FieldType)} {A : Nat → Prop} {own : String} {cc : ByteArray} {nL : Nat} {ret : Option FieldType} {pc : Nat} {ls : Array Slot} {rest : List Value} {bs bs' : BW}
/-- System.arraycopy of ints, at places that are numbers -/
theorem o_copyi (C : Cx p s m args meth c Tb D cl tys A own cc nL ret) (ho : ow D cl A s.heap H locs bs) {index : Nat} (hw : Cond.methodLink own index arraycopyName ∈ Tb ∧ Cond.native arraycopyName ∈ Tb ∧ Cond.static arraycopyName ∈ Tb ∧ Cond.initialized "java/lang/System" ∈ Tb) (hls : ls.size = nL) (k0 j0 k1 j1 : Nat) {blk0 blk1 : va_W} (hk0 : bs[k0]? = some blk0) (hk1 : bs[k1]? = some blk1) {a0 a1 : Nat} {cA : ClassId} {n0 n1 : Nat} {f g : Nat → Int32} (hj0 : blk0[j0]? = some (a0, .inl (cA, n0, .inl f))) (hj1 : blk1[j1]? = some (a1, .inl (cA, n1, .inl g))) (t0 : Nat) (ht : tys[t0]? = some (cA, .int)) (sp dp n : Nat) (h1 : sp + n ≤ n0) (h2 : dp + n ≤ n1) (h3 : n0 < 2 ^ 31) (h4 : n1 < 2 ^ 31)
    (hf : 1 ≤ R.frames) (hlo : (rest.map fun v => v.category).sum + (nativeFrameWords "java/lang/System" "arraycopy" 5 + 11) ≤ R.locals) (hdg : decode cc pc = .ok (.invokestatic index, 3)) (hb : bs.set k1 (blk1.set j1 (a1, .inl (cA, n1, .inl (va_cpy f g sp dp n)))) = bs')
    (kk : ∀ (H1 : Heap) (locs1 : List Loc), ow D cl A s.heap H1 locs1 bs' → W p l e R s m args below meth c H1 locs1 cells slots Qz (F0 m (pc + 3) ls rest)) : W p l e R s m args below meth c H locs cells slots Qz (F0 m pc ls (.int (nI n) :: .int (nI dp) :: .ref a1 :: .int (nI sp) :: .ref a0 :: rest)) := by
  subst hb
  have hts := C.1.2.2.2.2
  have e1 : (nI sp).toNatClampNeg = sp := nI_clamp (by omega)
  have e2 : (nI dp).toNatClampNeg = dp := nI_clamp (by omega)
  have e3 : (nI n).toNatClampNeg = n := nI_clamp (by omega)
  refine va_copyi C.1.1 C.1.2.1 (C.1.2.2.1.trans hls.symm) C.1.2.2.2.1 (hts _ hw.1) (hts _ hw.2.1) (hts _ hw.2.2.1) (hts _ hw.2.2.2) C.2.1.1 ho.1 ho.2.1 ho.2.2 _ _ t0 t0 (bw_at hk0 hj0) (bw_at hk1 hj1) ht ht rfl (nI_pos (by omega)) (nI_pos (by omega)) (nI_pos (by omega)) (by rw [e1, e3]; exact h1) (by rw [e2, e3]; exact h2) (fun _ _ => rfl) hf hlo hdg (fun H1 locs1 g1 g2 g3 => kk H1 locs1 ?_)
  rw [e1, e2, e3, bw_set hk1 (List.getElem?_eq_some_iff.mp hj1).1] at g1 g2
  exact ⟨g1, g2, g3⟩
end OK
theorem ow.to {D : va_G} {cl : List vw_C} {A : Nat → Prop} {H0 H : Heap} {locs : List Loc} {bs bs' : BW} (h : ow D cl A H0 H locs bs) (e : bs = bs') : ow D cl A H0 H locs bs' := e ▸ h
theorem lv_has.to {ls : Array Slot} {n : Nat} {l l' : List (Nat × Value)} (h : lv_has ls n l) (e : l = l') : lv_has ls n l' := e ▸ h
/-! taking a block apart, putting two together -/
theorem fl_erase : ∀ {bs : BW} {k : Nat} {b : va_W}, bs[k]? = some b → bs.flatten.Perm (b ++ (bs.eraseIdx k).flatten)
  | [], k, b, h => by simp at h
  | a :: t, 0, b, h => by
    have h : a = b := by simpa using h
    subst h
    simp
  | a :: t, k + 1, b, h => by
    have h : t[k]? = some b := by simpa using h
    have ih := fl_erase h
    simp only [List.flatten_cons, List.eraseIdx_cons_succ]
    refine (List.Perm.append_left a ih).trans ?_
    rw [← List.append_assoc, ← List.append_assoc]
    exact List.Perm.append_right _ List.perm_append_comm
theorem fl_set {bs : BW} {k : Nat} {b b1 : va_W} (h : bs[k]? = some b) : (bs.set k b1).flatten.Perm (b1 ++ (bs.eraseIdx k).flatten) := by
  have hlt : k < bs.length := (List.getElem?_eq_some_iff.mp h).1
  have h1 : (bs.set k b1)[k]? = some b1 := by simp [hlt]
  have h2 := fl_erase h1
  rw [List.eraseIdx_set_eq] at h2
  exact h2
theorem ow.split {D : va_G} {cl : List vw_C} {A : Nat → Prop} {H0 H : Heap} {locs : List Loc} {bs bs' : BW} (h : ow D cl A H0 H locs bs) (k : Nat) {b b1 b2 : va_W} (hk : bs[k]? = some b) (hp : b.Perm (b1 ++ b2)) (he : bs.set k b1 ++ [b2] = bs') : ow D cl A H0 H locs bs' := by
  subst he
  refine h.flatP ((fl_erase hk).trans ?_)
  rw [fl_push]
  refine List.Perm.trans ?_ (List.Perm.append_right b2 (fl_set hk)).symm
  refine (List.Perm.append_right _ hp).trans ?_
  rw [List.append_assoc, List.append_assoc]
  exact List.Perm.append_left b1 List.perm_append_comm
theorem ow.join {D : va_G} {cl : List vw_C} {A : Nat → Prop} {H0 H : Heap} {locs : List Loc} {bs bs' : BW} (h : ow D cl A H0 H locs bs) (k k2 : Nat) {b b1 b2 : va_W} (hk : bs[k]? = some b1) (hk2 : (bs.set k b)[k2]? = some b2) (hb2 : bs[k2]? = some b2) (hne : k ≠ k2) (hp : (b1 ++ b2).Perm b) (he : (bs.set k b).eraseIdx k2 = bs') : ow D cl A H0 H locs bs' := by
  subst he
  have h1 := fl_erase hk2
  have h2 := fl_set (b1 := b) hk
  have h3 := fl_erase hk
  -- bs ~ b1 ++ E, bs.set k b ~ b ++ E, bs.set k b ~ b2 ++ F; wanted bs ~ F
  refine h.flatP ?_
  have h4 : (b ++ (bs.eraseIdx k).flatten).Perm (b2 ++ ((bs.set k b).eraseIdx k2).flatten) := h2.symm.trans h1
  have h5 : (b2 ++ (b1 ++ (bs.eraseIdx k).flatten)).Perm (b2 ++ ((bs.set k b).eraseIdx k2).flatten) := by
    refine List.Perm.trans ?_ h4
    rw [← List.append_assoc]
    exact List.Perm.append_right _ (List.perm_append_comm.trans hp)
  exact h3.trans ((List.perm_append_left_iff b2).mp h5)
/-! a constructor of a nest mate that is private -/
def KwN (Tb : List Cond) (own : String) (index : Nat) (y : MethodName) (host : String) (cc : ByteArray) (nL : Nat) (ret : Option FieldType) (n : Nat) : Prop :=
  (∀ w ∈ Tb, (w.onTables && w.keeps) = true ∨ ∃ ty, w = .arrayClass ty) ∧ (own, index, y, host) ∈ nestL ∧ Cond.initialized y.cls ∈ Tb ∧ Cond.code y cc nL ret ∈ Tb ∧ (y.cls ≠ "java/lang/invoke/MethodHandle" ∧ y.cls ≠ "java/lang/invoke/VarHandle" ∧ (parseMethodDescriptor y.desc).map (fun d => d.parameters.length) = some n)
section OCN
variable {p : Program} {l : Launch} {e : Env} {R : Room} {s : State} {m : MethodId} {args : Array Value} {below : List Frame} {meth : Method} {c : Code} {H : Heap} {locs : List Loc} {cells slots : Nat} {Qz : State → Prop}
variable {Tb : List Cond} {D : va_G} {cl : List vw_C} {tys : List (ClassId × FieldType)} {A : Nat → Prop} {own : String} {cc : ByteArray} {nL : Nat} {ret : Option FieldType} {pc : Nat} {ls : Array Slot} {rest st : List Value} {bs bs' wc wr : BW}
variable {index maxL n : Nat} {y : MethodName} {host : String} {bytes : ByteArray} {rm : Room} {As : List Value} {b : Nat} {S : Type} {Q : Option Value → S → Prop} {w' : S → BW}
theorem o_callIN (C : Cx p s m args meth c Tb D cl tys A own cc nL ret) (hM : Mt l Tb D cl tys y bytes maxL none rm (Value.ref b :: As) wc S Q w') (hw : KwN Tb own index y host bytes maxL none n) (hw2 : Cond.instanceMethod y ∈ Tb ∧ y.name = "<init>")
    (hR : rm.frames + 1 ≤ R.frames ∧ 8 + (maxL + 11) + rm.locals ≤ R.locals) (hn : As.length = n) (ho : ow D cl A s.heap H locs bs) (is : List Nat) (nb : Nat) (hp : is.isPerm (List.range nb) = true) (hlen : bs.length = nb) (he : bw_pick bs is = wc ++ wr)
    (hls : ls.size = nL) (hst : st = As.reverse ++ .ref b :: rest) (hW : (rest.map fun v => v.category).sum ≤ 8) (hdg : decode cc pc = .ok (.invokespecial index, 3)) (cells' slots' : Nat) (hcc : cells + rm.cells = cells') (hss : slots + rm.slots = slots') (hf : cells' ≤ R.cells ∧ slots' ≤ R.slots)
    (kk : ∀ (v : Option Value) (u : S) (H1 : Heap) (locs1 : List Loc), Q v u → ow D cl A s.heap H1 locs1 (w' u ++ wr) → W p l e R s m args below meth c H1 locs1 cells' slots' Qz (F0 m (pc + 3) ls (v.toList ++ rest))) : W p l e R s m args below meth c H locs cells slots Qz (F0 m pc ls st) := by
  subst hcc hss
  have ho := ho.re is nb hp hlen he
  have hts := C.1.2.2.2.2
  obtain ⟨hg, hl, hi, hc, hd⟩ := hw
  have hG : GoodIn Tb (Cond.code y bytes maxL none :: Tb) := fun w hw => by
    rcases List.mem_cons.mp hw with rfl | hw
    · exact ⟨hc, hg _ hc⟩
    · exact ⟨hw, hg _ hw⟩
  exact o_back C ho (va_runIN C.1 (hM H.size) ⟨va_cnB n hts hG rfl rfl rfl (C.2.1.2.1 _ hl) (hts _ hi) hd hR, hw2.2, hts _ hw2.1⟩ ⟨Ps.blind, o_pre C ho rfl⟩ rfl hn hls hst (lv_room hW) hdg hf) kk
end OCN
