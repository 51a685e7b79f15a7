/-! OUR OWN ROWS OVER THE KIT'S: one bundle for a method's fixed facts (zC), one for its world (zW), one contract form -/
/-- the words of the claim's table that hold anywhere later -/
def TB : List Cond := lw_tbl.filter goodWord
theorem tb_of {w : Cond} (h : w ∈ lw_tbl) (hg : goodWord w = true) : w ∈ TB := List.mem_filter.mpr ⟨h, hg⟩
theorem tb_lw {w : Cond} (h : w ∈ TB) : w ∈ lw_tbl := (List.mem_filter.mp h).1
abbrev zT (q : Nat → ClassId) : List (ClassId × FieldType) := [(q 0, .int), (q 1, .byte), (q 2, .long), (q 3, .short), (q 4, .boolean), (q 5, .object "ThreeDoors$Shelf"), (q 6, .array .int)]
def zOWN : Nat → Int32 := fun k => [1, 10, 11, 2, 20, 0, 0, 0, 0, 30, 0, 0, 0, 41, 40, 0, 0, 0, 0, 50, 0, 0, 60, 61, 70, 0, 0, 0, 81, 80, 0, 0].getD k 0
def zABOVE : Nat → Int32 := fun k => [-1, 0, 0, 2, 1, 4, 0, 6].getD k 0
/-- the two static rows, outside what is written -/
def zSt (A : Nat → Prop) (U : State) (H : Heap) : Prop := ∃ t1 t2 : Nat, va_Z "ThreeDoors$Acts" "OWN" "[I" (.ref t1) A U H ∧ va_T .int t1 32 (fun k => .int (zOWN k)) A U H ∧ va_Z "ThreeDoors$Acts" "ABOVE" "[I" (.ref t2) A U H ∧ va_T .int t2 8 (fun k => .int (zABOVE k)) A U H
theorem zSt.moved {A : Nat → Prop} {u U : State} {H : Heap} (hvm : u.vm.Alike U.vm) (h : zSt A u H) : zSt A U H := by
  obtain ⟨t1, t2, h1, h2, h3, h4⟩ := h
  exact ⟨t1, t2, h1.moved hvm, h2.moved hvm, h3.moved hvm, h4.moved hvm⟩
theorem zSt.kept {A : Nat → Prop} {U : State} {H H1 : Heap} (h : zSt A U H) (hq : ∀ a : Nat, a < H.size → ¬ A a → H1[a]? = H[a]?) : zSt A U H1 := by
  obtain ⟨t1, t2, h1, h2, h3, h4⟩ := h
  exact ⟨t1, t2, h1.kept hq, h2.kept hq, h3.kept hq, h4.kept hq⟩
theorem zSt.narrow {A B : Nat → Prop} {U : State} {H : Heap} (h : zSt A U H) (hAB : ∀ q, B q → A q) : zSt B U H := by
  obtain ⟨t1, t2, h1, h2, h3, h4⟩ := h
  exact ⟨t1, t2, h1.narrow hAB, h2.narrow hAB, h3.narrow hAB, h4.narrow hAB⟩
/-- the calls between nest mates: their links -/
def zNe (U : State) : Prop := va_Nw (.methodLinkNest RX5 55 yX6_isWithin RX6) U ∧ va_Nw (.methodLinkNest RX6 9 yX5_init RX6) U ∧ va_Nw (.methodLinkNest RX6 18 yX2_init RX6) U ∧ va_Nw (.methodLinkNest RX6 25 yX3_init RX6) U ∧ va_Nw (.methodLinkNest RX6 32 yX1_init RX6) U ∧ va_Nw (.methodLinkNest RX6 39 yX0_init RX6) U ∧ va_Nw (.methodLinkNest RX6 54 yX4_init RX6) U
theorem zNe.warm {s U : State} (hW : s.WarmedH U.vm) (h : zNe s) : zNe U := ⟨h.1.warmM hW, h.2.1.warmM hW, h.2.2.1.warmM hW, h.2.2.2.1.warmM hW, h.2.2.2.2.1.warmM hW, h.2.2.2.2.2.1.warmM hW, h.2.2.2.2.2.2.warmM hW⟩
theorem zNe.same {s U : State} (hv : s.vm = U.vm) (h : zNe s) : zNe U := ⟨h.1.same rfl hv, h.2.1.same rfl hv, h.2.2.1.same rfl hv, h.2.2.2.1.same rfl hv, h.2.2.2.2.1.same rfl hv, h.2.2.2.2.2.1.same rfl hv, h.2.2.2.2.2.2.same rfl hv⟩
def zws (y : MethodName) (cc : ByteArray) (nL : Nat) (ret : Option FieldType) : List Cond := Cond.code y cc nL ret :: TB
/-- a method's fixed facts -/
def zC (p : Program) (s : State) (m : MethodId) (args : Array Value) (c : Code) (cc : ByteArray) (own : String) (D : va_G) (q : Nat → ClassId) (nL : Nat) (A : Nat → Prop) : Prop :=
  p.tables.exec = Jvm.exec ∧ c.code = cc ∧ s.vm.findClass own = some m.cls ∧ (∀ w ∈ TB, w.before args s = true) ∧ va_K D vwCl (zT q) s ∧ c.maxLocals = nL ∧ zSt A s s.heap ∧ zNe s
/-- a method's world -/
def zW (D : va_G) (A : Nat → Prop) (H0 : Heap) (ws : va_W) (H : Heap) (locs : List Loc) : Prop := va_P D vwCl ws H ∧ va_D A ws ∧ va_S A H0 H locs ∧ ∀ q, H0.size ≤ q → A q
def zPre (D : va_G) (q : Nat → ClassId) (ws : va_W) (sz : Nat) : State → Prop := fun U => U.heap.size = sz ∧ va_P D vwCl ws U.heap ∧ va_K D vwCl (zT q) U ∧ va_D (fun _ => True) ws ∧ zSt (va_A ws sz) U U.heap ∧ zNe U
def zAt (D : va_G) (q : Nat → ClassId) (A : Nat → Prop) (ws : va_W) : State → Prop := fun t => va_P D vwCl ws t.heap ∧ va_K D vwCl (zT q) t ∧ va_D A ws
/-- the contract forms: int (or boolean), long, void -/
def zMi (l : Launch) (y : MethodName) (cc : ByteArray) (nL : Nat) (rty : FieldType) (rm : Room) (As : List Value) (D : va_G) (q : Nat → ClassId) (ws : va_W) (sz : Nat) (rv : Int32) (ws' : va_W) : Prop :=
  Met l y (zws y cc nL (some rty)) rm (va_Pc As (zPre D q ws sz)) (va_Qi (fun (r : Int32) (_ : Unit) => r = rv) (fun _ => zAt D q (va_A ws sz) ws') (va_A ws sz)) 0 0 (va_A ws sz)
def zMl (l : Launch) (y : MethodName) (cc : ByteArray) (nL : Nat) (rm : Room) (As : List Value) (D : va_G) (q : Nat → ClassId) (ws : va_W) (sz : Nat) (rv : Int64) (ws' : va_W) : Prop :=
  Met l y (zws y cc nL (some .long)) rm (va_Pc As (zPre D q ws sz)) (va_Ql (fun (r : Int64) (_ : Unit) => r = rv) (fun _ => zAt D q (va_A ws sz) ws') (va_A ws sz)) 0 0 (va_A ws sz)
def zMv (l : Launch) (y : MethodName) (cc : ByteArray) (nL : Nat) (rm : Room) (As : List Value) (D : va_G) (q : Nat → ClassId) (ws : va_W) (sz : Nat) (ws' : va_W) : Prop :=
  Met l y (zws y cc nL none) rm (va_Pc As (zPre D q ws sz)) (va_Qv (fun (_ : Unit) => True) (fun _ => zAt D q (va_A ws sz) ws') (va_A ws sz)) 0 0 (va_A ws sz)
def zrm (d : Nat) : Room := { frames := d, cells := 0, slots := 0, locals := 32 * d }
section ZM
variable {l : Launch} {y : MethodName} {cc : ByteArray} {nL : Nat} {rty : FieldType} {As : List Value} {D : va_G} {q : Nat → ClassId} {ws ws' : va_W} {sz d : Nat}
theorem zEntry {p : Program} {e : Env} {s : State} {m : MethodId} {args : Array Value} {below : List Frame} {meth : Method} {c : Code} {s₁ : State} {ret : Option FieldType} {rm : Room} {own : String}
    (B : BodyLoose p l y (headSpec (zws y cc nL ret) rm) cc nL ret e s m args below meth c s₁) (hml : c.maxLocals = nL) (hown : y.cls = own) (hz : zPre D q ws sz s) :
    zC p s m args c cc own D q nL (va_A ws sz) ∧ zW D (va_A ws sz) s.heap ws s.heap [] ∧ meth.sig.returnType = ret ∧ meth.locks = false := by
  obtain ⟨h1, h2, h3, h4, h5, h6⟩ := hz
  subst h1
  subst hown
  exact ⟨⟨B.exec, B.bytes, findClass_of_methodNamed B.named, fun w hw => atoms_spec (ws := zws y cc nL ret) B.pre w (List.mem_cons_of_mem _ hw), h3, hml, h5, h6⟩, ⟨h2, h4.self, va_S.rf, fun q h => Or.inr h⟩, B.returns, B.notSynchronized⟩
theorem zMet_i {own : String} (rv : Int32) (hy : plainName y.cls = true) (hown : y.cls = own) (hnl : (lg_sl As).length ≤ nL)
    (body : ∀ (p : Program) (e : Env) (s : State) (m : MethodId) (args : Array Value) (below : List Frame) (meth : Method) (c : Code) (A : Nat → Prop) (ls : Array Slot) (Q : State → Prop), zC p s m args c cc own D q nL A → zW D A s.heap ws s.heap [] → lv_has ls nL (lv_args 0 As) →
      (∀ (pc : Nat) (H : Heap) (locs : List Loc) (ls : Array Slot) (v : Int32), decode cc pc = .ok (.ireturn, 1) → v = rv → narrow rty (.int v) = .int v → zW D A s.heap ws' H locs → W p l e (zrm d) s m args below meth c H locs 0 0 Q (F0 m pc ls [.int v])) →
      W p l e (zrm d) s m args below meth c s.heap [] 0 0 Q (F0 m 0 ls [])) : zMi l y cc nL rty (zrm d) As D q ws sz rv ws' := by
  unfold zMi
  refine Met.ofW (cc := cc) (maxL := nL) (ret := some rty) hy rfl ?_
  intro p e s m args below meth c s₁ B hml hv
  obtain ⟨rfl, hz⟩ := hv
  obtain ⟨hC, hW, hr, hk⟩ := zEntry B hml hown hz
  have hl := lv_entry As (n := nL) hnl
  rw [lg_entry_eq]
  generalize (lg_sl As ++ List.replicate (nL - (lg_sl As).length) Slot.unset).toArray = ls at hl ⊢
  refine body p e s m As.toArray below meth c (va_A ws sz) ls _ hC hW hl ?_
  intro pc H locs ls v hdg hv hn hW'
  exact W.zret hC.1 hC.2.1 hr hn (fun t ht hWm => ⟨⟨v, (), rfl, hv, by rw [ht]; exact hW'.1, va_K.moved hWm.alike hC.2.2.2.2.1, hW'.2.1⟩, hW'.2.2.1.F ht⟩) hW'.2.2.1.2.2 hdg hk
theorem zMet_l {own : String} (rv : Int64) (hy : plainName y.cls = true) (hown : y.cls = own) (hnl : (lg_sl As).length ≤ nL)
    (body : ∀ (p : Program) (e : Env) (s : State) (m : MethodId) (args : Array Value) (below : List Frame) (meth : Method) (c : Code) (A : Nat → Prop) (ls : Array Slot) (Q : State → Prop), zC p s m args c cc own D q nL A → zW D A s.heap ws s.heap [] → lv_has ls nL (lv_args 0 As) →
      (∀ (pc : Nat) (H : Heap) (locs : List Loc) (ls : Array Slot) (v : Int64), decode cc pc = .ok (.lreturn, 1) → v = rv → zW D A s.heap ws' H locs → W p l e (zrm d) s m args below meth c H locs 0 0 Q (F0 m pc ls [.long v])) →
      W p l e (zrm d) s m args below meth c s.heap [] 0 0 Q (F0 m 0 ls [])) : zMl l y cc nL (zrm d) As D q ws sz rv ws' := by
  unfold zMl
  refine Met.ofW (cc := cc) (maxL := nL) (ret := some .long) hy rfl ?_
  intro p e s m args below meth c s₁ B hml hv
  obtain ⟨rfl, hz⟩ := hv
  obtain ⟨hC, hW, hr, hk⟩ := zEntry B hml hown hz
  have hl := lv_entry As (n := nL) hnl
  rw [lg_entry_eq]
  generalize (lg_sl As ++ List.replicate (nL - (lg_sl As).length) Slot.unset).toArray = ls at hl ⊢
  refine body p e s m As.toArray below meth c (va_A ws sz) ls _ hC hW hl ?_
  intro pc H locs ls v hdg hv hW'
  exact W.lret hC.1 hC.2.1 hr (fun t ht hWm => ⟨⟨v, (), rfl, hv, by rw [ht]; exact hW'.1, va_K.moved hWm.alike hC.2.2.2.2.1, hW'.2.1⟩, hW'.2.2.1.F ht⟩) hW'.2.2.1.2.2 hdg hk
theorem zMet_v {own : String} (hy : plainName y.cls = true) (hown : y.cls = own) (hnl : (lg_sl As).length ≤ nL)
    (body : ∀ (p : Program) (e : Env) (s : State) (m : MethodId) (args : Array Value) (below : List Frame) (meth : Method) (c : Code) (A : Nat → Prop) (ls : Array Slot) (Q : State → Prop), zC p s m args c cc own D q nL A → zW D A s.heap ws s.heap [] → lv_has ls nL (lv_args 0 As) →
      (∀ (pc : Nat) (H : Heap) (locs : List Loc) (ls : Array Slot), decode cc pc = .ok (.return_, 1) → zW D A s.heap ws' H locs → W p l e (zrm d) s m args below meth c H locs 0 0 Q (F0 m pc ls [])) →
      W p l e (zrm d) s m args below meth c s.heap [] 0 0 Q (F0 m 0 ls [])) : zMv l y cc nL (zrm d) As D q ws sz ws' := by
  unfold zMv
  refine Met.ofW (cc := cc) (maxL := nL) (ret := none) hy rfl ?_
  intro p e s m args below meth c s₁ B hml hv
  obtain ⟨rfl, hz⟩ := hv
  obtain ⟨hC, hW, hr, hk⟩ := zEntry B hml hown hz
  have hl := lv_entry As (n := nL) hnl
  rw [lg_entry_eq]
  generalize (lg_sl As ++ List.replicate (nL - (lg_sl As).length) Slot.unset).toArray = ls at hl ⊢
  refine body p e s m As.toArray below meth c (va_A ws sz) ls _ hC hW hl ?_
  intro pc H locs ls hdg hW'
  exact W.vret hC.1 hC.2.1 hr (fun t ht hWm => ⟨⟨(), rfl, trivial, by rw [ht]; exact hW'.1, va_K.moved hWm.alike hC.2.2.2.2.1, hW'.2.1⟩, hW'.2.2.1.F ht⟩) hW'.2.2.1.2.2 hdg hk
end ZM
/-- what a getfield's linking needs: the field k of the kind ci -/
def FG (own : String) (idx ci k : Nat) : Prop := ∃ (C : String) (T : u_T) (N : Nat), vwCl[ci]? = some (C, T, N) ∧ (∀ w ∈ u_ws C T N, w ∈ TB) ∧ k < N ∧ Cond.fieldLink own idx (T k).1 (T k).2.1 (T k).2.2.1 ∈ TB
/-- what a putfield's linking needs -/
def FP (own : String) (idx ci k : Nat) (ty : FieldType) : Prop := ∃ (C : String) (T : u_T) (N : Nat) (ty0 : Nat → FieldType), vwCl[ci]? = some (C, T, N) ∧ (∀ w ∈ u_ws C T N, w ∈ TB) ∧ k < N ∧ Cond.fieldLink own idx (T k).1 (T k).2.1 (T k).2.2.1 ∈ TB ∧
  (∀ k, k < N → parseFieldDescriptor (T k).2.2.1 = some (ty0 k)) ∧ (∀ a, a < N → ∀ b, b < N → a ≠ b → (T a).2.1 ≠ (T b).2.1) ∧ (T k).2.2.2 = false ∧ parseFieldDescriptor (T k).2.2.1 = some ty
def VW (own : String) (index : Nat) (y : MethodName) (cc : ByteArray) (nL : Nat) (ret : Option FieldType) (n : Nat) : Prop :=
  (Cond.methodLink own index y ∈ TB ∧ Cond.instanceMethod y ∈ TB ∧ Cond.selects y.cls y y ∈ TB ∧ Cond.initialized y.cls ∈ TB ∧ Cond.code y cc nL ret ∈ TB) ∧ y.cls ≠ "java/lang/invoke/MethodHandle" ∧ y.cls ≠ "java/lang/invoke/VarHandle" ∧ (parseMethodDescriptor y.desc).map (fun d => d.parameters.length) = some n
def SW (own : String) (index : Nat) (y : MethodName) (cc : ByteArray) (nL : Nat) (ret : Option FieldType) (n : Nat) : Prop :=
  (Cond.methodLink own index y ∈ TB ∧ Cond.static y ∈ TB ∧ Cond.initialized y.cls ∈ TB ∧ Cond.code y cc nL ret ∈ TB) ∧ y.cls ≠ "java/lang/invoke/MethodHandle" ∧ y.cls ≠ "java/lang/invoke/VarHandle" ∧ (parseMethodDescriptor y.desc).map (fun d => d.parameters.length) = some n
theorem tb_in {w : Cond} (h : w ∈ TB) : (w.onTables && w.keeps) = true ∨ ∃ ty, w = .arrayClass ty := good_of_word (List.mem_filter.mp h).2
theorem VW.good {own : String} {index : Nat} {y : MethodName} {cc : ByteArray} {nL : Nat} {ret : Option FieldType} {n : Nat} (h : VW own index y cc nL ret n) : GoodIn TB (wsV own index y.cls y (zws y cc nL ret)) := by
  obtain ⟨⟨h1, h2, h3, h4, h5⟩, -⟩ := h
  intro w hw
  have : w ∈ TB := by
    simp only [wsV, zws, List.cons_append, List.nil_append, List.mem_cons] at hw
    rcases hw with rfl | rfl | rfl | rfl | rfl | hw
    · exact h1
    · exact h2
    · exact h3
    · exact h4
    · exact h5
    · exact hw
  exact ⟨this, tb_in this⟩
theorem SW.good {own : String} {index : Nat} {y : MethodName} {cc : ByteArray} {nL : Nat} {ret : Option FieldType} {n : Nat} (h : SW own index y cc nL ret n) : GoodIn TB (va_wsS own index y (zws y cc nL ret)) := by
  obtain ⟨⟨h1, h2, h4, h5⟩, -⟩ := h
  intro w hw
  have : w ∈ TB := by
    simp only [va_wsS, zws, List.cons_append, List.nil_append, List.mem_cons] at hw
    rcases hw with rfl | rfl | rfl | rfl | hw
    · exact h1
    · exact h2
    · exact h4
    · exact h5
    · exact hw
  exact ⟨this, tb_in this⟩
