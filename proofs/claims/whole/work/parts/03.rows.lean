/-! OUR OWN ROWS: an instruction that touches the world, a call, over the bundles of 02 -/
theorem zPre_blind {D : va_G} {q : Nat → ClassId} {ws : va_W} {sz : Nat} {As : List Value} : FrameBlind (va_Pc As (zPre D q ws sz)) := by
  intro a U g mk h
  obtain ⟨h1, h2, h3, h4, h5, h6, h7⟩ := h
  exact ⟨h1, h2, h3, va_K.moved (u := U) (U := U.calling g mk a) (Vm.Alike.refl U.vm) h4, h5, zSt.moved (u := U) (U := U.calling g mk a) (Vm.Alike.refl U.vm) h6, zNe.same (s := U) (U := U.calling g mk a) rfl h7⟩
section ZR
variable {p : Program} {l : Launch} {e : Env} {R : Room} {s : State} {m : MethodId} {args : Array Value} {below : List Frame} {meth : Method} {c : Code} {H : Heap} {locs : List Loc} {Q : State → Prop}
variable {cc : ByteArray} {own : String} {pc : Nat} {ls : Array Slot} {rest : List Value} {D : va_G} {q : Nat → ClassId} {nL : Nat} {A : Nat → Prop} {a : Nat} {ws ws' : va_W}
theorem z_get (hC : zC p s m args c cc own D q nL A) (hW : zW D A s.heap ws H locs) {idx ci k : Nat} (hF : FG own idx ci k) (q0 : Nat) {fs : List Value} (he : ws[q0]? = some (a, .inr (ci, fs))) {v : Value} (hv : fs[k]? = some v) (hdg : decode cc pc = .ok (.getfield idx, 3))
    (kk : W p l e R s m args below meth c H locs 0 0 Q (F0 m (pc + 3) ls (v :: rest))) : W p l e R s m args below meth c H locs 0 0 Q (F0 m pc ls (.ref a :: rest)) := by
  obtain ⟨C, T, N, h1, h2, h3, h4⟩ := hF
  exact va_get hC.1 hC.2.1 hC.2.2.2.1 h2 hC.2.2.1 hC.2.2.2.2.1 hW.1 q0 he h1 k h3 (hC.2.2.2.1 _ h4) (fun _ h => h) hv hdg kk
theorem z_put (hC : zC p s m args c cc own D q nL A) (hW : zW D A s.heap ws H locs) {idx ci k : Nat} {ty : FieldType} (hF : FP own idx ci k ty) (q0 : Nat) {fs : List Value} (he : ws[q0]? = some (a, .inr (ci, fs))) {v : Value} (hl : k < fs.length) (hn : narrow ty v = v) (hfit : fits ty v = true) (hws : ws.set q0 (a, .inr (ci, fs.set k v)) = ws') (hdg : decode cc pc = .ok (.putfield idx, 3))
    (kk : ∀ (H1 : Heap) (locs1 : List Loc), zW D A s.heap ws' H1 locs1 → W p l e R s m args below meth c H1 locs1 0 0 Q (F0 m (pc + 3) ls rest)) : W p l e R s m args below meth c H locs 0 0 Q (F0 m pc ls (v :: .ref a :: rest)) := by
  subst hws
  obtain ⟨C, T, N, ty0, h1, h2, h3, h4, h5, h6, h7, h8⟩ := hF
  exact va_put hC.1 hC.2.1 hC.2.2.2.1 h2 ty0 h5 h6 hC.2.2.1 hC.2.2.2.2.1 hW.1 hW.2.1 hW.2.2.1 q0 he h1 k h3 (hC.2.2.2.1 _ h4) (fun _ h => h) h7 h8 hn hfit hl hdg fun H1 locs1 a1 a2 a3 => kk H1 locs1 ⟨a1, a2, a3, hW.2.2.2⟩
theorem z_iald (hC : zC p s m args c cc own D q nL A) (hW : zW D A s.heap ws H locs) (q0 : Nat) {n : Nat} {f : Nat → Int32} (ha : ws[q0]? = some (a, .inl (q 0, n, .inl f))) {i : Int32} (hin : vp_in i n) (hdg : decode cc pc = .ok (.iaload, 1))
    (kk : W p l e R s m args below meth c H locs 0 0 Q (F0 m (pc + 1) ls (.int (f i.toNatClampNeg) :: rest))) : W p l e R s m args below meth c H locs 0 0 Q (F0 m pc ls (.int i :: .ref a :: rest)) :=
  va_iald hC.1 hC.2.1 hC.2.2.2.2.1 hW.1 q0 0 ha rfl hin hdg kk
theorem z_bald (hC : zC p s m args c cc own D q nL A) (hW : zW D A s.heap ws H locs) (q0 : Nat) {n : Nat} {f : Nat → Int32} (ha : ws[q0]? = some (a, .inl (q 1, n, .inl f))) {i : Int32} (hin : vp_in i n) (hdg : decode cc pc = .ok (.baload, 1))
    (kk : W p l e R s m args below meth c H locs 0 0 Q (F0 m (pc + 1) ls (.int (f i.toNatClampNeg) :: rest))) : W p l e R s m args below meth c H locs 0 0 Q (F0 m pc ls (.int i :: .ref a :: rest)) :=
  va_bald hC.1 hC.2.1 hC.2.2.2.2.1 hW.1 q0 1 ha rfl hin hdg kk
theorem z_lald (hC : zC p s m args c cc own D q nL A) (hW : zW D A s.heap ws H locs) (q0 : Nat) {n : Nat} {f : Nat → Int64} (ha : ws[q0]? = some (a, .inl (q 2, n, .inr (.inl f)))) {i : Int32} (hin : vp_in i n) (hdg : decode cc pc = .ok (.laload, 1))
    (kk : W p l e R s m args below meth c H locs 0 0 Q (F0 m (pc + 1) ls (.long (f i.toNatClampNeg) :: rest))) : W p l e R s m args below meth c H locs 0 0 Q (F0 m pc ls (.int i :: .ref a :: rest)) :=
  va_lald hC.1 hC.2.1 hC.2.2.2.2.1 hW.1 q0 2 ha rfl hin hdg kk
theorem z_sald (hC : zC p s m args c cc own D q nL A) (hW : zW D A s.heap ws H locs) (q0 : Nat) {n : Nat} {f : Nat → Int32} (ha : ws[q0]? = some (a, .inl (q 3, n, .inl f))) {i : Int32} (hin : vp_in i n) (hdg : decode cc pc = .ok (.saload, 1))
    (kk : W p l e R s m args below meth c H locs 0 0 Q (F0 m (pc + 1) ls (.int (f i.toNatClampNeg) :: rest))) : W p l e R s m args below meth c H locs 0 0 Q (F0 m pc ls (.int i :: .ref a :: rest)) :=
  va_sald hC.1 hC.2.1 hC.2.2.2.2.1 hW.1 q0 3 ha rfl hin hdg kk
theorem z_zald (hC : zC p s m args c cc own D q nL A) (hW : zW D A s.heap ws H locs) (q0 : Nat) {n : Nat} {f : Nat → Int32} (ha : ws[q0]? = some (a, .inl (q 4, n, .inl f))) {i : Int32} (hin : vp_in i n) (hdg : decode cc pc = .ok (.baload, 1))
    (kk : W p l e R s m args below meth c H locs 0 0 Q (F0 m (pc + 1) ls (.int (f i.toNatClampNeg) :: rest))) : W p l e R s m args below meth c H locs 0 0 Q (F0 m pc ls (.int i :: .ref a :: rest)) :=
  va_zald hC.1 hC.2.1 hC.2.2.2.2.1 hW.1 q0 4 ha rfl hin hdg kk
theorem z_aald (hC : zC p s m args c cc own D q nL A) (hW : zW D A s.heap ws H locs) (q0 : Nat) {n : Nat} {f : Nat → Nat} (ha : ws[q0]? = some (a, .inl (q 5, n, .inr (.inr (.inr (.inr (fun i => some (f i)))))))) {i : Int32} (hin : vp_in i n) (hdg : decode cc pc = .ok (.aaload, 1))
    (kk : W p l e R s m args below meth c H locs 0 0 Q (F0 m (pc + 1) ls (.ref (f i.toNatClampNeg) :: rest))) : W p l e R s m args below meth c H locs 0 0 Q (F0 m pc ls (.int i :: .ref a :: rest)) :=
  va_aldq hC.1 hC.2.1 hC.2.2.2.2.1 hW.1 q0 5 ha rfl hin hdg kk
theorem z_aaldA (hC : zC p s m args c cc own D q nL A) (hW : zW D A s.heap ws H locs) (q0 : Nat) {n : Nat} {f : Nat → Nat} (ha : ws[q0]? = some (a, .inl (q 6, n, .inr (.inr (.inr (.inr (fun i => some (f i)))))))) {i : Int32} (hin : vp_in i n) (hdg : decode cc pc = .ok (.aaload, 1))
    (kk : W p l e R s m args below meth c H locs 0 0 Q (F0 m (pc + 1) ls (.ref (f i.toNatClampNeg) :: rest))) : W p l e R s m args below meth c H locs 0 0 Q (F0 m pc ls (.int i :: .ref a :: rest)) := by
  have hlt : i.toNatClampNeg < n := Nat.not_le.mp fun q => hin (Or.inr q)
  exact W.aald (v := .ref (f i.toNatClampNeg)) (ty := .array .int) hC.1 hC.2.1 (hW.1 q0 _ ha) ((hC.2.2.2.2.1.2 6 _ rfl).1 n (fun j => va_rf (some (f j)))) rfl (fun q => by cases q) (by show ¬ (i < 0 ∨ (arrV _ _ _).slots.size ≤ _); rw [arrV_size]; exact hin) (by show (arrV _ _ _).slots[_]? = _; rw [arrV_read _ _ hlt]; rfl) rfl rfl hdg kk
theorem z_iast (hC : zC p s m args c cc own D q nL A) (hW : zW D A s.heap ws H locs) (q0 : Nat) {n : Nat} {f : Nat → Int32} (ha : ws[q0]? = some (a, .inl (q 0, n, .inl f))) {i x : Int32} (hin : vp_in i n) (hws : ws.set q0 (a, .inl (q 0, n, .inl (upd f i.toNatClampNeg x))) = ws') (hdg : decode cc pc = .ok (.iastore, 1))
    (kk : ∀ (H1 : Heap) (locs1 : List Loc), zW D A s.heap ws' H1 locs1 → W p l e R s m args below meth c H1 locs1 0 0 Q (F0 m (pc + 1) ls rest)) : W p l e R s m args below meth c H locs 0 0 Q (F0 m pc ls (.int x :: .int i :: .ref a :: rest)) := by
  subst hws
  exact va_iast hC.1 hC.2.1 hC.2.2.2.2.1 hW.1 hW.2.1 hW.2.2.1 q0 0 ha rfl hin hdg fun H1 locs1 a1 a2 a3 => kk H1 locs1 ⟨a1, a2, a3, hW.2.2.2⟩
theorem z_bast (hC : zC p s m args c cc own D q nL A) (hW : zW D A s.heap ws H locs) (q0 : Nat) {n : Nat} {f : Nat → Int32} (ha : ws[q0]? = some (a, .inl (q 1, n, .inl f))) {i x : Int32} (hin : vp_in i n) (hws : ws.set q0 (a, .inl (q 1, n, .inl (upd f i.toNatClampNeg (vp_nar .byte x)))) = ws') (hdg : decode cc pc = .ok (.bastore, 1))
    (kk : ∀ (H1 : Heap) (locs1 : List Loc), zW D A s.heap ws' H1 locs1 → W p l e R s m args below meth c H1 locs1 0 0 Q (F0 m (pc + 1) ls rest)) : W p l e R s m args below meth c H locs 0 0 Q (F0 m pc ls (.int x :: .int i :: .ref a :: rest)) := by
  subst hws
  exact va_bast hC.1 hC.2.1 hC.2.2.2.2.1 hW.1 hW.2.1 hW.2.2.1 q0 1 ha rfl hin hdg fun H1 locs1 a1 a2 a3 => kk H1 locs1 ⟨a1, a2, a3, hW.2.2.2⟩
theorem z_last (hC : zC p s m args c cc own D q nL A) (hW : zW D A s.heap ws H locs) (q0 : Nat) {n : Nat} {f : Nat → Int64} (ha : ws[q0]? = some (a, .inl (q 2, n, .inr (.inl f)))) {i : Int32} {x : Int64} (hin : vp_in i n) (hws : ws.set q0 (a, .inl (q 2, n, .inr (.inl (vp_updL f i.toNatClampNeg x)))) = ws') (hdg : decode cc pc = .ok (.lastore, 1))
    (kk : ∀ (H1 : Heap) (locs1 : List Loc), zW D A s.heap ws' H1 locs1 → W p l e R s m args below meth c H1 locs1 0 0 Q (F0 m (pc + 1) ls rest)) : W p l e R s m args below meth c H locs 0 0 Q (F0 m pc ls (.long x :: .int i :: .ref a :: rest)) := by
  subst hws
  exact va_last hC.1 hC.2.1 hC.2.2.2.2.1 hW.1 hW.2.1 hW.2.2.1 q0 2 ha rfl hin hdg fun H1 locs1 a1 a2 a3 => kk H1 locs1 ⟨a1, a2, a3, hW.2.2.2⟩
theorem z_sast (hC : zC p s m args c cc own D q nL A) (hW : zW D A s.heap ws H locs) (q0 : Nat) {n : Nat} {f : Nat → Int32} (ha : ws[q0]? = some (a, .inl (q 3, n, .inl f))) {i x : Int32} (hin : vp_in i n) (hws : ws.set q0 (a, .inl (q 3, n, .inl (upd f i.toNatClampNeg (vp_nar .short x)))) = ws') (hdg : decode cc pc = .ok (.sastore, 1))
    (kk : ∀ (H1 : Heap) (locs1 : List Loc), zW D A s.heap ws' H1 locs1 → W p l e R s m args below meth c H1 locs1 0 0 Q (F0 m (pc + 1) ls rest)) : W p l e R s m args below meth c H locs 0 0 Q (F0 m pc ls (.int x :: .int i :: .ref a :: rest)) := by
  subst hws
  exact va_sast hC.1 hC.2.1 hC.2.2.2.2.1 hW.1 hW.2.1 hW.2.2.1 q0 3 ha rfl hin hdg fun H1 locs1 a1 a2 a3 => kk H1 locs1 ⟨a1, a2, a3, hW.2.2.2⟩
theorem z_zast (hC : zC p s m args c cc own D q nL A) (hW : zW D A s.heap ws H locs) (q0 : Nat) {n : Nat} {f : Nat → Int32} (ha : ws[q0]? = some (a, .inl (q 4, n, .inl f))) {i x : Int32} (hin : vp_in i n) (hws : ws.set q0 (a, .inl (q 4, n, .inl (upd f i.toNatClampNeg (vp_nar .boolean x)))) = ws') (hdg : decode cc pc = .ok (.bastore, 1))
    (kk : ∀ (H1 : Heap) (locs1 : List Loc), zW D A s.heap ws' H1 locs1 → W p l e R s m args below meth c H1 locs1 0 0 Q (F0 m (pc + 1) ls rest)) : W p l e R s m args below meth c H locs 0 0 Q (F0 m pc ls (.int x :: .int i :: .ref a :: rest)) := by
  subst hws
  exact va_zast hC.1 hC.2.1 hC.2.2.2.2.1 hW.1 hW.2.1 hW.2.2.1 q0 4 ha rfl hin hdg fun H1 locs1 a1 a2 a3 => kk H1 locs1 ⟨a1, a2, a3, hW.2.2.2⟩
theorem z_alen (hC : zC p s m args c cc own D q nL A) (hW : zW D A s.heap ws H locs) (q0 t0 : Nat) {cA : ClassId} {x : vp_A} (ha : ws[q0]? = some (a, .inl (cA, x))) {ty : FieldType} (ht : (zT q)[t0]? = some (cA, ty)) {v : Int32} (hv : Int32.ofNat x.1 = v) (hdg : decode cc pc = .ok (.arraylength, 1))
    (kk : W p l e R s m args below meth c H locs 0 0 Q (F0 m (pc + 1) ls (.int v :: rest))) : W p l e R s m args below meth c H locs 0 0 Q (F0 m pc ls (.ref a :: rest)) :=
  va_alen hC.1 hC.2.1 hC.2.2.2.2.1 hW.1 q0 t0 ha ht hv hdg kk
theorem z_A1 (hW : zW D A s.heap ws H locs) : ∀ x, va_A ws H.size x → A x := by
  intro x hx
  rcases hx with ⟨k, e, hk⟩ | hx
  · exact hW.2.1.2 k _ hk
  · exact hW.2.2.2 x (Nat.le_trans hW.2.2.1.1 hx)
theorem z_pre (hC : zC p s m args c cc own D q nL A) (hW : zW D A s.heap ws H locs) {U : State} (hU : U.heap = H) (hw : s.WarmedH U.vm) : zPre D q ws H.size U := by
  subst hU
  exact ⟨rfl, hW.1, va_K.moved hw.alike hC.2.2.2.2.1, hW.2.1.weaken (fun _ _ _ _ => trivial), ((hC.2.2.2.2.2.2.1.kept hW.2.2.1.2.1).narrow (z_A1 hW)).moved hw.alike, hC.2.2.2.2.2.2.2.warm hw⟩
theorem z_back (hC : zC p s m args c cc own D q nL A) (hW : zW D A s.heap ws H locs) {t : State} {H1 : Heap} {locs1 : List Loc} (ht : t.heap = H1) (hB : zAt D q (va_A ws H.size) ws' t) (hS : va_S A s.heap H1 locs1) : zW D A s.heap ws' H1 locs1 := by
  subst ht
  exact ⟨hB.1, hB.2.2.weaken (fun _ _ _ h => z_A1 hW _ h), hS, hW.2.2.2⟩
theorem z_callV_i (hC : zC p s m args c cc own D q nL A) (hW : zW D A s.heap ws H locs) {y : MethodName} {cc' : ByteArray} {nL' idx n b ci q0 : Nat} {rty : FieldType} {rm : Room} {As st : List Value} {rv : Int32} {fs : List Value} {T : u_T} {N : Nat}
    (hM : zMi l y cc' nL' rty rm (.ref b :: As) D q ws H.size rv ws') (hV : VW own idx y cc' nL' (some rty) n) (he : ws[q0]? = some (b, .inr (ci, fs))) (hc : vwCl[ci]? = some (y.cls, T, N)) (hrm : rm.cells = 0 ∧ rm.slots = 0)
    (hR : rm.frames + 1 ≤ R.frames ∧ 8 + (nL' + 11) + rm.locals ≤ R.locals) (hn : As.length = n) (hst : st = As.reverse ++ .ref b :: rest) (hls : ls.size = nL) (hrs : (rest.map fun v => v.category).sum ≤ 8) (hdg : decode cc pc = .ok (.invokevirtual idx, 3))
    (kk : ∀ (H1 : Heap) (locs1 : List Loc), zW D A s.heap ws' H1 locs1 → W p l e R s m args below meth c H1 locs1 0 0 Q (F0 m (pc + 3) ls (.int rv :: rest))) : W p l e R s m args below meth c H locs 0 0 Q (F0 m pc ls st) := by
  refine va_calli (mc := 0) (ms := 0) (va_runV (As := As) (rest := rest) ⟨hC.1, hC.2.1, hC.2.2.2.2.2.1, hC.2.2.1, hC.2.2.2.1⟩ hM (cwV n hC.2.2.2.1 hV.good rfl hrm.1 hrm.2 ⟨rfl, hV.2⟩ hR) ⟨zPre_blind, va_recv hC.2.2.2.2.1 hW.1 hc he, fun U hU hw => ⟨rfl, z_pre hC hW hU hw⟩⟩ rfl hn hls hst (lv_room hrs) hdg ⟨Nat.zero_le _, Nat.zero_le _⟩) hW.2.2.1 (fun x _ h => z_A1 hW x h) (z_A1 hW) (fun r u t H1 locs1 ht hvm hw hB hz hk hS => ?_)
  subst hw
  exact kk H1 locs1 (z_back hC hW ht hB hS)
theorem z_callV_l (hC : zC p s m args c cc own D q nL A) (hW : zW D A s.heap ws H locs) {y : MethodName} {cc' : ByteArray} {nL' idx n b ci q0 : Nat} {rm : Room} {As st : List Value} {rv : Int64} {fs : List Value} {T : u_T} {N : Nat}
    (hM : zMl l y cc' nL' rm (.ref b :: As) D q ws H.size rv ws') (hV : VW own idx y cc' nL' (some .long) n) (he : ws[q0]? = some (b, .inr (ci, fs))) (hc : vwCl[ci]? = some (y.cls, T, N)) (hrm : rm.cells = 0 ∧ rm.slots = 0)
    (hR : rm.frames + 1 ≤ R.frames ∧ 8 + (nL' + 11) + rm.locals ≤ R.locals) (hn : As.length = n) (hst : st = As.reverse ++ .ref b :: rest) (hls : ls.size = nL) (hrs : (rest.map fun v => v.category).sum ≤ 8) (hdg : decode cc pc = .ok (.invokevirtual idx, 3))
    (kk : ∀ (H1 : Heap) (locs1 : List Loc), zW D A s.heap ws' H1 locs1 → W p l e R s m args below meth c H1 locs1 0 0 Q (F0 m (pc + 3) ls (.long rv :: rest))) : W p l e R s m args below meth c H locs 0 0 Q (F0 m pc ls st) := by
  refine va_calll (mc := 0) (ms := 0) (va_runV (As := As) (rest := rest) ⟨hC.1, hC.2.1, hC.2.2.2.2.2.1, hC.2.2.1, hC.2.2.2.1⟩ hM (cwV n hC.2.2.2.1 hV.good rfl hrm.1 hrm.2 ⟨rfl, hV.2⟩ hR) ⟨zPre_blind, va_recv hC.2.2.2.2.1 hW.1 hc he, fun U hU hw => ⟨rfl, z_pre hC hW hU hw⟩⟩ rfl hn hls hst (lv_room hrs) hdg ⟨Nat.zero_le _, Nat.zero_le _⟩) hW.2.2.1 (fun x _ h => z_A1 hW x h) (z_A1 hW) (fun r u t H1 locs1 ht hvm hw hB hz hk hS => ?_)
  subst hw
  exact kk H1 locs1 (z_back hC hW ht hB hS)
theorem z_callV_v (hC : zC p s m args c cc own D q nL A) (hW : zW D A s.heap ws H locs) {y : MethodName} {cc' : ByteArray} {nL' idx n b ci q0 : Nat} {rm : Room} {As st : List Value} {fs : List Value} {T : u_T} {N : Nat}
    (hM : zMv l y cc' nL' rm (.ref b :: As) D q ws H.size ws') (hV : VW own idx y cc' nL' none n) (he : ws[q0]? = some (b, .inr (ci, fs))) (hc : vwCl[ci]? = some (y.cls, T, N)) (hrm : rm.cells = 0 ∧ rm.slots = 0)
    (hR : rm.frames + 1 ≤ R.frames ∧ 8 + (nL' + 11) + rm.locals ≤ R.locals) (hn : As.length = n) (hst : st = As.reverse ++ .ref b :: rest) (hls : ls.size = nL) (hrs : (rest.map fun v => v.category).sum ≤ 8) (hdg : decode cc pc = .ok (.invokevirtual idx, 3))
    (kk : ∀ (H1 : Heap) (locs1 : List Loc), zW D A s.heap ws' H1 locs1 → W p l e R s m args below meth c H1 locs1 0 0 Q (F0 m (pc + 3) ls rest)) : W p l e R s m args below meth c H locs 0 0 Q (F0 m pc ls st) := by
  refine va_callv (mc := 0) (ms := 0) (va_runV (As := As) (rest := rest) ⟨hC.1, hC.2.1, hC.2.2.2.2.2.1, hC.2.2.1, hC.2.2.2.1⟩ hM (cwV n hC.2.2.2.1 hV.good rfl hrm.1 hrm.2 ⟨rfl, hV.2⟩ hR) ⟨zPre_blind, va_recv hC.2.2.2.2.1 hW.1 hc he, fun U hU hw => ⟨rfl, z_pre hC hW hU hw⟩⟩ rfl hn hls hst (lv_room hrs) hdg ⟨Nat.zero_le _, Nat.zero_le _⟩) hW.2.2.1 (fun x _ h => z_A1 hW x h) (z_A1 hW) (fun u t H1 locs1 ht hvm hw hB hz hk hS => ?_)
  exact kk H1 locs1 (z_back hC hW ht hB hS)
theorem z_callS_i (hC : zC p s m args c cc own D q nL A) (hW : zW D A s.heap ws H locs) {y : MethodName} {cc' : ByteArray} {nL' idx n : Nat} {rty : FieldType} {rm : Room} {As st : List Value} {rv : Int32}
    (hM : zMi l y cc' nL' rty rm As D q ws H.size rv ws') (hV : SW own idx y cc' nL' (some rty) n) (hrm : rm.cells = 0 ∧ rm.slots = 0)
    (hR : rm.frames + 1 ≤ R.frames ∧ 8 + (nL' + 11) + rm.locals ≤ R.locals) (hn : As.length = n) (hst : st = As.reverse ++ rest) (hls : ls.size = nL) (hrs : (rest.map fun v => v.category).sum ≤ 8) (hdg : decode cc pc = .ok (.invokestatic idx, 3))
    (kk : ∀ (H1 : Heap) (locs1 : List Loc), zW D A s.heap ws' H1 locs1 → W p l e R s m args below meth c H1 locs1 0 0 Q (F0 m (pc + 3) ls (.int rv :: rest))) : W p l e R s m args below meth c H locs 0 0 Q (F0 m pc ls st) := by
  refine va_calli (mc := 0) (ms := 0) (va_runS (As := As) (rest := rest) ⟨hC.1, hC.2.1, hC.2.2.2.2.2.1, hC.2.2.1, hC.2.2.2.1⟩ hM (va_cwS n hC.2.2.2.1 hV.good rfl hrm.1 hrm.2 hV.2 hR) ⟨zPre_blind, fun U hU hw => ⟨rfl, z_pre hC hW hU hw⟩⟩ rfl hn hls hst (lv_room hrs) hdg ⟨Nat.zero_le _, Nat.zero_le _⟩) hW.2.2.1 (fun x _ h => z_A1 hW x h) (z_A1 hW) (fun r u t H1 locs1 ht hvm hw hB hz hk hS => ?_)
  subst hw
  exact kk H1 locs1 (z_back hC hW ht hB hS)
theorem z_callS_v (hC : zC p s m args c cc own D q nL A) (hW : zW D A s.heap ws H locs) {y : MethodName} {cc' : ByteArray} {nL' idx n : Nat} {rm : Room} {As st : List Value}
    (hM : zMv l y cc' nL' rm As D q ws H.size ws') (hV : SW own idx y cc' nL' none n) (hrm : rm.cells = 0 ∧ rm.slots = 0)
    (hR : rm.frames + 1 ≤ R.frames ∧ 8 + (nL' + 11) + rm.locals ≤ R.locals) (hn : As.length = n) (hst : st = As.reverse ++ rest) (hls : ls.size = nL) (hrs : (rest.map fun v => v.category).sum ≤ 8) (hdg : decode cc pc = .ok (.invokestatic idx, 3))
    (kk : ∀ (H1 : Heap) (locs1 : List Loc), zW D A s.heap ws' H1 locs1 → W p l e R s m args below meth c H1 locs1 0 0 Q (F0 m (pc + 3) ls rest)) : W p l e R s m args below meth c H locs 0 0 Q (F0 m pc ls st) := by
  refine va_callv (mc := 0) (ms := 0) (va_runS (As := As) (rest := rest) ⟨hC.1, hC.2.1, hC.2.2.2.2.2.1, hC.2.2.1, hC.2.2.2.1⟩ hM (va_cwS n hC.2.2.2.1 hV.good rfl hrm.1 hrm.2 hV.2 hR) ⟨zPre_blind, fun U hU hw => ⟨rfl, z_pre hC hW hU hw⟩⟩ rfl hn hls hst (lv_room hrs) hdg ⟨Nat.zero_le _, Nat.zero_le _⟩) hW.2.2.1 (fun x _ h => z_A1 hW x h) (z_A1 hW) (fun u t H1 locs1 ht hvm hw hB hz hk hS => ?_)
  exact kk H1 locs1 (z_back hC hW ht hB hS)
def NW (y : MethodName) (cc : ByteArray) (nL : Nat) (ret : Option FieldType) (n : Nat) : Prop :=
  (Cond.static y ∈ TB ∧ Cond.initialized y.cls ∈ TB ∧ Cond.code y cc nL ret ∈ TB) ∧ y.cls ≠ "java/lang/invoke/MethodHandle" ∧ y.cls ≠ "java/lang/invoke/VarHandle" ∧ (parseMethodDescriptor y.desc).map (fun d => d.parameters.length) = some n
theorem z_callN_i (hC : zC p s m args c cc own D q nL A) (hW : zW D A s.heap ws H locs) {y : MethodName} {cc' : ByteArray} {nL' idx n : Nat} {host : String} {rty : FieldType} {rm : Room} {As st : List Value} {rv : Int32}
    (hM : zMi l y cc' nL' rty rm As D q ws H.size rv ws') (hN : va_Nw (.methodLinkNest own idx y host) s) (hV : NW y cc' nL' (some rty) n) (hrm : rm.cells = 0 ∧ rm.slots = 0)
    (hR : rm.frames + 1 ≤ R.frames ∧ 8 + (nL' + 11) + rm.locals ≤ R.locals) (hn : As.length = n) (hst : st = As.reverse ++ rest) (hls : ls.size = nL) (hrs : (rest.map fun v => v.category).sum ≤ 8) (hdg : decode cc pc = .ok (.invokestatic idx, 3))
    (kk : ∀ (H1 : Heap) (locs1 : List Loc), zW D A s.heap ws' H1 locs1 → W p l e R s m args below meth c H1 locs1 0 0 Q (F0 m (pc + 3) ls (.int rv :: rest))) : W p l e R s m args below meth c H locs 0 0 Q (F0 m pc ls st) := by
  have hG : GoodIn TB (zws y cc' nL' (some rty)) := by
    intro w hw
    have : w ∈ TB := by
      simp only [zws, List.mem_cons] at hw
      rcases hw with rfl | hw
      · exact hV.1.2.2
      · exact hw
    exact ⟨this, tb_in this⟩
  refine va_calli (mc := 0) (ms := 0) (va_runSN (As := As) (rest := rest) ⟨hC.1, hC.2.1, hC.2.2.2.2.2.1, hC.2.2.1, hC.2.2.2.1⟩ hM ⟨va_cnB n hC.2.2.2.1 hG rfl hrm.1 hrm.2 hN (hC.2.2.2.1 _ hV.1.2.1) hV.2 hR, hC.2.2.2.1 _ hV.1.1, trivial⟩ ⟨zPre_blind, fun U hU hw => ⟨rfl, z_pre hC hW hU hw⟩⟩ rfl hn hls hst (lv_room hrs) hdg ⟨Nat.zero_le _, Nat.zero_le _⟩) hW.2.2.1 (fun x _ h => z_A1 hW x h) (z_A1 hW) (fun r u t H1 locs1 ht hvm hw hB hz hk hS => ?_)
  subst hw
  exact kk H1 locs1 (z_back hC hW ht hB hS)
theorem z_stat_OWN (hC : zC p s m args c cc own D q nL A) (hW : zW D A s.heap ws H locs) {idx : Nat} (hl : Cond.fieldLink own idx "ThreeDoors$Acts" "OWN" "[I" ∈ TB) (hdg : decode cc pc = .ok (.getstatic idx, 3))
    (kk : ∀ t : Nat, va_T .int t 32 (fun k => .int (zOWN k)) A s s.heap → W p l e R s m args below meth c H locs 0 0 Q (F0 m (pc + 3) ls (.ref t :: rest))) : W p l e R s m args below meth c H locs 0 0 Q (F0 m pc ls rest) := by
  obtain ⟨t1, t2, h1, h2, -, -⟩ := hC.2.2.2.2.2.2.1
  exact va_gets hC.1 hC.2.1 h1 hW.2.2.1 hC.2.2.1 (hC.2.2.2.1 _ hl) (fun _ h => h) hdg (kk t1 h2)
theorem z_stat_ABOVE (hC : zC p s m args c cc own D q nL A) (hW : zW D A s.heap ws H locs) {idx : Nat} (hl : Cond.fieldLink own idx "ThreeDoors$Acts" "ABOVE" "[I" ∈ TB) (hdg : decode cc pc = .ok (.getstatic idx, 3))
    (kk : ∀ t : Nat, va_T .int t 8 (fun k => .int (zABOVE k)) A s s.heap → W p l e R s m args below meth c H locs 0 0 Q (F0 m (pc + 3) ls (.ref t :: rest))) : W p l e R s m args below meth c H locs 0 0 Q (F0 m pc ls rest) := by
  obtain ⟨t1, t2, -, -, h1, h2⟩ := hC.2.2.2.2.2.2.1
  exact va_gets hC.1 hC.2.1 h1 hW.2.2.1 hC.2.2.1 (hC.2.2.2.1 _ hl) (fun _ h => h) hdg (kk t2 h2)
theorem z_stld (hC : zC p s m args c cc own D q nL A) (hW : zW D A s.heap ws H locs) {t N : Nat} {f : Nat → Int32} (hT : va_T .int t N (fun k => .int (f k)) A s s.heap) {i : Int32} (hin : vp_in i N) (hdg : decode cc pc = .ok (.iaload, 1))
    (kk : W p l e R s m args below meth c H locs 0 0 Q (F0 m (pc + 1) ls (.int (f i.toNatClampNeg) :: rest))) : W p l e R s m args below meth c H locs 0 0 Q (F0 m pc ls (.int i :: .ref t :: rest)) :=
  va_ti hC.1 hC.2.1 hT hW.2.2.1 hin rfl hdg kk
theorem z_copyi (hC : zC p s m args c cc own D q nL A) (hW : zW D A s.heap ws H locs) (t0 : Nat) {idx : Nat} (hL : Cond.methodLink own idx arraycopyName ∈ TB ∧ Cond.native arraycopyName ∈ TB ∧ Cond.static arraycopyName ∈ TB ∧ Cond.initialized "java/lang/System" ∈ TB) (q0 q1 : Nat) {a0 : Nat} {c0 : ClassId} {n0 n1 : Nat} {f g : Nat → Int32} {ty : FieldType} (ha0 : ws[q0]? = some (a0, .inl (c0, n0, .inl f))) (ha1 : ws[q1]? = some (a, .inl (c0, n1, .inl g))) (ht : (zT q)[t0]? = some (c0, ty)) (hprim : refKind ty = false)
    {sp dp n : Int32} (hb : (¬ sp < 0 ∧ ¬ dp < 0 ∧ ¬ n < 0) ∧ sp.toNatClampNeg + n.toNatClampNeg ≤ n0 ∧ dp.toNatClampNeg + n.toNatClampNeg ≤ n1) (hfit : ∀ i, i < n.toNatClampNeg → fits ty (.int (f (sp.toNatClampNeg + i))) = true) (hls : ls.size = nL) (hf : 1 ≤ R.frames) (hlo : (rest.map fun v => v.category).sum + 18 ≤ R.locals)
    (hws : ws.set q1 (a, .inl (c0, n1, .inl (va_cpy f g sp.toNatClampNeg dp.toNatClampNeg n.toNatClampNeg))) = ws') (hdg : decode cc pc = .ok (.invokestatic idx, 3))
    (kk : ∀ (H1 : Heap) (locs1 : List Loc), zW D A s.heap ws' H1 locs1 → W p l e R s m args below meth c H1 locs1 0 0 Q (F0 m (pc + 3) ls rest)) : W p l e R s m args below meth c H locs 0 0 Q (F0 m pc ls (.int n :: .int dp :: .ref a :: .int sp :: .ref a0 :: rest)) := by
  subst hws
  exact va_copyi hC.1 hC.2.1 (hC.2.2.2.2.2.1.trans hls.symm) hC.2.2.1 (hC.2.2.2.1 _ hL.1) (hC.2.2.2.1 _ hL.2.1) (hC.2.2.2.1 _ hL.2.2.1) (hC.2.2.2.1 _ hL.2.2.2) hC.2.2.2.2.1 hW.1 hW.2.1 hW.2.2.1 q0 q1 t0 t0 ha0 ha1 ht ht hprim hb.1.1 hb.1.2.1 hb.1.2.2 hb.2.1 hb.2.2 hfit hf (by
    have : nativeFrameWords "java/lang/System" "arraycopy" 5 = 7 := by decide
    rw [this]; exact hlo) hdg fun H1 locs1 a1 a2 a3 => kk H1 locs1 ⟨a1, a2, a3, hW.2.2.2⟩
theorem z_copyl (hC : zC p s m args c cc own D q nL A) (hW : zW D A s.heap ws H locs) (t0 : Nat) {idx : Nat} (hL : Cond.methodLink own idx arraycopyName ∈ TB ∧ Cond.native arraycopyName ∈ TB ∧ Cond.static arraycopyName ∈ TB ∧ Cond.initialized "java/lang/System" ∈ TB) (q0 q1 : Nat) {a0 : Nat} {c0 : ClassId} {n0 n1 : Nat} {f g : Nat → Int64} {ty : FieldType} (ha0 : ws[q0]? = some (a0, .inl (c0, n0, .inr (.inl f)))) (ha1 : ws[q1]? = some (a, .inl (c0, n1, .inr (.inl g)))) (ht : (zT q)[t0]? = some (c0, ty)) (hprim : refKind ty = false)
    {sp dp n : Int32} (hb : (¬ sp < 0 ∧ ¬ dp < 0 ∧ ¬ n < 0) ∧ sp.toNatClampNeg + n.toNatClampNeg ≤ n0 ∧ dp.toNatClampNeg + n.toNatClampNeg ≤ n1) (hfit : ∀ i, i < n.toNatClampNeg → fits ty (.long (f (sp.toNatClampNeg + i))) = true) (hls : ls.size = nL) (hf : 1 ≤ R.frames) (hlo : (rest.map fun v => v.category).sum + 18 ≤ R.locals)
    (hws : ws.set q1 (a, .inl (c0, n1, .inr (.inl (va_cpy f g sp.toNatClampNeg dp.toNatClampNeg n.toNatClampNeg)))) = ws') (hdg : decode cc pc = .ok (.invokestatic idx, 3))
    (kk : ∀ (H1 : Heap) (locs1 : List Loc), zW D A s.heap ws' H1 locs1 → W p l e R s m args below meth c H1 locs1 0 0 Q (F0 m (pc + 3) ls rest)) : W p l e R s m args below meth c H locs 0 0 Q (F0 m pc ls (.int n :: .int dp :: .ref a :: .int sp :: .ref a0 :: rest)) := by
  subst hws
  exact va_copyl hC.1 hC.2.1 (hC.2.2.2.2.2.1.trans hls.symm) hC.2.2.1 (hC.2.2.2.1 _ hL.1) (hC.2.2.2.1 _ hL.2.1) (hC.2.2.2.1 _ hL.2.2.1) (hC.2.2.2.1 _ hL.2.2.2) hC.2.2.2.2.1 hW.1 hW.2.1 hW.2.2.1 q0 q1 t0 t0 ha0 ha1 ht ht hprim hb.1.1 hb.1.2.1 hb.1.2.2 hb.2.1 hb.2.2 hfit hf (by
    have : nativeFrameWords "java/lang/System" "arraycopy" 5 = 7 := by decide
    rw [this]; exact hlo) hdg fun H1 locs1 a1 a2 a3 => kk H1 locs1 ⟨a1, a2, a3, hW.2.2.2⟩
end ZR
theorem zrm_ok {d d' nL' : Nat} (h : d' + 1 ≤ d) (hn : nL' ≤ 13) : (zrm d').frames + 1 ≤ (zrm d).frames ∧ 8 + (nL' + 11) + (zrm d').locals ≤ (zrm d).locals := by
  show d' + 1 ≤ d ∧ 8 + (nL' + 11) + 32 * d' ≤ 32 * d
  omega
theorem zrm_f {d : Nat} (h : 1 ≤ d) : 1 ≤ (zrm d).frames := h
theorem zrm_lo {d k : Nat} (h : 1 ≤ d) (hk : k ≤ 8) : k + 18 ≤ (zrm d).locals := by
  show k + 18 ≤ 32 * d
  omega
theorem vlt {i : Int32} {n : Nat} (h : vp_in i n) : i.toNatClampNeg < n := Nat.not_le.mp fun q => h (Or.inr q)
/-! switches -/
section ZSW
variable {p : Program} {l : Launch} {e : Env} {R : Room} {s : State} {m : MethodId} {args : Array Value} {below : List Frame} {meth : Method} {c : Code} {H : Heap} {locs : List Loc} {cells slots : Nat} {Q : State → Prop}
variable {cc : ByteArray} {pc : Nat} {ls : Array Slot} {rest : List Value}
theorem z_tabIn (hx : p.tables.exec = Jvm.exec) (hb : c.code = cc) {dflt lo hi : Int} {offs : Array Int} {len : Nat} {x : Int32} {off : Int} {tgt : Nat} (k : Int32) (hk : x = k) (hc : (¬ k.toInt < lo ∧ ¬ hi < k.toInt) ∧ offs[(k.toInt - lo).toNat]? = some off) (hdg : decode cc pc = .ok (.tableswitch dflt lo hi offs, len)) (ht : (pc : Int) + off = (tgt : Int))
    (kk : W p l e R s m args below meth c H locs cells slots Q (F0 m tgt ls rest)) : W p l e R s m args below meth c H locs cells slots Q (F0 m pc ls (.int x :: rest)) := by
  subst hk
  exact lv_tableIn hx hb hdg hc.1.1 hc.1.2 hc.2 ht kk
theorem z_tabD (hx : p.tables.exec = Jvm.exec) (hb : c.code = cc) {dflt lo hi : Int} {offs : Array Int} {len : Nat} {x : Int32} {tgt : Nat} (ks : List Int32) (hks : ∀ k ∈ ks, ¬ x = k) (hc : hi - lo + 1 = (offs.size : Int) ∧ ∀ j, j < offs.size → offs[j]? = some dflt ∨ ∃ k ∈ ks, k.toInt = lo + (j : Int)) (hdg : decode cc pc = .ok (.tableswitch dflt lo hi offs, len)) (ht : (pc : Int) + dflt = (tgt : Int))
    (kk : W p l e R s m args below meth c H locs cells slots Q (F0 m tgt ls rest)) : W p l e R s m args below meth c H locs cells slots Q (F0 m pc ls (.int x :: rest)) := by
  by_cases h : x.toInt < lo ∨ hi < x.toInt
  · exact lv_tableOut hx hb hdg h ht kk
  · have h1 : ¬ x.toInt < lo := fun q => h (Or.inl q)
    have h2 : ¬ hi < x.toInt := fun q => h (Or.inr q)
    have hj : (x.toInt - lo).toNat < offs.size := by omega
    rcases hc.2 _ hj with h3 | ⟨k, hk, h3⟩
    · exact lv_tableIn hx hb hdg h1 h2 h3 ht kk
    · exact absurd (Int32.toInt_inj.mp (by omega)) (hks k hk)
theorem z_luk (hx : p.tables.exec = Jvm.exec) (hb : c.code = cc) {dflt : Int} {ps : Array (Int × Int)} {len : Nat} {x : Int32} {off : Int} {tgt : Nat} (k : Int32) (hk : x = k) (hp : (ps.toList.zip (ps.toList.drop 1)).all (fun (a, next) => a.1 < next.1) = true) (ho : Op.lookupswitch.offset ps.toList dflt k.toInt = off) (hdg : decode cc pc = .ok (.lookupswitch dflt ps, len)) (ht : (pc : Int) + off = (tgt : Int))
    (kk : W p l e R s m args below meth c H locs cells slots Q (F0 m tgt ls rest)) : W p l e R s m args below meth c H locs cells slots Q (F0 m pc ls (.int x :: rest)) := by
  subst hk
  exact lv_lookup hx hb hdg hp ho ht kk
theorem z_offD {x : Int32} (d : Int) : ∀ (ps : List (Int × Int)) (ks : List Int32), ps.map Prod.fst = ks.map Int32.toInt → (∀ k ∈ ks, ¬ x = k) → Op.lookupswitch.offset ps d x.toInt = d
  | [], _, _, _ => rfl
  | (a, o) :: ps, [], h, _ => by cases h
  | (a, o) :: ps, k :: ks, h, hk => by
    rw [List.map_cons, List.map_cons, List.cons.injEq] at h
    rw [lv_osw (hk k List.mem_cons_self) h.1.symm]
    exact z_offD d ps ks h.2 (fun k' hk' => hk k' (List.mem_cons_of_mem _ hk'))
theorem z_lukD (hx : p.tables.exec = Jvm.exec) (hb : c.code = cc) {dflt : Int} {ps : Array (Int × Int)} {len : Nat} {x : Int32} {tgt : Nat} (ks : List Int32) (hks : ∀ k ∈ ks, ¬ x = k) (hp : (ps.toList.zip (ps.toList.drop 1)).all (fun (a, next) => a.1 < next.1) = true) (hm : ps.toList.map Prod.fst = ks.map Int32.toInt) (hdg : decode cc pc = .ok (.lookupswitch dflt ps, len)) (ht : (pc : Int) + dflt = (tgt : Int))
    (kk : W p l e R s m args below meth c H locs cells slots Q (F0 m tgt ls rest)) : W p l e R s m args below meth c H locs cells slots Q (F0 m pc ls (.int x :: rest)) :=
  lv_lookup hx hb hdg hp (z_offD dflt ps.toList ks hm hks) ht kk
end ZSW
/-! the pure side's words -/
def ix {α : Type} (i : Int32) (n : Nat) (k : Option α) : Option α := if i < 0 ∨ n ≤ i.toNatClampNeg then none else k
theorem ix_some {α : Type} {i : Int32} {n : Nat} {k : Option α} {r : α} (h : ix i n k = some r) : vp_in i n ∧ k = some r := by
  unfold ix at h
  by_cases hc : i < 0 ∨ n ≤ i.toNatClampNeg
  · rw [if_pos hc] at h; cases h
  · rw [if_neg hc] at h; exact ⟨hc, h⟩
theorem ix_in {α : Type} {i : Int32} {n : Nat} {k : Option α} (h : vp_in i n) : ix i n k = k := if_neg h
def nz {α : Type} (y : Int32) (k : Option α) : Option α := if y = 0 then none else k
theorem nz_some {α : Type} {y : Int32} {k : Option α} {r : α} (h : nz y k = some r) : ¬ y = 0 ∧ k = some r := by
  unfold nz at h
  by_cases hc : y = 0
  · rw [if_pos hc] at h; cases h
  · rw [if_neg hc] at h; exact ⟨hc, h⟩
theorem nz_ne {α : Type} {y : Int32} {k : Option α} (h : ¬ y = 0) : nz y k = k := if_neg h
/-- a boolean's way back -/
def bz {α : Type} (v : Int32) (k : Option α) : Option α := if v = 0 ∨ v = 1 then k else none
theorem bz_some {α : Type} {v : Int32} {k : Option α} {r : α} (h : bz v k = some r) : narrow .boolean (.int v) = .int v ∧ k = some r := by
  unfold bz at h
  by_cases hc : v = 0 ∨ v = 1
  · rw [if_pos hc] at h
    exact ⟨by rcases hc with rfl | rfl <;> rfl, h⟩
  · rw [if_neg hc] at h; cases h
theorem bz_in {α : Type} {v : Int32} {k : Option α} (h : v = 0 ∨ v = 1) : bz v k = k := if_pos h
def bd {α β : Type} (o : Option α) (k : α → Option β) : Option β := match o with
  | none => none
  | some a => k a
theorem bd_some {α β : Type} {o : Option α} {k : α → Option β} {r : β} (h : bd o k = some r) : ∃ u, o = some u ∧ k u = some r := by
  cases o with
  | none => cases h
  | some a => exact ⟨a, rfl, h⟩
theorem bd_of {α β : Type} (a : α) (k : α → Option β) : bd (some a) k = k a := rfl
/-- a copy between rows: its bounds, and that what is copied fits -/
def cpg {α : Type} (sp dp n : Int32) (n0 n1 : Nat) (f : Nat → Int32) (byte : Bool) (k : Option α) : Option α :=
  if ((¬ sp < 0 ∧ ¬ dp < 0 ∧ ¬ n < 0) ∧ sp.toNatClampNeg + n.toNatClampNeg ≤ n0 ∧ dp.toNatClampNeg + n.toNatClampNeg ≤ n1) ∧ (byte = true → ∀ i, i < n.toNatClampNeg → (f (sp.toNatClampNeg + i)).toInt8.toInt32 = f (sp.toNatClampNeg + i)) then k else none
theorem cpg_some {α : Type} {sp dp n : Int32} {n0 n1 : Nat} {f : Nat → Int32} {byte : Bool} {k : Option α} {r : α} (h : cpg sp dp n n0 n1 f byte k = some r) : (((¬ sp < 0 ∧ ¬ dp < 0 ∧ ¬ n < 0) ∧ sp.toNatClampNeg + n.toNatClampNeg ≤ n0 ∧ dp.toNatClampNeg + n.toNatClampNeg ≤ n1) ∧ (byte = true → ∀ i, i < n.toNatClampNeg → (f (sp.toNatClampNeg + i)).toInt8.toInt32 = f (sp.toNatClampNeg + i))) ∧ k = some r := by
  unfold cpg at h
  by_cases hc : ((¬ sp < 0 ∧ ¬ dp < 0 ∧ ¬ n < 0) ∧ sp.toNatClampNeg + n.toNatClampNeg ≤ n0 ∧ dp.toNatClampNeg + n.toNatClampNeg ≤ n1) ∧ (byte = true → ∀ i, i < n.toNatClampNeg → (f (sp.toNatClampNeg + i)).toInt8.toInt32 = f (sp.toNatClampNeg + i))
  · rw [if_pos hc] at h; exact ⟨hc, h⟩
  · rw [if_neg hc] at h; cases h
theorem cpg_fb {f : Nat → Int32} {a n : Nat} (h : true = true → ∀ i, i < n → (f (a + i)).toInt8.toInt32 = f (a + i)) : ∀ i, i < n → fits .byte (.int (f (a + i))) = true := by
  intro i hi
  rw [← h rfl i hi]
  exact pk_fb _
theorem ifp {α : Type} {c : Prop} [Decidable c] {a b r : α} (hc : c) (h : (if c then a else b) = r) : a = r := by rw [if_pos hc] at h; exact h
theorem ifn {α : Type} {c : Prop} [Decidable c] {a b r : α} (hc : ¬ c) (h : (if c then a else b) = r) : b = r := by rw [if_neg hc] at h; exact h
/-- the fuel of a loop -/
def fuel : Nat := 100000
/-- one row of a grid anew -/
def updR {α : Type} (f : Nat → Nat → α) (i : Nat) (g : Nat → α) : Nat → Nat → α := fun j => if j = i then g else f j
