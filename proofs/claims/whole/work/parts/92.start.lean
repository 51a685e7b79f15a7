theorem st_arr {s : State} {args : Array Value} {ty : FieldType} (h : (Cond.arrayClass ty).before args s = true) : ∃ cA : ClassId, ArrOfT s cA ty ∧ s.vm.findClass ("[" ++ ty.toString) = some cA := by
  obtain ⟨cA, kA, comp, h1, h2, h3⟩ := Cond.arrayClass_spec h
  exact ⟨cA, fun n z => ⟨fun k h => (by cases h), kA, h2, comp, h3⟩, h1⟩
theorem st_OWN {s : State} {b : Nat} (hts : ∀ w ∈ lw_tbl, w.before #[Value.ref b] s = true) (hgv : (Jvm.Cond.and given_1 narrow_1).before #[Value.ref b] s = true) {A : Nat → Prop} (hA : ∀ a : Nat, a < s.heap.size → ¬ A a) : ∃ t : Nat, va_Z "ThreeDoors$Acts" "OWN" "[I" (.ref t) A s s.heap ∧ va_T .int t 32 (fun k => .int (zOWN k)) A s s.heap := by
  have hs := flat_of_before _ hgv
  have hlen : (Term.length (.static "ThreeDoors$Acts" "OWN" "[I")).eval #[Value.ref b] s none [] s = some (.int (Int32.ofNat 32)) := va_eqt (z := 32) (hs (Cond.eq (.length (.static "ThreeDoors$Acts" "OWN" "[I")) (.int 32)) (by decide +kernel))
  have hel : ∀ j : Nat, j < 32 → (Term.elem (.static "ThreeDoors$Acts" "OWN" "[I") (.int (Int32.ofNat j))).eval #[Value.ref b] s none [] s = some (.int (zOWN j)) := fun j hj => match j, hj with
    | 0, _ => va_eqt (z := 1) (hs (Cond.eq (.elem (.static "ThreeDoors$Acts" "OWN" "[I") (.int 0)) (.int 1)) (by decide +kernel))
    | 1, _ => va_eqt (z := 10) (hs (Cond.eq (.elem (.static "ThreeDoors$Acts" "OWN" "[I") (.int 1)) (.int 10)) (by decide +kernel))
    | 2, _ => va_eqt (z := 11) (hs (Cond.eq (.elem (.static "ThreeDoors$Acts" "OWN" "[I") (.int 2)) (.int 11)) (by decide +kernel))
    | 3, _ => va_eqt (z := 2) (hs (Cond.eq (.elem (.static "ThreeDoors$Acts" "OWN" "[I") (.int 3)) (.int 2)) (by decide +kernel))
    | 4, _ => va_eqt (z := 20) (hs (Cond.eq (.elem (.static "ThreeDoors$Acts" "OWN" "[I") (.int 4)) (.int 20)) (by decide +kernel))
    | 5, _ => va_eqt (z := 0) (hs (Cond.eq (.elem (.static "ThreeDoors$Acts" "OWN" "[I") (.int 5)) (.int 0)) (by decide +kernel))
    | 6, _ => va_eqt (z := 0) (hs (Cond.eq (.elem (.static "ThreeDoors$Acts" "OWN" "[I") (.int 6)) (.int 0)) (by decide +kernel))
    | 7, _ => va_eqt (z := 0) (hs (Cond.eq (.elem (.static "ThreeDoors$Acts" "OWN" "[I") (.int 7)) (.int 0)) (by decide +kernel))
    | 8, _ => va_eqt (z := 0) (hs (Cond.eq (.elem (.static "ThreeDoors$Acts" "OWN" "[I") (.int 8)) (.int 0)) (by decide +kernel))
    | 9, _ => va_eqt (z := 30) (hs (Cond.eq (.elem (.static "ThreeDoors$Acts" "OWN" "[I") (.int 9)) (.int 30)) (by decide +kernel))
    | 10, _ => va_eqt (z := 0) (hs (Cond.eq (.elem (.static "ThreeDoors$Acts" "OWN" "[I") (.int 10)) (.int 0)) (by decide +kernel))
    | 11, _ => va_eqt (z := 0) (hs (Cond.eq (.elem (.static "ThreeDoors$Acts" "OWN" "[I") (.int 11)) (.int 0)) (by decide +kernel))
    | 12, _ => va_eqt (z := 0) (hs (Cond.eq (.elem (.static "ThreeDoors$Acts" "OWN" "[I") (.int 12)) (.int 0)) (by decide +kernel))
    | 13, _ => va_eqt (z := 41) (hs (Cond.eq (.elem (.static "ThreeDoors$Acts" "OWN" "[I") (.int 13)) (.int 41)) (by decide +kernel))
    | 14, _ => va_eqt (z := 40) (hs (Cond.eq (.elem (.static "ThreeDoors$Acts" "OWN" "[I") (.int 14)) (.int 40)) (by decide +kernel))
    | 15, _ => va_eqt (z := 0) (hs (Cond.eq (.elem (.static "ThreeDoors$Acts" "OWN" "[I") (.int 15)) (.int 0)) (by decide +kernel))
    | 16, _ => va_eqt (z := 0) (hs (Cond.eq (.elem (.static "ThreeDoors$Acts" "OWN" "[I") (.int 16)) (.int 0)) (by decide +kernel))
    | 17, _ => va_eqt (z := 0) (hs (Cond.eq (.elem (.static "ThreeDoors$Acts" "OWN" "[I") (.int 17)) (.int 0)) (by decide +kernel))
    | 18, _ => va_eqt (z := 0) (hs (Cond.eq (.elem (.static "ThreeDoors$Acts" "OWN" "[I") (.int 18)) (.int 0)) (by decide +kernel))
    | 19, _ => va_eqt (z := 50) (hs (Cond.eq (.elem (.static "ThreeDoors$Acts" "OWN" "[I") (.int 19)) (.int 50)) (by decide +kernel))
    | 20, _ => va_eqt (z := 0) (hs (Cond.eq (.elem (.static "ThreeDoors$Acts" "OWN" "[I") (.int 20)) (.int 0)) (by decide +kernel))
    | 21, _ => va_eqt (z := 0) (hs (Cond.eq (.elem (.static "ThreeDoors$Acts" "OWN" "[I") (.int 21)) (.int 0)) (by decide +kernel))
    | 22, _ => va_eqt (z := 60) (hs (Cond.eq (.elem (.static "ThreeDoors$Acts" "OWN" "[I") (.int 22)) (.int 60)) (by decide +kernel))
    | 23, _ => va_eqt (z := 61) (hs (Cond.eq (.elem (.static "ThreeDoors$Acts" "OWN" "[I") (.int 23)) (.int 61)) (by decide +kernel))
    | 24, _ => va_eqt (z := 70) (hs (Cond.eq (.elem (.static "ThreeDoors$Acts" "OWN" "[I") (.int 24)) (.int 70)) (by decide +kernel))
    | 25, _ => va_eqt (z := 0) (hs (Cond.eq (.elem (.static "ThreeDoors$Acts" "OWN" "[I") (.int 25)) (.int 0)) (by decide +kernel))
    | 26, _ => va_eqt (z := 0) (hs (Cond.eq (.elem (.static "ThreeDoors$Acts" "OWN" "[I") (.int 26)) (.int 0)) (by decide +kernel))
    | 27, _ => va_eqt (z := 0) (hs (Cond.eq (.elem (.static "ThreeDoors$Acts" "OWN" "[I") (.int 27)) (.int 0)) (by decide +kernel))
    | 28, _ => va_eqt (z := 81) (hs (Cond.eq (.elem (.static "ThreeDoors$Acts" "OWN" "[I") (.int 28)) (.int 81)) (by decide +kernel))
    | 29, _ => va_eqt (z := 80) (hs (Cond.eq (.elem (.static "ThreeDoors$Acts" "OWN" "[I") (.int 29)) (.int 80)) (by decide +kernel))
    | 30, _ => va_eqt (z := 0) (hs (Cond.eq (.elem (.static "ThreeDoors$Acts" "OWN" "[I") (.int 30)) (.int 0)) (by decide +kernel))
    | 31, _ => va_eqt (z := 0) (hs (Cond.eq (.elem (.static "ThreeDoors$Acts" "OWN" "[I") (.int 31)) (.int 0)) (by decide +kernel))
    | n + 32, h => absurd h (by omega)
  obtain ⟨t, h1, h2⟩ := va_Tof (tm := .static "ThreeDoors$Acts" "OWN" "[I") (ty := .int) (N := 32) (f := fun k => .int (zOWN k)) (A := A) (by decide) (hs _ (by decide +kernel)) hlen hel hA
  exact ⟨t, va_Zref (hts (Cond.laysStatic "ThreeDoors$Acts" "OWN" "[I") (List.mem_of_getElem? (i := 747) (by decide +kernel))) (hts (Cond.initialized "ThreeDoors$Acts") (List.mem_of_getElem? (i := 83) (by decide +kernel))) h1 hA, h2⟩
theorem st_ABOVE {s : State} {b : Nat} (hts : ∀ w ∈ lw_tbl, w.before #[Value.ref b] s = true) (hgv : (Jvm.Cond.and given_1 narrow_1).before #[Value.ref b] s = true) {A : Nat → Prop} (hA : ∀ a : Nat, a < s.heap.size → ¬ A a) : ∃ t : Nat, va_Z "ThreeDoors$Acts" "ABOVE" "[I" (.ref t) A s s.heap ∧ va_T .int t 8 (fun k => .int (zABOVE k)) A s s.heap := by
  have hs := flat_of_before _ hgv
  have hlen : (Term.length (.static "ThreeDoors$Acts" "ABOVE" "[I")).eval #[Value.ref b] s none [] s = some (.int (Int32.ofNat 8)) := va_eqt (z := 8) (hs (Cond.eq (.length (.static "ThreeDoors$Acts" "ABOVE" "[I")) (.int 8)) (by decide +kernel))
  have hel : ∀ j : Nat, j < 8 → (Term.elem (.static "ThreeDoors$Acts" "ABOVE" "[I") (.int (Int32.ofNat j))).eval #[Value.ref b] s none [] s = some (.int (zABOVE j)) := fun j hj => match j, hj with
    | 0, _ => va_eqt (z := (-1)) (hs (Cond.eq (.elem (.static "ThreeDoors$Acts" "ABOVE" "[I") (.int 0)) (.int (-1))) (by decide +kernel))
    | 1, _ => va_eqt (z := 0) (hs (Cond.eq (.elem (.static "ThreeDoors$Acts" "ABOVE" "[I") (.int 1)) (.int 0)) (by decide +kernel))
    | 2, _ => va_eqt (z := 0) (hs (Cond.eq (.elem (.static "ThreeDoors$Acts" "ABOVE" "[I") (.int 2)) (.int 0)) (by decide +kernel))
    | 3, _ => va_eqt (z := 2) (hs (Cond.eq (.elem (.static "ThreeDoors$Acts" "ABOVE" "[I") (.int 3)) (.int 2)) (by decide +kernel))
    | 4, _ => va_eqt (z := 1) (hs (Cond.eq (.elem (.static "ThreeDoors$Acts" "ABOVE" "[I") (.int 4)) (.int 1)) (by decide +kernel))
    | 5, _ => va_eqt (z := 4) (hs (Cond.eq (.elem (.static "ThreeDoors$Acts" "ABOVE" "[I") (.int 5)) (.int 4)) (by decide +kernel))
    | 6, _ => va_eqt (z := 0) (hs (Cond.eq (.elem (.static "ThreeDoors$Acts" "ABOVE" "[I") (.int 6)) (.int 0)) (by decide +kernel))
    | 7, _ => va_eqt (z := 6) (hs (Cond.eq (.elem (.static "ThreeDoors$Acts" "ABOVE" "[I") (.int 7)) (.int 6)) (by decide +kernel))
    | n + 8, h => absurd h (by omega)
  obtain ⟨t, h1, h2⟩ := va_Tof (tm := .static "ThreeDoors$Acts" "ABOVE" "[I") (ty := .int) (N := 8) (f := fun k => .int (zABOVE k)) (A := A) (by decide) (hs _ (by decide +kernel)) hlen hel hA
  exact ⟨t, va_Zref (hts (Cond.laysStatic "ThreeDoors$Acts" "ABOVE" "[I") (List.mem_of_getElem? (i := 749) (by decide +kernel))) (hts (Cond.initialized "ThreeDoors$Acts") (List.mem_of_getElem? (i := 83) (by decide +kernel))) h1 hA, h2⟩
theorem st_ne {s : State} {b : Nat} (hts : ∀ w ∈ lw_tbl, w.before #[Value.ref b] s = true) : zNe s := ⟨va_Nw.of rfl (hts (Cond.methodLinkNest RX5 55 yX6_isWithin RX6) (List.mem_of_getElem? (i := 429) (by decide +kernel))), va_Nw.of rfl (hts (Cond.methodLinkNest RX6 9 yX5_init RX6) (List.mem_of_getElem? (i := 99) (by decide +kernel))), va_Nw.of rfl (hts (Cond.methodLinkNest RX6 18 yX2_init RX6) (List.mem_of_getElem? (i := 154) (by decide +kernel))), va_Nw.of rfl (hts (Cond.methodLinkNest RX6 25 yX3_init RX6) (List.mem_of_getElem? (i := 202) (by decide +kernel))), va_Nw.of rfl (hts (Cond.methodLinkNest RX6 32 yX1_init RX6) (List.mem_of_getElem? (i := 250) (by decide +kernel))), va_Nw.of rfl (hts (Cond.methodLinkNest RX6 39 yX0_init RX6) (List.mem_of_getElem? (i := 277) (by decide +kernel))), va_Nw.of rfl (hts (Cond.methodLinkNest RX6 54 yX4_init RX6) (List.mem_of_getElem? (i := 307) (by decide +kernel)))⟩
theorem st_ao {s : State} {b : Nat} (hts : ∀ w ∈ lw_tbl, w.before #[Value.ref b] s = true) : zAo s := ⟨va_AO.of (hts (Cond.arrayOver (.object "ThreeDoors$Shelf")) (List.mem_of_getElem? (i := 305) (by decide +kernel))), hts (Cond.arrayOver (.array .int)) (List.mem_of_getElem? (i := 207) (by decide +kernel))⟩
set_option maxHeartbeats 4000000 in
set_option maxRecDepth 100000 in
theorem st_K {s : State} {b : Nat} (hts : ∀ w ∈ lw_tbl, w.before #[Value.ref b] s = true) : ∃ (D : va_G) (q : Nat → ClassId), va_K D vwCl (zT q) s := by
  have htb : ∀ w ∈ TB, w.before #[Value.ref b] s = true := fun w h => hts w (tb_lw h)
  obtain ⟨c0, i0, h0⟩ := u_known (C := RX0) (T := TX0) (N := 6) (n := 6) htb inlX0 (hts (Cond.instantiable RX0 6) (List.mem_of_getElem? (i := 276) (by decide +kernel)))
  obtain ⟨c1, i1, h1⟩ := u_known (C := RX1) (T := TX1) (N := 6) (n := 6) htb inlX1 (hts (Cond.instantiable RX1 6) (List.mem_of_getElem? (i := 249) (by decide +kernel)))
  obtain ⟨c2, i2, h2⟩ := u_known (C := RX2) (T := TX2) (N := 13) (n := 13) htb inlX2 (hts (Cond.instantiable RX2 13) (List.mem_of_getElem? (i := 153) (by decide +kernel)))
  obtain ⟨c3, i3, h3⟩ := u_known (C := RX3) (T := TX3) (N := 12) (n := 12) htb inlX3 (hts (Cond.instantiable RX3 12) (List.mem_of_getElem? (i := 201) (by decide +kernel)))
  obtain ⟨c4, i4, h4⟩ := u_known (C := RX4) (T := TX4) (N := 5) (n := 5) htb inlX4 (hts (Cond.instantiable RX4 5) (List.mem_of_getElem? (i := 306) (by decide +kernel)))
  obtain ⟨c5, i5, h5⟩ := u_known (C := RX5) (T := TX5) (N := 10) (n := 10) htb inlX5 (hts (Cond.instantiable RX5 10) (List.mem_of_getElem? (i := 98) (by decide +kernel)))
  obtain ⟨c6, i6, h6⟩ := u_known (C := RX6) (T := TX6) (N := 7) (n := 7) htb inlX6 (hts (Cond.instantiable RX6 7) (List.mem_of_getElem? (i := 90) (by decide +kernel)))
  obtain ⟨c7, i7, h7⟩ := u_known (C := RX7) (T := TX7) (N := 47) (n := 47) htb inlX7 (hts (Cond.instantiable RX7 47) (List.mem_of_getElem? (i := 808) (by decide +kernel)))
  obtain ⟨a0, p0, q0⟩ := st_arr (hts (Cond.arrayClass .int) (List.mem_of_getElem? (i := 151) (by decide +kernel)))
  obtain ⟨a1, p1, q1⟩ := st_arr (hts (Cond.arrayClass .byte) (List.mem_of_getElem? (i := 199) (by decide +kernel)))
  obtain ⟨a2, p2, q2⟩ := st_arr (hts (Cond.arrayClass .long) (List.mem_of_getElem? (i := 332) (by decide +kernel)))
  obtain ⟨a3, p3, q3⟩ := st_arr (hts (Cond.arrayClass .short) (List.mem_of_getElem? (i := 954) (by decide +kernel)))
  obtain ⟨a4, p4, q4⟩ := st_arr (hts (Cond.arrayClass .boolean) (List.mem_of_getElem? (i := 331) (by decide +kernel)))
  obtain ⟨hao1, hao2⟩ := st_ao hts
  obtain ⟨m5, a5, k5, e1, e2, e3, e4, e5⟩ := Cond.arrayOver_spec hao1
  obtain ⟨m6, a6, k6, f1, f2, f3, f4⟩ := Cond.arrayOver_specA hao2
  refine ⟨(fun k => match k with | 0 => c0 | 1 => c1 | 2 => c2 | 3 => c3 | 4 => c4 | 5 => c5 | 6 => c6 | _ => c7, fun k => match k with | 0 => i0 | 1 => i1 | 2 => i2 | 3 => i3 | 4 => i4 | 5 => i5 | 6 => i6 | _ => i7), (fun k => match k with | 0 => a0 | 1 => a1 | 2 => a2 | 3 => a3 | 4 => a4 | 5 => a5 | _ => a6), fun k x hk => ?_, fun k x hk => ?_⟩
  · match k, hk with
    | 0, hk => cases hk; exact h0
    | 1, hk => cases hk; exact h1
    | 2, hk => cases hk; exact h2
    | 3, hk => cases hk; exact h3
    | 4, hk => cases hk; exact h4
    | 5, hk => cases hk; exact h5
    | 6, hk => cases hk; exact h6
    | 7, hk => cases hk; exact h7
    | k + 8, hk => simp [vwCl] at hk
  · match k, hk with
    | 0, hk => cases hk; exact ⟨p0, q0⟩
    | 1, hk => cases hk; exact ⟨p1, q1⟩
    | 2, hk => cases hk; exact ⟨p2, q2⟩
    | 3, hk => cases hk; exact ⟨p3, q3⟩
    | 4, hk => cases hk; exact ⟨p4, q4⟩
    | 5, hk => cases hk; exact ⟨fun n z => ⟨fun k h => (by cases h), k5, e3, m5, e4⟩, k5, m5, e3, e4, e1, e5⟩
    | 6, hk => cases hk; exact ⟨fun n z => ⟨fun k h => (by cases h), k6, f2, m6, f3⟩, f4⟩
    | k + 7, hk => simp [zT] at hk
set_option maxHeartbeats 4000000 in
set_option maxRecDepth 100000 in
/-- THE LAW, from its entry -/
theorem whole_start {p : Program} {e : Env} {s : State} {m : MethodId} {below : List Frame} {meth : Method} {c : Code} (l : Launch) (hflags : l.flags = flags0) {b L : Nat} {xs : Nat → Int32} (hL : L ≤ 384) (C0 : lw_At p s m meth c b L xs) : W p l e room_1 s m #[Value.ref b] below meth c s.heap [] 0 0 (lw_Z below #[Value.ref b] s) (entryFrame m ([Value.ref b] : List Value).toArray 4) := by
  obtain ⟨hx, hb0, hr, hml, hown0, hts, hX, hbl, hlocks, hgv⟩ := id C0
  have htb : ∀ w ∈ TB, w.before #[Value.ref b] s = true := fun w h => hts w (tb_lw h)
  obtain ⟨D, q, hK⟩ := st_K hts
  have hAn : ∀ a : Nat, a < s.heap.size → ¬ (fun x : Nat => s.heap.size ≤ x) a := fun a h => Nat.not_le.mpr h
  obtain ⟨t1, g1, g2⟩ := st_OWN hts hgv hAn
  obtain ⟨t2, g3, g4⟩ := st_ABOVE hts hgv hAn
  have hb : c.code = cL_law := hb0
  have hC : zC p s m #[Value.ref b] c cL_law RL D q 4 (fun x : Nat => s.heap.size ≤ x) := ⟨hx, hb, hown0, htb, hK, hml, ⟨t1, t2, g1, g2, g3, g4⟩, st_ne hts⟩
  have hao := st_ao hts
  have hW : zW D (fun x : Nat => s.heap.size ≤ x) s.heap [] s.heap [] := ⟨fun k x h => by simp at h, ⟨fun i j x y h => by simp at h, fun k x h => by simp at h⟩, va_S.rf, fun x h => h⟩
  have hl := lv_entry ([.ref b]) (n := 4) (Nat.le_of_ble_eq_true rfl)
  rw [lg_entry_eq]
  generalize (lg_sl ([.ref b]) ++ List.replicate (4 - (lg_sl ([.ref b])).length) Slot.unset).toArray = ls at hl ⊢
  have hl : lv_has ls 4 [(0, .ref b)] := hl
  refine zk_new (ci := 6) (fs := [.null, .null, .null, .null, .null, .null, .null]) hC hW inlX6 tyX6_ok (tb_of (List.mem_of_getElem? (i := 89) (by decide +kernel)) rfl) (tb_of (List.mem_of_getElem? (i := 90) (by decide +kernel)) rfl) (tb_of (List.mem_of_getElem? (i := 78) (by decide +kernel)) rfl) rfl (zv_of (by decide)) (Nat.le_of_ble_eq_true rfl) (Nat.le_of_ble_eq_true rfl) dL_law_0 (fun x1 H hW => ?_)
  have hW : zW D (fun x : Nat => s.heap.size ≤ x) s.heap (([] : va_W) ++ ([(x1, .inr (6, [.null, .null, .null, .null, .null, .null, .null]))] : va_W)) H _ := hW
  refine lv_dup hx hb dL_law_3 rfl ?_
  refine zk_init (S := Nat → Nat) hC hao hW (c_X6_init (h0 := x1)) ⟨tb_of (List.mem_of_getElem? (i := 91) (by decide +kernel)) rfl, tb_of (List.mem_of_getElem? (i := 92) (by decide +kernel)) rfl, tb_of (List.mem_of_getElem? (i := 78) (by decide +kernel)) rfl, tb_of (List.mem_of_getElem? (i := 93) (by decide +kernel)) rfl⟩ rfl (by decide +kernel) ⟨rfl, rfl⟩ ⟨Nat.le_of_ble_eq_true rfl, Nat.le_of_ble_eq_true rfl⟩ hl.1 (Nat.le_of_ble_eq_true rfl) dL_law_4 ⟨Nat.le_of_ble_eq_true rfl, Nat.le_of_ble_eq_true rfl⟩ (fun ρ1 H1 locs1 hρ1 hW1 => ?_)
  subst hρ1
  refine lv_astore_n (lv' := [(1, .ref (ρ1 0)), (0, .ref b)]) hx hb dL_law_7 rfl hl (by decide) rfl (fun ls hl => ?_)
  refine zk_new (ci := 7) (fs := [.int 0, .int 0, .null, .null, .int 0, .null, .null, .int 0, .null, .null, .null, .int 0, .int 0, .int 0, .int 0, .null, .null, .null, .null, .null, .int 0, .int 0, .int 0, .int 0, .int 0, .null, .null, .null, .null, .null, .null, .null, .int 0, .null, .null, .null, .int 0, .null, .null, .int 0, .null, .int 0, .null, .null, .null, .null, .null]) hC hW1 inlX7 tyX7_ok (tb_of (List.mem_of_getElem? (i := 807) (by decide +kernel)) rfl) (tb_of (List.mem_of_getElem? (i := 808) (by decide +kernel)) rfl) (tb_of (List.mem_of_getElem? (i := 85) (by decide +kernel)) rfl) rfl (zv_of (by decide)) (Nat.le_of_ble_eq_true rfl) (Nat.le_of_ble_eq_true rfl) dL_law_8 (fun x2 H1 hW2 => ?_)
  refine lv_dup hx hb dL_law_11 rfl ?_
  refine zk_init (S := Nat → Nat) hC hao hW2 (c_X7_init (h0 := x2)) ⟨tb_of (List.mem_of_getElem? (i := 809) (by decide +kernel)) rfl, tb_of (List.mem_of_getElem? (i := 810) (by decide +kernel)) rfl, tb_of (List.mem_of_getElem? (i := 85) (by decide +kernel)) rfl, tb_of (List.mem_of_getElem? (i := 811) (by decide +kernel)) rfl⟩ rfl (by decide +kernel) ⟨rfl, rfl⟩ ⟨Nat.le_of_ble_eq_true rfl, Nat.le_of_ble_eq_true rfl⟩ hl.1 (Nat.le_of_ble_eq_true rfl) dL_law_12 ⟨Nat.le_of_ble_eq_true rfl, Nat.le_of_ble_eq_true rfl⟩ (fun ρ2 H2 locs2 hρ2 hW3 => ?_)
  subst hρ2
  refine lv_astore_n (lv' := [(2, .ref (ρ2 0)), (1, .ref (ρ1 0)), (0, .ref b)]) hx hb dL_law_15 rfl hl (by decide) rfl (fun ls hl => ?_)
  refine lv_iconst (v := 0) hx hb dL_law_16 (by decide) ?_
  refine lv_istore_n (lv' := [(3, .int 0), (2, .ref (ρ2 0)), (1, .ref (ρ1 0)), (0, .ref b)]) hx hb dL_law_17 rfl hl (by decide) rfl (fun ls hl => ?_)
  refine W.widen (k := 600000) (n := 7302250) (Nat.le_of_ble_eq_true rfl) (Nat.le_of_ble_eq_true rfl) ?_
  have hW := z_swap hW3
  exact law_loop hL hC hX hbl hr hlocks 65 (j := 0) (i := 0) rfl (by omega) (by omega) (LW_mk inv0 hW) (lv_sub hl [3, 2, 1, 0] rfl)
