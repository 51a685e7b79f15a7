section CT21_m12
variable {l : Launch} {D : va_G} {q : Nat → ClassId} {ρ : Nat → Nat} {sz : Nat} {M_code : Int32} {M_doors : Int32} {M_price : Nat → Int32} {M_year : Nat → Int32} {M_joins : Int32} {M_joinA : Nat → Int32} {M_joinB : Nat → Int32} {M_walls : Int32} {M_wallA : Nat → Int32} {M_wallB : Nat → Int32} {M_cost : Nat → Int32} {M_olds : Int32} {M_near : Int32} {M_doneMany : Int32} {M_undoneMany : Int32} {M_changeOf : Nat → Int32} {M_changeAt : Nat → Int32} {M_before : Nat → Int32} {M_behind : Nat → Int32} {M_tape : Nat → Int32} {M_taped : Int32} {M_here : Int32} {M_fault : Int32} {M_open : Int32} {M_laid : Int32} {M_act : Nat → Int32} {M_with : Nat → Int32} {M_lineMany : Nat → Int32} {M_testEnd : Nat → Int32} {M_lineEnd : Nat → Int32} {M_facts : Nat → Int32} {M_pile : Nat → Int32} {M_hasLaw : Int32} {M_far : Nat → Int32} {M_within : Nat → Int32} {M_tooNear : Nat → Int32} {M_dried : Int32} {M_isOn : Nat → Int32} {M_wasOn : Nat → Int32} {M_bodies : Int32} {M_kind : Nat → Int32} {M_traces : Int32} {M_traced : Nat → Int32} {M_holds : Nat → Int32} {M_size : Nat → Int32} {M_elements : Nat → Int64} {M_shifted : Nat → Int64}
set_option maxHeartbeats 4000000 in
set_option maxRecDepth 100000 in
theorem c_X7_wellOf {a1 : Int32} {a2 : Int32} {d : Nat} {res : Int32} (hd : 0 ≤ d) (h : f_X7_wellOf a1 a2 M_doors M_far = some res) : zMi l yX7_wellOf cX7_wellOf 5 .int (zrm d) [.ref (ρ 0), .int a1, .int a2] D q (WM q ρ M_code M_doors M_price M_year M_joins M_joinA M_joinB M_walls M_wallA M_wallB M_cost M_olds M_near M_doneMany M_undoneMany M_changeOf M_changeAt M_before M_behind M_tape M_taped M_here M_fault M_open M_laid M_act M_with M_lineMany M_testEnd M_lineEnd M_facts M_pile M_hasLaw M_far M_within M_tooNear M_dried M_isOn M_wasOn M_bodies M_kind M_traces M_traced M_holds M_size M_elements M_shifted) sz res (WM q ρ M_code M_doors M_price M_year M_joins M_joinA M_joinB M_walls M_wallA M_wallB M_cost M_olds M_near M_doneMany M_undoneMany M_changeOf M_changeAt M_before M_behind M_tape M_taped M_here M_fault M_open M_laid M_act M_with M_lineMany M_testEnd M_lineEnd M_facts M_pile M_hasLaw M_far M_within M_tooNear M_dried M_isOn M_wasOn M_bodies M_kind M_traces M_traced M_holds M_size M_elements M_shifted) := by
  refine zMet_i (own := RX7) _ (by decide) rfl (Nat.le_of_ble_eq_true rfl) ?_
  intro p e s m args below meth c A ls Q hC hW hl hret
  have hx := hC.1
  have hb := hC.2.1
  have hl : lv_has ls 5 [(0, .ref (ρ 0)), (1, .int a1), (2, .int a2)] := hl
  have b74 : ∀ {x1 : Int32} {x2 : Int32} {x3 : Int32} {x4 : Int32} {k5 : Int32 → Int32 → Option (Int32)} (hk5 : ∀ {x3 : Int32} {x4 : Int32} {H : Heap} {locs : List Loc} {ls : Array Slot}, k5 x3 x4 = some res → zW D A s.heap (WM q ρ M_code M_doors M_price M_year M_joins M_joinA M_joinB M_walls M_wallA M_wallB M_cost M_olds M_near M_doneMany M_undoneMany M_changeOf M_changeAt M_before M_behind M_tape M_taped M_here M_fault M_open M_laid M_act M_with M_lineMany M_testEnd M_lineEnd M_facts M_pile M_hasLaw M_far M_within M_tooNear M_dried M_isOn M_wasOn M_bodies M_kind M_traces M_traced M_holds M_size M_elements M_shifted) H locs → lv_has ls 5 [(0, .ref (ρ 0)), (1, .int x1), (2, .int x2), (3, .int x3), (4, .int x4)] → W p l e (zrm d) s m args below meth c H locs 0 0 Q (F0 m 5 ls [])) {H : Heap} {locs : List Loc} {ls : Array Slot}, f_X7_wellOf_b74 k5 x1 x2 x3 x4 M_doors M_far = some res → zW D A s.heap (WM q ρ M_code M_doors M_price M_year M_joins M_joinA M_joinB M_walls M_wallA M_wallB M_cost M_olds M_near M_doneMany M_undoneMany M_changeOf M_changeAt M_before M_behind M_tape M_taped M_here M_fault M_open M_laid M_act M_with M_lineMany M_testEnd M_lineEnd M_facts M_pile M_hasLaw M_far M_within M_tooNear M_dried M_isOn M_wasOn M_bodies M_kind M_traces M_traced M_holds M_size M_elements M_shifted) H locs → lv_has ls 5 [(0, .ref (ρ 0)), (1, .int x1), (2, .int x2), (3, .int x3), (4, .int x4)] → W p l e (zrm d) s m args below meth c H locs 0 0 Q (F0 m 74 ls []) := by
    intro x1 x2 x3 x4 k5 hk5 H locs ls h hW hl
    unfold f_X7_wellOf_b74 at h
    refine lv_iinc (v := (x4 + 1)) (lv' := [(4, .int (x4 + 1)), (0, .ref (ρ 0)), (1, .int x1), (2, .int x2), (3, .int x3)]) hx hb dX7_wellOf_74 hl (k := 4) rfl rfl (by decide) rfl (fun ls hl => ?_)
    refine lv_goto (tgt := 5) hx hb dX7_wellOf_77 (by decide) ?_
    exact hk5 h hW (lv_sub hl [1, 2, 3, 4, 0] rfl)
  have b71 : ∀ {x1 : Int32} {x2 : Int32} {x4 : Int32} {k5 : Int32 → Int32 → Option (Int32)} (hk5 : ∀ {x3 : Int32} {x4 : Int32} {H : Heap} {locs : List Loc} {ls : Array Slot}, k5 x3 x4 = some res → zW D A s.heap (WM q ρ M_code M_doors M_price M_year M_joins M_joinA M_joinB M_walls M_wallA M_wallB M_cost M_olds M_near M_doneMany M_undoneMany M_changeOf M_changeAt M_before M_behind M_tape M_taped M_here M_fault M_open M_laid M_act M_with M_lineMany M_testEnd M_lineEnd M_facts M_pile M_hasLaw M_far M_within M_tooNear M_dried M_isOn M_wasOn M_bodies M_kind M_traces M_traced M_holds M_size M_elements M_shifted) H locs → lv_has ls 5 [(0, .ref (ρ 0)), (1, .int x1), (2, .int x2), (3, .int x3), (4, .int x4)] → W p l e (zrm d) s m args below meth c H locs 0 0 Q (F0 m 5 ls [])) {H : Heap} {locs : List Loc} {ls : Array Slot}, f_X7_wellOf_b71 k5 x1 x2 x4 M_doors M_far = some res → zW D A s.heap (WM q ρ M_code M_doors M_price M_year M_joins M_joinA M_joinB M_walls M_wallA M_wallB M_cost M_olds M_near M_doneMany M_undoneMany M_changeOf M_changeAt M_before M_behind M_tape M_taped M_here M_fault M_open M_laid M_act M_with M_lineMany M_testEnd M_lineEnd M_facts M_pile M_hasLaw M_far M_within M_tooNear M_dried M_isOn M_wasOn M_bodies M_kind M_traces M_traced M_holds M_size M_elements M_shifted) H locs → lv_has ls 5 [(0, .ref (ρ 0)), (1, .int x1), (2, .int x2), (4, .int x4)] → W p l e (zrm d) s m args below meth c H locs 0 0 Q (F0 m 71 ls []) := by
    intro x1 x2 x4 k5 hk5 H locs ls h hW hl
    unfold f_X7_wellOf_b71 at h
    refine lv_iload hx hb dX7_wellOf_71 (lv_at hl 3 rfl) ?_
    refine lv_istore_n (lv' := [(3, .int x4), (0, .ref (ρ 0)), (1, .int x1), (2, .int x2), (4, .int x4)]) hx hb dX7_wellOf_73 rfl hl (by decide) rfl (fun ls hl => ?_)
    exact b74 hk5 h hW (lv_sub hl [1, 2, 3, 0, 4] rfl)
  have b5 : ∀ {x1 : Int32} {x2 : Int32} {n : Nat} {x3 : Int32} {x4 : Int32} {H : Heap} {locs : List Loc} {ls : Array Slot}, f_X7_wellOf_b5 x1 x2 M_doors M_far n x3 x4 = some res → zW D A s.heap (WM q ρ M_code M_doors M_price M_year M_joins M_joinA M_joinB M_walls M_wallA M_wallB M_cost M_olds M_near M_doneMany M_undoneMany M_changeOf M_changeAt M_before M_behind M_tape M_taped M_here M_fault M_open M_laid M_act M_with M_lineMany M_testEnd M_lineEnd M_facts M_pile M_hasLaw M_far M_within M_tooNear M_dried M_isOn M_wasOn M_bodies M_kind M_traces M_traced M_holds M_size M_elements M_shifted) H locs → lv_has ls 5 [(0, .ref (ρ 0)), (1, .int x1), (2, .int x2), (3, .int x3), (4, .int x4)] → W p l e (zrm d) s m args below meth c H locs 0 0 Q (F0 m 5 ls []) := by
    intro x1 x2
    intro n
    induction n with
    | zero =>
      intro x3 x4 H locs ls h
      rw [f_X7_wellOf_b5] at h
      cases h
    | succ n ih =>
      intro x3 x4 H locs ls h hW hl
      rw [f_X7_wellOf_b5] at h
      refine lv_iload hx hb dX7_wellOf_5 (lv_at hl 4 rfl) ?_
      refine lv_aload_n hx hb dX7_wellOf_7 rfl (lv_at hl 0 rfl) ?_
      refine z_get hC hW fg_X7_111 0 WM_0 rfl dX7_wellOf_8 ?_
      refine lv_icmp_ge (tgt := 80) hx hb dX7_wellOf_11 (by decide) (fun c1 => ?_) (fun c1 => ?_)
      · have h := ifp c1 h
        refine lv_iload_n hx hb dX7_wellOf_80 rfl (lv_at hl 3 rfl) ?_
        have h := Option.some.inj h
        subst h
        exact hret _ _ _ _ _ dX7_wellOf_81 rfl rfl hW
      · have h := ifn c1 h
        refine lv_iload_n hx hb dX7_wellOf_14 rfl (lv_at hl 1 rfl) ?_
        refine lv_iload hx hb dX7_wellOf_15 (lv_at hl 4 rfl) ?_
        refine lv_ishr hx hb dX7_wellOf_17 ?_
        refine lv_iconst (v := 1) hx hb dX7_wellOf_18 (by decide) ?_
        refine lv_iand hx hb dX7_wellOf_19 ?_
        refine lv_iconst (v := 1) hx hb dX7_wellOf_20 (by decide) ?_
        refine lv_icmp_ne (tgt := 74) hx hb dX7_wellOf_21 (by decide) (fun c2 => ?_) (fun c2 => ?_)
        · have h := ifn c2 h
          exact b74 ih h hW (lv_sub hl [0, 1, 2, 3, 4] rfl)
        · have h := ifp c2 h
          refine lv_aload_n hx hb dX7_wellOf_24 rfl (lv_at hl 0 rfl) ?_
          refine z_get hC hW fg_X7_73 0 WM_0 rfl dX7_wellOf_25 ?_
          refine lv_bipush (v := 14) hx hb dX7_wellOf_28 (by decide) ?_
          refine lv_iload_n hx hb dX7_wellOf_30 rfl (lv_at hl 2 rfl) ?_
          refine lv_imul hx hb dX7_wellOf_31 ?_
          refine lv_iload hx hb dX7_wellOf_32 (lv_at hl 4 rfl) ?_
          refine lv_iadd hx hb dX7_wellOf_34 ?_
          obtain ⟨g3, h⟩ := ix_some h
          refine z_iald hC hW 20 WM_20 g3 dX7_wellOf_35 ?_
          refine lv_bipush (v := 99) hx hb dX7_wellOf_36 (by decide) ?_
          refine lv_icmp_ge (tgt := 74) hx hb dX7_wellOf_38 (by decide) (fun c4 => ?_) (fun c4 => ?_)
          · have h := ifp c4 h
            exact b74 ih h hW (lv_sub hl [0, 1, 2, 3, 4] rfl)
          · have h := ifn c4 h
            refine lv_iload_n hx hb dX7_wellOf_41 rfl (lv_at hl 3 rfl) ?_
            refine lv_if_lt (tgt := 71) hx hb dX7_wellOf_42 (by decide) (fun c5 => ?_) (fun c5 => ?_)
            · have h := ifp c5 h
              exact b71 ih h hW (lv_sub hl [0, 1, 2, 4] rfl)
            · have h := ifn c5 h
              refine lv_aload_n hx hb dX7_wellOf_45 rfl (lv_at hl 0 rfl) ?_
              refine z_get hC hW fg_X7_73 0 WM_0 rfl dX7_wellOf_46 ?_
              refine lv_bipush (v := 14) hx hb dX7_wellOf_49 (by decide) ?_
              refine lv_iload_n hx hb dX7_wellOf_51 rfl (lv_at hl 2 rfl) ?_
              refine lv_imul hx hb dX7_wellOf_52 ?_
              refine lv_iload hx hb dX7_wellOf_53 (lv_at hl 4 rfl) ?_
              refine lv_iadd hx hb dX7_wellOf_55 ?_
              obtain ⟨g6, h⟩ := ix_some h
              refine z_iald hC hW 20 WM_20 g6 dX7_wellOf_56 ?_
              refine lv_aload_n hx hb dX7_wellOf_57 rfl (lv_at hl 0 rfl) ?_
              refine z_get hC hW fg_X7_73 0 WM_0 rfl dX7_wellOf_58 ?_
              refine lv_bipush (v := 14) hx hb dX7_wellOf_61 (by decide) ?_
              refine lv_iload_n hx hb dX7_wellOf_63 rfl (lv_at hl 2 rfl) ?_
              refine lv_imul hx hb dX7_wellOf_64 ?_
              refine lv_iload_n hx hb dX7_wellOf_65 rfl (lv_at hl 3 rfl) ?_
              refine lv_iadd hx hb dX7_wellOf_66 ?_
              obtain ⟨g7, h⟩ := ix_some h
              refine z_iald hC hW 20 WM_20 g7 dX7_wellOf_67 ?_
              refine lv_icmp_ge (tgt := 74) hx hb dX7_wellOf_68 (by decide) (fun c8 => ?_) (fun c8 => ?_)
              · have h := ifp c8 h
                exact b74 ih h hW (lv_sub hl [0, 1, 2, 3, 4] rfl)
              · have h := ifn c8 h
                exact b71 ih h hW (lv_sub hl [0, 1, 2, 4] rfl)
  unfold f_X7_wellOf at h
  refine lv_iconst (v := (-1)) hx hb dX7_wellOf_0 (by decide) ?_
  refine lv_istore_n (lv' := [(3, .int (-1)), (0, .ref (ρ 0)), (1, .int a1), (2, .int a2)]) hx hb dX7_wellOf_1 rfl hl (by decide) rfl (fun ls hl => ?_)
  refine lv_iconst (v := 0) hx hb dX7_wellOf_2 (by decide) ?_
  refine lv_istore (lv' := [(4, .int 0), (3, .int (-1)), (0, .ref (ρ 0)), (1, .int a1), (2, .int a2)]) hx hb dX7_wellOf_3 hl (by decide) rfl (fun ls hl => ?_)
  exact b5 h hW (lv_sub hl [2, 3, 4, 1, 0] rfl)
set_option maxHeartbeats 4000000 in
set_option maxRecDepth 100000 in
theorem c_X7_goes {a1 : Int32} {a2 : Int32} {d : Nat} {res : Int32 × (Nat → Int32)} (hd : 2 ≤ d) (h : f_X7_goes a1 a2 M_doors M_joins M_joinA M_joinB M_far = some res) : zMi l yX7_goes cX7_goes 4 .int (zrm d) [.ref (ρ 0), .int a1, .int a2] D q (WM q ρ M_code M_doors M_price M_year M_joins M_joinA M_joinB M_walls M_wallA M_wallB M_cost M_olds M_near M_doneMany M_undoneMany M_changeOf M_changeAt M_before M_behind M_tape M_taped M_here M_fault M_open M_laid M_act M_with M_lineMany M_testEnd M_lineEnd M_facts M_pile M_hasLaw M_far M_within M_tooNear M_dried M_isOn M_wasOn M_bodies M_kind M_traces M_traced M_holds M_size M_elements M_shifted) sz res.1 (WM q ρ M_code M_doors M_price M_year M_joins M_joinA M_joinB M_walls M_wallA M_wallB M_cost M_olds M_near M_doneMany M_undoneMany M_changeOf M_changeAt M_before M_behind M_tape M_taped M_here M_fault M_open M_laid M_act M_with M_lineMany M_testEnd M_lineEnd M_facts M_pile M_hasLaw res.2 M_within M_tooNear M_dried M_isOn M_wasOn M_bodies M_kind M_traces M_traced M_holds M_size M_elements M_shifted) := by
  refine zMet_i (own := RX7) _ (by decide) rfl (Nat.le_of_ble_eq_true rfl) ?_
  intro p e s m args below meth c A ls Q hC hW hl hret
  have hx := hC.1
  have hb := hC.2.1
  have hl : lv_has ls 4 [(0, .ref (ρ 0)), (1, .int a1), (2, .int a2)] := hl
  unfold f_X7_goes at h
  refine lv_aload_n hx hb dX7_goes_0 rfl (lv_at hl 0 rfl) ?_
  refine lv_iload_n hx hb dX7_goes_1 rfl (lv_at hl 1 rfl) ?_
  obtain ⟨u1, eu1, h⟩ := bd_some h
  refine z_callV_i hC hW (rest := []) (c_X7_isLaying (d := 0) (Nat.le_refl _) eu1) vw_X7_138 WM_0 rfl ⟨rfl, rfl⟩ (zrm_ok (by omega) (by decide)) rfl rfl hl.1 (Nat.le_of_ble_eq_true rfl) dX7_goes_2 (fun H locs hW => ?_)
  refine lv_if_eq (tgt := 16) hx hb dX7_goes_5 (by decide) (fun c2 => ?_) (fun c2 => ?_)
  · have h := ifp c2 h
    refine lv_iconst (v := (-1)) hx hb dX7_goes_16 (by decide) ?_
    have h := Option.some.inj h
    subst h
    exact hret _ _ _ _ _ dX7_goes_17 rfl rfl hW
  · have h := ifn c2 h
    refine lv_aload_n hx hb dX7_goes_8 rfl (lv_at hl 0 rfl) ?_
    refine lv_iload_n hx hb dX7_goes_9 rfl (lv_at hl 2 rfl) ?_
    obtain ⟨u3, eu3, h⟩ := bd_some h
    refine z_callV_i hC hW (rest := []) (c_X7_isDoor (d := 1) (Nat.le_refl _) eu3) vw_X7_118 WM_0 rfl ⟨rfl, rfl⟩ (zrm_ok (by omega) (by decide)) rfl rfl hl.1 (Nat.le_of_ble_eq_true rfl) dX7_goes_10 (fun H locs hW => ?_)
    refine lv_if_ne (tgt := 18) hx hb dX7_goes_13 (by decide) (fun c4 => ?_) (fun c4 => ?_)
    · have h := ifn c4 h
      refine lv_aload_n hx hb dX7_goes_18 rfl (lv_at hl 0 rfl) ?_
      refine lv_aload_n hx hb dX7_goes_19 rfl (lv_at hl 0 rfl) ?_
      obtain ⟨u5, eu5, h⟩ := bd_some h
      refine z_callV_i hC hW (rest := [.ref (ρ 0)]) (c_X7_allDoors (d := 0) (Nat.le_refl _) eu5) vw_X7_248 WM_0 rfl ⟨rfl, rfl⟩ (zrm_ok (by omega) (by decide)) rfl rfl hl.1 (Nat.le_of_ble_eq_true rfl) dX7_goes_20 (fun H locs hW => ?_)
      obtain ⟨u6, eu6, h⟩ := bd_some h
      refine z_callV_v hC hW (rest := []) (c_X7_findFar (d := 0) (Nat.le_refl _) eu6) vw_X7_244 WM_0 rfl ⟨rfl, rfl⟩ (zrm_ok (by omega) (by decide)) rfl rfl hl.1 (Nat.le_of_ble_eq_true rfl) dX7_goes_23 (fun H locs hW => ?_)
      refine lv_aload_n hx hb dX7_goes_26 rfl (lv_at hl 0 rfl) ?_
      refine lv_iload_n hx hb dX7_goes_27 rfl (lv_at hl 1 rfl) ?_
      refine lv_iload_n hx hb dX7_goes_28 rfl (lv_at hl 2 rfl) ?_
      obtain ⟨u7, eu7, h⟩ := bd_some h
      refine z_callV_i hC hW (rest := []) (c_X7_wellOf (d := 0) (Nat.le_refl _) eu7) vw_X7_291 WM_0 rfl ⟨rfl, rfl⟩ (zrm_ok (by omega) (by decide)) rfl rfl hl.1 (Nat.le_of_ble_eq_true rfl) dX7_goes_29 (fun H locs hW => ?_)
      refine lv_istore_n (lv' := [(3, .int u7), (0, .ref (ρ 0)), (1, .int a1), (2, .int a2)]) hx hb dX7_goes_32 rfl hl (by decide) rfl (fun ls hl => ?_)
      refine lv_iload_n hx hb dX7_goes_33 rfl (lv_at hl 0 rfl) ?_
      refine lv_if_ge (tgt := 42) hx hb dX7_goes_34 (by decide) (fun c8 => ?_) (fun c8 => ?_)
      · have h := ifp c8 h
        refine lv_iload_n hx hb dX7_goes_42 rfl (lv_at hl 0 rfl) ?_
        have h := Option.some.inj h
        subst h
        exact hret _ _ _ _ _ dX7_goes_43 rfl rfl hW
      · have h := ifn c8 h
        refine lv_bipush (v := (-2)) hx hb dX7_goes_37 (by decide) ?_
        refine lv_goto (tgt := 43) hx hb dX7_goes_39 (by decide) ?_
        have h := Option.some.inj h
        subst h
        exact hret _ _ _ _ _ dX7_goes_43 rfl rfl hW
    · have h := ifp c4 h
      refine lv_iconst (v := (-1)) hx hb dX7_goes_16 (by decide) ?_
      have h := Option.some.inj h
      subst h
      exact hret _ _ _ _ _ dX7_goes_17 rfl rfl hW
set_option maxHeartbeats 4000000 in
set_option maxRecDepth 100000 in
theorem c_X7_worth {a1 : Int32} {a2 : Int32} {d : Nat} {res : Int32 × (Nat → Int32)} (hd : 2 ≤ d) (h : f_X7_worth a1 a2 M_doors M_joins M_joinA M_joinB M_far = some res) : zMi l yX7_worth cX7_worth 5 .int (zrm d) [.ref (ρ 0), .int a1, .int a2] D q (WM q ρ M_code M_doors M_price M_year M_joins M_joinA M_joinB M_walls M_wallA M_wallB M_cost M_olds M_near M_doneMany M_undoneMany M_changeOf M_changeAt M_before M_behind M_tape M_taped M_here M_fault M_open M_laid M_act M_with M_lineMany M_testEnd M_lineEnd M_facts M_pile M_hasLaw M_far M_within M_tooNear M_dried M_isOn M_wasOn M_bodies M_kind M_traces M_traced M_holds M_size M_elements M_shifted) sz res.1 (WM q ρ M_code M_doors M_price M_year M_joins M_joinA M_joinB M_walls M_wallA M_wallB M_cost M_olds M_near M_doneMany M_undoneMany M_changeOf M_changeAt M_before M_behind M_tape M_taped M_here M_fault M_open M_laid M_act M_with M_lineMany M_testEnd M_lineEnd M_facts M_pile M_hasLaw res.2 M_within M_tooNear M_dried M_isOn M_wasOn M_bodies M_kind M_traces M_traced M_holds M_size M_elements M_shifted) := by
  refine zMet_i (own := RX7) _ (by decide) rfl (Nat.le_of_ble_eq_true rfl) ?_
  intro p e s m args below meth c A ls Q hC hW hl hret
  have hx := hC.1
  have hb := hC.2.1
  have hl : lv_has ls 5 [(0, .ref (ρ 0)), (1, .int a1), (2, .int a2)] := hl
  have b62 : ∀ {x1 : Int32} {x2 : Int32} {x3 : Int32} {x4 : Int32} {M_far : Nat → Int32} {k39 : Int32 → Int32 → Option (Int32 × (Nat → Int32))} (hk39 : ∀ {x3 : Int32} {x4 : Int32} {H : Heap} {locs : List Loc} {ls : Array Slot}, k39 x3 x4 = some res → zW D A s.heap (WM q ρ M_code M_doors M_price M_year M_joins M_joinA M_joinB M_walls M_wallA M_wallB M_cost M_olds M_near M_doneMany M_undoneMany M_changeOf M_changeAt M_before M_behind M_tape M_taped M_here M_fault M_open M_laid M_act M_with M_lineMany M_testEnd M_lineEnd M_facts M_pile M_hasLaw M_far M_within M_tooNear M_dried M_isOn M_wasOn M_bodies M_kind M_traces M_traced M_holds M_size M_elements M_shifted) H locs → lv_has ls 5 [(0, .ref (ρ 0)), (1, .int x1), (2, .int x2), (3, .int x3), (4, .int x4)] → W p l e (zrm d) s m args below meth c H locs 0 0 Q (F0 m 39 ls [])) {H : Heap} {locs : List Loc} {ls : Array Slot}, f_X7_worth_b62 k39 x1 x2 x3 x4 M_doors M_far = some res → zW D A s.heap (WM q ρ M_code M_doors M_price M_year M_joins M_joinA M_joinB M_walls M_wallA M_wallB M_cost M_olds M_near M_doneMany M_undoneMany M_changeOf M_changeAt M_before M_behind M_tape M_taped M_here M_fault M_open M_laid M_act M_with M_lineMany M_testEnd M_lineEnd M_facts M_pile M_hasLaw M_far M_within M_tooNear M_dried M_isOn M_wasOn M_bodies M_kind M_traces M_traced M_holds M_size M_elements M_shifted) H locs → lv_has ls 5 [(0, .ref (ρ 0)), (1, .int x1), (2, .int x2), (3, .int x3), (4, .int x4)] → W p l e (zrm d) s m args below meth c H locs 0 0 Q (F0 m 62 ls []) := by
    intro x1 x2 x3 x4 M_far k39 hk39 H locs ls h hW hl
    unfold f_X7_worth_b62 at h
    refine lv_iinc (v := (x4 + 1)) (lv' := [(4, .int (x4 + 1)), (0, .ref (ρ 0)), (1, .int x1), (2, .int x2), (3, .int x3)]) hx hb dX7_worth_62 hl (k := 4) rfl rfl (by decide) rfl (fun ls hl => ?_)
    refine lv_goto (tgt := 39) hx hb dX7_worth_65 (by decide) ?_
    exact hk39 h hW (lv_sub hl [1, 2, 3, 4, 0] rfl)
  have b39 : ∀ {x1 : Int32} {x2 : Int32} {M_far : Nat → Int32} {n : Nat} {x3 : Int32} {x4 : Int32} {H : Heap} {locs : List Loc} {ls : Array Slot}, f_X7_worth_b39 x1 x2 M_doors M_far n x3 x4 = some res → zW D A s.heap (WM q ρ M_code M_doors M_price M_year M_joins M_joinA M_joinB M_walls M_wallA M_wallB M_cost M_olds M_near M_doneMany M_undoneMany M_changeOf M_changeAt M_before M_behind M_tape M_taped M_here M_fault M_open M_laid M_act M_with M_lineMany M_testEnd M_lineEnd M_facts M_pile M_hasLaw M_far M_within M_tooNear M_dried M_isOn M_wasOn M_bodies M_kind M_traces M_traced M_holds M_size M_elements M_shifted) H locs → lv_has ls 5 [(0, .ref (ρ 0)), (1, .int x1), (2, .int x2), (3, .int x3), (4, .int x4)] → W p l e (zrm d) s m args below meth c H locs 0 0 Q (F0 m 39 ls []) := by
    intro x1 x2 M_far
    intro n
    induction n with
    | zero =>
      intro x3 x4 H locs ls h
      rw [f_X7_worth_b39] at h
      cases h
    | succ n ih =>
      intro x3 x4 H locs ls h hW hl
      rw [f_X7_worth_b39] at h
      refine lv_iload hx hb dX7_worth_39 (lv_at hl 4 rfl) ?_
      refine lv_aload_n hx hb dX7_worth_41 rfl (lv_at hl 0 rfl) ?_
      refine z_get hC hW fg_X7_111 0 WM_0 rfl dX7_worth_42 ?_
      refine lv_icmp_ge (tgt := 68) hx hb dX7_worth_45 (by decide) (fun c8 => ?_) (fun c8 => ?_)
      · have h := ifp c8 h
        refine lv_iload_n hx hb dX7_worth_68 rfl (lv_at hl 3 rfl) ?_
        have h := Option.some.inj h
        subst h
        exact hret _ _ _ _ _ dX7_worth_69 rfl rfl hW
      · have h := ifn c8 h
        refine lv_aload_n hx hb dX7_worth_48 rfl (lv_at hl 0 rfl) ?_
        refine lv_iload_n hx hb dX7_worth_49 rfl (lv_at hl 1 rfl) ?_
        refine lv_iload hx hb dX7_worth_50 (lv_at hl 4 rfl) ?_
        obtain ⟨u9, eu9, h⟩ := bd_some h
        refine z_callV_i hC hW (rest := []) (c_X7_wellOf (d := 0) (Nat.le_refl _) eu9) vw_X7_291 WM_0 rfl ⟨rfl, rfl⟩ (zrm_ok (by omega) (by decide)) rfl rfl hl.1 (Nat.le_of_ble_eq_true rfl) dX7_worth_52 (fun H locs hW => ?_)
        refine lv_iload_n hx hb dX7_worth_55 rfl (lv_at hl 2 rfl) ?_
        refine lv_icmp_ne (tgt := 62) hx hb dX7_worth_56 (by decide) (fun c10 => ?_) (fun c10 => ?_)
        · have h := ifn c10 h
          exact b62 ih h hW (lv_sub hl [0, 1, 2, 3, 4] rfl)
        · have h := ifp c10 h
          refine lv_iinc (v := (x3 + 1)) (lv' := [(3, .int (x3 + 1)), (0, .ref (ρ 0)), (1, .int x1), (2, .int x2), (4, .int x4)]) hx hb dX7_worth_59 hl (k := 3) rfl rfl (by decide) rfl (fun ls hl => ?_)
          exact b62 ih h hW (lv_sub hl [1, 2, 3, 0, 4] rfl)
  unfold f_X7_worth at h
  refine lv_aload_n hx hb dX7_worth_0 rfl (lv_at hl 0 rfl) ?_
  refine lv_iload_n hx hb dX7_worth_1 rfl (lv_at hl 1 rfl) ?_
  obtain ⟨u1, eu1, h⟩ := bd_some h
  refine z_callV_i hC hW (rest := []) (c_X7_isLaying (d := 0) (Nat.le_refl _) eu1) vw_X7_138 WM_0 rfl ⟨rfl, rfl⟩ (zrm_ok (by omega) (by decide)) rfl rfl hl.1 (Nat.le_of_ble_eq_true rfl) dX7_worth_2 (fun H locs hW => ?_)
  refine lv_if_eq (tgt := 24) hx hb dX7_worth_5 (by decide) (fun c2 => ?_) (fun c2 => ?_)
  · have h := ifp c2 h
    refine lv_iconst (v := (-1)) hx hb dX7_worth_24 (by decide) ?_
    have h := Option.some.inj h
    subst h
    exact hret _ _ _ _ _ dX7_worth_25 rfl rfl hW
  · have h := ifn c2 h
    refine lv_aload_n hx hb dX7_worth_8 rfl (lv_at hl 0 rfl) ?_
    refine lv_iload_n hx hb dX7_worth_9 rfl (lv_at hl 2 rfl) ?_
    obtain ⟨u3, eu3, h⟩ := bd_some h
    refine z_callV_i hC hW (rest := []) (c_X7_isDoor (d := 1) (Nat.le_refl _) eu3) vw_X7_118 WM_0 rfl ⟨rfl, rfl⟩ (zrm_ok (by omega) (by decide)) rfl rfl hl.1 (Nat.le_of_ble_eq_true rfl) dX7_worth_10 (fun H locs hW => ?_)
    refine lv_if_eq (tgt := 24) hx hb dX7_worth_13 (by decide) (fun c4 => ?_) (fun c4 => ?_)
    · have h := ifp c4 h
      refine lv_iconst (v := (-1)) hx hb dX7_worth_24 (by decide) ?_
      have h := Option.some.inj h
      subst h
      exact hret _ _ _ _ _ dX7_worth_25 rfl rfl hW
    · have h := ifn c4 h
      refine lv_iload_n hx hb dX7_worth_16 rfl (lv_at hl 1 rfl) ?_
      refine lv_iload_n hx hb dX7_worth_17 rfl (lv_at hl 2 rfl) ?_
      refine lv_ishr hx hb dX7_worth_18 ?_
      refine lv_iconst (v := 1) hx hb dX7_worth_19 (by decide) ?_
      refine lv_iand hx hb dX7_worth_20 ?_
      refine lv_if_ne (tgt := 26) hx hb dX7_worth_21 (by decide) (fun c5 => ?_) (fun c5 => ?_)
      · have h := ifn c5 h
        refine lv_aload_n hx hb dX7_worth_26 rfl (lv_at hl 0 rfl) ?_
        refine lv_aload_n hx hb dX7_worth_27 rfl (lv_at hl 0 rfl) ?_
        obtain ⟨u6, eu6, h⟩ := bd_some h
        refine z_callV_i hC hW (rest := [.ref (ρ 0)]) (c_X7_allDoors (d := 0) (Nat.le_refl _) eu6) vw_X7_248 WM_0 rfl ⟨rfl, rfl⟩ (zrm_ok (by omega) (by decide)) rfl rfl hl.1 (Nat.le_of_ble_eq_true rfl) dX7_worth_28 (fun H locs hW => ?_)
        obtain ⟨u7, eu7, h⟩ := bd_some h
        refine z_callV_v hC hW (rest := []) (c_X7_findFar (d := 0) (Nat.le_refl _) eu7) vw_X7_244 WM_0 rfl ⟨rfl, rfl⟩ (zrm_ok (by omega) (by decide)) rfl rfl hl.1 (Nat.le_of_ble_eq_true rfl) dX7_worth_31 (fun H locs hW => ?_)
        refine lv_iconst (v := 0) hx hb dX7_worth_34 (by decide) ?_
        refine lv_istore_n (lv' := [(3, .int 0), (0, .ref (ρ 0)), (1, .int a1), (2, .int a2)]) hx hb dX7_worth_35 rfl hl (by decide) rfl (fun ls hl => ?_)
        refine lv_iconst (v := 0) hx hb dX7_worth_36 (by decide) ?_
        refine lv_istore (lv' := [(4, .int 0), (3, .int 0), (0, .ref (ρ 0)), (1, .int a1), (2, .int a2)]) hx hb dX7_worth_37 hl (by decide) rfl (fun ls hl => ?_)
        exact b39 h hW (lv_sub hl [2, 3, 4, 1, 0] rfl)
      · have h := ifp c5 h
        refine lv_iconst (v := (-1)) hx hb dX7_worth_24 (by decide) ?_
        have h := Option.some.inj h
        subst h
        exact hret _ _ _ _ _ dX7_worth_25 rfl rfl hW
set_option maxHeartbeats 4000000 in
set_option maxRecDepth 100000 in
theorem c_X7_steps {a1 : Int32} {a2 : Int32} {d : Nat} {res : Int32 × (Nat → Int32)} (hd : 1 ≤ d) (h : f_X7_steps a1 a2 M_doors M_joins M_joinA M_joinB M_far = some res) : zMi l yX7_steps cX7_steps 8 .int (zrm d) [.ref (ρ 0), .int a1, .int a2] D q (WM q ρ M_code M_doors M_price M_year M_joins M_joinA M_joinB M_walls M_wallA M_wallB M_cost M_olds M_near M_doneMany M_undoneMany M_changeOf M_changeAt M_before M_behind M_tape M_taped M_here M_fault M_open M_laid M_act M_with M_lineMany M_testEnd M_lineEnd M_facts M_pile M_hasLaw M_far M_within M_tooNear M_dried M_isOn M_wasOn M_bodies M_kind M_traces M_traced M_holds M_size M_elements M_shifted) sz res.1 (WM q ρ M_code M_doors M_price M_year M_joins M_joinA M_joinB M_walls M_wallA M_wallB M_cost M_olds M_near M_doneMany M_undoneMany M_changeOf M_changeAt M_before M_behind M_tape M_taped M_here M_fault M_open M_laid M_act M_with M_lineMany M_testEnd M_lineEnd M_facts M_pile M_hasLaw res.2 M_within M_tooNear M_dried M_isOn M_wasOn M_bodies M_kind M_traces M_traced M_holds M_size M_elements M_shifted) := by
  refine zMet_i (own := RX7) _ (by decide) rfl (Nat.le_of_ble_eq_true rfl) ?_
  intro p e s m args below meth c A ls Q hC hW hl hret
  have hx := hC.1
  have hb := hC.2.1
  have hl : lv_has ls 8 [(0, .ref (ρ 0)), (1, .int a1), (2, .int a2)] := hl
  have b99 : ∀ {x1 : Int32} {x2 : Int32} {x3 : Int32} {x4 : Int32} {x5 : Int32} {M_far : Nat → Int32} {k35 : Int32 → Int32 → Int32 → Option (Int32 × (Nat → Int32))} (hk35 : ∀ {x3 : Int32} {x4 : Int32} {x5 : Int32} {H : Heap} {locs : List Loc} {ls : Array Slot}, k35 x3 x4 x5 = some res → zW D A s.heap (WM q ρ M_code M_doors M_price M_year M_joins M_joinA M_joinB M_walls M_wallA M_wallB M_cost M_olds M_near M_doneMany M_undoneMany M_changeOf M_changeAt M_before M_behind M_tape M_taped M_here M_fault M_open M_laid M_act M_with M_lineMany M_testEnd M_lineEnd M_facts M_pile M_hasLaw M_far M_within M_tooNear M_dried M_isOn M_wasOn M_bodies M_kind M_traces M_traced M_holds M_size M_elements M_shifted) H locs → lv_has ls 8 [(0, .ref (ρ 0)), (1, .int x1), (2, .int x2), (3, .int x3), (4, .int x4), (5, .int x5)] → W p l e (zrm d) s m args below meth c H locs 0 0 Q (F0 m 35 ls [])) {H : Heap} {locs : List Loc} {ls : Array Slot}, f_X7_steps_b99 k35 x1 x2 x3 x4 x5 M_doors M_far = some res → zW D A s.heap (WM q ρ M_code M_doors M_price M_year M_joins M_joinA M_joinB M_walls M_wallA M_wallB M_cost M_olds M_near M_doneMany M_undoneMany M_changeOf M_changeAt M_before M_behind M_tape M_taped M_here M_fault M_open M_laid M_act M_with M_lineMany M_testEnd M_lineEnd M_facts M_pile M_hasLaw M_far M_within M_tooNear M_dried M_isOn M_wasOn M_bodies M_kind M_traces M_traced M_holds M_size M_elements M_shifted) H locs → lv_has ls 8 [(0, .ref (ρ 0)), (1, .int x1), (2, .int x2), (3, .int x3), (4, .int x4), (5, .int x5)] → W p l e (zrm d) s m args below meth c H locs 0 0 Q (F0 m 99 ls []) := by
    intro x1 x2 x3 x4 x5 M_far k35 hk35 H locs ls h hW hl
    unfold f_X7_steps_b99 at h
    refine lv_iinc (v := (x5 + 1)) (lv' := [(5, .int (x5 + 1)), (0, .ref (ρ 0)), (1, .int x1), (2, .int x2), (3, .int x3), (4, .int x4)]) hx hb dX7_steps_99 hl (k := 5) rfl rfl (by decide) rfl (fun ls hl => ?_)
    refine lv_goto (tgt := 35) hx hb dX7_steps_102 (by decide) ?_
    exact hk35 h hW (lv_sub hl [1, 2, 3, 4, 5, 0] rfl)
  have b88 : ∀ {x1 : Int32} {x2 : Int32} {x3 : Int32} {x4 : Int32} {x5 : Int32} {x7 : Int32} {M_far : Nat → Int32} {k35 : Int32 → Int32 → Int32 → Option (Int32 × (Nat → Int32))} (hk35 : ∀ {x3 : Int32} {x4 : Int32} {x5 : Int32} {H : Heap} {locs : List Loc} {ls : Array Slot}, k35 x3 x4 x5 = some res → zW D A s.heap (WM q ρ M_code M_doors M_price M_year M_joins M_joinA M_joinB M_walls M_wallA M_wallB M_cost M_olds M_near M_doneMany M_undoneMany M_changeOf M_changeAt M_before M_behind M_tape M_taped M_here M_fault M_open M_laid M_act M_with M_lineMany M_testEnd M_lineEnd M_facts M_pile M_hasLaw M_far M_within M_tooNear M_dried M_isOn M_wasOn M_bodies M_kind M_traces M_traced M_holds M_size M_elements M_shifted) H locs → lv_has ls 8 [(0, .ref (ρ 0)), (1, .int x1), (2, .int x2), (3, .int x3), (4, .int x4), (5, .int x5)] → W p l e (zrm d) s m args below meth c H locs 0 0 Q (F0 m 35 ls [])) {H : Heap} {locs : List Loc} {ls : Array Slot}, f_X7_steps_b88 k35 x1 x2 x3 x4 x5 x7 M_doors M_far = some res → zW D A s.heap (WM q ρ M_code M_doors M_price M_year M_joins M_joinA M_joinB M_walls M_wallA M_wallB M_cost M_olds M_near M_doneMany M_undoneMany M_changeOf M_changeAt M_before M_behind M_tape M_taped M_here M_fault M_open M_laid M_act M_with M_lineMany M_testEnd M_lineEnd M_facts M_pile M_hasLaw M_far M_within M_tooNear M_dried M_isOn M_wasOn M_bodies M_kind M_traces M_traced M_holds M_size M_elements M_shifted) H locs → lv_has ls 8 [(0, .ref (ρ 0)), (1, .int x1), (2, .int x2), (3, .int x3), (4, .int x4), (5, .int x5), (7, .int x7)] → W p l e (zrm d) s m args below meth c H locs 0 0 Q (F0 m 88 ls []) := by
    intro x1 x2 x3 x4 x5 x7 M_far k35 hk35 H locs ls h hW hl
    unfold f_X7_steps_b88 at h
    refine lv_iload hx hb dX7_steps_88 (lv_at hl 6 rfl) ?_
    refine lv_iload hx hb dX7_steps_90 (lv_at hl 4 rfl) ?_
    refine lv_icmp_le (tgt := 99) hx hb dX7_steps_92 (by decide) (fun c13 => ?_) (fun c13 => ?_)
    · have h := ifp c13 h
      exact b99 hk35 h hW (lv_sub hl [0, 1, 2, 3, 4, 5] rfl)
    · have h := ifn c13 h
      refine lv_iload hx hb dX7_steps_95 (lv_at hl 6 rfl) ?_
      refine lv_istore (lv' := [(4, .int x7), (0, .ref (ρ 0)), (1, .int x1), (2, .int x2), (3, .int x3), (5, .int x5), (7, .int x7)]) hx hb dX7_steps_97 hl (by decide) rfl (fun ls hl => ?_)
      exact b99 hk35 h hW (lv_sub hl [1, 2, 3, 4, 0, 5] rfl)
  have b76 : ∀ {x1 : Int32} {x2 : Int32} {x3 : Int32} {x4 : Int32} {x5 : Int32} {x6 : Int32} {s0 : Int32} {M_far : Nat → Int32} {k35 : Int32 → Int32 → Int32 → Option (Int32 × (Nat → Int32))} (hk35 : ∀ {x3 : Int32} {x4 : Int32} {x5 : Int32} {H : Heap} {locs : List Loc} {ls : Array Slot}, k35 x3 x4 x5 = some res → zW D A s.heap (WM q ρ M_code M_doors M_price M_year M_joins M_joinA M_joinB M_walls M_wallA M_wallB M_cost M_olds M_near M_doneMany M_undoneMany M_changeOf M_changeAt M_before M_behind M_tape M_taped M_here M_fault M_open M_laid M_act M_with M_lineMany M_testEnd M_lineEnd M_facts M_pile M_hasLaw M_far M_within M_tooNear M_dried M_isOn M_wasOn M_bodies M_kind M_traces M_traced M_holds M_size M_elements M_shifted) H locs → lv_has ls 8 [(0, .ref (ρ 0)), (1, .int x1), (2, .int x2), (3, .int x3), (4, .int x4), (5, .int x5)] → W p l e (zrm d) s m args below meth c H locs 0 0 Q (F0 m 35 ls [])) {H : Heap} {locs : List Loc} {ls : Array Slot}, f_X7_steps_b76 k35 x1 x2 x3 x4 x5 x6 s0 M_doors M_far = some res → zW D A s.heap (WM q ρ M_code M_doors M_price M_year M_joins M_joinA M_joinB M_walls M_wallA M_wallB M_cost M_olds M_near M_doneMany M_undoneMany M_changeOf M_changeAt M_before M_behind M_tape M_taped M_here M_fault M_open M_laid M_act M_with M_lineMany M_testEnd M_lineEnd M_facts M_pile M_hasLaw M_far M_within M_tooNear M_dried M_isOn M_wasOn M_bodies M_kind M_traces M_traced M_holds M_size M_elements M_shifted) H locs → lv_has ls 8 [(0, .ref (ρ 0)), (1, .int x1), (2, .int x2), (3, .int x3), (4, .int x4), (5, .int x5), (6, .int x6)] → W p l e (zrm d) s m args below meth c H locs 0 0 Q (F0 m 76 ls [.int s0]) := by
    intro x1 x2 x3 x4 x5 x6 s0 M_far k35 hk35 H locs ls h hW hl
    unfold f_X7_steps_b76 at h
    refine lv_istore (lv' := [(7, .int s0), (0, .ref (ρ 0)), (1, .int x1), (2, .int x2), (3, .int x3), (4, .int x4), (5, .int x5), (6, .int x6)]) hx hb dX7_steps_76 hl (by decide) rfl (fun ls hl => ?_)
    refine lv_iload hx hb dX7_steps_78 (lv_at hl 7 rfl) ?_
    refine lv_if_lt (tgt := 88) hx hb dX7_steps_80 (by decide) (fun c12 => ?_) (fun c12 => ?_)
    · have h := ifp c12 h
      exact b88 hk35 h hW (lv_sub hl [1, 2, 3, 4, 5, 6, 0] rfl)
    · have h := ifn c12 h
      refine lv_iload_n hx hb dX7_steps_83 rfl (lv_at hl 4 rfl) ?_
      refine lv_iload hx hb dX7_steps_84 (lv_at hl 0 rfl) ?_
      refine lv_iadd hx hb dX7_steps_86 ?_
      refine lv_istore_n (lv' := [(3, .int (x3 + s0)), (7, .int s0), (0, .ref (ρ 0)), (1, .int x1), (2, .int x2), (4, .int x4), (5, .int x5), (6, .int x6)]) hx hb dX7_steps_87 rfl hl (by decide) rfl (fun ls hl => ?_)
      exact b88 hk35 h hW (lv_sub hl [2, 3, 4, 0, 5, 6, 1] rfl)
  have b35 : ∀ {x1 : Int32} {x2 : Int32} {M_far : Nat → Int32} {n : Nat} {x3 : Int32} {x4 : Int32} {x5 : Int32} {H : Heap} {locs : List Loc} {ls : Array Slot}, f_X7_steps_b35 x1 x2 M_doors M_far n x3 x4 x5 = some res → zW D A s.heap (WM q ρ M_code M_doors M_price M_year M_joins M_joinA M_joinB M_walls M_wallA M_wallB M_cost M_olds M_near M_doneMany M_undoneMany M_changeOf M_changeAt M_before M_behind M_tape M_taped M_here M_fault M_open M_laid M_act M_with M_lineMany M_testEnd M_lineEnd M_facts M_pile M_hasLaw M_far M_within M_tooNear M_dried M_isOn M_wasOn M_bodies M_kind M_traces M_traced M_holds M_size M_elements M_shifted) H locs → lv_has ls 8 [(0, .ref (ρ 0)), (1, .int x1), (2, .int x2), (3, .int x3), (4, .int x4), (5, .int x5)] → W p l e (zrm d) s m args below meth c H locs 0 0 Q (F0 m 35 ls []) := by
    intro x1 x2 M_far
    intro n
    induction n with
    | zero =>
      intro x3 x4 x5 H locs ls h
      rw [f_X7_steps_b35] at h
      cases h
    | succ n ih =>
      intro x3 x4 x5 H locs ls h hW hl
      rw [f_X7_steps_b35] at h
      refine lv_iload hx hb dX7_steps_35 (lv_at hl 5 rfl) ?_
      refine lv_aload_n hx hb dX7_steps_37 rfl (lv_at hl 0 rfl) ?_
      refine z_get hC hW fg_X7_111 0 WM_0 rfl dX7_steps_38 ?_
      refine lv_icmp_ge (tgt := 105) hx hb dX7_steps_41 (by decide) (fun c7 => ?_) (fun c7 => ?_)
      · have h := ifp c7 h
        refine lv_iload_n hx hb dX7_steps_105 rfl (lv_at hl 2 rfl) ?_
        refine lv_if_ne (tgt := 113) hx hb dX7_steps_106 (by decide) (fun c8 => ?_) (fun c8 => ?_)
        · have h := ifn c8 h
          refine lv_iload hx hb dX7_steps_113 (lv_at hl 4 rfl) ?_
          have h := Option.some.inj h
          subst h
          exact hret _ _ _ _ _ dX7_steps_115 rfl rfl hW
        · have h := ifp c8 h
          refine lv_iload_n hx hb dX7_steps_109 rfl (lv_at hl 3 rfl) ?_
          refine lv_goto (tgt := 115) hx hb dX7_steps_110 (by decide) ?_
          have h := Option.some.inj h
          subst h
          exact hret _ _ _ _ _ dX7_steps_115 rfl rfl hW
      · have h := ifn c7 h
        refine lv_aload_n hx hb dX7_steps_44 rfl (lv_at hl 0 rfl) ?_
        refine lv_iload_n hx hb dX7_steps_45 rfl (lv_at hl 1 rfl) ?_
        refine lv_iload hx hb dX7_steps_46 (lv_at hl 5 rfl) ?_
        obtain ⟨u9, eu9, h⟩ := bd_some h
        refine z_callV_i hC hW (rest := []) (c_X7_wellOf (d := 0) (Nat.le_refl _) eu9) vw_X7_291 WM_0 rfl ⟨rfl, rfl⟩ (zrm_ok (by omega) (by decide)) rfl rfl hl.1 (Nat.le_of_ble_eq_true rfl) dX7_steps_48 (fun H locs hW => ?_)
        refine lv_istore (lv' := [(6, .int u9), (0, .ref (ρ 0)), (1, .int x1), (2, .int x2), (3, .int x3), (4, .int x4), (5, .int x5)]) hx hb dX7_steps_51 hl (by decide) rfl (fun ls hl => ?_)
        refine lv_iload hx hb dX7_steps_53 (lv_at hl 0 rfl) ?_
        refine lv_if_ge (tgt := 63) hx hb dX7_steps_55 (by decide) (fun c10 => ?_) (fun c10 => ?_)
        · have h := ifp c10 h
          refine lv_aload_n hx hb dX7_steps_63 rfl (lv_at hl 1 rfl) ?_
          refine z_get hC hW fg_X7_73 0 WM_0 rfl dX7_steps_64 ?_
          refine lv_bipush (v := 14) hx hb dX7_steps_67 (by decide) ?_
          refine lv_iload hx hb dX7_steps_69 (lv_at hl 6 rfl) ?_
          refine lv_imul hx hb dX7_steps_71 ?_
          refine lv_iload hx hb dX7_steps_72 (lv_at hl 0 rfl) ?_
          refine lv_iadd hx hb dX7_steps_74 ?_
          obtain ⟨g11, h⟩ := ix_some h
          refine z_iald hC hW 20 WM_20 g11 dX7_steps_75 ?_
          exact b76 ih h hW (lv_sub hl [1, 2, 3, 4, 5, 6, 0] rfl)
        · have h := ifn c10 h
          refine lv_bipush (v := 99) hx hb dX7_steps_58 (by decide) ?_
          refine lv_goto (tgt := 76) hx hb dX7_steps_60 (by decide) ?_
          exact b76 ih h hW (lv_sub hl [1, 2, 3, 4, 5, 6, 0] rfl)
  unfold f_X7_steps at h
  refine lv_aload_n hx hb dX7_steps_0 rfl (lv_at hl 0 rfl) ?_
  refine lv_iload_n hx hb dX7_steps_1 rfl (lv_at hl 1 rfl) ?_
  obtain ⟨u1, eu1, h⟩ := bd_some h
  refine z_callV_i hC hW (rest := []) (c_X7_isLaying (d := 0) (Nat.le_refl _) eu1) vw_X7_138 WM_0 rfl ⟨rfl, rfl⟩ (zrm_ok (by omega) (by decide)) rfl rfl hl.1 (Nat.le_of_ble_eq_true rfl) dX7_steps_2 (fun H locs hW => ?_)
  refine lv_if_eq (tgt := 17) hx hb dX7_steps_5 (by decide) (fun c2 => ?_) (fun c2 => ?_)
  · have h := ifp c2 h
    refine lv_iconst (v := (-1)) hx hb dX7_steps_17 (by decide) ?_
    have h := Option.some.inj h
    subst h
    exact hret _ _ _ _ _ dX7_steps_18 rfl rfl hW
  · have h := ifn c2 h
    refine lv_iload_n hx hb dX7_steps_8 rfl (lv_at hl 2 rfl) ?_
    refine lv_iconst (v := 0) hx hb dX7_steps_9 (by decide) ?_
    refine lv_iconst (v := 1) hx hb dX7_steps_10 (by decide) ?_
    obtain ⟨u3, eu3, h⟩ := bd_some h
    refine z_callS_i hC hW (rest := []) (c_X7_in (d := 0) (Nat.le_refl _) eu3) sw_X7_114 ⟨rfl, rfl⟩ (zrm_ok (by omega) (by decide)) rfl rfl hl.1 (Nat.le_of_ble_eq_true rfl) dX7_steps_11 (fun H locs hW => ?_)
    refine lv_if_ne (tgt := 19) hx hb dX7_steps_14 (by decide) (fun c4 => ?_) (fun c4 => ?_)
    · have h := ifn c4 h
      refine lv_aload_n hx hb dX7_steps_19 rfl (lv_at hl 0 rfl) ?_
      refine lv_aload_n hx hb dX7_steps_20 rfl (lv_at hl 0 rfl) ?_
      obtain ⟨u5, eu5, h⟩ := bd_some h
      refine z_callV_i hC hW (rest := [.ref (ρ 0)]) (c_X7_allDoors (d := 0) (Nat.le_refl _) eu5) vw_X7_248 WM_0 rfl ⟨rfl, rfl⟩ (zrm_ok (by omega) (by decide)) rfl rfl hl.1 (Nat.le_of_ble_eq_true rfl) dX7_steps_21 (fun H locs hW => ?_)
      obtain ⟨u6, eu6, h⟩ := bd_some h
      refine z_callV_v hC hW (rest := []) (c_X7_findFar (d := 0) (Nat.le_refl _) eu6) vw_X7_244 WM_0 rfl ⟨rfl, rfl⟩ (zrm_ok (by omega) (by decide)) rfl rfl hl.1 (Nat.le_of_ble_eq_true rfl) dX7_steps_24 (fun H locs hW => ?_)
      refine lv_iconst (v := 0) hx hb dX7_steps_27 (by decide) ?_
      refine lv_istore_n (lv' := [(3, .int 0), (0, .ref (ρ 0)), (1, .int a1), (2, .int a2)]) hx hb dX7_steps_28 rfl hl (by decide) rfl (fun ls hl => ?_)
      refine lv_iconst (v := 0) hx hb dX7_steps_29 (by decide) ?_
      refine lv_istore (lv' := [(4, .int 0), (3, .int 0), (0, .ref (ρ 0)), (1, .int a1), (2, .int a2)]) hx hb dX7_steps_30 hl (by decide) rfl (fun ls hl => ?_)
      refine lv_iconst (v := 0) hx hb dX7_steps_32 (by decide) ?_
      refine lv_istore (lv' := [(5, .int 0), (4, .int 0), (3, .int 0), (0, .ref (ρ 0)), (1, .int a1), (2, .int a2)]) hx hb dX7_steps_33 hl (by decide) rfl (fun ls hl => ?_)
      exact b35 h hW (lv_sub hl [3, 4, 5, 2, 1, 0] rfl)
    · have h := ifp c4 h
      refine lv_iconst (v := (-1)) hx hb dX7_steps_17 (by decide) ?_
      have h := Option.some.inj h
      subst h
      exact hret _ _ _ _ _ dX7_steps_18 rfl rfl hW
set_option maxHeartbeats 4000000 in
set_option maxRecDepth 100000 in
theorem c_X7_missed {a1 : Int32} {d : Nat} {res : Int32 × (Nat → Int32) × (Nat → Int32) × (Nat → Int32) × (Nat → Int32) × (Nat → Int32)} (hd : 5 ≤ d) (h : f_X7_missed a1 M_doors M_price M_year M_joins M_joinA M_joinB M_olds M_near M_act M_with M_lineMany M_testEnd M_lineEnd M_facts M_pile M_hasLaw M_far M_within M_tooNear = some res) : zMi l yX7_missed cX7_missed 4 .int (zrm d) [.ref (ρ 0), .int a1] D q (WM q ρ M_code M_doors M_price M_year M_joins M_joinA M_joinB M_walls M_wallA M_wallB M_cost M_olds M_near M_doneMany M_undoneMany M_changeOf M_changeAt M_before M_behind M_tape M_taped M_here M_fault M_open M_laid M_act M_with M_lineMany M_testEnd M_lineEnd M_facts M_pile M_hasLaw M_far M_within M_tooNear M_dried M_isOn M_wasOn M_bodies M_kind M_traces M_traced M_holds M_size M_elements M_shifted) sz res.1 (WM q ρ M_code M_doors M_price M_year M_joins M_joinA M_joinB M_walls M_wallA M_wallB M_cost M_olds M_near M_doneMany M_undoneMany M_changeOf M_changeAt M_before M_behind M_tape M_taped M_here M_fault M_open M_laid M_act M_with M_lineMany M_testEnd M_lineEnd res.2.1 res.2.2.1 M_hasLaw res.2.2.2.1 res.2.2.2.2.1 res.2.2.2.2.2 M_dried M_isOn M_wasOn M_bodies M_kind M_traces M_traced M_holds M_size M_elements M_shifted) := by
  refine zMet_i (own := RX7) _ (by decide) rfl (Nat.le_of_ble_eq_true rfl) ?_
  intro p e s m args below meth c A ls Q hC hW hl hret
  have hx := hC.1
  have hb := hC.2.1
  have hl : lv_has ls 4 [(0, .ref (ρ 0)), (1, .int a1)] := hl
  have b78 : ∀ {x1 : Int32} {x2 : Int32} {x3 : Int32} {M_facts : Nat → Int32} {M_pile : Nat → Int32} {M_far : Nat → Int32} {M_within : Nat → Int32} {M_tooNear : Nat → Int32} {k37 : Int32 → Int32 → Option (Int32 × (Nat → Int32) × (Nat → Int32) × (Nat → Int32) × (Nat → Int32) × (Nat → Int32))} (hk37 : ∀ {x2 : Int32} {x3 : Int32} {H : Heap} {locs : List Loc} {ls : Array Slot}, k37 x2 x3 = some res → zW D A s.heap (WM q ρ M_code M_doors M_price M_year M_joins M_joinA M_joinB M_walls M_wallA M_wallB M_cost M_olds M_near M_doneMany M_undoneMany M_changeOf M_changeAt M_before M_behind M_tape M_taped M_here M_fault M_open M_laid M_act M_with M_lineMany M_testEnd M_lineEnd M_facts M_pile M_hasLaw M_far M_within M_tooNear M_dried M_isOn M_wasOn M_bodies M_kind M_traces M_traced M_holds M_size M_elements M_shifted) H locs → lv_has ls 4 [(0, .ref (ρ 0)), (1, .int x1), (2, .int x2), (3, .int x3)] → W p l e (zrm d) s m args below meth c H locs 0 0 Q (F0 m 37 ls [])) {H : Heap} {locs : List Loc} {ls : Array Slot}, f_X7_missed_b78 k37 x1 x2 x3 M_doors M_facts M_pile M_far M_within M_tooNear = some res → zW D A s.heap (WM q ρ M_code M_doors M_price M_year M_joins M_joinA M_joinB M_walls M_wallA M_wallB M_cost M_olds M_near M_doneMany M_undoneMany M_changeOf M_changeAt M_before M_behind M_tape M_taped M_here M_fault M_open M_laid M_act M_with M_lineMany M_testEnd M_lineEnd M_facts M_pile M_hasLaw M_far M_within M_tooNear M_dried M_isOn M_wasOn M_bodies M_kind M_traces M_traced M_holds M_size M_elements M_shifted) H locs → lv_has ls 4 [(0, .ref (ρ 0)), (1, .int x1), (2, .int x2), (3, .int x3)] → W p l e (zrm d) s m args below meth c H locs 0 0 Q (F0 m 78 ls []) := by
    intro x1 x2 x3 M_facts M_pile M_far M_within M_tooNear k37 hk37 H locs ls h hW hl
    unfold f_X7_missed_b78 at h
    refine lv_iinc (v := (x3 + 1)) (lv' := [(3, .int (x3 + 1)), (0, .ref (ρ 0)), (1, .int x1), (2, .int x2)]) hx hb dX7_missed_78 hl (k := 3) rfl rfl (by decide) rfl (fun ls hl => ?_)
    refine lv_goto (tgt := 37) hx hb dX7_missed_81 (by decide) ?_
    exact hk37 h hW (lv_sub hl [1, 2, 3, 0] rfl)
  have b37 : ∀ {x1 : Int32} {M_facts : Nat → Int32} {M_pile : Nat → Int32} {M_far : Nat → Int32} {M_within : Nat → Int32} {M_tooNear : Nat → Int32} {n : Nat} {x2 : Int32} {x3 : Int32} {H : Heap} {locs : List Loc} {ls : Array Slot}, f_X7_missed_b37 x1 M_doors M_facts M_pile M_far M_within M_tooNear n x2 x3 = some res → zW D A s.heap (WM q ρ M_code M_doors M_price M_year M_joins M_joinA M_joinB M_walls M_wallA M_wallB M_cost M_olds M_near M_doneMany M_undoneMany M_changeOf M_changeAt M_before M_behind M_tape M_taped M_here M_fault M_open M_laid M_act M_with M_lineMany M_testEnd M_lineEnd M_facts M_pile M_hasLaw M_far M_within M_tooNear M_dried M_isOn M_wasOn M_bodies M_kind M_traces M_traced M_holds M_size M_elements M_shifted) H locs → lv_has ls 4 [(0, .ref (ρ 0)), (1, .int x1), (2, .int x2), (3, .int x3)] → W p l e (zrm d) s m args below meth c H locs 0 0 Q (F0 m 37 ls []) := by
    intro x1 M_facts M_pile M_far M_within M_tooNear
    intro n
    induction n with
    | zero =>
      intro x2 x3 H locs ls h
      rw [f_X7_missed_b37] at h
      cases h
    | succ n ih =>
      intro x2 x3 H locs ls h hW hl
      rw [f_X7_missed_b37] at h
      refine lv_iload_n hx hb dX7_missed_37 rfl (lv_at hl 3 rfl) ?_
      refine lv_aload_n hx hb dX7_missed_38 rfl (lv_at hl 0 rfl) ?_
      refine z_get hC hW fg_X7_111 0 WM_0 rfl dX7_missed_39 ?_
      refine lv_icmp_ge (tgt := 84) hx hb dX7_missed_42 (by decide) (fun c8 => ?_) (fun c8 => ?_)
      · have h := ifp c8 h
        refine lv_iload_n hx hb dX7_missed_84 rfl (lv_at hl 2 rfl) ?_
        have h := Option.some.inj h
        subst h
        exact hret _ _ _ _ _ dX7_missed_85 rfl rfl hW
      · have h := ifn c8 h
        refine lv_iload_n hx hb dX7_missed_45 rfl (lv_at hl 1 rfl) ?_
        refine lv_iload_n hx hb dX7_missed_46 rfl (lv_at hl 3 rfl) ?_
        refine lv_ishr hx hb dX7_missed_47 ?_
        refine lv_iconst (v := 1) hx hb dX7_missed_48 (by decide) ?_
        refine lv_iand hx hb dX7_missed_49 ?_
        refine lv_iconst (v := 1) hx hb dX7_missed_50 (by decide) ?_
        refine lv_icmp_ne (tgt := 78) hx hb dX7_missed_51 (by decide) (fun c9 => ?_) (fun c9 => ?_)
        · have h := ifn c9 h
          exact b78 ih h hW (lv_sub hl [0, 1, 2, 3] rfl)
        · have h := ifp c9 h
          refine lv_aload_n hx hb dX7_missed_54 rfl (lv_at hl 0 rfl) ?_
          refine lv_iload_n hx hb dX7_missed_55 rfl (lv_at hl 1 rfl) ?_
          refine lv_iconst (v := 1) hx hb dX7_missed_56 (by decide) ?_
          refine lv_iload_n hx hb dX7_missed_57 rfl (lv_at hl 3 rfl) ?_
          refine lv_ishl hx hb dX7_missed_58 ?_
          refine lv_iconst (v := (-1)) hx hb dX7_missed_59 (by decide) ?_
          refine lv_ixor hx hb dX7_missed_60 ?_
          refine lv_iand hx hb dX7_missed_61 ?_
          refine lv_aload_n hx hb dX7_missed_62 rfl (lv_at hl 0 rfl) ?_
          obtain ⟨u10, eu10, h⟩ := bd_some h
          refine z_callV_i hC hW (rest := [.int (x1 &&& ((1 <<< (x3 &&& 31)) ^^^ (-1))), .ref (ρ 0)]) (c_X7_allDoors (d := 0) (Nat.le_refl _) eu10) vw_X7_248 WM_0 rfl ⟨rfl, rfl⟩ (zrm_ok (by omega) (by decide)) rfl rfl hl.1 (Nat.le_of_ble_eq_true rfl) dX7_missed_63 (fun H locs hW => ?_)
          obtain ⟨u11, eu11, h⟩ := bd_some h
          refine z_callV_i hC hW (rest := []) (c_X7_isLawful (d := 0) (Nat.le_refl _) eu11) vw_X7_257 WM_0 rfl ⟨rfl, rfl⟩ (zrm_ok (by omega) (by decide)) rfl rfl hl.1 (Nat.le_of_ble_eq_true rfl) dX7_missed_66 (fun H locs hW => ?_)
          refine lv_if_eq (tgt := 78) hx hb dX7_missed_69 (by decide) (fun c12 => ?_) (fun c12 => ?_)
          · have h := ifp c12 h
            exact b78 ih h hW (lv_sub hl [0, 1, 2, 3] rfl)
          · have h := ifn c12 h
            refine lv_iload_n hx hb dX7_missed_72 rfl (lv_at hl 2 rfl) ?_
            refine lv_iconst (v := 1) hx hb dX7_missed_73 (by decide) ?_
            refine lv_iload_n hx hb dX7_missed_74 rfl (lv_at hl 3 rfl) ?_
            refine lv_ishl hx hb dX7_missed_75 ?_
            refine lv_ior hx hb dX7_missed_76 ?_
            refine lv_istore_n (lv' := [(2, .int (x2 ||| (1 <<< (x3 &&& 31)))), (0, .ref (ρ 0)), (1, .int x1), (3, .int x3)]) hx hb dX7_missed_77 rfl hl (by decide) rfl (fun ls hl => ?_)
            exact b78 ih h hW (lv_sub hl [1, 2, 0, 3] rfl)
  unfold f_X7_missed at h
  refine lv_aload_n hx hb dX7_missed_0 rfl (lv_at hl 0 rfl) ?_
  refine lv_iload_n hx hb dX7_missed_1 rfl (lv_at hl 1 rfl) ?_
  obtain ⟨u1, eu1, h⟩ := bd_some h
  refine z_callV_i hC hW (rest := []) (c_X7_isLaying (d := 0) (Nat.le_refl _) eu1) vw_X7_138 WM_0 rfl ⟨rfl, rfl⟩ (zrm_ok (by omega) (by decide)) rfl rfl hl.1 (Nat.le_of_ble_eq_true rfl) dX7_missed_2 (fun H locs hW => ?_)
  refine lv_if_ne (tgt := 10) hx hb dX7_missed_5 (by decide) (fun c2 => ?_) (fun c2 => ?_)
  · have h := ifn c2 h
    refine lv_aload_n hx hb dX7_missed_10 rfl (lv_at hl 0 rfl) ?_
    refine lv_aload_n hx hb dX7_missed_11 rfl (lv_at hl 0 rfl) ?_
    obtain ⟨u3, eu3, h⟩ := bd_some h
    refine z_callV_i hC hW (rest := [.ref (ρ 0)]) (c_X7_allDoors (d := 0) (Nat.le_refl _) eu3) vw_X7_248 WM_0 rfl ⟨rfl, rfl⟩ (zrm_ok (by omega) (by decide)) rfl rfl hl.1 (Nat.le_of_ble_eq_true rfl) dX7_missed_12 (fun H locs hW => ?_)
    obtain ⟨u4, eu4, h⟩ := bd_some h
    refine z_callV_v hC hW (rest := []) (c_X7_findAll (d := 4) (Nat.le_refl _) eu4) vw_X7_261 WM_0 rfl ⟨rfl, rfl⟩ (zrm_ok (by omega) (by decide)) rfl rfl hl.1 (Nat.le_of_ble_eq_true rfl) dX7_missed_15 (fun H locs hW => ?_)
    refine lv_aload_n hx hb dX7_missed_18 rfl (lv_at hl 0 rfl) ?_
    refine lv_iload_n hx hb dX7_missed_19 rfl (lv_at hl 1 rfl) ?_
    refine lv_aload_n hx hb dX7_missed_20 rfl (lv_at hl 0 rfl) ?_
    obtain ⟨u5, eu5, h⟩ := bd_some h
    refine z_callV_i hC hW (rest := [.int a1, .ref (ρ 0)]) (c_X7_allDoors (d := 0) (Nat.le_refl _) eu5) vw_X7_248 WM_0 rfl ⟨rfl, rfl⟩ (zrm_ok (by omega) (by decide)) rfl rfl hl.1 (Nat.le_of_ble_eq_true rfl) dX7_missed_21 (fun H locs hW => ?_)
    obtain ⟨u6, eu6, h⟩ := bd_some h
    refine z_callV_i hC hW (rest := []) (c_X7_isLawful (d := 0) (Nat.le_refl _) eu6) vw_X7_257 WM_0 rfl ⟨rfl, rfl⟩ (zrm_ok (by omega) (by decide)) rfl rfl hl.1 (Nat.le_of_ble_eq_true rfl) dX7_missed_24 (fun H locs hW => ?_)
    refine lv_if_ne (tgt := 33) hx hb dX7_missed_27 (by decide) (fun c7 => ?_) (fun c7 => ?_)
    · have h := ifn c7 h
      refine lv_iconst (v := 0) hx hb dX7_missed_33 (by decide) ?_
      refine lv_istore_n (lv' := [(2, .int 0), (0, .ref (ρ 0)), (1, .int a1)]) hx hb dX7_missed_34 rfl hl (by decide) rfl (fun ls hl => ?_)
      refine lv_iconst (v := 0) hx hb dX7_missed_35 (by decide) ?_
      refine lv_istore_n (lv' := [(3, .int 0), (2, .int 0), (0, .ref (ρ 0)), (1, .int a1)]) hx hb dX7_missed_36 rfl hl (by decide) rfl (fun ls hl => ?_)
      exact b37 h hW (lv_sub hl [2, 3, 1, 0] rfl)
    · have h := ifp c7 h
      refine lv_bipush (v := (-5)) hx hb dX7_missed_30 (by decide) ?_
      have h := Option.some.inj h
      subst h
      exact hret _ _ _ _ _ dX7_missed_32 rfl rfl hW
  · have h := ifp c2 h
    refine lv_iconst (v := (-1)) hx hb dX7_missed_8 (by decide) ?_
    have h := Option.some.inj h
    subst h
    exact hret _ _ _ _ _ dX7_missed_9 rfl rfl hW
end CT21_m12
