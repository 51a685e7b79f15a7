section CT21_m02
variable {l : Launch} {D : va_G} {q : Nat → ClassId} {ρ : Nat → Nat} {sz : Nat} {M_code : Int32} {M_doors : Int32} {M_price : Nat → Int32} {M_year : Nat → Int32} {M_joins : Int32} {M_joinA : Nat → Int32} {M_joinB : Nat → Int32} {M_walls : Int32} {M_wallA : Nat → Int32} {M_wallB : Nat → Int32} {M_cost : Nat → Int32} {M_olds : Int32} {M_near : Int32} {M_doneMany : Int32} {M_undoneMany : Int32} {M_changeOf : Nat → Int32} {M_changeAt : Nat → Int32} {M_before : Nat → Int32} {M_behind : Nat → Int32} {M_tape : Nat → Int32} {M_taped : Int32} {M_here : Int32} {M_fault : Int32} {M_open : Int32} {M_laid : Int32} {M_act : Nat → Int32} {M_with : Nat → Int32} {M_lineMany : Nat → Int32} {M_testEnd : Nat → Int32} {M_lineEnd : Nat → Int32} {M_facts : Nat → Int32} {M_pile : Nat → Int32} {M_hasLaw : Int32} {M_far : Nat → Int32} {M_within : Nat → Int32} {M_tooNear : Nat → Int32} {M_dried : Int32} {M_isOn : Nat → Int32} {M_wasOn : Nat → Int32} {M_bodies : Int32} {M_kind : Nat → Int32} {M_traces : Int32} {M_traced : Nat → Int32} {M_holds : Nat → Int32} {M_size : Nat → Int32} {M_elements : Nat → Int64} {M_shifted : Nat → Int64}
set_option maxHeartbeats 4000000 in
set_option maxRecDepth 100000 in
theorem c_X7_mend {a1 : Int32} {a2 : Int32} {a3 : Int32} {d : Nat} {res : Int32 × (Nat → Int32) × (Nat → Int32) × (Nat → Int32) × Int32 × Int32 × (Nat → Int32) × (Nat → Int32) × (Nat → Int32) × (Nat → Int32)} (hd : 2 ≤ d) (h : f_X7_mend a1 a2 a3 M_doors M_price M_year M_walls M_cost M_doneMany M_undoneMany M_changeOf M_changeAt M_before M_behind = some res) : zMi l yX7_mend cX7_mend 4 .int (zrm d) [.ref (ρ 0), .int a1, .int a2, .int a3] D q (WM q ρ M_code M_doors M_price M_year M_joins M_joinA M_joinB M_walls M_wallA M_wallB M_cost M_olds M_near M_doneMany M_undoneMany M_changeOf M_changeAt M_before M_behind M_tape M_taped M_here M_fault M_open M_laid M_act M_with M_lineMany M_testEnd M_lineEnd M_facts M_pile M_hasLaw M_far M_within M_tooNear M_dried M_isOn M_wasOn M_bodies M_kind M_traces M_traced M_holds M_size M_elements M_shifted) sz res.1 (WM q ρ M_code M_doors res.2.1 res.2.2.1 M_joins M_joinA M_joinB M_walls M_wallA M_wallB res.2.2.2.1 M_olds M_near res.2.2.2.2.1 res.2.2.2.2.2.1 res.2.2.2.2.2.2.1 res.2.2.2.2.2.2.2.1 res.2.2.2.2.2.2.2.2.1 res.2.2.2.2.2.2.2.2.2 M_tape M_taped M_here M_fault M_open M_laid M_act M_with M_lineMany M_testEnd M_lineEnd M_facts M_pile M_hasLaw M_far M_within M_tooNear M_dried M_isOn M_wasOn M_bodies M_kind M_traces M_traced M_holds M_size M_elements M_shifted) := by
  refine zMet_i (own := RX7) _ (by decide) rfl (Nat.le_of_ble_eq_true rfl) ?_
  intro p e s m args below meth c A ls Q hC hW hl hret
  have hx := hC.1
  have hb := hC.2.1
  have hl : lv_has ls 4 [(0, .ref (ρ 0)), (1, .int a1), (2, .int a2), (3, .int a3)] := hl
  unfold f_X7_mend at h
  refine lv_iload_n hx hb dX7_mend_0 rfl (lv_at hl 2 rfl) ?_
  by_cases c1 : a2 = 0
  · have h := ifp c1 h
    refine z_tabIn hx hb (off := 27) (tgt := 28) 0 c1 (by decide) dX7_mend_1 (by decide) ?_
    refine lv_aload_n hx hb dX7_mend_28 rfl (lv_at hl 0 rfl) ?_
    refine lv_iload_n hx hb dX7_mend_29 rfl (lv_at hl 1 rfl) ?_
    obtain ⟨u2, eu2, h⟩ := bd_some h
    refine z_callV_i hC hW (rest := []) (c_X7_isDoor (d := 1) (Nat.le_refl _) eu2) vw_X7_118 WM_0 rfl ⟨rfl, rfl⟩ (zrm_ok (by omega) (by decide)) rfl rfl hl.1 (Nat.le_of_ble_eq_true rfl) dX7_mend_30 (fun H locs hW => ?_)
    refine lv_if_eq (tgt := 56) hx hb dX7_mend_33 (by decide) (fun c3 => ?_) (fun c3 => ?_)
    · have h := ifp c3 h
      refine lv_iconst (v := (-1)) hx hb dX7_mend_56 (by decide) ?_
      have h := Option.some.inj h
      subst h
      exact hret _ _ _ _ _ dX7_mend_57 rfl rfl hW
    · have h := ifn c3 h
      refine lv_iload_n hx hb dX7_mend_36 rfl (lv_at hl 3 rfl) ?_
      refine lv_iconst (v := 0) hx hb dX7_mend_37 (by decide) ?_
      refine lv_bipush (v := 99) hx hb dX7_mend_38 (by decide) ?_
      obtain ⟨u4, eu4, h⟩ := bd_some h
      refine z_callS_i hC hW (rest := []) (c_X7_in (d := 0) (Nat.le_refl _) eu4) sw_X7_114 ⟨rfl, rfl⟩ (zrm_ok (by omega) (by decide)) rfl rfl hl.1 (Nat.le_of_ble_eq_true rfl) dX7_mend_40 (fun H locs hW => ?_)
      refine lv_if_eq (tgt := 56) hx hb dX7_mend_43 (by decide) (fun c5 => ?_) (fun c5 => ?_)
      · have h := ifp c5 h
        refine lv_iconst (v := (-1)) hx hb dX7_mend_56 (by decide) ?_
        have h := Option.some.inj h
        subst h
        exact hret _ _ _ _ _ dX7_mend_57 rfl rfl hW
      · have h := ifn c5 h
        refine lv_aload_n hx hb dX7_mend_46 rfl (lv_at hl 0 rfl) ?_
        refine lv_iconst (v := 0) hx hb dX7_mend_47 (by decide) ?_
        refine lv_iload_n hx hb dX7_mend_48 rfl (lv_at hl 1 rfl) ?_
        refine lv_iload_n hx hb dX7_mend_49 rfl (lv_at hl 3 rfl) ?_
        obtain ⟨u6, eu6, h⟩ := bd_some h
        refine z_callV_i hC hW (rest := []) (c_X7_changes (d := 1) (Nat.le_refl _) eu6) vw_X7_157 WM_0 rfl ⟨rfl, rfl⟩ (zrm_ok (by omega) (by decide)) rfl rfl hl.1 (Nat.le_of_ble_eq_true rfl) dX7_mend_50 (fun H locs hW => ?_)
        refine lv_goto (tgt := 57) hx hb dX7_mend_53 (by decide) ?_
        have h := Option.some.inj h
        subst h
        exact hret _ _ _ _ _ dX7_mend_57 rfl rfl hW
  · have h := ifn c1 h
    by_cases c7 : a2 = 1
    · have h := ifp c7 h
      refine z_tabIn hx hb (off := 57) (tgt := 58) 1 c7 (by decide) dX7_mend_1 (by decide) ?_
      refine lv_aload_n hx hb dX7_mend_58 rfl (lv_at hl 0 rfl) ?_
      refine lv_iload_n hx hb dX7_mend_59 rfl (lv_at hl 1 rfl) ?_
      obtain ⟨u8, eu8, h⟩ := bd_some h
      refine z_callV_i hC hW (rest := []) (c_X7_isDoor (d := 1) (Nat.le_refl _) eu8) vw_X7_118 WM_0 rfl ⟨rfl, rfl⟩ (zrm_ok (by omega) (by decide)) rfl rfl hl.1 (Nat.le_of_ble_eq_true rfl) dX7_mend_60 (fun H locs hW => ?_)
      refine lv_if_eq (tgt := 86) hx hb dX7_mend_63 (by decide) (fun c9 => ?_) (fun c9 => ?_)
      · have h := ifp c9 h
        refine lv_iconst (v := (-1)) hx hb dX7_mend_86 (by decide) ?_
        have h := Option.some.inj h
        subst h
        exact hret _ _ _ _ _ dX7_mend_87 rfl rfl hW
      · have h := ifn c9 h
        refine lv_iload_n hx hb dX7_mend_66 rfl (lv_at hl 3 rfl) ?_
        refine lv_iconst (v := 0) hx hb dX7_mend_67 (by decide) ?_
        refine lv_bipush (v := 9) hx hb dX7_mend_68 (by decide) ?_
        obtain ⟨u10, eu10, h⟩ := bd_some h
        refine z_callS_i hC hW (rest := []) (c_X7_in (d := 0) (Nat.le_refl _) eu10) sw_X7_114 ⟨rfl, rfl⟩ (zrm_ok (by omega) (by decide)) rfl rfl hl.1 (Nat.le_of_ble_eq_true rfl) dX7_mend_70 (fun H locs hW => ?_)
        refine lv_if_eq (tgt := 86) hx hb dX7_mend_73 (by decide) (fun c11 => ?_) (fun c11 => ?_)
        · have h := ifp c11 h
          refine lv_iconst (v := (-1)) hx hb dX7_mend_86 (by decide) ?_
          have h := Option.some.inj h
          subst h
          exact hret _ _ _ _ _ dX7_mend_87 rfl rfl hW
        · have h := ifn c11 h
          refine lv_aload_n hx hb dX7_mend_76 rfl (lv_at hl 0 rfl) ?_
          refine lv_iconst (v := 1) hx hb dX7_mend_77 (by decide) ?_
          refine lv_iload_n hx hb dX7_mend_78 rfl (lv_at hl 1 rfl) ?_
          refine lv_iload_n hx hb dX7_mend_79 rfl (lv_at hl 3 rfl) ?_
          obtain ⟨u12, eu12, h⟩ := bd_some h
          refine z_callV_i hC hW (rest := []) (c_X7_changes (d := 1) (Nat.le_refl _) eu12) vw_X7_157 WM_0 rfl ⟨rfl, rfl⟩ (zrm_ok (by omega) (by decide)) rfl rfl hl.1 (Nat.le_of_ble_eq_true rfl) dX7_mend_80 (fun H locs hW => ?_)
          refine lv_goto (tgt := 87) hx hb dX7_mend_83 (by decide) ?_
          have h := Option.some.inj h
          subst h
          exact hret _ _ _ _ _ dX7_mend_87 rfl rfl hW
    · have h := ifn c7 h
      by_cases c13 : a2 = 2
      · have h := ifp c13 h
        refine z_tabIn hx hb (off := 87) (tgt := 88) 2 c13 (by decide) dX7_mend_1 (by decide) ?_
        refine lv_iload_n hx hb dX7_mend_88 rfl (lv_at hl 1 rfl) ?_
        refine lv_iconst (v := 0) hx hb dX7_mend_89 (by decide) ?_
        refine lv_aload_n hx hb dX7_mend_90 rfl (lv_at hl 0 rfl) ?_
        refine z_get hC hW fg_X7_135 0 WM_0 rfl dX7_mend_91 ?_
        refine lv_iconst (v := 1) hx hb dX7_mend_94 (by decide) ?_
        refine lv_isub hx hb dX7_mend_95 ?_
        obtain ⟨u14, eu14, h⟩ := bd_some h
        refine z_callS_i hC hW (rest := []) (c_X7_in (d := 0) (Nat.le_refl _) eu14) sw_X7_114 ⟨rfl, rfl⟩ (zrm_ok (by omega) (by decide)) rfl rfl hl.1 (Nat.le_of_ble_eq_true rfl) dX7_mend_96 (fun H locs hW => ?_)
        refine lv_if_eq (tgt := 122) hx hb dX7_mend_99 (by decide) (fun c15 => ?_) (fun c15 => ?_)
        · have h := ifp c15 h
          refine lv_iconst (v := (-1)) hx hb dX7_mend_122 (by decide) ?_
          have h := Option.some.inj h
          subst h
          exact hret _ _ _ _ _ dX7_mend_123 rfl rfl hW
        · have h := ifn c15 h
          refine lv_iload_n hx hb dX7_mend_102 rfl (lv_at hl 3 rfl) ?_
          refine lv_iconst (v := 0) hx hb dX7_mend_103 (by decide) ?_
          refine lv_bipush (v := 99) hx hb dX7_mend_104 (by decide) ?_
          obtain ⟨u16, eu16, h⟩ := bd_some h
          refine z_callS_i hC hW (rest := []) (c_X7_in (d := 0) (Nat.le_refl _) eu16) sw_X7_114 ⟨rfl, rfl⟩ (zrm_ok (by omega) (by decide)) rfl rfl hl.1 (Nat.le_of_ble_eq_true rfl) dX7_mend_106 (fun H locs hW => ?_)
          refine lv_if_eq (tgt := 122) hx hb dX7_mend_109 (by decide) (fun c17 => ?_) (fun c17 => ?_)
          · have h := ifp c17 h
            refine lv_iconst (v := (-1)) hx hb dX7_mend_122 (by decide) ?_
            have h := Option.some.inj h
            subst h
            exact hret _ _ _ _ _ dX7_mend_123 rfl rfl hW
          · have h := ifn c17 h
            refine lv_aload_n hx hb dX7_mend_112 rfl (lv_at hl 0 rfl) ?_
            refine lv_iconst (v := 2) hx hb dX7_mend_113 (by decide) ?_
            refine lv_iload_n hx hb dX7_mend_114 rfl (lv_at hl 1 rfl) ?_
            refine lv_iload_n hx hb dX7_mend_115 rfl (lv_at hl 3 rfl) ?_
            obtain ⟨u18, eu18, h⟩ := bd_some h
            refine z_callV_i hC hW (rest := []) (c_X7_changes (d := 1) (Nat.le_refl _) eu18) vw_X7_157 WM_0 rfl ⟨rfl, rfl⟩ (zrm_ok (by omega) (by decide)) rfl rfl hl.1 (Nat.le_of_ble_eq_true rfl) dX7_mend_116 (fun H locs hW => ?_)
            refine lv_goto (tgt := 123) hx hb dX7_mend_119 (by decide) ?_
            have h := Option.some.inj h
            subst h
            exact hret _ _ _ _ _ dX7_mend_123 rfl rfl hW
      · have h := ifn c13 h
        refine z_tabD hx hb (tgt := 124) [0, 1, 2] (List.forall_mem_cons.mpr ⟨c1, List.forall_mem_cons.mpr ⟨c7, List.forall_mem_cons.mpr ⟨c13, List.forall_mem_nil _⟩⟩⟩) (by decide) dX7_mend_1 (by decide) ?_
        refine lv_iconst (v := (-1)) hx hb dX7_mend_124 (by decide) ?_
        have h := Option.some.inj h
        subst h
        exact hret _ _ _ _ _ dX7_mend_125 rfl rfl hW
set_option maxHeartbeats 4000000 in
set_option maxRecDepth 100000 in
theorem c_X7_joinsOf {a1 : Int32} {d : Nat} {res : Int32} (hd : 0 ≤ d) (h : f_X7_joinsOf a1 M_joins M_joinA M_joinB = some res) : zMi l yX7_joinsOf cX7_joinsOf 4 .int (zrm d) [.ref (ρ 0), .int a1] D q (WM q ρ M_code M_doors M_price M_year M_joins M_joinA M_joinB M_walls M_wallA M_wallB M_cost M_olds M_near M_doneMany M_undoneMany M_changeOf M_changeAt M_before M_behind M_tape M_taped M_here M_fault M_open M_laid M_act M_with M_lineMany M_testEnd M_lineEnd M_facts M_pile M_hasLaw M_far M_within M_tooNear M_dried M_isOn M_wasOn M_bodies M_kind M_traces M_traced M_holds M_size M_elements M_shifted) sz res (WM q ρ M_code M_doors M_price M_year M_joins M_joinA M_joinB M_walls M_wallA M_wallB M_cost M_olds M_near M_doneMany M_undoneMany M_changeOf M_changeAt M_before M_behind M_tape M_taped M_here M_fault M_open M_laid M_act M_with M_lineMany M_testEnd M_lineEnd M_facts M_pile M_hasLaw M_far M_within M_tooNear M_dried M_isOn M_wasOn M_bodies M_kind M_traces M_traced M_holds M_size M_elements M_shifted) := by
  refine zMet_i (own := RX7) _ (by decide) rfl (Nat.le_of_ble_eq_true rfl) ?_
  intro p e s m args below meth c A ls Q hC hW hl hret
  have hx := hC.1
  have hb := hC.2.1
  have hl : lv_has ls 4 [(0, .ref (ρ 0)), (1, .int a1)] := hl
  have b35 : ∀ {x1 : Int32} {x2 : Int32} {x3 : Int32} {k4 : Int32 → Int32 → Option (Int32)} (hk4 : ∀ {x2 : Int32} {x3 : Int32} {H : Heap} {locs : List Loc} {ls : Array Slot}, k4 x2 x3 = some res → zW D A s.heap (WM q ρ M_code M_doors M_price M_year M_joins M_joinA M_joinB M_walls M_wallA M_wallB M_cost M_olds M_near M_doneMany M_undoneMany M_changeOf M_changeAt M_before M_behind M_tape M_taped M_here M_fault M_open M_laid M_act M_with M_lineMany M_testEnd M_lineEnd M_facts M_pile M_hasLaw M_far M_within M_tooNear M_dried M_isOn M_wasOn M_bodies M_kind M_traces M_traced M_holds M_size M_elements M_shifted) H locs → lv_has ls 4 [(0, .ref (ρ 0)), (1, .int x1), (2, .int x2), (3, .int x3)] → W p l e (zrm d) s m args below meth c H locs 0 0 Q (F0 m 4 ls [])) {H : Heap} {locs : List Loc} {ls : Array Slot}, f_X7_joinsOf_b35 k4 x1 x2 x3 M_joins M_joinA M_joinB = some res → zW D A s.heap (WM q ρ M_code M_doors M_price M_year M_joins M_joinA M_joinB M_walls M_wallA M_wallB M_cost M_olds M_near M_doneMany M_undoneMany M_changeOf M_changeAt M_before M_behind M_tape M_taped M_here M_fault M_open M_laid M_act M_with M_lineMany M_testEnd M_lineEnd M_facts M_pile M_hasLaw M_far M_within M_tooNear M_dried M_isOn M_wasOn M_bodies M_kind M_traces M_traced M_holds M_size M_elements M_shifted) H locs → lv_has ls 4 [(0, .ref (ρ 0)), (1, .int x1), (2, .int x2), (3, .int x3)] → W p l e (zrm d) s m args below meth c H locs 0 0 Q (F0 m 35 ls []) := by
    intro x1 x2 x3 k4 hk4 H locs ls h hW hl
    unfold f_X7_joinsOf_b35 at h
    refine lv_iinc (v := (x3 + 1)) (lv' := [(3, .int (x3 + 1)), (0, .ref (ρ 0)), (1, .int x1), (2, .int x2)]) hx hb dX7_joinsOf_35 hl (k := 3) rfl rfl (by decide) rfl (fun ls hl => ?_)
    refine lv_goto (tgt := 4) hx hb dX7_joinsOf_38 (by decide) ?_
    exact hk4 h hW (lv_sub hl [1, 2, 3, 0] rfl)
  have b32 : ∀ {x1 : Int32} {x2 : Int32} {x3 : Int32} {k4 : Int32 → Int32 → Option (Int32)} (hk4 : ∀ {x2 : Int32} {x3 : Int32} {H : Heap} {locs : List Loc} {ls : Array Slot}, k4 x2 x3 = some res → zW D A s.heap (WM q ρ M_code M_doors M_price M_year M_joins M_joinA M_joinB M_walls M_wallA M_wallB M_cost M_olds M_near M_doneMany M_undoneMany M_changeOf M_changeAt M_before M_behind M_tape M_taped M_here M_fault M_open M_laid M_act M_with M_lineMany M_testEnd M_lineEnd M_facts M_pile M_hasLaw M_far M_within M_tooNear M_dried M_isOn M_wasOn M_bodies M_kind M_traces M_traced M_holds M_size M_elements M_shifted) H locs → lv_has ls 4 [(0, .ref (ρ 0)), (1, .int x1), (2, .int x2), (3, .int x3)] → W p l e (zrm d) s m args below meth c H locs 0 0 Q (F0 m 4 ls [])) {H : Heap} {locs : List Loc} {ls : Array Slot}, f_X7_joinsOf_b32 k4 x1 x2 x3 M_joins M_joinA M_joinB = some res → zW D A s.heap (WM q ρ M_code M_doors M_price M_year M_joins M_joinA M_joinB M_walls M_wallA M_wallB M_cost M_olds M_near M_doneMany M_undoneMany M_changeOf M_changeAt M_before M_behind M_tape M_taped M_here M_fault M_open M_laid M_act M_with M_lineMany M_testEnd M_lineEnd M_facts M_pile M_hasLaw M_far M_within M_tooNear M_dried M_isOn M_wasOn M_bodies M_kind M_traces M_traced M_holds M_size M_elements M_shifted) H locs → lv_has ls 4 [(0, .ref (ρ 0)), (1, .int x1), (2, .int x2), (3, .int x3)] → W p l e (zrm d) s m args below meth c H locs 0 0 Q (F0 m 32 ls []) := by
    intro x1 x2 x3 k4 hk4 H locs ls h hW hl
    unfold f_X7_joinsOf_b32 at h
    refine lv_iinc (v := (x2 + 1)) (lv' := [(2, .int (x2 + 1)), (0, .ref (ρ 0)), (1, .int x1), (3, .int x3)]) hx hb dX7_joinsOf_32 hl (k := 2) rfl rfl (by decide) rfl (fun ls hl => ?_)
    exact b35 hk4 h hW (lv_sub hl [1, 2, 0, 3] rfl)
  have b4 : ∀ {x1 : Int32} {n : Nat} {x2 : Int32} {x3 : Int32} {H : Heap} {locs : List Loc} {ls : Array Slot}, f_X7_joinsOf_b4 x1 M_joins M_joinA M_joinB n x2 x3 = some res → zW D A s.heap (WM q ρ M_code M_doors M_price M_year M_joins M_joinA M_joinB M_walls M_wallA M_wallB M_cost M_olds M_near M_doneMany M_undoneMany M_changeOf M_changeAt M_before M_behind M_tape M_taped M_here M_fault M_open M_laid M_act M_with M_lineMany M_testEnd M_lineEnd M_facts M_pile M_hasLaw M_far M_within M_tooNear M_dried M_isOn M_wasOn M_bodies M_kind M_traces M_traced M_holds M_size M_elements M_shifted) H locs → lv_has ls 4 [(0, .ref (ρ 0)), (1, .int x1), (2, .int x2), (3, .int x3)] → W p l e (zrm d) s m args below meth c H locs 0 0 Q (F0 m 4 ls []) := by
    intro x1
    intro n
    induction n with
    | zero =>
      intro x2 x3 H locs ls h
      rw [f_X7_joinsOf_b4] at h
      cases h
    | succ n ih =>
      intro x2 x3 H locs ls h hW hl
      rw [f_X7_joinsOf_b4] at h
      refine lv_iload_n hx hb dX7_joinsOf_4 rfl (lv_at hl 3 rfl) ?_
      refine lv_aload_n hx hb dX7_joinsOf_5 rfl (lv_at hl 0 rfl) ?_
      refine z_get hC hW fg_X7_122 0 WM_0 rfl dX7_joinsOf_6 ?_
      refine lv_icmp_ge (tgt := 41) hx hb dX7_joinsOf_9 (by decide) (fun c1 => ?_) (fun c1 => ?_)
      · have h := ifp c1 h
        refine lv_iload_n hx hb dX7_joinsOf_41 rfl (lv_at hl 2 rfl) ?_
        have h := Option.some.inj h
        subst h
        exact hret _ _ _ _ _ dX7_joinsOf_42 rfl rfl hW
      · have h := ifn c1 h
        refine lv_aload_n hx hb dX7_joinsOf_12 rfl (lv_at hl 0 rfl) ?_
        refine z_get hC hW fg_X7_16 0 WM_0 rfl dX7_joinsOf_13 ?_
        refine lv_iload_n hx hb dX7_joinsOf_16 rfl (lv_at hl 3 rfl) ?_
        obtain ⟨g2, h⟩ := ix_some h
        refine z_iald hC hW 3 WM_3 g2 dX7_joinsOf_17 ?_
        refine lv_iload_n hx hb dX7_joinsOf_18 rfl (lv_at hl 1 rfl) ?_
        refine lv_icmp_eq (tgt := 32) hx hb dX7_joinsOf_19 (by decide) (fun c3 => ?_) (fun c3 => ?_)
        · have h := ifp c3 h
          exact b32 ih h hW (lv_sub hl [0, 1, 2, 3] rfl)
        · have h := ifn c3 h
          refine lv_aload_n hx hb dX7_joinsOf_22 rfl (lv_at hl 0 rfl) ?_
          refine z_get hC hW fg_X7_19 0 WM_0 rfl dX7_joinsOf_23 ?_
          refine lv_iload_n hx hb dX7_joinsOf_26 rfl (lv_at hl 3 rfl) ?_
          obtain ⟨g4, h⟩ := ix_some h
          refine z_iald hC hW 4 WM_4 g4 dX7_joinsOf_27 ?_
          refine lv_iload_n hx hb dX7_joinsOf_28 rfl (lv_at hl 1 rfl) ?_
          refine lv_icmp_ne (tgt := 35) hx hb dX7_joinsOf_29 (by decide) (fun c5 => ?_) (fun c5 => ?_)
          · have h := ifn c5 h
            exact b35 ih h hW (lv_sub hl [0, 1, 2, 3] rfl)
          · have h := ifp c5 h
            exact b32 ih h hW (lv_sub hl [0, 1, 2, 3] rfl)
  unfold f_X7_joinsOf at h
  refine lv_iconst (v := 0) hx hb dX7_joinsOf_0 (by decide) ?_
  refine lv_istore_n (lv' := [(2, .int 0), (0, .ref (ρ 0)), (1, .int a1)]) hx hb dX7_joinsOf_1 rfl hl (by decide) rfl (fun ls hl => ?_)
  refine lv_iconst (v := 0) hx hb dX7_joinsOf_2 (by decide) ?_
  refine lv_istore_n (lv' := [(3, .int 0), (2, .int 0), (0, .ref (ρ 0)), (1, .int a1)]) hx hb dX7_joinsOf_3 rfl hl (by decide) rfl (fun ls hl => ?_)
  exact b4 h hW (lv_sub hl [2, 3, 1, 0] rfl)
set_option maxHeartbeats 4000000 in
set_option maxRecDepth 100000 in
theorem c_X7_twoOf {a0 : Int32} {a1 : Int32} {a2 : Int32} {d : Nat} {res : Int32} (hd : 0 ≤ d) (h : f_X7_twoOf a0 a1 a2 = some res) : zMi l yX7_twoOf cX7_twoOf 3 .int (zrm d) [.int a0, .int a1, .int a2] D q (WM q ρ M_code M_doors M_price M_year M_joins M_joinA M_joinB M_walls M_wallA M_wallB M_cost M_olds M_near M_doneMany M_undoneMany M_changeOf M_changeAt M_before M_behind M_tape M_taped M_here M_fault M_open M_laid M_act M_with M_lineMany M_testEnd M_lineEnd M_facts M_pile M_hasLaw M_far M_within M_tooNear M_dried M_isOn M_wasOn M_bodies M_kind M_traces M_traced M_holds M_size M_elements M_shifted) sz res (WM q ρ M_code M_doors M_price M_year M_joins M_joinA M_joinB M_walls M_wallA M_wallB M_cost M_olds M_near M_doneMany M_undoneMany M_changeOf M_changeAt M_before M_behind M_tape M_taped M_here M_fault M_open M_laid M_act M_with M_lineMany M_testEnd M_lineEnd M_facts M_pile M_hasLaw M_far M_within M_tooNear M_dried M_isOn M_wasOn M_bodies M_kind M_traces M_traced M_holds M_size M_elements M_shifted) := by
  refine zMet_i (own := RX7) _ (by decide) rfl (Nat.le_of_ble_eq_true rfl) ?_
  intro p e s m args below meth c A ls Q hC hW hl hret
  have hx := hC.1
  have hb := hC.2.1
  have hl : lv_has ls 3 [(0, .int a0), (1, .int a1), (2, .int a2)] := hl
  have b218 : ∀ {x1 : Int32} {x2 : Int32} {H : Heap} {locs : List Loc} {ls : Array Slot}, f_X7_twoOf_b218 x1 x2 = some res → zW D A s.heap (WM q ρ M_code M_doors M_price M_year M_joins M_joinA M_joinB M_walls M_wallA M_wallB M_cost M_olds M_near M_doneMany M_undoneMany M_changeOf M_changeAt M_before M_behind M_tape M_taped M_here M_fault M_open M_laid M_act M_with M_lineMany M_testEnd M_lineEnd M_facts M_pile M_hasLaw M_far M_within M_tooNear M_dried M_isOn M_wasOn M_bodies M_kind M_traces M_traced M_holds M_size M_elements M_shifted) H locs → lv_has ls 3 [(1, .int x1), (2, .int x2)] → W p l e (zrm d) s m args below meth c H locs 0 0 Q (F0 m 218 ls []) := by
    intro x1 x2 H locs ls h hW hl
    unfold f_X7_twoOf_b218 at h
    refine lv_iload_n hx hb dX7_twoOf_218 rfl (lv_at hl 0 rfl) ?_
    refine lv_if_ne (tgt := 226) hx hb dX7_twoOf_219 (by decide) (fun c21 => ?_) (fun c21 => ?_)
    · have h := ifn c21 h
      refine lv_iconst (v := 1) hx hb dX7_twoOf_226 (by decide) ?_
      refine lv_goto (tgt := 231) hx hb dX7_twoOf_227 (by decide) ?_
      have h := Option.some.inj h
      subst h
      exact hret _ _ _ _ _ dX7_twoOf_231 rfl rfl hW
    · have h := ifp c21 h
      refine lv_iload_n hx hb dX7_twoOf_222 rfl (lv_at hl 1 rfl) ?_
      refine lv_if_eq (tgt := 230) hx hb dX7_twoOf_223 (by decide) (fun c22 => ?_) (fun c22 => ?_)
      · have h := ifp c22 h
        refine lv_iconst (v := 0) hx hb dX7_twoOf_230 (by decide) ?_
        have h := Option.some.inj h
        subst h
        exact hret _ _ _ _ _ dX7_twoOf_231 rfl rfl hW
      · have h := ifn c22 h
        refine lv_iconst (v := 1) hx hb dX7_twoOf_226 (by decide) ?_
        refine lv_goto (tgt := 231) hx hb dX7_twoOf_227 (by decide) ?_
        have h := Option.some.inj h
        subst h
        exact hret _ _ _ _ _ dX7_twoOf_231 rfl rfl hW
  unfold f_X7_twoOf at h
  refine lv_iload_n hx hb dX7_twoOf_0 rfl (lv_at hl 0 rfl) ?_
  by_cases c1 : a0 = 37
  · have h := ifp c1 h
    refine z_tabIn hx hb (off := 153) (tgt := 154) 37 c1 (by decide) dX7_twoOf_1 (by decide) ?_
    refine lv_iload_n hx hb dX7_twoOf_154 rfl (lv_at hl 2 rfl) ?_
    refine lv_if_eq (tgt := 163) hx hb dX7_twoOf_155 (by decide) (fun c2 => ?_) (fun c2 => ?_)
    · have h := ifp c2 h
      refine lv_iconst (v := 0) hx hb dX7_twoOf_163 (by decide) ?_
      refine lv_goto (tgt := 170) hx hb dX7_twoOf_164 (by decide) ?_
      have h := Option.some.inj h
      subst h
      exact hret _ _ _ _ _ dX7_twoOf_170 rfl rfl hW
    · have h := ifn c2 h
      refine lv_iload_n hx hb dX7_twoOf_158 rfl (lv_at hl 2 rfl) ?_
      refine lv_iconst (v := (-1)) hx hb dX7_twoOf_159 (by decide) ?_
      refine lv_icmp_ne (tgt := 167) hx hb dX7_twoOf_160 (by decide) (fun c3 => ?_) (fun c3 => ?_)
      · have h := ifn c3 h
        refine lv_iload_n hx hb dX7_twoOf_167 rfl (lv_at hl 1 rfl) ?_
        refine lv_iload_n hx hb dX7_twoOf_168 rfl (lv_at hl 2 rfl) ?_
        obtain ⟨g4, h⟩ := nz_some h
        refine lv_irem hx hb dX7_twoOf_169 g4 ?_
        have h := Option.some.inj h
        subst h
        exact hret _ _ _ _ _ dX7_twoOf_170 rfl rfl hW
      · have h := ifp c3 h
        refine lv_iconst (v := 0) hx hb dX7_twoOf_163 (by decide) ?_
        refine lv_goto (tgt := 170) hx hb dX7_twoOf_164 (by decide) ?_
        have h := Option.some.inj h
        subst h
        exact hret _ _ _ _ _ dX7_twoOf_170 rfl rfl hW
  · have h := ifn c1 h
    by_cases c5 : a0 = 38
    · have h := ifp c5 h
      refine z_tabIn hx hb (off := 203) (tgt := 204) 38 c5 (by decide) dX7_twoOf_1 (by decide) ?_
      refine lv_iload_n hx hb dX7_twoOf_204 rfl (lv_at hl 1 rfl) ?_
      refine lv_if_eq (tgt := 216) hx hb dX7_twoOf_205 (by decide) (fun c6 => ?_) (fun c6 => ?_)
      · have h := ifp c6 h
        refine lv_iconst (v := 0) hx hb dX7_twoOf_216 (by decide) ?_
        have h := Option.some.inj h
        subst h
        exact hret _ _ _ _ _ dX7_twoOf_217 rfl rfl hW
      · have h := ifn c6 h
        refine lv_iload_n hx hb dX7_twoOf_208 rfl (lv_at hl 2 rfl) ?_
        refine lv_if_eq (tgt := 216) hx hb dX7_twoOf_209 (by decide) (fun c7 => ?_) (fun c7 => ?_)
        · have h := ifp c7 h
          refine lv_iconst (v := 0) hx hb dX7_twoOf_216 (by decide) ?_
          have h := Option.some.inj h
          subst h
          exact hret _ _ _ _ _ dX7_twoOf_217 rfl rfl hW
        · have h := ifn c7 h
          refine lv_iconst (v := 1) hx hb dX7_twoOf_212 (by decide) ?_
          refine lv_goto (tgt := 217) hx hb dX7_twoOf_213 (by decide) ?_
          have h := Option.some.inj h
          subst h
          exact hret _ _ _ _ _ dX7_twoOf_217 rfl rfl hW
    · have h := ifn c5 h
      by_cases c8 : a0 = 42
      · have h := ifp c8 h
        refine z_tabIn hx hb (off := 127) (tgt := 128) 42 c8 (by decide) dX7_twoOf_1 (by decide) ?_
        refine lv_iload_n hx hb dX7_twoOf_128 rfl (lv_at hl 1 rfl) ?_
        refine lv_iload_n hx hb dX7_twoOf_129 rfl (lv_at hl 2 rfl) ?_
        refine lv_imul hx hb dX7_twoOf_130 ?_
        have h := Option.some.inj h
        subst h
        exact hret _ _ _ _ _ dX7_twoOf_131 rfl rfl hW
      · have h := ifn c8 h
        by_cases c9 : a0 = 43
        · have h := ifp c9 h
          refine z_tabIn hx hb (off := 119) (tgt := 120) 43 c9 (by decide) dX7_twoOf_1 (by decide) ?_
          refine lv_iload_n hx hb dX7_twoOf_120 rfl (lv_at hl 1 rfl) ?_
          refine lv_iload_n hx hb dX7_twoOf_121 rfl (lv_at hl 2 rfl) ?_
          refine lv_iadd hx hb dX7_twoOf_122 ?_
          have h := Option.some.inj h
          subst h
          exact hret _ _ _ _ _ dX7_twoOf_123 rfl rfl hW
        · have h := ifn c9 h
          by_cases c10 : a0 = 45
          · have h := ifp c10 h
            refine z_tabIn hx hb (off := 123) (tgt := 124) 45 c10 (by decide) dX7_twoOf_1 (by decide) ?_
            refine lv_iload_n hx hb dX7_twoOf_124 rfl (lv_at hl 1 rfl) ?_
            refine lv_iload_n hx hb dX7_twoOf_125 rfl (lv_at hl 2 rfl) ?_
            refine lv_isub hx hb dX7_twoOf_126 ?_
            have h := Option.some.inj h
            subst h
            exact hret _ _ _ _ _ dX7_twoOf_127 rfl rfl hW
          · have h := ifn c10 h
            by_cases c11 : a0 = 47
            · have h := ifp c11 h
              refine z_tabIn hx hb (off := 131) (tgt := 132) 47 c11 (by decide) dX7_twoOf_1 (by decide) ?_
              refine lv_iload_n hx hb dX7_twoOf_132 rfl (lv_at hl 2 rfl) ?_
              refine lv_if_ne (tgt := 140) hx hb dX7_twoOf_133 (by decide) (fun c12 => ?_) (fun c12 => ?_)
              · have h := ifn c12 h
                refine lv_iload_n hx hb dX7_twoOf_140 rfl (lv_at hl 2 rfl) ?_
                refine lv_iconst (v := (-1)) hx hb dX7_twoOf_141 (by decide) ?_
                refine lv_icmp_ne (tgt := 150) hx hb dX7_twoOf_142 (by decide) (fun c13 => ?_) (fun c13 => ?_)
                · have h := ifn c13 h
                  refine lv_iload_n hx hb dX7_twoOf_150 rfl (lv_at hl 1 rfl) ?_
                  refine lv_iload_n hx hb dX7_twoOf_151 rfl (lv_at hl 2 rfl) ?_
                  obtain ⟨g14, h⟩ := nz_some h
                  refine lv_idiv hx hb dX7_twoOf_152 g14 ?_
                  have h := Option.some.inj h
                  subst h
                  exact hret _ _ _ _ _ dX7_twoOf_153 rfl rfl hW
                · have h := ifp c13 h
                  refine lv_iload_n hx hb dX7_twoOf_145 rfl (lv_at hl 1 rfl) ?_
                  refine lv_ineg hx hb dX7_twoOf_146 ?_
                  refine lv_goto (tgt := 153) hx hb dX7_twoOf_147 (by decide) ?_
                  have h := Option.some.inj h
                  subst h
                  exact hret _ _ _ _ _ dX7_twoOf_153 rfl rfl hW
              · have h := ifp c12 h
                refine lv_iconst (v := 0) hx hb dX7_twoOf_136 (by decide) ?_
                refine lv_goto (tgt := 153) hx hb dX7_twoOf_137 (by decide) ?_
                have h := Option.some.inj h
                subst h
                exact hret _ _ _ _ _ dX7_twoOf_153 rfl rfl hW
            · have h := ifn c11 h
              by_cases c15 : a0 = 60
              · have h := ifp c15 h
                refine z_tabIn hx hb (off := 170) (tgt := 171) 60 c15 (by decide) dX7_twoOf_1 (by decide) ?_
                refine lv_iload_n hx hb dX7_twoOf_171 rfl (lv_at hl 1 rfl) ?_
                refine lv_iload_n hx hb dX7_twoOf_172 rfl (lv_at hl 2 rfl) ?_
                refine lv_icmp_ge (tgt := 180) hx hb dX7_twoOf_173 (by decide) (fun c16 => ?_) (fun c16 => ?_)
                · have h := ifp c16 h
                  refine lv_iconst (v := 0) hx hb dX7_twoOf_180 (by decide) ?_
                  have h := Option.some.inj h
                  subst h
                  exact hret _ _ _ _ _ dX7_twoOf_181 rfl rfl hW
                · have h := ifn c16 h
                  refine lv_iconst (v := 1) hx hb dX7_twoOf_176 (by decide) ?_
                  refine lv_goto (tgt := 181) hx hb dX7_twoOf_177 (by decide) ?_
                  have h := Option.some.inj h
                  subst h
                  exact hret _ _ _ _ _ dX7_twoOf_181 rfl rfl hW
              · have h := ifn c15 h
                by_cases c17 : a0 = 61
                · have h := ifp c17 h
                  refine z_tabIn hx hb (off := 181) (tgt := 182) 61 c17 (by decide) dX7_twoOf_1 (by decide) ?_
                  refine lv_iload_n hx hb dX7_twoOf_182 rfl (lv_at hl 1 rfl) ?_
                  refine lv_iload_n hx hb dX7_twoOf_183 rfl (lv_at hl 2 rfl) ?_
                  refine lv_icmp_ne (tgt := 191) hx hb dX7_twoOf_184 (by decide) (fun c18 => ?_) (fun c18 => ?_)
                  · have h := ifn c18 h
                    refine lv_iconst (v := 0) hx hb dX7_twoOf_191 (by decide) ?_
                    have h := Option.some.inj h
                    subst h
                    exact hret _ _ _ _ _ dX7_twoOf_192 rfl rfl hW
                  · have h := ifp c18 h
                    refine lv_iconst (v := 1) hx hb dX7_twoOf_187 (by decide) ?_
                    refine lv_goto (tgt := 192) hx hb dX7_twoOf_188 (by decide) ?_
                    have h := Option.some.inj h
                    subst h
                    exact hret _ _ _ _ _ dX7_twoOf_192 rfl rfl hW
                · have h := ifn c17 h
                  by_cases c19 : a0 = 62
                  · have h := ifp c19 h
                    refine z_tabIn hx hb (off := 192) (tgt := 193) 62 c19 (by decide) dX7_twoOf_1 (by decide) ?_
                    refine lv_iload_n hx hb dX7_twoOf_193 rfl (lv_at hl 1 rfl) ?_
                    refine lv_iload_n hx hb dX7_twoOf_194 rfl (lv_at hl 2 rfl) ?_
                    refine lv_icmp_le (tgt := 202) hx hb dX7_twoOf_195 (by decide) (fun c20 => ?_) (fun c20 => ?_)
                    · have h := ifp c20 h
                      refine lv_iconst (v := 0) hx hb dX7_twoOf_202 (by decide) ?_
                      have h := Option.some.inj h
                      subst h
                      exact hret _ _ _ _ _ dX7_twoOf_203 rfl rfl hW
                    · have h := ifn c20 h
                      refine lv_iconst (v := 1) hx hb dX7_twoOf_198 (by decide) ?_
                      refine lv_goto (tgt := 203) hx hb dX7_twoOf_199 (by decide) ?_
                      have h := Option.some.inj h
                      subst h
                      exact hret _ _ _ _ _ dX7_twoOf_203 rfl rfl hW
                  · have h := ifn c19 h
                    refine z_tabD hx hb (tgt := 218) [37, 38, 42, 43, 45, 47, 60, 61, 62] (List.forall_mem_cons.mpr ⟨c1, List.forall_mem_cons.mpr ⟨c5, List.forall_mem_cons.mpr ⟨c8, List.forall_mem_cons.mpr ⟨c9, List.forall_mem_cons.mpr ⟨c10, List.forall_mem_cons.mpr ⟨c11, List.forall_mem_cons.mpr ⟨c15, List.forall_mem_cons.mpr ⟨c17, List.forall_mem_cons.mpr ⟨c19, List.forall_mem_nil _⟩⟩⟩⟩⟩⟩⟩⟩⟩) (by decide) dX7_twoOf_1 (by decide) ?_
                    exact b218 h hW (lv_sub hl [1, 2] rfl)
end CT21_m02
