section CT21_m06
variable {l : Launch} {D : va_G} {q : Nat → ClassId} {ρ : Nat → Nat} {sz : Nat} {M_code : Int32} {M_doors : Int32} {M_price : Nat → Int32} {M_year : Nat → Int32} {M_joins : Int32} {M_joinA : Nat → Int32} {M_joinB : Nat → Int32} {M_walls : Int32} {M_wallA : Nat → Int32} {M_wallB : Nat → Int32} {M_cost : Nat → Int32} {M_olds : Int32} {M_near : Int32} {M_doneMany : Int32} {M_undoneMany : Int32} {M_changeOf : Nat → Int32} {M_changeAt : Nat → Int32} {M_before : Nat → Int32} {M_behind : Nat → Int32} {M_tape : Nat → Int32} {M_taped : Int32} {M_here : Int32} {M_fault : Int32} {M_open : Int32} {M_laid : Int32} {M_act : Nat → Int32} {M_with : Nat → Int32} {M_lineMany : Nat → Int32} {M_testEnd : Nat → Int32} {M_lineEnd : Nat → Int32} {M_facts : Nat → Int32} {M_pile : Nat → Int32} {M_hasLaw : Int32} {M_far : Nat → Int32} {M_within : Nat → Int32} {M_tooNear : Nat → Int32} {M_dried : Int32} {M_isOn : Nat → Int32} {M_wasOn : Nat → Int32} {M_bodies : Int32} {M_kind : Nat → Int32} {M_traces : Int32} {M_traced : Nat → Int32} {M_holds : Nat → Int32} {M_size : Nat → Int32} {M_elements : Nat → Int64} {M_shifted : Nat → Int64}
set_option maxHeartbeats 4000000 in
set_option maxRecDepth 100000 in
theorem c_X7_both {ro : (Nat → Int32) → Int32 → Int32 → Int32 → Int32 → Int32 → (Nat → Int32) → (Nat → Int32) → Option (Int32 × Int32 × Int32 × Int32 × (Nat → Int32) × (Nat → Int32))} {dr : Nat} {d : Nat} {res : Int32 × Int32 × Int32 × Int32 × (Nat → Int32) × (Nat → Int32)} (hro : ∀ {M_code : Int32} {M_doors : Int32} {M_price : Nat → Int32} {M_year : Nat → Int32} {M_joins : Int32} {M_joinA : Nat → Int32} {M_joinB : Nat → Int32} {M_walls : Int32} {M_wallA : Nat → Int32} {M_wallB : Nat → Int32} {M_cost : Nat → Int32} {M_olds : Int32} {M_near : Int32} {M_doneMany : Int32} {M_undoneMany : Int32} {M_changeOf : Nat → Int32} {M_changeAt : Nat → Int32} {M_before : Nat → Int32} {M_behind : Nat → Int32} {M_tape : Nat → Int32} {M_taped : Int32} {M_here : Int32} {M_fault : Int32} {M_open : Int32} {M_laid : Int32} {M_act : Nat → Int32} {M_with : Nat → Int32} {M_lineMany : Nat → Int32} {M_testEnd : Nat → Int32} {M_lineEnd : Nat → Int32} {M_facts : Nat → Int32} {M_pile : Nat → Int32} {M_hasLaw : Int32} {M_far : Nat → Int32} {M_within : Nat → Int32} {M_tooNear : Nat → Int32} {M_dried : Int32} {M_isOn : Nat → Int32} {M_wasOn : Nat → Int32} {M_bodies : Int32} {M_kind : Nat → Int32} {M_traces : Int32} {M_traced : Nat → Int32} {M_holds : Nat → Int32} {M_size : Nat → Int32} {M_elements : Nat → Int64} {M_shifted : Nat → Int64} {sz : Nat} {res : Int32 × Int32 × Int32 × Int32 × (Nat → Int32) × (Nat → Int32)}, ro M_tape M_taped M_here M_fault M_open M_laid M_act M_with = some res → zMv l yX7_operand cX7_operand 2 (zrm dr) [.ref (ρ 0)] D q (WM q ρ M_code M_doors M_price M_year M_joins M_joinA M_joinB M_walls M_wallA M_wallB M_cost M_olds M_near M_doneMany M_undoneMany M_changeOf M_changeAt M_before M_behind M_tape M_taped M_here M_fault M_open M_laid M_act M_with M_lineMany M_testEnd M_lineEnd M_facts M_pile M_hasLaw M_far M_within M_tooNear M_dried M_isOn M_wasOn M_bodies M_kind M_traces M_traced M_holds M_size M_elements M_shifted) sz (WM q ρ M_code M_doors M_price M_year M_joins M_joinA M_joinB M_walls M_wallA M_wallB M_cost M_olds M_near M_doneMany M_undoneMany M_changeOf M_changeAt M_before M_behind M_tape M_taped res.1 res.2.1 res.2.2.1 res.2.2.2.1 res.2.2.2.2.1 res.2.2.2.2.2 M_lineMany M_testEnd M_lineEnd M_facts M_pile M_hasLaw M_far M_within M_tooNear M_dried M_isOn M_wasOn M_bodies M_kind M_traces M_traced M_holds M_size M_elements M_shifted)) (hd : dr + 4 ≤ d) (h : f_X7_both ro M_tape M_taped M_here M_fault M_open M_laid M_act M_with = some res) : zMv l yX7_both cX7_both 1 (zrm d) [.ref (ρ 0)] D q (WM q ρ M_code M_doors M_price M_year M_joins M_joinA M_joinB M_walls M_wallA M_wallB M_cost M_olds M_near M_doneMany M_undoneMany M_changeOf M_changeAt M_before M_behind M_tape M_taped M_here M_fault M_open M_laid M_act M_with M_lineMany M_testEnd M_lineEnd M_facts M_pile M_hasLaw M_far M_within M_tooNear M_dried M_isOn M_wasOn M_bodies M_kind M_traces M_traced M_holds M_size M_elements M_shifted) sz (WM q ρ M_code M_doors M_price M_year M_joins M_joinA M_joinB M_walls M_wallA M_wallB M_cost M_olds M_near M_doneMany M_undoneMany M_changeOf M_changeAt M_before M_behind M_tape M_taped res.1 res.2.1 res.2.2.1 res.2.2.2.1 res.2.2.2.2.1 res.2.2.2.2.2 M_lineMany M_testEnd M_lineEnd M_facts M_pile M_hasLaw M_far M_within M_tooNear M_dried M_isOn M_wasOn M_bodies M_kind M_traces M_traced M_holds M_size M_elements M_shifted) := by
  refine zMet_v (own := RX7) (by decide) rfl (Nat.le_of_ble_eq_true rfl) ?_
  intro p e s m args below meth c A ls Q hC hW hl hret
  have hx := hC.1
  have hb := hC.2.1
  have hl : lv_has ls 1 [(0, .ref (ρ 0))] := hl
  have b4 : ∀ {n : Nat} {M_here : Int32} {M_fault : Int32} {M_open : Int32} {M_laid : Int32} {M_act : Nat → Int32} {M_with : Nat → Int32} {H : Heap} {locs : List Loc} {ls : Array Slot}, f_X7_both_b4 ro M_tape M_taped n M_here M_fault M_open M_laid M_act M_with = some res → zW D A s.heap (WM q ρ M_code M_doors M_price M_year M_joins M_joinA M_joinB M_walls M_wallA M_wallB M_cost M_olds M_near M_doneMany M_undoneMany M_changeOf M_changeAt M_before M_behind M_tape M_taped M_here M_fault M_open M_laid M_act M_with M_lineMany M_testEnd M_lineEnd M_facts M_pile M_hasLaw M_far M_within M_tooNear M_dried M_isOn M_wasOn M_bodies M_kind M_traces M_traced M_holds M_size M_elements M_shifted) H locs → lv_has ls 1 [(0, .ref (ρ 0))] → W p l e (zrm d) s m args below meth c H locs 0 0 Q (F0 m 4 ls []) := by
    intro n
    induction n with
    | zero =>
      intro M_here M_fault M_open M_laid M_act M_with H locs ls h
      rw [f_X7_both_b4] at h
      cases h
    | succ n ih =>
      intro M_here M_fault M_open M_laid M_act M_with H locs ls h hW hl
      rw [f_X7_both_b4] at h
      refine lv_aload_n hx hb dX7_both_4 rfl (lv_at hl 0 rfl) ?_
      refine z_get hC hW fg_X7_174 0 WM_0 rfl dX7_both_5 ?_
      refine lv_if_ge (tgt := 44) hx hb dX7_both_8 (by decide) (fun c2 => ?_) (fun c2 => ?_)
      · have h := ifp c2 h
        have h := Option.some.inj h
        subst h
        exact hret _ _ _ _ dX7_both_44 hW
      · have h := ifn c2 h
        refine lv_aload_n hx hb dX7_both_11 rfl (lv_at hl 0 rfl) ?_
        obtain ⟨u3, eu3, h⟩ := bd_some h
        refine z_callV_i hC hW (rest := []) (c_X7_look (d := 0) (Nat.le_refl _) eu3) vw_X7_186 WM_0 rfl ⟨rfl, rfl⟩ (zrm_ok (by omega) (by decide)) rfl rfl hl.1 (Nat.le_of_ble_eq_true rfl) dX7_both_12 (fun H locs hW => ?_)
        refine lv_bipush (v := 38) hx hb dX7_both_15 (by decide) ?_
        refine lv_icmp_ne (tgt := 44) hx hb dX7_both_17 (by decide) (fun c4 => ?_) (fun c4 => ?_)
        · have h := ifn c4 h
          have h := Option.some.inj h
          subst h
          exact hret _ _ _ _ dX7_both_44 hW
        · have h := ifp c4 h
          refine lv_aload_n hx hb dX7_both_20 rfl (lv_at hl 0 rfl) ?_
          refine lv_dup hx hb dX7_both_21 rfl ?_
          refine z_get hC hW fg_X7_171 0 WM_0 rfl dX7_both_22 ?_
          refine lv_iconst (v := 1) hx hb dX7_both_25 (by decide) ?_
          refine lv_iadd hx hb dX7_both_26 ?_
          refine z_put hC hW fp_X7_171 0 WM_0 (Nat.le_of_ble_eq_true rfl) rfl rfl WMs_M_here dX7_both_27 (fun H locs hW => ?_)
          refine lv_aload_n hx hb dX7_both_30 rfl (lv_at hl 0 rfl) ?_
          obtain ⟨u5, eu5, h⟩ := bd_some h
          refine z_callV_v hC hW (rest := []) (c_X7_compared (dr := dr) (d := d - 1) hro (by omega) eu5) vw_X7_216 WM_0 rfl ⟨rfl, rfl⟩ (zrm_ok (by omega) (by decide)) rfl rfl hl.1 (Nat.le_of_ble_eq_true rfl) dX7_both_31 (fun H locs hW => ?_)
          refine lv_aload_n hx hb dX7_both_34 rfl (lv_at hl 0 rfl) ?_
          refine lv_bipush (v := 38) hx hb dX7_both_35 (by decide) ?_
          refine lv_iconst (v := 0) hx hb dX7_both_37 (by decide) ?_
          obtain ⟨u6, eu6, h⟩ := bd_some h
          refine z_callV_v hC hW (rest := []) (c_X7_addStep (d := 0) (Nat.le_refl _) eu6) vw_X7_190 WM_0 rfl ⟨rfl, rfl⟩ (zrm_ok (by omega) (by decide)) rfl rfl hl.1 (Nat.le_of_ble_eq_true rfl) dX7_both_38 (fun H locs hW => ?_)
          refine lv_goto (tgt := 4) hx hb dX7_both_41 (by decide) ?_
          exact ih h hW (lv_sub hl [0] rfl)
  unfold f_X7_both at h
  refine lv_aload_n hx hb dX7_both_0 rfl (lv_at hl 0 rfl) ?_
  obtain ⟨u1, eu1, h⟩ := bd_some h
  refine z_callV_v hC hW (rest := []) (c_X7_compared (dr := dr) (d := d - 1) hro (by omega) eu1) vw_X7_216 WM_0 rfl ⟨rfl, rfl⟩ (zrm_ok (by omega) (by decide)) rfl rfl hl.1 (Nat.le_of_ble_eq_true rfl) dX7_both_1 (fun H locs hW => ?_)
  exact b4 h hW (lv_sub hl [0] rfl)
set_option maxHeartbeats 4000000 in
set_option maxRecDepth 100000 in
theorem c_X7_either {ro : (Nat → Int32) → Int32 → Int32 → Int32 → Int32 → Int32 → (Nat → Int32) → (Nat → Int32) → Option (Int32 × Int32 × Int32 × Int32 × (Nat → Int32) × (Nat → Int32))} {dr : Nat} {d : Nat} {res : Int32 × Int32 × Int32 × Int32 × (Nat → Int32) × (Nat → Int32)} (hro : ∀ {M_code : Int32} {M_doors : Int32} {M_price : Nat → Int32} {M_year : Nat → Int32} {M_joins : Int32} {M_joinA : Nat → Int32} {M_joinB : Nat → Int32} {M_walls : Int32} {M_wallA : Nat → Int32} {M_wallB : Nat → Int32} {M_cost : Nat → Int32} {M_olds : Int32} {M_near : Int32} {M_doneMany : Int32} {M_undoneMany : Int32} {M_changeOf : Nat → Int32} {M_changeAt : Nat → Int32} {M_before : Nat → Int32} {M_behind : Nat → Int32} {M_tape : Nat → Int32} {M_taped : Int32} {M_here : Int32} {M_fault : Int32} {M_open : Int32} {M_laid : Int32} {M_act : Nat → Int32} {M_with : Nat → Int32} {M_lineMany : Nat → Int32} {M_testEnd : Nat → Int32} {M_lineEnd : Nat → Int32} {M_facts : Nat → Int32} {M_pile : Nat → Int32} {M_hasLaw : Int32} {M_far : Nat → Int32} {M_within : Nat → Int32} {M_tooNear : Nat → Int32} {M_dried : Int32} {M_isOn : Nat → Int32} {M_wasOn : Nat → Int32} {M_bodies : Int32} {M_kind : Nat → Int32} {M_traces : Int32} {M_traced : Nat → Int32} {M_holds : Nat → Int32} {M_size : Nat → Int32} {M_elements : Nat → Int64} {M_shifted : Nat → Int64} {sz : Nat} {res : Int32 × Int32 × Int32 × Int32 × (Nat → Int32) × (Nat → Int32)}, ro M_tape M_taped M_here M_fault M_open M_laid M_act M_with = some res → zMv l yX7_operand cX7_operand 2 (zrm dr) [.ref (ρ 0)] D q (WM q ρ M_code M_doors M_price M_year M_joins M_joinA M_joinB M_walls M_wallA M_wallB M_cost M_olds M_near M_doneMany M_undoneMany M_changeOf M_changeAt M_before M_behind M_tape M_taped M_here M_fault M_open M_laid M_act M_with M_lineMany M_testEnd M_lineEnd M_facts M_pile M_hasLaw M_far M_within M_tooNear M_dried M_isOn M_wasOn M_bodies M_kind M_traces M_traced M_holds M_size M_elements M_shifted) sz (WM q ρ M_code M_doors M_price M_year M_joins M_joinA M_joinB M_walls M_wallA M_wallB M_cost M_olds M_near M_doneMany M_undoneMany M_changeOf M_changeAt M_before M_behind M_tape M_taped res.1 res.2.1 res.2.2.1 res.2.2.2.1 res.2.2.2.2.1 res.2.2.2.2.2 M_lineMany M_testEnd M_lineEnd M_facts M_pile M_hasLaw M_far M_within M_tooNear M_dried M_isOn M_wasOn M_bodies M_kind M_traces M_traced M_holds M_size M_elements M_shifted)) (hd : dr + 5 ≤ d) (h : f_X7_either ro M_tape M_taped M_here M_fault M_open M_laid M_act M_with = some res) : zMv l yX7_either cX7_either 1 (zrm d) [.ref (ρ 0)] D q (WM q ρ M_code M_doors M_price M_year M_joins M_joinA M_joinB M_walls M_wallA M_wallB M_cost M_olds M_near M_doneMany M_undoneMany M_changeOf M_changeAt M_before M_behind M_tape M_taped M_here M_fault M_open M_laid M_act M_with M_lineMany M_testEnd M_lineEnd M_facts M_pile M_hasLaw M_far M_within M_tooNear M_dried M_isOn M_wasOn M_bodies M_kind M_traces M_traced M_holds M_size M_elements M_shifted) sz (WM q ρ M_code M_doors M_price M_year M_joins M_joinA M_joinB M_walls M_wallA M_wallB M_cost M_olds M_near M_doneMany M_undoneMany M_changeOf M_changeAt M_before M_behind M_tape M_taped res.1 res.2.1 res.2.2.1 res.2.2.2.1 res.2.2.2.2.1 res.2.2.2.2.2 M_lineMany M_testEnd M_lineEnd M_facts M_pile M_hasLaw M_far M_within M_tooNear M_dried M_isOn M_wasOn M_bodies M_kind M_traces M_traced M_holds M_size M_elements M_shifted) := by
  refine zMet_v (own := RX7) (by decide) rfl (Nat.le_of_ble_eq_true rfl) ?_
  intro p e s m args below meth c A ls Q hC hW hl hret
  have hx := hC.1
  have hb := hC.2.1
  have hl : lv_has ls 1 [(0, .ref (ρ 0))] := hl
  have b4 : ∀ {n : Nat} {M_here : Int32} {M_fault : Int32} {M_open : Int32} {M_laid : Int32} {M_act : Nat → Int32} {M_with : Nat → Int32} {H : Heap} {locs : List Loc} {ls : Array Slot}, f_X7_either_b4 ro M_tape M_taped n M_here M_fault M_open M_laid M_act M_with = some res → zW D A s.heap (WM q ρ M_code M_doors M_price M_year M_joins M_joinA M_joinB M_walls M_wallA M_wallB M_cost M_olds M_near M_doneMany M_undoneMany M_changeOf M_changeAt M_before M_behind M_tape M_taped M_here M_fault M_open M_laid M_act M_with M_lineMany M_testEnd M_lineEnd M_facts M_pile M_hasLaw M_far M_within M_tooNear M_dried M_isOn M_wasOn M_bodies M_kind M_traces M_traced M_holds M_size M_elements M_shifted) H locs → lv_has ls 1 [(0, .ref (ρ 0))] → W p l e (zrm d) s m args below meth c H locs 0 0 Q (F0 m 4 ls []) := by
    intro n
    induction n with
    | zero =>
      intro M_here M_fault M_open M_laid M_act M_with H locs ls h
      rw [f_X7_either_b4] at h
      cases h
    | succ n ih =>
      intro M_here M_fault M_open M_laid M_act M_with H locs ls h hW hl
      rw [f_X7_either_b4] at h
      refine lv_aload_n hx hb dX7_either_4 rfl (lv_at hl 0 rfl) ?_
      refine z_get hC hW fg_X7_174 0 WM_0 rfl dX7_either_5 ?_
      refine lv_if_ge (tgt := 44) hx hb dX7_either_8 (by decide) (fun c2 => ?_) (fun c2 => ?_)
      · have h := ifp c2 h
        have h := Option.some.inj h
        subst h
        exact hret _ _ _ _ dX7_either_44 hW
      · have h := ifn c2 h
        refine lv_aload_n hx hb dX7_either_11 rfl (lv_at hl 0 rfl) ?_
        obtain ⟨u3, eu3, h⟩ := bd_some h
        refine z_callV_i hC hW (rest := []) (c_X7_look (d := 0) (Nat.le_refl _) eu3) vw_X7_186 WM_0 rfl ⟨rfl, rfl⟩ (zrm_ok (by omega) (by decide)) rfl rfl hl.1 (Nat.le_of_ble_eq_true rfl) dX7_either_12 (fun H locs hW => ?_)
        refine lv_bipush (v := 124) hx hb dX7_either_15 (by decide) ?_
        refine lv_icmp_ne (tgt := 44) hx hb dX7_either_17 (by decide) (fun c4 => ?_) (fun c4 => ?_)
        · have h := ifn c4 h
          have h := Option.some.inj h
          subst h
          exact hret _ _ _ _ dX7_either_44 hW
        · have h := ifp c4 h
          refine lv_aload_n hx hb dX7_either_20 rfl (lv_at hl 0 rfl) ?_
          refine lv_dup hx hb dX7_either_21 rfl ?_
          refine z_get hC hW fg_X7_171 0 WM_0 rfl dX7_either_22 ?_
          refine lv_iconst (v := 1) hx hb dX7_either_25 (by decide) ?_
          refine lv_iadd hx hb dX7_either_26 ?_
          refine z_put hC hW fp_X7_171 0 WM_0 (Nat.le_of_ble_eq_true rfl) rfl rfl WMs_M_here dX7_either_27 (fun H locs hW => ?_)
          refine lv_aload_n hx hb dX7_either_30 rfl (lv_at hl 0 rfl) ?_
          obtain ⟨u5, eu5, h⟩ := bd_some h
          refine z_callV_v hC hW (rest := []) (c_X7_both (dr := dr) (d := d - 1) hro (by omega) eu5) vw_X7_219 WM_0 rfl ⟨rfl, rfl⟩ (zrm_ok (by omega) (by decide)) rfl rfl hl.1 (Nat.le_of_ble_eq_true rfl) dX7_either_31 (fun H locs hW => ?_)
          refine lv_aload_n hx hb dX7_either_34 rfl (lv_at hl 0 rfl) ?_
          refine lv_bipush (v := 124) hx hb dX7_either_35 (by decide) ?_
          refine lv_iconst (v := 0) hx hb dX7_either_37 (by decide) ?_
          obtain ⟨u6, eu6, h⟩ := bd_some h
          refine z_callV_v hC hW (rest := []) (c_X7_addStep (d := 0) (Nat.le_refl _) eu6) vw_X7_190 WM_0 rfl ⟨rfl, rfl⟩ (zrm_ok (by omega) (by decide)) rfl rfl hl.1 (Nat.le_of_ble_eq_true rfl) dX7_either_38 (fun H locs hW => ?_)
          refine lv_goto (tgt := 4) hx hb dX7_either_41 (by decide) ?_
          exact ih h hW (lv_sub hl [0] rfl)
  unfold f_X7_either at h
  refine lv_aload_n hx hb dX7_either_0 rfl (lv_at hl 0 rfl) ?_
  obtain ⟨u1, eu1, h⟩ := bd_some h
  refine z_callV_v hC hW (rest := []) (c_X7_both (dr := dr) (d := d - 1) hro (by omega) eu1) vw_X7_219 WM_0 rfl ⟨rfl, rfl⟩ (zrm_ok (by omega) (by decide)) rfl rfl hl.1 (Nat.le_of_ble_eq_true rfl) dX7_either_1 (fun H locs hW => ?_)
  exact b4 h hW (lv_sub hl [0] rfl)
theorem cg_mop : ∀ (n : Nat) {d : Nat}, 7 * n ≤ d → ∀ {M_code : Int32} {M_doors : Int32} {M_price : Nat → Int32} {M_year : Nat → Int32} {M_joins : Int32} {M_joinA : Nat → Int32} {M_joinB : Nat → Int32} {M_walls : Int32} {M_wallA : Nat → Int32} {M_wallB : Nat → Int32} {M_cost : Nat → Int32} {M_olds : Int32} {M_near : Int32} {M_doneMany : Int32} {M_undoneMany : Int32} {M_changeOf : Nat → Int32} {M_changeAt : Nat → Int32} {M_before : Nat → Int32} {M_behind : Nat → Int32} {M_tape : Nat → Int32} {M_taped : Int32} {M_here : Int32} {M_fault : Int32} {M_open : Int32} {M_laid : Int32} {M_act : Nat → Int32} {M_with : Nat → Int32} {M_lineMany : Nat → Int32} {M_testEnd : Nat → Int32} {M_lineEnd : Nat → Int32} {M_facts : Nat → Int32} {M_pile : Nat → Int32} {M_hasLaw : Int32} {M_far : Nat → Int32} {M_within : Nat → Int32} {M_tooNear : Nat → Int32} {M_dried : Int32} {M_isOn : Nat → Int32} {M_wasOn : Nat → Int32} {M_bodies : Int32} {M_kind : Nat → Int32} {M_traces : Int32} {M_traced : Nat → Int32} {M_holds : Nat → Int32} {M_size : Nat → Int32} {M_elements : Nat → Int64} {M_shifted : Nat → Int64} {sz : Nat} {res : Int32 × Int32 × Int32 × Int32 × (Nat → Int32) × (Nat → Int32)}, g_mop n M_tape M_taped M_here M_fault M_open M_laid M_act M_with = some res → zMv l yX7_operand cX7_operand 2 (zrm d) [.ref (ρ 0)] D q (WM q ρ M_code M_doors M_price M_year M_joins M_joinA M_joinB M_walls M_wallA M_wallB M_cost M_olds M_near M_doneMany M_undoneMany M_changeOf M_changeAt M_before M_behind M_tape M_taped M_here M_fault M_open M_laid M_act M_with M_lineMany M_testEnd M_lineEnd M_facts M_pile M_hasLaw M_far M_within M_tooNear M_dried M_isOn M_wasOn M_bodies M_kind M_traces M_traced M_holds M_size M_elements M_shifted) sz (WM q ρ M_code M_doors M_price M_year M_joins M_joinA M_joinB M_walls M_wallA M_wallB M_cost M_olds M_near M_doneMany M_undoneMany M_changeOf M_changeAt M_before M_behind M_tape M_taped res.1 res.2.1 res.2.2.1 res.2.2.2.1 res.2.2.2.2.1 res.2.2.2.2.2 M_lineMany M_testEnd M_lineEnd M_facts M_pile M_hasLaw M_far M_within M_tooNear M_dried M_isOn M_wasOn M_bodies M_kind M_traces M_traced M_holds M_size M_elements M_shifted)
  | 0, _, _ => by intros; rename_i h; cases h
  | n + 1, d, hd => fun h => c_X7_operand (dr := 7 * n + 5) (fun h => cg_mop n (by omega) h) (fun h => c_X7_either (dr := 7 * n) (fun h => cg_mop n (Nat.le_refl _) h) (by omega) h) (by omega) h
theorem c_t_either {d : Nat} (hd : 61 ≤ d) : ∀ {M_code : Int32} {M_doors : Int32} {M_price : Nat → Int32} {M_year : Nat → Int32} {M_joins : Int32} {M_joinA : Nat → Int32} {M_joinB : Nat → Int32} {M_walls : Int32} {M_wallA : Nat → Int32} {M_wallB : Nat → Int32} {M_cost : Nat → Int32} {M_olds : Int32} {M_near : Int32} {M_doneMany : Int32} {M_undoneMany : Int32} {M_changeOf : Nat → Int32} {M_changeAt : Nat → Int32} {M_before : Nat → Int32} {M_behind : Nat → Int32} {M_tape : Nat → Int32} {M_taped : Int32} {M_here : Int32} {M_fault : Int32} {M_open : Int32} {M_laid : Int32} {M_act : Nat → Int32} {M_with : Nat → Int32} {M_lineMany : Nat → Int32} {M_testEnd : Nat → Int32} {M_lineEnd : Nat → Int32} {M_facts : Nat → Int32} {M_pile : Nat → Int32} {M_hasLaw : Int32} {M_far : Nat → Int32} {M_within : Nat → Int32} {M_tooNear : Nat → Int32} {M_dried : Int32} {M_isOn : Nat → Int32} {M_wasOn : Nat → Int32} {M_bodies : Int32} {M_kind : Nat → Int32} {M_traces : Int32} {M_traced : Nat → Int32} {M_holds : Nat → Int32} {M_size : Nat → Int32} {M_elements : Nat → Int64} {M_shifted : Nat → Int64} {sz : Nat} {res : Int32 × Int32 × Int32 × Int32 × (Nat → Int32) × (Nat → Int32)}, t_either M_tape M_taped M_here M_fault M_open M_laid M_act M_with = some res → zMv l yX7_either cX7_either 1 (zrm d) [.ref (ρ 0)] D q (WM q ρ M_code M_doors M_price M_year M_joins M_joinA M_joinB M_walls M_wallA M_wallB M_cost M_olds M_near M_doneMany M_undoneMany M_changeOf M_changeAt M_before M_behind M_tape M_taped M_here M_fault M_open M_laid M_act M_with M_lineMany M_testEnd M_lineEnd M_facts M_pile M_hasLaw M_far M_within M_tooNear M_dried M_isOn M_wasOn M_bodies M_kind M_traces M_traced M_holds M_size M_elements M_shifted) sz (WM q ρ M_code M_doors M_price M_year M_joins M_joinA M_joinB M_walls M_wallA M_wallB M_cost M_olds M_near M_doneMany M_undoneMany M_changeOf M_changeAt M_before M_behind M_tape M_taped res.1 res.2.1 res.2.2.1 res.2.2.2.1 res.2.2.2.2.1 res.2.2.2.2.2 M_lineMany M_testEnd M_lineEnd M_facts M_pile M_hasLaw M_far M_within M_tooNear M_dried M_isOn M_wasOn M_bodies M_kind M_traces M_traced M_holds M_size M_elements M_shifted) := fun h => c_X7_either (dr := 56) (fun h => cg_mop 8 (Nat.le_refl _) h) (by omega) h
set_option maxHeartbeats 4000000 in
set_option maxRecDepth 100000 in
theorem c_X7_line {d : Nat} {res : Int32 × Int32 × Int32 × Int32 × (Nat → Int32) × (Nat → Int32) × (Nat → Int32) × (Nat → Int32) × (Nat → Int32)} (hd : 62 ≤ d) (h : f_X7_line M_tape M_taped M_here M_fault M_open M_laid M_act M_with M_lineMany M_testEnd M_lineEnd = some res) : zMv l yX7_line cX7_line 2 (zrm d) [.ref (ρ 0)] D q (WM q ρ M_code M_doors M_price M_year M_joins M_joinA M_joinB M_walls M_wallA M_wallB M_cost M_olds M_near M_doneMany M_undoneMany M_changeOf M_changeAt M_before M_behind M_tape M_taped M_here M_fault M_open M_laid M_act M_with M_lineMany M_testEnd M_lineEnd M_facts M_pile M_hasLaw M_far M_within M_tooNear M_dried M_isOn M_wasOn M_bodies M_kind M_traces M_traced M_holds M_size M_elements M_shifted) sz (WM q ρ M_code M_doors M_price M_year M_joins M_joinA M_joinB M_walls M_wallA M_wallB M_cost M_olds M_near M_doneMany M_undoneMany M_changeOf M_changeAt M_before M_behind M_tape M_taped res.1 res.2.1 res.2.2.1 res.2.2.2.1 res.2.2.2.2.1 res.2.2.2.2.2.1 res.2.2.2.2.2.2.1 res.2.2.2.2.2.2.2.1 res.2.2.2.2.2.2.2.2 M_facts M_pile M_hasLaw M_far M_within M_tooNear M_dried M_isOn M_wasOn M_bodies M_kind M_traces M_traced M_holds M_size M_elements M_shifted) := by
  refine zMet_v (own := RX7) (by decide) rfl (Nat.le_of_ble_eq_true rfl) ?_
  intro p e s m args below meth c A ls Q hC hW hl hret
  have hx := hC.1
  have hb := hC.2.1
  have hl : lv_has ls 2 [(0, .ref (ρ 0))] := hl
  have b66 : ∀ {x1 : Int32} {M_here : Int32} {M_fault : Int32} {M_open : Int32} {M_laid : Int32} {M_act : Nat → Int32} {M_with : Nat → Int32} {M_lineMany : Nat → Int32} {M_testEnd : Nat → Int32} {M_lineEnd : Nat → Int32} {H : Heap} {locs : List Loc} {ls : Array Slot}, f_X7_line_b66 x1 M_here M_fault M_open M_laid M_act M_with M_lineMany M_testEnd M_lineEnd = some res → zW D A s.heap (WM q ρ M_code M_doors M_price M_year M_joins M_joinA M_joinB M_walls M_wallA M_wallB M_cost M_olds M_near M_doneMany M_undoneMany M_changeOf M_changeAt M_before M_behind M_tape M_taped M_here M_fault M_open M_laid M_act M_with M_lineMany M_testEnd M_lineEnd M_facts M_pile M_hasLaw M_far M_within M_tooNear M_dried M_isOn M_wasOn M_bodies M_kind M_traces M_traced M_holds M_size M_elements M_shifted) H locs → lv_has ls 2 [(0, .ref (ρ 0)), (1, .int x1)] → W p l e (zrm d) s m args below meth c H locs 0 0 Q (F0 m 66 ls []) := by
    intro x1 M_here M_fault M_open M_laid M_act M_with M_lineMany M_testEnd M_lineEnd H locs ls h hW hl
    unfold f_X7_line_b66 at h
    refine lv_aload_n hx hb dX7_line_66 rfl (lv_at hl 0 rfl) ?_
    refine z_get hC hW fg_X7_64 0 WM_0 rfl dX7_line_67 ?_
    refine lv_iload_n hx hb dX7_line_70 rfl (lv_at hl 1 rfl) ?_
    refine lv_aload_n hx hb dX7_line_71 rfl (lv_at hl 0 rfl) ?_
    refine z_get hC hW fg_X7_177 0 WM_0 rfl dX7_line_72 ?_
    refine lv_i2s hx hb dX7_line_75 rfl ?_
    obtain ⟨g5, h⟩ := ix_some h
    refine z_sast hC hW 17 WM_17 g5 WMs_M_lineEnd dX7_line_76 (fun H locs hW => ?_)
    refine lv_aload_n hx hb dX7_line_77 rfl (lv_at hl 0 rfl) ?_
    refine z_get hC hW fg_X7_57 0 WM_0 rfl dX7_line_78 ?_
    refine lv_iconst (v := 1) hx hb dX7_line_81 (by decide) ?_
    refine lv_dup2_11 hx hb dX7_line_82 rfl rfl ?_
    obtain ⟨g6, h⟩ := ix_some h
    refine z_iald hC hW 15 WM_15 g6 dX7_line_83 ?_
    refine lv_iconst (v := 1) hx hb dX7_line_84 (by decide) ?_
    refine lv_iadd hx hb dX7_line_85 ?_
    obtain ⟨g7, h⟩ := ix_some h
    refine z_iast hC hW 15 WM_15 g7 WMs_M_lineMany dX7_line_86 (fun H locs hW => ?_)
    have h := Option.some.inj h
    subst h
    exact hret _ _ _ _ dX7_line_87 hW
  unfold f_X7_line at h
  refine lv_bipush (v := 61) hx hb dX7_line_0 (by decide) ?_
  refine lv_aload_n hx hb dX7_line_2 rfl (lv_at hl 0 rfl) ?_
  refine z_get hC hW fg_X7_57 0 WM_0 rfl dX7_line_3 ?_
  refine lv_iconst (v := 1) hx hb dX7_line_6 (by decide) ?_
  obtain ⟨g1, h⟩ := ix_some h
  refine z_iald hC hW 15 WM_15 g1 dX7_line_7 ?_
  refine lv_iadd hx hb dX7_line_8 ?_
  refine lv_istore_n (lv' := [(1, .int (61 + (M_lineMany (Int32.toNatClampNeg 1)))), (0, .ref (ρ 0))]) hx hb dX7_line_9 rfl hl (by decide) rfl (fun ls hl => ?_)
  refine lv_aload_n hx hb dX7_line_10 rfl (lv_at hl 1 rfl) ?_
  refine z_get hC hW fg_X7_60 0 WM_0 rfl dX7_line_11 ?_
  refine lv_iload_n hx hb dX7_line_14 rfl (lv_at hl 0 rfl) ?_
  refine lv_aload_n hx hb dX7_line_15 rfl (lv_at hl 1 rfl) ?_
  refine z_get hC hW fg_X7_177 0 WM_0 rfl dX7_line_16 ?_
  refine lv_i2s hx hb dX7_line_19 rfl ?_
  obtain ⟨g2, h⟩ := ix_some h
  refine z_sast hC hW 16 WM_16 g2 WMs_M_testEnd dX7_line_20 (fun H locs hW => ?_)
  refine lv_aload_n hx hb dX7_line_21 rfl (lv_at hl 1 rfl) ?_
  obtain ⟨u3, eu3, h⟩ := bd_some h
  refine z_callV_v hC hW (rest := []) (c_t_either (d := 61) (Nat.le_refl _) eu3) vw_X7_204 WM_0 rfl ⟨rfl, rfl⟩ (zrm_ok (by omega) (by decide)) rfl rfl hl.1 (Nat.le_of_ble_eq_true rfl) dX7_line_22 (fun H locs hW => ?_)
  refine lv_aload_n hx hb dX7_line_25 rfl (lv_at hl 1 rfl) ?_
  refine z_get hC hW fg_X7_174 0 WM_0 rfl dX7_line_26 ?_
  refine lv_if_ge (tgt := 66) hx hb dX7_line_29 (by decide) (fun c4 => ?_) (fun c4 => ?_)
  · have h := ifp c4 h
    exact b66 h hW (lv_sub hl [1, 0] rfl)
  · have h := ifn c4 h
    refine lv_aload_n hx hb dX7_line_32 rfl (lv_at hl 1 rfl) ?_
    obtain ⟨u8, eu8, h⟩ := bd_some h
    refine z_callV_i hC hW (rest := []) (c_X7_look (d := 0) (Nat.le_refl _) eu8) vw_X7_186 WM_0 rfl ⟨rfl, rfl⟩ (zrm_ok (by omega) (by decide)) rfl rfl hl.1 (Nat.le_of_ble_eq_true rfl) dX7_line_33 (fun H locs hW => ?_)
    refine lv_bipush (v := 63) hx hb dX7_line_36 (by decide) ?_
    refine lv_icmp_ne (tgt := 66) hx hb dX7_line_38 (by decide) (fun c9 => ?_) (fun c9 => ?_)
    · have h := ifn c9 h
      exact b66 h hW (lv_sub hl [1, 0] rfl)
    · have h := ifp c9 h
      refine lv_aload_n hx hb dX7_line_41 rfl (lv_at hl 1 rfl) ?_
      refine lv_dup hx hb dX7_line_42 rfl ?_
      refine z_get hC hW fg_X7_171 0 WM_0 rfl dX7_line_43 ?_
      refine lv_iconst (v := 1) hx hb dX7_line_46 (by decide) ?_
      refine lv_iadd hx hb dX7_line_47 ?_
      refine z_put hC hW fp_X7_171 0 WM_0 (Nat.le_of_ble_eq_true rfl) rfl rfl WMs_M_here dX7_line_48 (fun H locs hW => ?_)
      refine lv_aload_n hx hb dX7_line_51 rfl (lv_at hl 1 rfl) ?_
      refine z_get hC hW fg_X7_60 0 WM_0 rfl dX7_line_52 ?_
      refine lv_iload_n hx hb dX7_line_55 rfl (lv_at hl 0 rfl) ?_
      refine lv_aload_n hx hb dX7_line_56 rfl (lv_at hl 1 rfl) ?_
      refine z_get hC hW fg_X7_177 0 WM_0 rfl dX7_line_57 ?_
      refine lv_i2s hx hb dX7_line_60 rfl ?_
      obtain ⟨g10, h⟩ := ix_some h
      refine z_sast hC hW 16 WM_16 g10 WMs_M_testEnd dX7_line_61 (fun H locs hW => ?_)
      refine lv_aload_n hx hb dX7_line_62 rfl (lv_at hl 1 rfl) ?_
      obtain ⟨u11, eu11, h⟩ := bd_some h
      refine z_callV_v hC hW (rest := []) (c_t_either (d := 61) (Nat.le_refl _) eu11) vw_X7_204 WM_0 rfl ⟨rfl, rfl⟩ (zrm_ok (by omega) (by decide)) rfl rfl hl.1 (Nat.le_of_ble_eq_true rfl) dX7_line_63 (fun H locs hW => ?_)
      exact b66 h hW (lv_sub hl [1, 0] rfl)
set_option maxHeartbeats 4000000 in
set_option maxRecDepth 100000 in
theorem c_X7_readText {a1 : Int32} {d : Nat} {res : Int32 × Int32 × Int32 × Int32 × Int32 × Int32 × (Nat → Int32) × (Nat → Int32) × (Nat → Int32) × (Nat → Int32) × (Nat → Int32)} (hd : 63 ≤ d) (h : f_X7_readText a1 M_tape M_taped M_here M_fault M_open M_laid M_act M_with M_lineMany M_testEnd M_lineEnd = some res) : zMi l yX7_readText cX7_readText 3 .int (zrm d) [.ref (ρ 0), .int a1] D q (WM q ρ M_code M_doors M_price M_year M_joins M_joinA M_joinB M_walls M_wallA M_wallB M_cost M_olds M_near M_doneMany M_undoneMany M_changeOf M_changeAt M_before M_behind M_tape M_taped M_here M_fault M_open M_laid M_act M_with M_lineMany M_testEnd M_lineEnd M_facts M_pile M_hasLaw M_far M_within M_tooNear M_dried M_isOn M_wasOn M_bodies M_kind M_traces M_traced M_holds M_size M_elements M_shifted) sz res.1 (WM q ρ M_code M_doors M_price M_year M_joins M_joinA M_joinB M_walls M_wallA M_wallB M_cost M_olds M_near M_doneMany M_undoneMany M_changeOf M_changeAt M_before M_behind M_tape res.2.1 res.2.2.1 res.2.2.2.1 res.2.2.2.2.1 res.2.2.2.2.2.1 res.2.2.2.2.2.2.1 res.2.2.2.2.2.2.2.1 res.2.2.2.2.2.2.2.2.1 res.2.2.2.2.2.2.2.2.2.1 res.2.2.2.2.2.2.2.2.2.2 M_facts M_pile M_hasLaw M_far M_within M_tooNear M_dried M_isOn M_wasOn M_bodies M_kind M_traces M_traced M_holds M_size M_elements M_shifted) := by
  refine zMet_i (own := RX7) _ (by decide) rfl (Nat.le_of_ble_eq_true rfl) ?_
  intro p e s m args below meth c A ls Q hC hW hl hret
  have hx := hC.1
  have hb := hC.2.1
  have hl : lv_has ls 3 [(0, .ref (ρ 0)), (1, .int a1)] := hl
  have b177 : ∀ {x1 : Int32} {M_taped : Int32} {M_here : Int32} {M_fault : Int32} {M_open : Int32} {M_laid : Int32} {M_act : Nat → Int32} {M_with : Nat → Int32} {M_lineMany : Nat → Int32} {n : Nat} {x2 : Int32} {M_testEnd : Nat → Int32} {M_lineEnd : Nat → Int32} {H : Heap} {locs : List Loc} {ls : Array Slot}, f_X7_readText_b177 x1 M_taped M_here M_fault M_open M_laid M_act M_with M_lineMany n x2 M_testEnd M_lineEnd = some res → zW D A s.heap (WM q ρ M_code M_doors M_price M_year M_joins M_joinA M_joinB M_walls M_wallA M_wallB M_cost M_olds M_near M_doneMany M_undoneMany M_changeOf M_changeAt M_before M_behind M_tape M_taped M_here M_fault M_open M_laid M_act M_with M_lineMany M_testEnd M_lineEnd M_facts M_pile M_hasLaw M_far M_within M_tooNear M_dried M_isOn M_wasOn M_bodies M_kind M_traces M_traced M_holds M_size M_elements M_shifted) H locs → lv_has ls 3 [(0, .ref (ρ 0)), (1, .int x1), (2, .int x2)] → W p l e (zrm d) s m args below meth c H locs 0 0 Q (F0 m 177 ls []) := by
    intro x1 M_taped M_here M_fault M_open M_laid M_act M_with M_lineMany
    intro n
    induction n with
    | zero =>
      intro x2 M_testEnd M_lineEnd H locs ls h
      rw [f_X7_readText_b177] at h
      cases h
    | succ n ih =>
      intro x2 M_testEnd M_lineEnd H locs ls h hW hl
      rw [f_X7_readText_b177] at h
      refine lv_iload_n hx hb dX7_readText_177 rfl (lv_at hl 2 rfl) ?_
      refine lv_aload_n hx hb dX7_readText_178 rfl (lv_at hl 0 rfl) ?_
      refine z_get hC hW fg_X7_57 0 WM_0 rfl dX7_readText_179 ?_
      refine lv_iload_n hx hb dX7_readText_182 rfl (lv_at hl 1 rfl) ?_
      obtain ⟨g9, h⟩ := ix_some h
      refine z_iald hC hW 15 WM_15 g9 dX7_readText_183 ?_
      refine lv_icmp_ge (tgt := 233) hx hb dX7_readText_184 (by decide) (fun c10 => ?_) (fun c10 => ?_)
      · have h := ifp c10 h
        refine lv_iconst (v := (-1)) hx hb dX7_readText_233 (by decide) ?_
        have h := Option.some.inj h
        subst h
        exact hret _ _ _ _ _ dX7_readText_234 rfl rfl hW
      · have h := ifn c10 h
        refine lv_aload_n hx hb dX7_readText_187 rfl (lv_at hl 0 rfl) ?_
        refine z_get hC hW fg_X7_60 0 WM_0 rfl dX7_readText_188 ?_
        refine lv_bipush (v := 61) hx hb dX7_readText_191 (by decide) ?_
        refine lv_iload_n hx hb dX7_readText_193 rfl (lv_at hl 1 rfl) ?_
        refine lv_imul hx hb dX7_readText_194 ?_
        refine lv_iload_n hx hb dX7_readText_195 rfl (lv_at hl 2 rfl) ?_
        refine lv_iadd hx hb dX7_readText_196 ?_
        refine lv_aload_n hx hb dX7_readText_197 rfl (lv_at hl 0 rfl) ?_
        refine z_get hC hW fg_X7_60 0 WM_0 rfl dX7_readText_198 ?_
        refine lv_bipush (v := 61) hx hb dX7_readText_201 (by decide) ?_
        refine lv_iload_n hx hb dX7_readText_203 rfl (lv_at hl 2 rfl) ?_
        refine lv_iadd hx hb dX7_readText_204 ?_
        obtain ⟨g11, h⟩ := ix_some h
        refine z_sald hC hW 16 WM_16 g11 dX7_readText_205 ?_
        obtain ⟨g12, h⟩ := ix_some h
        refine z_sast hC hW 16 WM_16 g12 WMs_M_testEnd dX7_readText_206 (fun H locs hW => ?_)
        refine lv_aload_n hx hb dX7_readText_207 rfl (lv_at hl 0 rfl) ?_
        refine z_get hC hW fg_X7_64 0 WM_0 rfl dX7_readText_208 ?_
        refine lv_bipush (v := 61) hx hb dX7_readText_211 (by decide) ?_
        refine lv_iload_n hx hb dX7_readText_213 rfl (lv_at hl 1 rfl) ?_
        refine lv_imul hx hb dX7_readText_214 ?_
        refine lv_iload_n hx hb dX7_readText_215 rfl (lv_at hl 2 rfl) ?_
        refine lv_iadd hx hb dX7_readText_216 ?_
        refine lv_aload_n hx hb dX7_readText_217 rfl (lv_at hl 0 rfl) ?_
        refine z_get hC hW fg_X7_64 0 WM_0 rfl dX7_readText_218 ?_
        refine lv_bipush (v := 61) hx hb dX7_readText_221 (by decide) ?_
        refine lv_iload_n hx hb dX7_readText_223 rfl (lv_at hl 2 rfl) ?_
        refine lv_iadd hx hb dX7_readText_224 ?_
        obtain ⟨g13, h⟩ := ix_some h
        refine z_sald hC hW 17 WM_17 g13 dX7_readText_225 ?_
        obtain ⟨g14, h⟩ := ix_some h
        refine z_sast hC hW 17 WM_17 g14 WMs_M_lineEnd dX7_readText_226 (fun H locs hW => ?_)
        refine lv_iinc (v := (x2 + 1)) (lv' := [(2, .int (x2 + 1)), (0, .ref (ρ 0)), (1, .int x1)]) hx hb dX7_readText_227 hl (k := 2) rfl rfl (by decide) rfl (fun ls hl => ?_)
        refine lv_goto (tgt := 177) hx hb dX7_readText_230 (by decide) ?_
        exact ih h hW (lv_sub hl [1, 2, 0] rfl)
  have b105 : ∀ {x1 : Int32} {M_taped : Int32} {M_here : Int32} {M_fault : Int32} {M_open : Int32} {M_laid : Int32} {M_lineMany : Nat → Int32} {M_testEnd : Nat → Int32} {M_lineEnd : Nat → Int32} {n : Nat} {x2 : Int32} {M_act : Nat → Int32} {M_with : Nat → Int32} {H : Heap} {locs : List Loc} {ls : Array Slot}, f_X7_readText_b105 x1 M_taped M_here M_fault M_open M_laid M_lineMany M_testEnd M_lineEnd n x2 M_act M_with = some res → zW D A s.heap (WM q ρ M_code M_doors M_price M_year M_joins M_joinA M_joinB M_walls M_wallA M_wallB M_cost M_olds M_near M_doneMany M_undoneMany M_changeOf M_changeAt M_before M_behind M_tape M_taped M_here M_fault M_open M_laid M_act M_with M_lineMany M_testEnd M_lineEnd M_facts M_pile M_hasLaw M_far M_within M_tooNear M_dried M_isOn M_wasOn M_bodies M_kind M_traces M_traced M_holds M_size M_elements M_shifted) H locs → lv_has ls 3 [(0, .ref (ρ 0)), (1, .int x1), (2, .int x2)] → W p l e (zrm d) s m args below meth c H locs 0 0 Q (F0 m 105 ls []) := by
    intro x1 M_taped M_here M_fault M_open M_laid M_lineMany M_testEnd M_lineEnd
    intro n
    induction n with
    | zero =>
      intro x2 M_act M_with H locs ls h
      rw [f_X7_readText_b105] at h
      cases h
    | succ n ih =>
      intro x2 M_act M_with H locs ls h hW hl
      rw [f_X7_readText_b105] at h
      refine lv_iload_n hx hb dX7_readText_105 rfl (lv_at hl 2 rfl) ?_
      refine lv_aload_n hx hb dX7_readText_106 rfl (lv_at hl 0 rfl) ?_
      refine z_get hC hW fg_X7_177 0 WM_0 rfl dX7_readText_107 ?_
      refine lv_icmp_ge (tgt := 163) hx hb dX7_readText_110 (by decide) (fun c6 => ?_) (fun c6 => ?_)
      · have h := ifp c6 h
        refine lv_aload_n hx hb dX7_readText_163 rfl (lv_at hl 0 rfl) ?_
        refine z_get hC hW fg_X7_57 0 WM_0 rfl dX7_readText_164 ?_
        refine lv_iload_n hx hb dX7_readText_167 rfl (lv_at hl 1 rfl) ?_
        refine lv_aload_n hx hb dX7_readText_168 rfl (lv_at hl 0 rfl) ?_
        refine z_get hC hW fg_X7_57 0 WM_0 rfl dX7_readText_169 ?_
        refine lv_iconst (v := 1) hx hb dX7_readText_172 (by decide) ?_
        obtain ⟨g7, h⟩ := ix_some h
        refine z_iald hC hW 15 WM_15 g7 dX7_readText_173 ?_
        obtain ⟨g8, h⟩ := ix_some h
        refine z_iast hC hW 15 WM_15 g8 WMs_M_lineMany dX7_readText_174 (fun H locs hW => ?_)
        refine lv_iconst (v := 0) hx hb dX7_readText_175 (by decide) ?_
        refine lv_istore_n (lv' := [(2, .int 0), (0, .ref (ρ 0)), (1, .int x1)]) hx hb dX7_readText_176 rfl hl (by decide) rfl (fun ls hl => ?_)
        exact b177 h hW (lv_sub hl [1, 2, 0] rfl)
      · have h := ifn c6 h
        refine lv_aload_n hx hb dX7_readText_113 rfl (lv_at hl 0 rfl) ?_
        refine z_get hC hW fg_X7_51 0 WM_0 rfl dX7_readText_114 ?_
        refine lv_sipush (v := 130) hx hb dX7_readText_117 (by decide) ?_
        refine lv_iload_n hx hb dX7_readText_120 rfl (lv_at hl 1 rfl) ?_
        refine lv_imul hx hb dX7_readText_121 ?_
        refine lv_iload_n hx hb dX7_readText_122 rfl (lv_at hl 2 rfl) ?_
        refine lv_iadd hx hb dX7_readText_123 ?_
        refine lv_aload_n hx hb dX7_readText_124 rfl (lv_at hl 0 rfl) ?_
        refine z_get hC hW fg_X7_51 0 WM_0 rfl dX7_readText_125 ?_
        refine lv_sipush (v := 130) hx hb dX7_readText_128 (by decide) ?_
        refine lv_iload_n hx hb dX7_readText_131 rfl (lv_at hl 2 rfl) ?_
        refine lv_iadd hx hb dX7_readText_132 ?_
        obtain ⟨g15, h⟩ := ix_some h
        refine z_bald hC hW 13 WM_13 g15 dX7_readText_133 ?_
        obtain ⟨g16, h⟩ := ix_some h
        refine z_bast hC hW 13 WM_13 g16 WMs_M_act dX7_readText_134 (fun H locs hW => ?_)
        refine lv_aload_n hx hb dX7_readText_135 rfl (lv_at hl 0 rfl) ?_
        refine z_get hC hW fg_X7_54 0 WM_0 rfl dX7_readText_136 ?_
        refine lv_sipush (v := 130) hx hb dX7_readText_139 (by decide) ?_
        refine lv_iload_n hx hb dX7_readText_142 rfl (lv_at hl 1 rfl) ?_
        refine lv_imul hx hb dX7_readText_143 ?_
        refine lv_iload_n hx hb dX7_readText_144 rfl (lv_at hl 2 rfl) ?_
        refine lv_iadd hx hb dX7_readText_145 ?_
        refine lv_aload_n hx hb dX7_readText_146 rfl (lv_at hl 0 rfl) ?_
        refine z_get hC hW fg_X7_54 0 WM_0 rfl dX7_readText_147 ?_
        refine lv_sipush (v := 130) hx hb dX7_readText_150 (by decide) ?_
        refine lv_iload_n hx hb dX7_readText_153 rfl (lv_at hl 2 rfl) ?_
        refine lv_iadd hx hb dX7_readText_154 ?_
        obtain ⟨g17, h⟩ := ix_some h
        refine z_iald hC hW 14 WM_14 g17 dX7_readText_155 ?_
        obtain ⟨g18, h⟩ := ix_some h
        refine z_iast hC hW 14 WM_14 g18 WMs_M_with dX7_readText_156 (fun H locs hW => ?_)
        refine lv_iinc (v := (x2 + 1)) (lv' := [(2, .int (x2 + 1)), (0, .ref (ρ 0)), (1, .int x1)]) hx hb dX7_readText_157 hl (k := 2) rfl rfl (by decide) rfl (fun ls hl => ?_)
        refine lv_goto (tgt := 105) hx hb dX7_readText_160 (by decide) ?_
        exact ih h hW (lv_sub hl [1, 2, 0] rfl)
  have b86 : ∀ {x1 : Int32} {M_taped : Int32} {M_here : Int32} {M_fault : Int32} {M_open : Int32} {M_laid : Int32} {M_act : Nat → Int32} {M_with : Nat → Int32} {M_lineMany : Nat → Int32} {M_testEnd : Nat → Int32} {M_lineEnd : Nat → Int32} {H : Heap} {locs : List Loc} {ls : Array Slot}, f_X7_readText_b86 x1 M_taped M_here M_fault M_open M_laid M_act M_with M_lineMany M_testEnd M_lineEnd = some res → zW D A s.heap (WM q ρ M_code M_doors M_price M_year M_joins M_joinA M_joinB M_walls M_wallA M_wallB M_cost M_olds M_near M_doneMany M_undoneMany M_changeOf M_changeAt M_before M_behind M_tape M_taped M_here M_fault M_open M_laid M_act M_with M_lineMany M_testEnd M_lineEnd M_facts M_pile M_hasLaw M_far M_within M_tooNear M_dried M_isOn M_wasOn M_bodies M_kind M_traces M_traced M_holds M_size M_elements M_shifted) H locs → lv_has ls 3 [(0, .ref (ρ 0)), (1, .int x1)] → W p l e (zrm d) s m args below meth c H locs 0 0 Q (F0 m 86 ls []) := by
    intro x1 M_taped M_here M_fault M_open M_laid M_act M_with M_lineMany M_testEnd M_lineEnd H locs ls h hW hl
    unfold f_X7_readText_b86 at h
    refine lv_aload_n hx hb dX7_readText_86 rfl (lv_at hl 0 rfl) ?_
    refine lv_iconst (v := 0) hx hb dX7_readText_87 (by decide) ?_
    refine z_put hC hW fp_X7_168 0 WM_0 (Nat.le_of_ble_eq_true rfl) rfl rfl WMs_M_taped dX7_readText_88 (fun H locs hW => ?_)
    refine lv_aload_n hx hb dX7_readText_91 rfl (lv_at hl 0 rfl) ?_
    refine z_get hC hW fg_X7_174 0 WM_0 rfl dX7_readText_92 ?_
    refine lv_if_lt (tgt := 103) hx hb dX7_readText_95 (by decide) (fun c5 => ?_) (fun c5 => ?_)
    · have h := ifp c5 h
      refine lv_iconst (v := 0) hx hb dX7_readText_103 (by decide) ?_
      refine lv_istore_n (lv' := [(2, .int 0), (0, .ref (ρ 0)), (1, .int x1)]) hx hb dX7_readText_104 rfl hl (by decide) rfl (fun ls hl => ?_)
      exact b105 h hW (lv_sub hl [1, 2, 0] rfl)
    · have h := ifn c5 h
      refine lv_aload_n hx hb dX7_readText_98 rfl (lv_at hl 0 rfl) ?_
      refine z_get hC hW fg_X7_174 0 WM_0 rfl dX7_readText_99 ?_
      have h := Option.some.inj h
      subst h
      exact hret _ _ _ _ _ dX7_readText_102 rfl rfl hW
  have b64 : ∀ {x1 : Int32} {M_taped : Int32} {M_here : Int32} {M_fault : Int32} {M_open : Int32} {M_laid : Int32} {M_act : Nat → Int32} {M_with : Nat → Int32} {M_lineMany : Nat → Int32} {M_testEnd : Nat → Int32} {M_lineEnd : Nat → Int32} {H : Heap} {locs : List Loc} {ls : Array Slot}, f_X7_readText_b64 x1 M_taped M_here M_fault M_open M_laid M_act M_with M_lineMany M_testEnd M_lineEnd = some res → zW D A s.heap (WM q ρ M_code M_doors M_price M_year M_joins M_joinA M_joinB M_walls M_wallA M_wallB M_cost M_olds M_near M_doneMany M_undoneMany M_changeOf M_changeAt M_before M_behind M_tape M_taped M_here M_fault M_open M_laid M_act M_with M_lineMany M_testEnd M_lineEnd M_facts M_pile M_hasLaw M_far M_within M_tooNear M_dried M_isOn M_wasOn M_bodies M_kind M_traces M_traced M_holds M_size M_elements M_shifted) H locs → lv_has ls 3 [(0, .ref (ρ 0)), (1, .int x1)] → W p l e (zrm d) s m args below meth c H locs 0 0 Q (F0 m 64 ls []) := by
    intro x1 M_taped M_here M_fault M_open M_laid M_act M_with M_lineMany M_testEnd M_lineEnd H locs ls h hW hl
    unfold f_X7_readText_b64 at h
    refine lv_aload_n hx hb dX7_readText_64 rfl (lv_at hl 0 rfl) ?_
    refine z_get hC hW fg_X7_174 0 WM_0 rfl dX7_readText_65 ?_
    refine lv_if_ge (tgt := 86) hx hb dX7_readText_68 (by decide) (fun c4 => ?_) (fun c4 => ?_)
    · have h := ifp c4 h
      exact b86 h hW (lv_sub hl [0, 1] rfl)
    · have h := ifn c4 h
      refine lv_aload_n hx hb dX7_readText_71 rfl (lv_at hl 0 rfl) ?_
      refine z_get hC hW fg_X7_171 0 WM_0 rfl dX7_readText_72 ?_
      refine lv_aload_n hx hb dX7_readText_75 rfl (lv_at hl 0 rfl) ?_
      refine z_get hC hW fg_X7_168 0 WM_0 rfl dX7_readText_76 ?_
      refine lv_icmp_ge (tgt := 86) hx hb dX7_readText_79 (by decide) (fun c19 => ?_) (fun c19 => ?_)
      · have h := ifp c19 h
        exact b86 h hW (lv_sub hl [0, 1] rfl)
      · have h := ifn c19 h
        refine lv_aload_n hx hb dX7_readText_82 rfl (lv_at hl 0 rfl) ?_
        obtain ⟨u20, eu20, h⟩ := bd_some h
        refine z_callV_v hC hW (rest := []) (c_X7_faulty (d := 0) (Nat.le_refl _) eu20) vw_X7_183 WM_0 rfl ⟨rfl, rfl⟩ (zrm_ok (by omega) (by decide)) rfl rfl hl.1 (Nat.le_of_ble_eq_true rfl) dX7_readText_83 (fun H locs hW => ?_)
        exact b86 h hW (lv_sub hl [0, 1] rfl)
  have b31 : ∀ {x1 : Int32} {M_taped : Int32} {n : Nat} {M_here : Int32} {M_fault : Int32} {M_open : Int32} {M_laid : Int32} {M_act : Nat → Int32} {M_with : Nat → Int32} {M_lineMany : Nat → Int32} {M_testEnd : Nat → Int32} {M_lineEnd : Nat → Int32} {H : Heap} {locs : List Loc} {ls : Array Slot}, f_X7_readText_b31 x1 M_tape M_taped n M_here M_fault M_open M_laid M_act M_with M_lineMany M_testEnd M_lineEnd = some res → zW D A s.heap (WM q ρ M_code M_doors M_price M_year M_joins M_joinA M_joinB M_walls M_wallA M_wallB M_cost M_olds M_near M_doneMany M_undoneMany M_changeOf M_changeAt M_before M_behind M_tape M_taped M_here M_fault M_open M_laid M_act M_with M_lineMany M_testEnd M_lineEnd M_facts M_pile M_hasLaw M_far M_within M_tooNear M_dried M_isOn M_wasOn M_bodies M_kind M_traces M_traced M_holds M_size M_elements M_shifted) H locs → lv_has ls 3 [(0, .ref (ρ 0)), (1, .int x1)] → W p l e (zrm d) s m args below meth c H locs 0 0 Q (F0 m 31 ls []) := by
    intro x1 M_taped
    intro n
    induction n with
    | zero =>
      intro M_here M_fault M_open M_laid M_act M_with M_lineMany M_testEnd M_lineEnd H locs ls h
      rw [f_X7_readText_b31] at h
      cases h
    | succ n ih =>
      intro M_here M_fault M_open M_laid M_act M_with M_lineMany M_testEnd M_lineEnd H locs ls h hW hl
      rw [f_X7_readText_b31] at h
      refine lv_aload_n hx hb dX7_readText_31 rfl (lv_at hl 0 rfl) ?_
      refine z_get hC hW fg_X7_174 0 WM_0 rfl dX7_readText_32 ?_
      refine lv_if_ge (tgt := 64) hx hb dX7_readText_35 (by decide) (fun c3 => ?_) (fun c3 => ?_)
      · have h := ifp c3 h
        exact b64 h hW (lv_sub hl [0, 1] rfl)
      · have h := ifn c3 h
        refine lv_aload_n hx hb dX7_readText_38 rfl (lv_at hl 0 rfl) ?_
        obtain ⟨u21, eu21, h⟩ := bd_some h
        refine z_callV_i hC hW (rest := []) (c_X7_look (d := 0) (Nat.le_refl _) eu21) vw_X7_186 WM_0 rfl ⟨rfl, rfl⟩ (zrm_ok (by omega) (by decide)) rfl rfl hl.1 (Nat.le_of_ble_eq_true rfl) dX7_readText_39 (fun H locs hW => ?_)
        refine lv_bipush (v := 59) hx hb dX7_readText_42 (by decide) ?_
        refine lv_icmp_ne (tgt := 64) hx hb dX7_readText_44 (by decide) (fun c22 => ?_) (fun c22 => ?_)
        · have h := ifn c22 h
          exact b64 h hW (lv_sub hl [0, 1] rfl)
        · have h := ifp c22 h
          refine lv_aload_n hx hb dX7_readText_47 rfl (lv_at hl 0 rfl) ?_
          refine lv_dup hx hb dX7_readText_48 rfl ?_
          refine z_get hC hW fg_X7_171 0 WM_0 rfl dX7_readText_49 ?_
          refine lv_iconst (v := 1) hx hb dX7_readText_52 (by decide) ?_
          refine lv_iadd hx hb dX7_readText_53 ?_
          refine z_put hC hW fp_X7_171 0 WM_0 (Nat.le_of_ble_eq_true rfl) rfl rfl WMs_M_here dX7_readText_54 (fun H locs hW => ?_)
          refine lv_aload_n hx hb dX7_readText_57 rfl (lv_at hl 0 rfl) ?_
          obtain ⟨u23, eu23, h⟩ := bd_some h
          refine z_callV_v hC hW (rest := []) (c_X7_line (d := 62) (Nat.le_refl _) eu23) vw_X7_222 WM_0 rfl ⟨rfl, rfl⟩ (zrm_ok (by omega) (by decide)) rfl rfl hl.1 (Nat.le_of_ble_eq_true rfl) dX7_readText_58 (fun H locs hW => ?_)
          refine lv_goto (tgt := 31) hx hb dX7_readText_61 (by decide) ?_
          exact ih h hW (lv_sub hl [0, 1] rfl)
  unfold f_X7_readText at h
  refine lv_aload_n hx hb dX7_readText_0 rfl (lv_at hl 0 rfl) ?_
  refine lv_iconst (v := 0) hx hb dX7_readText_1 (by decide) ?_
  refine z_put hC hW fp_X7_171 0 WM_0 (Nat.le_of_ble_eq_true rfl) rfl rfl WMs_M_here dX7_readText_2 (fun H locs hW => ?_)
  refine lv_aload_n hx hb dX7_readText_5 rfl (lv_at hl 0 rfl) ?_
  refine lv_iconst (v := (-1)) hx hb dX7_readText_6 (by decide) ?_
  refine z_put hC hW fp_X7_174 0 WM_0 (Nat.le_of_ble_eq_true rfl) rfl rfl WMs_M_fault dX7_readText_7 (fun H locs hW => ?_)
  refine lv_aload_n hx hb dX7_readText_10 rfl (lv_at hl 0 rfl) ?_
  refine lv_iconst (v := 0) hx hb dX7_readText_11 (by decide) ?_
  refine z_put hC hW fp_X7_180 0 WM_0 (Nat.le_of_ble_eq_true rfl) rfl rfl WMs_M_open dX7_readText_12 (fun H locs hW => ?_)
  refine lv_aload_n hx hb dX7_readText_15 rfl (lv_at hl 0 rfl) ?_
  refine lv_iconst (v := 0) hx hb dX7_readText_16 (by decide) ?_
  refine z_put hC hW fp_X7_177 0 WM_0 (Nat.le_of_ble_eq_true rfl) rfl rfl WMs_M_laid dX7_readText_17 (fun H locs hW => ?_)
  refine lv_aload_n hx hb dX7_readText_20 rfl (lv_at hl 0 rfl) ?_
  refine z_get hC hW fg_X7_57 0 WM_0 rfl dX7_readText_21 ?_
  refine lv_iconst (v := 1) hx hb dX7_readText_24 (by decide) ?_
  refine lv_iconst (v := 0) hx hb dX7_readText_25 (by decide) ?_
  obtain ⟨g1, h⟩ := ix_some h
  refine z_iast hC hW 15 WM_15 g1 WMs_M_lineMany dX7_readText_26 (fun H locs hW => ?_)
  refine lv_aload_n hx hb dX7_readText_27 rfl (lv_at hl 0 rfl) ?_
  obtain ⟨u2, eu2, h⟩ := bd_some h
  refine z_callV_v hC hW (rest := []) (c_X7_line (d := 62) (Nat.le_refl _) eu2) vw_X7_222 WM_0 rfl ⟨rfl, rfl⟩ (zrm_ok (by omega) (by decide)) rfl rfl hl.1 (Nat.le_of_ble_eq_true rfl) dX7_readText_28 (fun H locs hW => ?_)
  exact b31 h hW (lv_sub hl [0, 1] rfl)
set_option maxHeartbeats 4000000 in
set_option maxRecDepth 100000 in
theorem c_X7_law {d : Nat} {res : Int32 × Int32 × Int32 × Int32 × Int32 × Int32 × (Nat → Int32) × (Nat → Int32) × (Nat → Int32) × (Nat → Int32) × (Nat → Int32) × Int32} (hd : 64 ≤ d) (h : f_X7_law M_tape M_taped M_here M_fault M_open M_laid M_act M_with M_lineMany M_testEnd M_lineEnd M_hasLaw = some res) : zMi l yX7_law cX7_law 2 .int (zrm d) [.ref (ρ 0)] D q (WM q ρ M_code M_doors M_price M_year M_joins M_joinA M_joinB M_walls M_wallA M_wallB M_cost M_olds M_near M_doneMany M_undoneMany M_changeOf M_changeAt M_before M_behind M_tape M_taped M_here M_fault M_open M_laid M_act M_with M_lineMany M_testEnd M_lineEnd M_facts M_pile M_hasLaw M_far M_within M_tooNear M_dried M_isOn M_wasOn M_bodies M_kind M_traces M_traced M_holds M_size M_elements M_shifted) sz res.1 (WM q ρ M_code M_doors M_price M_year M_joins M_joinA M_joinB M_walls M_wallA M_wallB M_cost M_olds M_near M_doneMany M_undoneMany M_changeOf M_changeAt M_before M_behind M_tape res.2.1 res.2.2.1 res.2.2.2.1 res.2.2.2.2.1 res.2.2.2.2.2.1 res.2.2.2.2.2.2.1 res.2.2.2.2.2.2.2.1 res.2.2.2.2.2.2.2.2.1 res.2.2.2.2.2.2.2.2.2.1 res.2.2.2.2.2.2.2.2.2.2.1 M_facts M_pile res.2.2.2.2.2.2.2.2.2.2.2 M_far M_within M_tooNear M_dried M_isOn M_wasOn M_bodies M_kind M_traces M_traced M_holds M_size M_elements M_shifted) := by
  refine zMet_i (own := RX7) _ (by decide) rfl (Nat.le_of_ble_eq_true rfl) ?_
  intro p e s m args below meth c A ls Q hC hW hl hret
  have hx := hC.1
  have hb := hC.2.1
  have hl : lv_has ls 2 [(0, .ref (ρ 0))] := hl
  unfold f_X7_law at h
  refine lv_aload_n hx hb dX7_law_0 rfl (lv_at hl 0 rfl) ?_
  refine lv_iconst (v := 0) hx hb dX7_law_1 (by decide) ?_
  obtain ⟨u1, eu1, h⟩ := bd_some h
  refine z_callV_i hC hW (rest := []) (c_X7_readText (d := 63) (Nat.le_refl _) eu1) vw_X7_231 WM_0 rfl ⟨rfl, rfl⟩ (zrm_ok (by omega) (by decide)) rfl rfl hl.1 (Nat.le_of_ble_eq_true rfl) dX7_law_2 (fun H locs hW => ?_)
  refine lv_istore_n (lv' := [(1, .int u1.1), (0, .ref (ρ 0))]) hx hb dX7_law_5 rfl hl (by decide) rfl (fun ls hl => ?_)
  refine lv_iload_n hx hb dX7_law_6 rfl (lv_at hl 0 rfl) ?_
  refine lv_if_lt (tgt := 15) hx hb dX7_law_7 (by decide) (fun c2 => ?_) (fun c2 => ?_)
  · have h := ifp c2 h
    refine lv_aload_n hx hb dX7_law_15 rfl (lv_at hl 1 rfl) ?_
    refine lv_iconst (v := 1) hx hb dX7_law_16 (by decide) ?_
    refine z_put hC hW fp_X7_234 0 WM_0 (Nat.le_of_ble_eq_true rfl) rfl rfl WMs_M_hasLaw dX7_law_17 (fun H locs hW => ?_)
    refine lv_iconst (v := 1) hx hb dX7_law_20 (by decide) ?_
    have h := Option.some.inj h
    subst h
    exact hret _ _ _ _ _ dX7_law_21 rfl rfl hW
  · have h := ifn c2 h
    refine lv_bipush (v := (-100)) hx hb dX7_law_10 (by decide) ?_
    refine lv_iload_n hx hb dX7_law_12 rfl (lv_at hl 0 rfl) ?_
    refine lv_isub hx hb dX7_law_13 ?_
    have h := Option.some.inj h
    subst h
    exact hret _ _ _ _ _ dX7_law_14 rfl rfl hW
set_option maxHeartbeats 4000000 in
set_option maxRecDepth 100000 in
theorem c_X7_allDoors {d : Nat} {res : Int32} (hd : 0 ≤ d) (h : f_X7_allDoors M_doors = some res) : zMi l yX7_allDoors cX7_allDoors 1 .int (zrm d) [.ref (ρ 0)] D q (WM q ρ M_code M_doors M_price M_year M_joins M_joinA M_joinB M_walls M_wallA M_wallB M_cost M_olds M_near M_doneMany M_undoneMany M_changeOf M_changeAt M_before M_behind M_tape M_taped M_here M_fault M_open M_laid M_act M_with M_lineMany M_testEnd M_lineEnd M_facts M_pile M_hasLaw M_far M_within M_tooNear M_dried M_isOn M_wasOn M_bodies M_kind M_traces M_traced M_holds M_size M_elements M_shifted) sz res (WM q ρ M_code M_doors M_price M_year M_joins M_joinA M_joinB M_walls M_wallA M_wallB M_cost M_olds M_near M_doneMany M_undoneMany M_changeOf M_changeAt M_before M_behind M_tape M_taped M_here M_fault M_open M_laid M_act M_with M_lineMany M_testEnd M_lineEnd M_facts M_pile M_hasLaw M_far M_within M_tooNear M_dried M_isOn M_wasOn M_bodies M_kind M_traces M_traced M_holds M_size M_elements M_shifted) := by
  refine zMet_i (own := RX7) _ (by decide) rfl (Nat.le_of_ble_eq_true rfl) ?_
  intro p e s m args below meth c A ls Q hC hW hl hret
  have hx := hC.1
  have hb := hC.2.1
  have hl : lv_has ls 1 [(0, .ref (ρ 0))] := hl
  unfold f_X7_allDoors at h
  refine lv_iconst (v := 1) hx hb dX7_allDoors_0 (by decide) ?_
  refine lv_aload_n hx hb dX7_allDoors_1 rfl (lv_at hl 0 rfl) ?_
  refine z_get hC hW fg_X7_111 0 WM_0 rfl dX7_allDoors_2 ?_
  refine lv_ishl hx hb dX7_allDoors_5 ?_
  refine lv_iconst (v := 1) hx hb dX7_allDoors_6 (by decide) ?_
  refine lv_isub hx hb dX7_allDoors_7 ?_
  have h := Option.some.inj h
  subst h
  exact hret _ _ _ _ _ dX7_allDoors_8 rfl rfl hW
end CT21_m06
