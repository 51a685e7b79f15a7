section CT21_m14
variable {l : Launch} {D : va_G} {q : Nat → ClassId} {ρ : Nat → Nat} {sz : Nat} {M_code : Int32} {M_doors : Int32} {M_price : Nat → Int32} {M_year : Nat → Int32} {M_joins : Int32} {M_joinA : Nat → Int32} {M_joinB : Nat → Int32} {M_walls : Int32} {M_wallA : Nat → Int32} {M_wallB : Nat → Int32} {M_cost : Nat → Int32} {M_olds : Int32} {M_near : Int32} {M_doneMany : Int32} {M_undoneMany : Int32} {M_changeOf : Nat → Int32} {M_changeAt : Nat → Int32} {M_before : Nat → Int32} {M_behind : Nat → Int32} {M_tape : Nat → Int32} {M_taped : Int32} {M_here : Int32} {M_fault : Int32} {M_open : Int32} {M_laid : Int32} {M_act : Nat → Int32} {M_with : Nat → Int32} {M_lineMany : Nat → Int32} {M_testEnd : Nat → Int32} {M_lineEnd : Nat → Int32} {M_facts : Nat → Int32} {M_pile : Nat → Int32} {M_hasLaw : Int32} {M_far : Nat → Int32} {M_within : Nat → Int32} {M_tooNear : Nat → Int32} {M_dried : Int32} {M_isOn : Nat → Int32} {M_wasOn : Nat → Int32} {M_bodies : Int32} {M_kind : Nat → Int32} {M_traces : Int32} {M_traced : Nat → Int32} {M_holds : Nat → Int32} {M_size : Nat → Int32} {M_elements : Nat → Int64} {M_shifted : Nat → Int64}
set_option maxHeartbeats 4000000 in
set_option maxRecDepth 100000 in
theorem c_X7_body {a1 : Int32} {d : Nat} {res : Int32 × Int32 × (Nat → Int32)} (hd : 1 ≤ d) (h : f_X7_body a1 M_bodies M_kind = some res) : zMi l yX7_body cX7_body 2 .int (zrm d) [.ref (ρ 0), .int a1] D q (WM q ρ M_code M_doors M_price M_year M_joins M_joinA M_joinB M_walls M_wallA M_wallB M_cost M_olds M_near M_doneMany M_undoneMany M_changeOf M_changeAt M_before M_behind M_tape M_taped M_here M_fault M_open M_laid M_act M_with M_lineMany M_testEnd M_lineEnd M_facts M_pile M_hasLaw M_far M_within M_tooNear M_dried M_isOn M_wasOn M_bodies M_kind M_traces M_traced M_holds M_size M_elements M_shifted) sz res.1 (WM q ρ M_code M_doors M_price M_year M_joins M_joinA M_joinB M_walls M_wallA M_wallB M_cost M_olds M_near M_doneMany M_undoneMany M_changeOf M_changeAt M_before M_behind M_tape M_taped M_here M_fault M_open M_laid M_act M_with M_lineMany M_testEnd M_lineEnd M_facts M_pile M_hasLaw M_far M_within M_tooNear M_dried M_isOn M_wasOn res.2.1 res.2.2 M_traces M_traced M_holds M_size M_elements M_shifted) := by
  refine zMet_i (own := RX7) _ (by decide) rfl (Nat.le_of_ble_eq_true rfl) ?_
  intro p e s m args below meth c A ls Q hC hW hl hret
  have hx := hC.1
  have hb := hC.2.1
  have hl : lv_has ls 2 [(0, .ref (ρ 0)), (1, .int a1)] := hl
  unfold f_X7_body at h
  refine lv_iload_n hx hb dX7_body_0 rfl (lv_at hl 1 rfl) ?_
  refine lv_iconst (v := 0) hx hb dX7_body_1 (by decide) ?_
  refine lv_bipush (v := 7) hx hb dX7_body_2 (by decide) ?_
  obtain ⟨u1, eu1, h⟩ := bd_some h
  refine z_callS_i hC hW (rest := []) (c_X7_in (d := 0) (Nat.le_refl _) eu1) sw_X7_114 ⟨rfl, rfl⟩ (zrm_ok (by omega) (by decide)) rfl rfl hl.1 (Nat.le_of_ble_eq_true rfl) dX7_body_4 (fun H locs hW => ?_)
  refine lv_if_ne (tgt := 12) hx hb dX7_body_7 (by decide) (fun c2 => ?_) (fun c2 => ?_)
  · have h := ifn c2 h
    refine lv_aload_n hx hb dX7_body_12 rfl (lv_at hl 0 rfl) ?_
    refine z_get hC hW fg_X7_294 0 WM_0 rfl dX7_body_13 ?_
    refine lv_bipush (v := 50) hx hb dX7_body_16 (by decide) ?_
    refine lv_icmp_ne (tgt := 24) hx hb dX7_body_18 (by decide) (fun c3 => ?_) (fun c3 => ?_)
    · have h := ifn c3 h
      refine lv_aload_n hx hb dX7_body_24 rfl (lv_at hl 0 rfl) ?_
      refine z_get hC hW fg_X7_89 0 WM_0 rfl dX7_body_25 ?_
      refine lv_aload_n hx hb dX7_body_28 rfl (lv_at hl 0 rfl) ?_
      refine z_get hC hW fg_X7_294 0 WM_0 rfl dX7_body_29 ?_
      refine lv_iload_n hx hb dX7_body_32 rfl (lv_at hl 1 rfl) ?_
      obtain ⟨g4, h⟩ := ix_some h
      refine z_iast hC hW 25 WM_25 g4 WMs_M_kind dX7_body_33 (fun H locs hW => ?_)
      refine lv_aload_n hx hb dX7_body_34 rfl (lv_at hl 0 rfl) ?_
      refine lv_dup hx hb dX7_body_35 rfl ?_
      refine z_get hC hW fg_X7_294 0 WM_0 rfl dX7_body_36 ?_
      refine lv_iconst (v := 1) hx hb dX7_body_39 (by decide) ?_
      refine lv_iadd hx hb dX7_body_40 ?_
      refine z_put hC hW fp_X7_294 0 WM_0 (Nat.le_of_ble_eq_true rfl) rfl rfl WMs_M_bodies dX7_body_41 (fun H locs hW => ?_)
      refine lv_aload_n hx hb dX7_body_44 rfl (lv_at hl 0 rfl) ?_
      refine z_get hC hW fg_X7_294 0 WM_0 rfl dX7_body_45 ?_
      refine lv_iconst (v := 1) hx hb dX7_body_48 (by decide) ?_
      refine lv_isub hx hb dX7_body_49 ?_
      have h := Option.some.inj h
      subst h
      exact hret _ _ _ _ _ dX7_body_50 rfl rfl hW
    · have h := ifp c3 h
      refine lv_bipush (v := (-3)) hx hb dX7_body_21 (by decide) ?_
      have h := Option.some.inj h
      subst h
      exact hret _ _ _ _ _ dX7_body_23 rfl rfl hW
  · have h := ifp c2 h
    refine lv_iconst (v := (-1)) hx hb dX7_body_10 (by decide) ?_
    have h := Option.some.inj h
    subst h
    exact hret _ _ _ _ _ dX7_body_11 rfl rfl hW
set_option maxHeartbeats 4000000 in
set_option maxRecDepth 100000 in
theorem c_X7_isBody {a1 : Int32} {d : Nat} {res : Int32} (hd : 1 ≤ d) (h : f_X7_isBody a1 M_bodies = some res) : zMi l yX7_isBody cX7_isBody 2 .boolean (zrm d) [.ref (ρ 0), .int a1] D q (WM q ρ M_code M_doors M_price M_year M_joins M_joinA M_joinB M_walls M_wallA M_wallB M_cost M_olds M_near M_doneMany M_undoneMany M_changeOf M_changeAt M_before M_behind M_tape M_taped M_here M_fault M_open M_laid M_act M_with M_lineMany M_testEnd M_lineEnd M_facts M_pile M_hasLaw M_far M_within M_tooNear M_dried M_isOn M_wasOn M_bodies M_kind M_traces M_traced M_holds M_size M_elements M_shifted) sz res (WM q ρ M_code M_doors M_price M_year M_joins M_joinA M_joinB M_walls M_wallA M_wallB M_cost M_olds M_near M_doneMany M_undoneMany M_changeOf M_changeAt M_before M_behind M_tape M_taped M_here M_fault M_open M_laid M_act M_with M_lineMany M_testEnd M_lineEnd M_facts M_pile M_hasLaw M_far M_within M_tooNear M_dried M_isOn M_wasOn M_bodies M_kind M_traces M_traced M_holds M_size M_elements M_shifted) := by
  refine zMet_i (own := RX7) _ (by decide) rfl (Nat.le_of_ble_eq_true rfl) ?_
  intro p e s m args below meth c A ls Q hC hW hl hret
  have hx := hC.1
  have hb := hC.2.1
  have hl : lv_has ls 2 [(0, .ref (ρ 0)), (1, .int a1)] := hl
  unfold f_X7_isBody at h
  refine lv_iload_n hx hb dX7_isBody_0 rfl (lv_at hl 1 rfl) ?_
  refine lv_iconst (v := 0) hx hb dX7_isBody_1 (by decide) ?_
  refine lv_aload_n hx hb dX7_isBody_2 rfl (lv_at hl 0 rfl) ?_
  refine z_get hC hW fg_X7_294 0 WM_0 rfl dX7_isBody_3 ?_
  refine lv_iconst (v := 1) hx hb dX7_isBody_6 (by decide) ?_
  refine lv_isub hx hb dX7_isBody_7 ?_
  obtain ⟨u1, eu1, h⟩ := bd_some h
  refine z_callS_i hC hW (rest := []) (c_X7_in (d := 0) (Nat.le_refl _) eu1) sw_X7_114 ⟨rfl, rfl⟩ (zrm_ok (by omega) (by decide)) rfl rfl hl.1 (Nat.le_of_ble_eq_true rfl) dX7_isBody_8 (fun H locs hW => ?_)
  obtain ⟨g2, h⟩ := bz_some h
  have h := Option.some.inj h
  subst h
  exact hret _ _ _ _ _ dX7_isBody_11 rfl g2 hW
set_option maxHeartbeats 4000000 in
set_option maxRecDepth 100000 in
theorem c_X7_ran {a1 : Int32} {d : Nat} {res : Int32 × (Nat → Int32)} (hd : 0 ≤ d) (h : f_X7_ran a1 M_traces M_traced = some res) : zMv l yX7_ran cX7_ran 2 (zrm d) [.ref (ρ 0), .int a1] D q (WM q ρ M_code M_doors M_price M_year M_joins M_joinA M_joinB M_walls M_wallA M_wallB M_cost M_olds M_near M_doneMany M_undoneMany M_changeOf M_changeAt M_before M_behind M_tape M_taped M_here M_fault M_open M_laid M_act M_with M_lineMany M_testEnd M_lineEnd M_facts M_pile M_hasLaw M_far M_within M_tooNear M_dried M_isOn M_wasOn M_bodies M_kind M_traces M_traced M_holds M_size M_elements M_shifted) sz (WM q ρ M_code M_doors M_price M_year M_joins M_joinA M_joinB M_walls M_wallA M_wallB M_cost M_olds M_near M_doneMany M_undoneMany M_changeOf M_changeAt M_before M_behind M_tape M_taped M_here M_fault M_open M_laid M_act M_with M_lineMany M_testEnd M_lineEnd M_facts M_pile M_hasLaw M_far M_within M_tooNear M_dried M_isOn M_wasOn M_bodies M_kind res.1 res.2 M_holds M_size M_elements M_shifted) := by
  refine zMet_v (own := RX7) (by decide) rfl (Nat.le_of_ble_eq_true rfl) ?_
  intro p e s m args below meth c A ls Q hC hW hl hret
  have hx := hC.1
  have hb := hC.2.1
  have hl : lv_has ls 2 [(0, .ref (ρ 0)), (1, .int a1)] := hl
  have b19 : ∀ {M_traces : Int32} {M_traced : Nat → Int32} {H : Heap} {locs : List Loc} {ls : Array Slot}, f_X7_ran_b19 M_traces M_traced = some res → zW D A s.heap (WM q ρ M_code M_doors M_price M_year M_joins M_joinA M_joinB M_walls M_wallA M_wallB M_cost M_olds M_near M_doneMany M_undoneMany M_changeOf M_changeAt M_before M_behind M_tape M_taped M_here M_fault M_open M_laid M_act M_with M_lineMany M_testEnd M_lineEnd M_facts M_pile M_hasLaw M_far M_within M_tooNear M_dried M_isOn M_wasOn M_bodies M_kind M_traces M_traced M_holds M_size M_elements M_shifted) H locs → lv_has ls 2 [(0, .ref (ρ 0))] → W p l e (zrm d) s m args below meth c H locs 0 0 Q (F0 m 19 ls []) := by
    intro M_traces M_traced H locs ls h hW hl
    unfold f_X7_ran_b19 at h
    refine lv_aload_n hx hb dX7_ran_19 rfl (lv_at hl 0 rfl) ?_
    refine lv_dup hx hb dX7_ran_20 rfl ?_
    refine z_get hC hW fg_X7_297 0 WM_0 rfl dX7_ran_21 ?_
    refine lv_iconst (v := 1) hx hb dX7_ran_24 (by decide) ?_
    refine lv_iadd hx hb dX7_ran_25 ?_
    refine z_put hC hW fp_X7_297 0 WM_0 (Nat.le_of_ble_eq_true rfl) rfl rfl WMs_M_traces dX7_ran_26 (fun H locs hW => ?_)
    have h := Option.some.inj h
    subst h
    exact hret _ _ _ _ dX7_ran_29 hW
  unfold f_X7_ran at h
  refine lv_aload_n hx hb dX7_ran_0 rfl (lv_at hl 0 rfl) ?_
  refine z_get hC hW fg_X7_297 0 WM_0 rfl dX7_ran_1 ?_
  refine lv_bipush (v := 24) hx hb dX7_ran_4 (by decide) ?_
  refine lv_icmp_ge (tgt := 19) hx hb dX7_ran_6 (by decide) (fun c1 => ?_) (fun c1 => ?_)
  · have h := ifp c1 h
    exact b19 h hW (lv_sub hl [0] rfl)
  · have h := ifn c1 h
    refine lv_aload_n hx hb dX7_ran_9 rfl (lv_at hl 0 rfl) ?_
    refine z_get hC hW fg_X7_92 0 WM_0 rfl dX7_ran_10 ?_
    refine lv_aload_n hx hb dX7_ran_13 rfl (lv_at hl 0 rfl) ?_
    refine z_get hC hW fg_X7_297 0 WM_0 rfl dX7_ran_14 ?_
    refine lv_iload_n hx hb dX7_ran_17 rfl (lv_at hl 1 rfl) ?_
    obtain ⟨g2, h⟩ := ix_some h
    refine z_iast hC hW 26 WM_26 g2 WMs_M_traced dX7_ran_18 (fun H locs hW => ?_)
    exact b19 h hW (lv_sub hl [0] rfl)
set_option maxHeartbeats 4000000 in
set_option maxRecDepth 100000 in
theorem c_X7_isUnder {a0 : Int32} {a1 : Int32} {d : Nat} {res : Int32} (hd : 0 ≤ d) (h : f_X7_isUnder a0 a1 = some res) : zMi l yX7_isUnder cX7_isUnder 2 .boolean (zrm d) [.int a0, .int a1] D q (WM q ρ M_code M_doors M_price M_year M_joins M_joinA M_joinB M_walls M_wallA M_wallB M_cost M_olds M_near M_doneMany M_undoneMany M_changeOf M_changeAt M_before M_behind M_tape M_taped M_here M_fault M_open M_laid M_act M_with M_lineMany M_testEnd M_lineEnd M_facts M_pile M_hasLaw M_far M_within M_tooNear M_dried M_isOn M_wasOn M_bodies M_kind M_traces M_traced M_holds M_size M_elements M_shifted) sz res (WM q ρ M_code M_doors M_price M_year M_joins M_joinA M_joinB M_walls M_wallA M_wallB M_cost M_olds M_near M_doneMany M_undoneMany M_changeOf M_changeAt M_before M_behind M_tape M_taped M_here M_fault M_open M_laid M_act M_with M_lineMany M_testEnd M_lineEnd M_facts M_pile M_hasLaw M_far M_within M_tooNear M_dried M_isOn M_wasOn M_bodies M_kind M_traces M_traced M_holds M_size M_elements M_shifted) := by
  refine zMet_i (own := RX7) _ (by decide) rfl (Nat.le_of_ble_eq_true rfl) ?_
  intro p e s m args below meth c A ls Q hC hW hl hret
  have hx := hC.1
  have hb := hC.2.1
  have hl : lv_has ls 2 [(0, .int a0), (1, .int a1)] := hl
  have b44 : ∀ {x0 : Int32} {x1 : Int32} {H : Heap} {locs : List Loc} {ls : Array Slot}, f_X7_isUnder_b44 x0 x1 = some res → zW D A s.heap (WM q ρ M_code M_doors M_price M_year M_joins M_joinA M_joinB M_walls M_wallA M_wallB M_cost M_olds M_near M_doneMany M_undoneMany M_changeOf M_changeAt M_before M_behind M_tape M_taped M_here M_fault M_open M_laid M_act M_with M_lineMany M_testEnd M_lineEnd M_facts M_pile M_hasLaw M_far M_within M_tooNear M_dried M_isOn M_wasOn M_bodies M_kind M_traces M_traced M_holds M_size M_elements M_shifted) H locs → lv_has ls 2 [(0, .int x0), (1, .int x1)] → W p l e (zrm d) s m args below meth c H locs 0 0 Q (F0 m 44 ls []) := by
    intro x0 x1 H locs ls h hW hl
    unfold f_X7_isUnder_b44 at h
    refine lv_iload_n hx hb dX7_isUnder_44 rfl (lv_at hl 1 rfl) ?_
    refine lv_bipush (v := 6) hx hb dX7_isUnder_45 (by decide) ?_
    refine lv_icmp_ne (tgt := 60) hx hb dX7_isUnder_47 (by decide) (fun c6 => ?_) (fun c6 => ?_)
    · have h := ifn c6 h
      refine lv_iconst (v := 0) hx hb dX7_isUnder_60 (by decide) ?_
      have h := Option.some.inj h
      subst h
      exact hret _ _ _ _ _ dX7_isUnder_61 rfl rfl hW
    · have h := ifp c6 h
      refine lv_iload_n hx hb dX7_isUnder_50 rfl (lv_at hl 0 rfl) ?_
      refine lv_bipush (v := 7) hx hb dX7_isUnder_51 (by decide) ?_
      refine lv_icmp_ne (tgt := 60) hx hb dX7_isUnder_53 (by decide) (fun c7 => ?_) (fun c7 => ?_)
      · have h := ifn c7 h
        refine lv_iconst (v := 0) hx hb dX7_isUnder_60 (by decide) ?_
        have h := Option.some.inj h
        subst h
        exact hret _ _ _ _ _ dX7_isUnder_61 rfl rfl hW
      · have h := ifp c7 h
        refine lv_iconst (v := 1) hx hb dX7_isUnder_56 (by decide) ?_
        refine lv_goto (tgt := 61) hx hb dX7_isUnder_57 (by decide) ?_
        have h := Option.some.inj h
        subst h
        exact hret _ _ _ _ _ dX7_isUnder_61 rfl rfl hW
  have b34 : ∀ {x0 : Int32} {x1 : Int32} {H : Heap} {locs : List Loc} {ls : Array Slot}, f_X7_isUnder_b34 x0 x1 = some res → zW D A s.heap (WM q ρ M_code M_doors M_price M_year M_joins M_joinA M_joinB M_walls M_wallA M_wallB M_cost M_olds M_near M_doneMany M_undoneMany M_changeOf M_changeAt M_before M_behind M_tape M_taped M_here M_fault M_open M_laid M_act M_with M_lineMany M_testEnd M_lineEnd M_facts M_pile M_hasLaw M_far M_within M_tooNear M_dried M_isOn M_wasOn M_bodies M_kind M_traces M_traced M_holds M_size M_elements M_shifted) H locs → lv_has ls 2 [(0, .int x0), (1, .int x1)] → W p l e (zrm d) s m args below meth c H locs 0 0 Q (F0 m 34 ls []) := by
    intro x0 x1 H locs ls h hW hl
    unfold f_X7_isUnder_b34 at h
    refine lv_iload_n hx hb dX7_isUnder_34 rfl (lv_at hl 1 rfl) ?_
    refine lv_iconst (v := 4) hx hb dX7_isUnder_35 (by decide) ?_
    refine lv_icmp_ne (tgt := 44) hx hb dX7_isUnder_36 (by decide) (fun c5 => ?_) (fun c5 => ?_)
    · have h := ifn c5 h
      exact b44 h hW (lv_sub hl [0, 1] rfl)
    · have h := ifp c5 h
      refine lv_iload_n hx hb dX7_isUnder_39 rfl (lv_at hl 0 rfl) ?_
      refine lv_iconst (v := 5) hx hb dX7_isUnder_40 (by decide) ?_
      refine lv_icmp_eq (tgt := 56) hx hb dX7_isUnder_41 (by decide) (fun c8 => ?_) (fun c8 => ?_)
      · have h := ifp c8 h
        refine lv_iconst (v := 1) hx hb dX7_isUnder_56 (by decide) ?_
        refine lv_goto (tgt := 61) hx hb dX7_isUnder_57 (by decide) ?_
        have h := Option.some.inj h
        subst h
        exact hret _ _ _ _ _ dX7_isUnder_61 rfl rfl hW
      · have h := ifn c8 h
        exact b44 h hW (lv_sub hl [0, 1] rfl)
  have b24 : ∀ {x0 : Int32} {x1 : Int32} {H : Heap} {locs : List Loc} {ls : Array Slot}, f_X7_isUnder_b24 x0 x1 = some res → zW D A s.heap (WM q ρ M_code M_doors M_price M_year M_joins M_joinA M_joinB M_walls M_wallA M_wallB M_cost M_olds M_near M_doneMany M_undoneMany M_changeOf M_changeAt M_before M_behind M_tape M_taped M_here M_fault M_open M_laid M_act M_with M_lineMany M_testEnd M_lineEnd M_facts M_pile M_hasLaw M_far M_within M_tooNear M_dried M_isOn M_wasOn M_bodies M_kind M_traces M_traced M_holds M_size M_elements M_shifted) H locs → lv_has ls 2 [(0, .int x0), (1, .int x1)] → W p l e (zrm d) s m args below meth c H locs 0 0 Q (F0 m 24 ls []) := by
    intro x0 x1 H locs ls h hW hl
    unfold f_X7_isUnder_b24 at h
    refine lv_iload_n hx hb dX7_isUnder_24 rfl (lv_at hl 1 rfl) ?_
    refine lv_iconst (v := 2) hx hb dX7_isUnder_25 (by decide) ?_
    refine lv_icmp_ne (tgt := 34) hx hb dX7_isUnder_26 (by decide) (fun c4 => ?_) (fun c4 => ?_)
    · have h := ifn c4 h
      exact b34 h hW (lv_sub hl [0, 1] rfl)
    · have h := ifp c4 h
      refine lv_iload_n hx hb dX7_isUnder_29 rfl (lv_at hl 0 rfl) ?_
      refine lv_iconst (v := 3) hx hb dX7_isUnder_30 (by decide) ?_
      refine lv_icmp_eq (tgt := 56) hx hb dX7_isUnder_31 (by decide) (fun c9 => ?_) (fun c9 => ?_)
      · have h := ifp c9 h
        refine lv_iconst (v := 1) hx hb dX7_isUnder_56 (by decide) ?_
        refine lv_goto (tgt := 61) hx hb dX7_isUnder_57 (by decide) ?_
        have h := Option.some.inj h
        subst h
        exact hret _ _ _ _ _ dX7_isUnder_61 rfl rfl hW
      · have h := ifn c9 h
        exact b34 h hW (lv_sub hl [0, 1] rfl)
  unfold f_X7_isUnder at h
  refine lv_iload_n hx hb dX7_isUnder_0 rfl (lv_at hl 1 rfl) ?_
  refine lv_if_eq (tgt := 56) hx hb dX7_isUnder_1 (by decide) (fun c1 => ?_) (fun c1 => ?_)
  · have h := ifp c1 h
    refine lv_iconst (v := 1) hx hb dX7_isUnder_56 (by decide) ?_
    refine lv_goto (tgt := 61) hx hb dX7_isUnder_57 (by decide) ?_
    have h := Option.some.inj h
    subst h
    exact hret _ _ _ _ _ dX7_isUnder_61 rfl rfl hW
  · have h := ifn c1 h
    refine lv_iload_n hx hb dX7_isUnder_4 rfl (lv_at hl 0 rfl) ?_
    refine lv_iload_n hx hb dX7_isUnder_5 rfl (lv_at hl 1 rfl) ?_
    refine lv_icmp_eq (tgt := 56) hx hb dX7_isUnder_6 (by decide) (fun c2 => ?_) (fun c2 => ?_)
    · have h := ifp c2 h
      refine lv_iconst (v := 1) hx hb dX7_isUnder_56 (by decide) ?_
      refine lv_goto (tgt := 61) hx hb dX7_isUnder_57 (by decide) ?_
      have h := Option.some.inj h
      subst h
      exact hret _ _ _ _ _ dX7_isUnder_61 rfl rfl hW
    · have h := ifn c2 h
      refine lv_iload_n hx hb dX7_isUnder_9 rfl (lv_at hl 1 rfl) ?_
      refine lv_iconst (v := 1) hx hb dX7_isUnder_10 (by decide) ?_
      refine lv_icmp_ne (tgt := 24) hx hb dX7_isUnder_11 (by decide) (fun c3 => ?_) (fun c3 => ?_)
      · have h := ifn c3 h
        exact b24 h hW (lv_sub hl [0, 1] rfl)
      · have h := ifp c3 h
        refine lv_iload_n hx hb dX7_isUnder_14 rfl (lv_at hl 0 rfl) ?_
        refine lv_iconst (v := 4) hx hb dX7_isUnder_15 (by decide) ?_
        refine lv_icmp_eq (tgt := 56) hx hb dX7_isUnder_16 (by decide) (fun c10 => ?_) (fun c10 => ?_)
        · have h := ifp c10 h
          refine lv_iconst (v := 1) hx hb dX7_isUnder_56 (by decide) ?_
          refine lv_goto (tgt := 61) hx hb dX7_isUnder_57 (by decide) ?_
          have h := Option.some.inj h
          subst h
          exact hret _ _ _ _ _ dX7_isUnder_61 rfl rfl hW
        · have h := ifn c10 h
          refine lv_iload_n hx hb dX7_isUnder_19 rfl (lv_at hl 0 rfl) ?_
          refine lv_iconst (v := 5) hx hb dX7_isUnder_20 (by decide) ?_
          refine lv_icmp_eq (tgt := 56) hx hb dX7_isUnder_21 (by decide) (fun c11 => ?_) (fun c11 => ?_)
          · have h := ifp c11 h
            refine lv_iconst (v := 1) hx hb dX7_isUnder_56 (by decide) ?_
            refine lv_goto (tgt := 61) hx hb dX7_isUnder_57 (by decide) ?_
            have h := Option.some.inj h
            subst h
            exact hret _ _ _ _ _ dX7_isUnder_61 rfl rfl hW
          · have h := ifn c11 h
            exact b24 h hW (lv_sub hl [0, 1] rfl)
set_option maxHeartbeats 4000000 in
set_option maxRecDepth 100000 in
theorem c_X7_plainDigs {a1 : Int32} {a2 : Int32} {d : Nat} {res : Int32 × Int32 × (Nat → Int32)} (hd : 1 ≤ d) (h : f_X7_plainDigs a1 a2 M_traces M_traced = some res) : zMi l yX7_plainDigs cX7_plainDigs 3 .int (zrm d) [.ref (ρ 0), .int a1, .int a2] D q (WM q ρ M_code M_doors M_price M_year M_joins M_joinA M_joinB M_walls M_wallA M_wallB M_cost M_olds M_near M_doneMany M_undoneMany M_changeOf M_changeAt M_before M_behind M_tape M_taped M_here M_fault M_open M_laid M_act M_with M_lineMany M_testEnd M_lineEnd M_facts M_pile M_hasLaw M_far M_within M_tooNear M_dried M_isOn M_wasOn M_bodies M_kind M_traces M_traced M_holds M_size M_elements M_shifted) sz res.1 (WM q ρ M_code M_doors M_price M_year M_joins M_joinA M_joinB M_walls M_wallA M_wallB M_cost M_olds M_near M_doneMany M_undoneMany M_changeOf M_changeAt M_before M_behind M_tape M_taped M_here M_fault M_open M_laid M_act M_with M_lineMany M_testEnd M_lineEnd M_facts M_pile M_hasLaw M_far M_within M_tooNear M_dried M_isOn M_wasOn M_bodies M_kind res.2.1 res.2.2 M_holds M_size M_elements M_shifted) := by
  refine zMet_i (own := RX7) _ (by decide) rfl (Nat.le_of_ble_eq_true rfl) ?_
  intro p e s m args below meth c A ls Q hC hW hl hret
  have hx := hC.1
  have hb := hC.2.1
  have hl : lv_has ls 3 [(0, .ref (ρ 0)), (1, .int a1), (2, .int a2)] := hl
  unfold f_X7_plainDigs at h
  refine lv_aload_n hx hb dX7_plainDigs_0 rfl (lv_at hl 0 rfl) ?_
  refine lv_iconst (v := 1) hx hb dX7_plainDigs_1 (by decide) ?_
  obtain ⟨u1, eu1, h⟩ := bd_some h
  refine z_callV_v hC hW (rest := []) (c_X7_ran (d := 0) (Nat.le_refl _) eu1) vw_X7_300 WM_0 rfl ⟨rfl, rfl⟩ (zrm_ok (by omega) (by decide)) rfl rfl hl.1 (Nat.le_of_ble_eq_true rfl) dX7_plainDigs_2 (fun H locs hW => ?_)
  refine lv_iload_n hx hb dX7_plainDigs_5 rfl (lv_at hl 2 rfl) ?_
  refine lv_iload_n hx hb dX7_plainDigs_6 rfl (lv_at hl 1 rfl) ?_
  refine lv_iadd hx hb dX7_plainDigs_7 ?_
  have h := Option.some.inj h
  subst h
  exact hret _ _ _ _ _ dX7_plainDigs_8 rfl rfl hW
set_option maxHeartbeats 4000000 in
set_option maxRecDepth 100000 in
theorem c_X7_toldDigs {a1 : Int32} {a2 : Int32} {d : Nat} {res : Int32 × Int32 × (Nat → Int32)} (hd : 2 ≤ d) (h : f_X7_toldDigs a1 a2 M_traces M_traced = some res) : zMi l yX7_toldDigs cX7_toldDigs 3 .int (zrm d) [.ref (ρ 0), .int a1, .int a2] D q (WM q ρ M_code M_doors M_price M_year M_joins M_joinA M_joinB M_walls M_wallA M_wallB M_cost M_olds M_near M_doneMany M_undoneMany M_changeOf M_changeAt M_before M_behind M_tape M_taped M_here M_fault M_open M_laid M_act M_with M_lineMany M_testEnd M_lineEnd M_facts M_pile M_hasLaw M_far M_within M_tooNear M_dried M_isOn M_wasOn M_bodies M_kind M_traces M_traced M_holds M_size M_elements M_shifted) sz res.1 (WM q ρ M_code M_doors M_price M_year M_joins M_joinA M_joinB M_walls M_wallA M_wallB M_cost M_olds M_near M_doneMany M_undoneMany M_changeOf M_changeAt M_before M_behind M_tape M_taped M_here M_fault M_open M_laid M_act M_with M_lineMany M_testEnd M_lineEnd M_facts M_pile M_hasLaw M_far M_within M_tooNear M_dried M_isOn M_wasOn M_bodies M_kind res.2.1 res.2.2 M_holds M_size M_elements M_shifted) := by
  refine zMet_i (own := RX7) _ (by decide) rfl (Nat.le_of_ble_eq_true rfl) ?_
  intro p e s m args below meth c A ls Q hC hW hl hret
  have hx := hC.1
  have hb := hC.2.1
  have hl : lv_has ls 3 [(0, .ref (ρ 0)), (1, .int a1), (2, .int a2)] := hl
  unfold f_X7_toldDigs at h
  refine lv_aload_n hx hb dX7_toldDigs_0 rfl (lv_at hl 0 rfl) ?_
  refine lv_bipush (v := 70) hx hb dX7_toldDigs_1 (by decide) ?_
  obtain ⟨u1, eu1, h⟩ := bd_some h
  refine z_callV_v hC hW (rest := []) (c_X7_ran (d := 0) (Nat.le_refl _) eu1) vw_X7_300 WM_0 rfl ⟨rfl, rfl⟩ (zrm_ok (by omega) (by decide)) rfl rfl hl.1 (Nat.le_of_ble_eq_true rfl) dX7_toldDigs_3 (fun H locs hW => ?_)
  refine lv_aload_n hx hb dX7_toldDigs_6 rfl (lv_at hl 0 rfl) ?_
  refine lv_iload_n hx hb dX7_toldDigs_7 rfl (lv_at hl 1 rfl) ?_
  refine lv_iload_n hx hb dX7_toldDigs_8 rfl (lv_at hl 2 rfl) ?_
  obtain ⟨u2, eu2, h⟩ := bd_some h
  refine z_callV_i hC hW (rest := []) (c_X7_plainDigs (d := 1) (Nat.le_refl _) eu2) vw_X7_303 WM_0 rfl ⟨rfl, rfl⟩ (zrm_ok (by omega) (by decide)) rfl rfl hl.1 (Nat.le_of_ble_eq_true rfl) dX7_toldDigs_9 (fun H locs hW => ?_)
  refine lv_iconst (v := 2) hx hb dX7_toldDigs_12 (by decide) ?_
  refine lv_imul hx hb dX7_toldDigs_13 ?_
  have h := Option.some.inj h
  subst h
  exact hret _ _ _ _ _ dX7_toldDigs_14 rfl rfl hW
set_option maxHeartbeats 4000000 in
set_option maxRecDepth 100000 in
theorem c_X7_digs {a1 : Int32} {a2 : Int32} {d : Nat} {res : Int32 × Int32 × (Nat → Int32)} (hd : 3 ≤ d) (h : f_X7_digs a1 a2 M_kind M_traces M_traced = some res) : zMi l yX7_digs cX7_digs 3 .int (zrm d) [.ref (ρ 0), .int a1, .int a2] D q (WM q ρ M_code M_doors M_price M_year M_joins M_joinA M_joinB M_walls M_wallA M_wallB M_cost M_olds M_near M_doneMany M_undoneMany M_changeOf M_changeAt M_before M_behind M_tape M_taped M_here M_fault M_open M_laid M_act M_with M_lineMany M_testEnd M_lineEnd M_facts M_pile M_hasLaw M_far M_within M_tooNear M_dried M_isOn M_wasOn M_bodies M_kind M_traces M_traced M_holds M_size M_elements M_shifted) sz res.1 (WM q ρ M_code M_doors M_price M_year M_joins M_joinA M_joinB M_walls M_wallA M_wallB M_cost M_olds M_near M_doneMany M_undoneMany M_changeOf M_changeAt M_before M_behind M_tape M_taped M_here M_fault M_open M_laid M_act M_with M_lineMany M_testEnd M_lineEnd M_facts M_pile M_hasLaw M_far M_within M_tooNear M_dried M_isOn M_wasOn M_bodies M_kind res.2.1 res.2.2 M_holds M_size M_elements M_shifted) := by
  refine zMet_i (own := RX7) _ (by decide) rfl (Nat.le_of_ble_eq_true rfl) ?_
  intro p e s m args below meth c A ls Q hC hW hl hret
  have hx := hC.1
  have hb := hC.2.1
  have hl : lv_has ls 3 [(0, .ref (ρ 0)), (1, .int a1), (2, .int a2)] := hl
  unfold f_X7_digs at h
  refine lv_aload_n hx hb dX7_digs_0 rfl (lv_at hl 0 rfl) ?_
  refine z_get hC hW fg_X7_89 0 WM_0 rfl dX7_digs_1 ?_
  refine lv_iload_n hx hb dX7_digs_4 rfl (lv_at hl 1 rfl) ?_
  obtain ⟨g1, h⟩ := ix_some h
  refine z_iald hC hW 25 WM_25 g1 dX7_digs_5 ?_
  refine lv_iconst (v := 1) hx hb dX7_digs_6 (by decide) ?_
  obtain ⟨u2, eu2, h⟩ := bd_some h
  refine z_callS_i hC hW (rest := []) (c_X7_isUnder (d := 0) (Nat.le_refl _) eu2) sw_X7_306 ⟨rfl, rfl⟩ (zrm_ok (by omega) (by decide)) rfl rfl hl.1 (Nat.le_of_ble_eq_true rfl) dX7_digs_7 (fun H locs hW => ?_)
  refine lv_if_eq (tgt := 28) hx hb dX7_digs_10 (by decide) (fun c3 => ?_) (fun c3 => ?_)
  · have h := ifp c3 h
    refine lv_aload_n hx hb dX7_digs_28 rfl (lv_at hl 0 rfl) ?_
    refine z_get hC hW fg_X7_89 0 WM_0 rfl dX7_digs_29 ?_
    refine lv_iload_n hx hb dX7_digs_32 rfl (lv_at hl 1 rfl) ?_
    obtain ⟨g4, h⟩ := ix_some h
    refine z_iald hC hW 25 WM_25 g4 dX7_digs_33 ?_
    refine lv_bipush (v := 7) hx hb dX7_digs_34 (by decide) ?_
    refine lv_icmp_ne (tgt := 54) hx hb dX7_digs_36 (by decide) (fun c5 => ?_) (fun c5 => ?_)
    · have h := ifn c5 h
      refine lv_aload_n hx hb dX7_digs_54 rfl (lv_at hl 0 rfl) ?_
      refine z_get hC hW fg_X7_89 0 WM_0 rfl dX7_digs_55 ?_
      refine lv_iload_n hx hb dX7_digs_58 rfl (lv_at hl 1 rfl) ?_
      obtain ⟨g6, h⟩ := ix_some h
      refine z_iald hC hW 25 WM_25 g6 dX7_digs_59 ?_
      refine lv_bipush (v := 6) hx hb dX7_digs_60 (by decide) ?_
      refine lv_icmp_ne (tgt := 74) hx hb dX7_digs_62 (by decide) (fun c7 => ?_) (fun c7 => ?_)
      · have h := ifn c7 h
        refine lv_aload_n hx hb dX7_digs_74 rfl (lv_at hl 0 rfl) ?_
        refine lv_iload_n hx hb dX7_digs_75 rfl (lv_at hl 1 rfl) ?_
        refine lv_iload_n hx hb dX7_digs_76 rfl (lv_at hl 2 rfl) ?_
        obtain ⟨u8, eu8, h⟩ := bd_some h
        refine z_callV_i hC hW (rest := []) (c_X7_plainDigs (d := 1) (Nat.le_refl _) eu8) vw_X7_303 WM_0 rfl ⟨rfl, rfl⟩ (zrm_ok (by omega) (by decide)) rfl rfl hl.1 (Nat.le_of_ble_eq_true rfl) dX7_digs_77 (fun H locs hW => ?_)
        have h := Option.some.inj h
        subst h
        exact hret _ _ _ _ _ dX7_digs_80 rfl rfl hW
      · have h := ifp c7 h
        refine lv_aload_n hx hb dX7_digs_65 rfl (lv_at hl 0 rfl) ?_
        refine lv_iload_n hx hb dX7_digs_66 rfl (lv_at hl 1 rfl) ?_
        refine lv_iload_n hx hb dX7_digs_67 rfl (lv_at hl 2 rfl) ?_
        obtain ⟨u9, eu9, h⟩ := bd_some h
        refine z_callV_i hC hW (rest := []) (c_X7_toldDigs (d := 2) (Nat.le_refl _) eu9) vw_X7_309 WM_0 rfl ⟨rfl, rfl⟩ (zrm_ok (by omega) (by decide)) rfl rfl hl.1 (Nat.le_of_ble_eq_true rfl) dX7_digs_68 (fun H locs hW => ?_)
        refine lv_goto (tgt := 80) hx hb dX7_digs_71 (by decide) ?_
        have h := Option.some.inj h
        subst h
        exact hret _ _ _ _ _ dX7_digs_80 rfl rfl hW
    · have h := ifp c5 h
      refine lv_aload_n hx hb dX7_digs_39 rfl (lv_at hl 0 rfl) ?_
      refine lv_bipush (v := 81) hx hb dX7_digs_40 (by decide) ?_
      obtain ⟨u10, eu10, h⟩ := bd_some h
      refine z_callV_v hC hW (rest := []) (c_X7_ran (d := 0) (Nat.le_refl _) eu10) vw_X7_300 WM_0 rfl ⟨rfl, rfl⟩ (zrm_ok (by omega) (by decide)) rfl rfl hl.1 (Nat.le_of_ble_eq_true rfl) dX7_digs_42 (fun H locs hW => ?_)
      refine lv_aload_n hx hb dX7_digs_45 rfl (lv_at hl 0 rfl) ?_
      refine lv_iload_n hx hb dX7_digs_46 rfl (lv_at hl 1 rfl) ?_
      refine lv_iload_n hx hb dX7_digs_47 rfl (lv_at hl 2 rfl) ?_
      obtain ⟨u11, eu11, h⟩ := bd_some h
      refine z_callV_i hC hW (rest := []) (c_X7_toldDigs (d := 2) (Nat.le_refl _) eu11) vw_X7_309 WM_0 rfl ⟨rfl, rfl⟩ (zrm_ok (by omega) (by decide)) rfl rfl hl.1 (Nat.le_of_ble_eq_true rfl) dX7_digs_48 (fun H locs hW => ?_)
      refine lv_iconst (v := 1) hx hb dX7_digs_51 (by decide) ?_
      refine lv_isub hx hb dX7_digs_52 ?_
      have h := Option.some.inj h
      subst h
      exact hret _ _ _ _ _ dX7_digs_53 rfl rfl hW
  · have h := ifn c3 h
    refine lv_aload_n hx hb dX7_digs_13 rfl (lv_at hl 0 rfl) ?_
    refine lv_bipush (v := 20) hx hb dX7_digs_14 (by decide) ?_
    obtain ⟨u12, eu12, h⟩ := bd_some h
    refine z_callV_v hC hW (rest := []) (c_X7_ran (d := 0) (Nat.le_refl _) eu12) vw_X7_300 WM_0 rfl ⟨rfl, rfl⟩ (zrm_ok (by omega) (by decide)) rfl rfl hl.1 (Nat.le_of_ble_eq_true rfl) dX7_digs_16 (fun H locs hW => ?_)
    refine lv_aload_n hx hb dX7_digs_19 rfl (lv_at hl 0 rfl) ?_
    refine lv_iload_n hx hb dX7_digs_20 rfl (lv_at hl 1 rfl) ?_
    refine lv_iload_n hx hb dX7_digs_21 rfl (lv_at hl 2 rfl) ?_
    obtain ⟨u13, eu13, h⟩ := bd_some h
    refine z_callV_i hC hW (rest := []) (c_X7_plainDigs (d := 1) (Nat.le_refl _) eu13) vw_X7_303 WM_0 rfl ⟨rfl, rfl⟩ (zrm_ok (by omega) (by decide)) rfl rfl hl.1 (Nat.le_of_ble_eq_true rfl) dX7_digs_22 (fun H locs hW => ?_)
    refine lv_iconst (v := 3) hx hb dX7_digs_25 (by decide) ?_
    refine lv_iadd hx hb dX7_digs_26 ?_
    have h := Option.some.inj h
    subst h
    exact hret _ _ _ _ _ dX7_digs_27 rfl rfl hW
set_option maxHeartbeats 4000000 in
set_option maxRecDepth 100000 in
theorem c_X7_plainReaches {a1 : Int32} {a2 : Int32} {d : Nat} {res : Int32 × Int32 × (Nat → Int32)} (hd : 4 ≤ d) (h : f_X7_plainReaches a1 a2 M_kind M_traces M_traced = some res) : zMi l yX7_plainReaches cX7_plainReaches 3 .int (zrm d) [.ref (ρ 0), .int a1, .int a2] D q (WM q ρ M_code M_doors M_price M_year M_joins M_joinA M_joinB M_walls M_wallA M_wallB M_cost M_olds M_near M_doneMany M_undoneMany M_changeOf M_changeAt M_before M_behind M_tape M_taped M_here M_fault M_open M_laid M_act M_with M_lineMany M_testEnd M_lineEnd M_facts M_pile M_hasLaw M_far M_within M_tooNear M_dried M_isOn M_wasOn M_bodies M_kind M_traces M_traced M_holds M_size M_elements M_shifted) sz res.1 (WM q ρ M_code M_doors M_price M_year M_joins M_joinA M_joinB M_walls M_wallA M_wallB M_cost M_olds M_near M_doneMany M_undoneMany M_changeOf M_changeAt M_before M_behind M_tape M_taped M_here M_fault M_open M_laid M_act M_with M_lineMany M_testEnd M_lineEnd M_facts M_pile M_hasLaw M_far M_within M_tooNear M_dried M_isOn M_wasOn M_bodies M_kind res.2.1 res.2.2 M_holds M_size M_elements M_shifted) := by
  refine zMet_i (own := RX7) _ (by decide) rfl (Nat.le_of_ble_eq_true rfl) ?_
  intro p e s m args below meth c A ls Q hC hW hl hret
  have hx := hC.1
  have hb := hC.2.1
  have hl : lv_has ls 3 [(0, .ref (ρ 0)), (1, .int a1), (2, .int a2)] := hl
  unfold f_X7_plainReaches at h
  refine lv_aload_n hx hb dX7_plainReaches_0 rfl (lv_at hl 0 rfl) ?_
  refine lv_bipush (v := 10) hx hb dX7_plainReaches_1 (by decide) ?_
  obtain ⟨u1, eu1, h⟩ := bd_some h
  refine z_callV_v hC hW (rest := []) (c_X7_ran (d := 0) (Nat.le_refl _) eu1) vw_X7_300 WM_0 rfl ⟨rfl, rfl⟩ (zrm_ok (by omega) (by decide)) rfl rfl hl.1 (Nat.le_of_ble_eq_true rfl) dX7_plainReaches_3 (fun H locs hW => ?_)
  refine lv_aload_n hx hb dX7_plainReaches_6 rfl (lv_at hl 0 rfl) ?_
  refine lv_iload_n hx hb dX7_plainReaches_7 rfl (lv_at hl 1 rfl) ?_
  refine lv_iload_n hx hb dX7_plainReaches_8 rfl (lv_at hl 2 rfl) ?_
  obtain ⟨u2, eu2, h⟩ := bd_some h
  refine z_callV_i hC hW (rest := []) (c_X7_digs (d := 3) (Nat.le_refl _) eu2) vw_X7_312 WM_0 rfl ⟨rfl, rfl⟩ (zrm_ok (by omega) (by decide)) rfl rfl hl.1 (Nat.le_of_ble_eq_true rfl) dX7_plainReaches_9 (fun H locs hW => ?_)
  refine lv_iconst (v := 2) hx hb dX7_plainReaches_12 (by decide) ?_
  refine lv_imul hx hb dX7_plainReaches_13 ?_
  have h := Option.some.inj h
  subst h
  exact hret _ _ _ _ _ dX7_plainReaches_14 rfl rfl hW
set_option maxHeartbeats 4000000 in
set_option maxRecDepth 100000 in
theorem c_X7_evenReaches {a1 : Int32} {a2 : Int32} {d : Nat} {res : Int32 × Int32 × (Nat → Int32)} (hd : 5 ≤ d) (h : f_X7_evenReaches a1 a2 M_kind M_traces M_traced = some res) : zMi l yX7_evenReaches cX7_evenReaches 3 .int (zrm d) [.ref (ρ 0), .int a1, .int a2] D q (WM q ρ M_code M_doors M_price M_year M_joins M_joinA M_joinB M_walls M_wallA M_wallB M_cost M_olds M_near M_doneMany M_undoneMany M_changeOf M_changeAt M_before M_behind M_tape M_taped M_here M_fault M_open M_laid M_act M_with M_lineMany M_testEnd M_lineEnd M_facts M_pile M_hasLaw M_far M_within M_tooNear M_dried M_isOn M_wasOn M_bodies M_kind M_traces M_traced M_holds M_size M_elements M_shifted) sz res.1 (WM q ρ M_code M_doors M_price M_year M_joins M_joinA M_joinB M_walls M_wallA M_wallB M_cost M_olds M_near M_doneMany M_undoneMany M_changeOf M_changeAt M_before M_behind M_tape M_taped M_here M_fault M_open M_laid M_act M_with M_lineMany M_testEnd M_lineEnd M_facts M_pile M_hasLaw M_far M_within M_tooNear M_dried M_isOn M_wasOn M_bodies M_kind res.2.1 res.2.2 M_holds M_size M_elements M_shifted) := by
  refine zMet_i (own := RX7) _ (by decide) rfl (Nat.le_of_ble_eq_true rfl) ?_
  intro p e s m args below meth c A ls Q hC hW hl hret
  have hx := hC.1
  have hb := hC.2.1
  have hl : lv_has ls 3 [(0, .ref (ρ 0)), (1, .int a1), (2, .int a2)] := hl
  unfold f_X7_evenReaches at h
  refine lv_aload_n hx hb dX7_evenReaches_0 rfl (lv_at hl 0 rfl) ?_
  refine lv_bipush (v := 30) hx hb dX7_evenReaches_1 (by decide) ?_
  obtain ⟨u1, eu1, h⟩ := bd_some h
  refine z_callV_v hC hW (rest := []) (c_X7_ran (d := 0) (Nat.le_refl _) eu1) vw_X7_300 WM_0 rfl ⟨rfl, rfl⟩ (zrm_ok (by omega) (by decide)) rfl rfl hl.1 (Nat.le_of_ble_eq_true rfl) dX7_evenReaches_3 (fun H locs hW => ?_)
  refine lv_aload_n hx hb dX7_evenReaches_6 rfl (lv_at hl 0 rfl) ?_
  refine lv_iload_n hx hb dX7_evenReaches_7 rfl (lv_at hl 1 rfl) ?_
  refine lv_iload_n hx hb dX7_evenReaches_8 rfl (lv_at hl 2 rfl) ?_
  obtain ⟨u2, eu2, h⟩ := bd_some h
  refine z_callV_i hC hW (rest := []) (c_X7_plainReaches (d := 4) (Nat.le_refl _) eu2) vw_X7_315 WM_0 rfl ⟨rfl, rfl⟩ (zrm_ok (by omega) (by decide)) rfl rfl hl.1 (Nat.le_of_ble_eq_true rfl) dX7_evenReaches_9 (fun H locs hW => ?_)
  refine lv_ineg hx hb dX7_evenReaches_12 ?_
  have h := Option.some.inj h
  subst h
  exact hret _ _ _ _ _ dX7_evenReaches_13 rfl rfl hW
set_option maxHeartbeats 4000000 in
set_option maxRecDepth 100000 in
theorem c_X7_plainNears {a1 : Int32} {a2 : Int32} {d : Nat} {res : Int32 × Int32 × (Nat → Int32)} (hd : 1 ≤ d) (h : f_X7_plainNears a1 a2 M_traces M_traced = some res) : zMi l yX7_plainNears cX7_plainNears 3 .int (zrm d) [.ref (ρ 0), .int a1, .int a2] D q (WM q ρ M_code M_doors M_price M_year M_joins M_joinA M_joinB M_walls M_wallA M_wallB M_cost M_olds M_near M_doneMany M_undoneMany M_changeOf M_changeAt M_before M_behind M_tape M_taped M_here M_fault M_open M_laid M_act M_with M_lineMany M_testEnd M_lineEnd M_facts M_pile M_hasLaw M_far M_within M_tooNear M_dried M_isOn M_wasOn M_bodies M_kind M_traces M_traced M_holds M_size M_elements M_shifted) sz res.1 (WM q ρ M_code M_doors M_price M_year M_joins M_joinA M_joinB M_walls M_wallA M_wallB M_cost M_olds M_near M_doneMany M_undoneMany M_changeOf M_changeAt M_before M_behind M_tape M_taped M_here M_fault M_open M_laid M_act M_with M_lineMany M_testEnd M_lineEnd M_facts M_pile M_hasLaw M_far M_within M_tooNear M_dried M_isOn M_wasOn M_bodies M_kind res.2.1 res.2.2 M_holds M_size M_elements M_shifted) := by
  refine zMet_i (own := RX7) _ (by decide) rfl (Nat.le_of_ble_eq_true rfl) ?_
  intro p e s m args below meth c A ls Q hC hW hl hret
  have hx := hC.1
  have hb := hC.2.1
  have hl : lv_has ls 3 [(0, .ref (ρ 0)), (1, .int a1), (2, .int a2)] := hl
  unfold f_X7_plainNears at h
  refine lv_aload_n hx hb dX7_plainNears_0 rfl (lv_at hl 0 rfl) ?_
  refine lv_bipush (v := 11) hx hb dX7_plainNears_1 (by decide) ?_
  obtain ⟨u1, eu1, h⟩ := bd_some h
  refine z_callV_v hC hW (rest := []) (c_X7_ran (d := 0) (Nat.le_refl _) eu1) vw_X7_300 WM_0 rfl ⟨rfl, rfl⟩ (zrm_ok (by omega) (by decide)) rfl rfl hl.1 (Nat.le_of_ble_eq_true rfl) dX7_plainNears_3 (fun H locs hW => ?_)
  refine lv_iload_n hx hb dX7_plainNears_6 rfl (lv_at hl 2 rfl) ?_
  refine lv_iload_n hx hb dX7_plainNears_7 rfl (lv_at hl 1 rfl) ?_
  refine lv_ixor hx hb dX7_plainNears_8 ?_
  have h := Option.some.inj h
  subst h
  exact hret _ _ _ _ _ dX7_plainNears_9 rfl rfl hW
set_option maxHeartbeats 4000000 in
set_option maxRecDepth 100000 in
theorem c_X7_nears {a1 : Int32} {a2 : Int32} {d : Nat} {res : Int32 × Int32 × (Nat → Int32)} (hd : 4 ≤ d) (h : f_X7_nears a1 a2 M_kind M_traces M_traced = some res) : zMi l yX7_nears cX7_nears 4 .int (zrm d) [.ref (ρ 0), .int a1, .int a2] D q (WM q ρ M_code M_doors M_price M_year M_joins M_joinA M_joinB M_walls M_wallA M_wallB M_cost M_olds M_near M_doneMany M_undoneMany M_changeOf M_changeAt M_before M_behind M_tape M_taped M_here M_fault M_open M_laid M_act M_with M_lineMany M_testEnd M_lineEnd M_facts M_pile M_hasLaw M_far M_within M_tooNear M_dried M_isOn M_wasOn M_bodies M_kind M_traces M_traced M_holds M_size M_elements M_shifted) sz res.1 (WM q ρ M_code M_doors M_price M_year M_joins M_joinA M_joinB M_walls M_wallA M_wallB M_cost M_olds M_near M_doneMany M_undoneMany M_changeOf M_changeAt M_before M_behind M_tape M_taped M_here M_fault M_open M_laid M_act M_with M_lineMany M_testEnd M_lineEnd M_facts M_pile M_hasLaw M_far M_within M_tooNear M_dried M_isOn M_wasOn M_bodies M_kind res.2.1 res.2.2 M_holds M_size M_elements M_shifted) := by
  refine zMet_i (own := RX7) _ (by decide) rfl (Nat.le_of_ble_eq_true rfl) ?_
  intro p e s m args below meth c A ls Q hC hW hl hret
  have hx := hC.1
  have hb := hC.2.1
  have hl : lv_has ls 4 [(0, .ref (ρ 0)), (1, .int a1), (2, .int a2)] := hl
  unfold f_X7_nears at h
  refine lv_aload_n hx hb dX7_nears_0 rfl (lv_at hl 0 rfl) ?_
  refine z_get hC hW fg_X7_89 0 WM_0 rfl dX7_nears_1 ?_
  refine lv_iload_n hx hb dX7_nears_4 rfl (lv_at hl 1 rfl) ?_
  obtain ⟨g1, h⟩ := ix_some h
  refine z_iald hC hW 25 WM_25 g1 dX7_nears_5 ?_
  refine lv_iconst (v := 3) hx hb dX7_nears_6 (by decide) ?_
  refine lv_icmp_ne (tgt := 25) hx hb dX7_nears_7 (by decide) (fun c2 => ?_) (fun c2 => ?_)
  · have h := ifn c2 h
    refine lv_aload_n hx hb dX7_nears_25 rfl (lv_at hl 0 rfl) ?_
    refine z_get hC hW fg_X7_89 0 WM_0 rfl dX7_nears_26 ?_
    refine lv_iload_n hx hb dX7_nears_29 rfl (lv_at hl 1 rfl) ?_
    obtain ⟨g3, h⟩ := ix_some h
    refine z_iald hC hW 25 WM_25 g3 dX7_nears_30 ?_
    refine lv_iconst (v := 5) hx hb dX7_nears_31 (by decide) ?_
    refine lv_icmp_ne (tgt := 57) hx hb dX7_nears_32 (by decide) (fun c4 => ?_) (fun c4 => ?_)
    · have h := ifn c4 h
      refine lv_aload_n hx hb dX7_nears_57 rfl (lv_at hl 0 rfl) ?_
      refine lv_iload_n hx hb dX7_nears_58 rfl (lv_at hl 1 rfl) ?_
      refine lv_iload_n hx hb dX7_nears_59 rfl (lv_at hl 2 rfl) ?_
      obtain ⟨u5, eu5, h⟩ := bd_some h
      refine z_callV_i hC hW (rest := []) (c_X7_plainNears (d := 1) (Nat.le_refl _) eu5) vw_X7_324 WM_0 rfl ⟨rfl, rfl⟩ (zrm_ok (by omega) (by decide)) rfl rfl hl.1 (Nat.le_of_ble_eq_true rfl) dX7_nears_60 (fun H locs hW => ?_)
      have h := Option.some.inj h
      subst h
      exact hret _ _ _ _ _ dX7_nears_63 rfl rfl hW
    · have h := ifp c4 h
      refine lv_aload_n hx hb dX7_nears_35 rfl (lv_at hl 0 rfl) ?_
      refine lv_bipush (v := 60) hx hb dX7_nears_36 (by decide) ?_
      obtain ⟨u6, eu6, h⟩ := bd_some h
      refine z_callV_v hC hW (rest := []) (c_X7_ran (d := 0) (Nat.le_refl _) eu6) vw_X7_300 WM_0 rfl ⟨rfl, rfl⟩ (zrm_ok (by omega) (by decide)) rfl rfl hl.1 (Nat.le_of_ble_eq_true rfl) dX7_nears_38 (fun H locs hW => ?_)
      refine lv_aload_n hx hb dX7_nears_41 rfl (lv_at hl 0 rfl) ?_
      refine lv_iload_n hx hb dX7_nears_42 rfl (lv_at hl 1 rfl) ?_
      refine lv_iload_n hx hb dX7_nears_43 rfl (lv_at hl 2 rfl) ?_
      obtain ⟨u7, eu7, h⟩ := bd_some h
      refine z_callV_i hC hW (rest := []) (c_X7_plainNears (d := 1) (Nat.le_refl _) eu7) vw_X7_324 WM_0 rfl ⟨rfl, rfl⟩ (zrm_ok (by omega) (by decide)) rfl rfl hl.1 (Nat.le_of_ble_eq_true rfl) dX7_nears_44 (fun H locs hW => ?_)
      refine lv_istore_n (lv' := [(3, .int u7.1), (0, .ref (ρ 0)), (1, .int a1), (2, .int a2)]) hx hb dX7_nears_47 rfl hl (by decide) rfl (fun ls hl => ?_)
      refine lv_iload_n hx hb dX7_nears_48 rfl (lv_at hl 0 rfl) ?_
      refine lv_aload_n hx hb dX7_nears_49 rfl (lv_at hl 1 rfl) ?_
      refine lv_iload_n hx hb dX7_nears_50 rfl (lv_at hl 2 rfl) ?_
      refine lv_iconst (v := 2) hx hb dX7_nears_51 (by decide) ?_
      obtain ⟨u8, eu8, h⟩ := bd_some h
      refine z_callV_i hC hW (rest := [.int u7.1]) (c_X7_digs (d := 3) (Nat.le_refl _) eu8) vw_X7_312 WM_0 rfl ⟨rfl, rfl⟩ (zrm_ok (by omega) (by decide)) rfl rfl hl.1 (Nat.le_of_ble_eq_true rfl) dX7_nears_52 (fun H locs hW => ?_)
      refine lv_isub hx hb dX7_nears_55 ?_
      have h := Option.some.inj h
      subst h
      exact hret _ _ _ _ _ dX7_nears_56 rfl rfl hW
  · have h := ifp c2 h
    refine lv_aload_n hx hb dX7_nears_10 rfl (lv_at hl 0 rfl) ?_
    refine lv_bipush (v := 40) hx hb dX7_nears_11 (by decide) ?_
    obtain ⟨u9, eu9, h⟩ := bd_some h
    refine z_callV_v hC hW (rest := []) (c_X7_ran (d := 0) (Nat.le_refl _) eu9) vw_X7_300 WM_0 rfl ⟨rfl, rfl⟩ (zrm_ok (by omega) (by decide)) rfl rfl hl.1 (Nat.le_of_ble_eq_true rfl) dX7_nears_13 (fun H locs hW => ?_)
    refine lv_aload_n hx hb dX7_nears_16 rfl (lv_at hl 0 rfl) ?_
    refine lv_iload_n hx hb dX7_nears_17 rfl (lv_at hl 1 rfl) ?_
    refine lv_iload_n hx hb dX7_nears_18 rfl (lv_at hl 2 rfl) ?_
    obtain ⟨u10, eu10, h⟩ := bd_some h
    refine z_callV_i hC hW (rest := []) (c_X7_plainNears (d := 1) (Nat.le_refl _) eu10) vw_X7_324 WM_0 rfl ⟨rfl, rfl⟩ (zrm_ok (by omega) (by decide)) rfl rfl hl.1 (Nat.le_of_ble_eq_true rfl) dX7_nears_19 (fun H locs hW => ?_)
    refine lv_iconst (v := 3) hx hb dX7_nears_22 (by decide) ?_
    refine lv_imul hx hb dX7_nears_23 ?_
    have h := Option.some.inj h
    subst h
    exact hret _ _ _ _ _ dX7_nears_24 rfl rfl hW
end CT21_m14
