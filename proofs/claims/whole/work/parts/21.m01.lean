section CT21_m01
variable {l : Launch} {D : va_G} {q : Nat → ClassId} {ρ : Nat → Nat} {sz : Nat} {M_code : Int32} {M_doors : Int32} {M_price : Nat → Int32} {M_year : Nat → Int32} {M_joins : Int32} {M_joinA : Nat → Int32} {M_joinB : Nat → Int32} {M_walls : Int32} {M_wallA : Nat → Int32} {M_wallB : Nat → Int32} {M_cost : Nat → Int32} {M_olds : Int32} {M_near : Int32} {M_doneMany : Int32} {M_undoneMany : Int32} {M_changeOf : Nat → Int32} {M_changeAt : Nat → Int32} {M_before : Nat → Int32} {M_behind : Nat → Int32} {M_tape : Nat → Int32} {M_taped : Int32} {M_here : Int32} {M_fault : Int32} {M_open : Int32} {M_laid : Int32} {M_act : Nat → Int32} {M_with : Nat → Int32} {M_lineMany : Nat → Int32} {M_testEnd : Nat → Int32} {M_lineEnd : Nat → Int32} {M_facts : Nat → Int32} {M_pile : Nat → Int32} {M_hasLaw : Int32} {M_far : Nat → Int32} {M_within : Nat → Int32} {M_tooNear : Nat → Int32} {M_dried : Int32} {M_isOn : Nat → Int32} {M_wasOn : Nat → Int32} {M_bodies : Int32} {M_kind : Nat → Int32} {M_traces : Int32} {M_traced : Nat → Int32} {M_holds : Nat → Int32} {M_size : Nat → Int32} {M_elements : Nat → Int64} {M_shifted : Nat → Int64}
set_option maxHeartbeats 4000000 in
set_option maxRecDepth 100000 in
theorem c_X7_wall {a1 : Int32} {a2 : Int32} {d : Nat} {res : Int32 × Int32 × (Nat → Int32) × (Nat → Int32) × (Nat → Int32)} (hd : 3 ≤ d) (h : f_X7_wall a1 a2 M_doors M_walls M_wallA M_wallB M_cost = some res) : zMi l yX7_wall cX7_wall 3 .int (zrm d) [.ref (ρ 0), .int a1, .int a2] D q (WM q ρ M_code M_doors M_price M_year M_joins M_joinA M_joinB M_walls M_wallA M_wallB M_cost M_olds M_near M_doneMany M_undoneMany M_changeOf M_changeAt M_before M_behind M_tape M_taped M_here M_fault M_open M_laid M_act M_with M_lineMany M_testEnd M_lineEnd M_facts M_pile M_hasLaw M_far M_within M_tooNear M_dried M_isOn M_wasOn M_bodies M_kind M_traces M_traced M_holds M_size M_elements M_shifted) sz res.1 (WM q ρ M_code M_doors M_price M_year M_joins M_joinA M_joinB res.2.1 res.2.2.1 res.2.2.2.1 res.2.2.2.2 M_olds M_near M_doneMany M_undoneMany M_changeOf M_changeAt M_before M_behind M_tape M_taped M_here M_fault M_open M_laid M_act M_with M_lineMany M_testEnd M_lineEnd M_facts M_pile M_hasLaw M_far M_within M_tooNear M_dried M_isOn M_wasOn M_bodies M_kind M_traces M_traced M_holds M_size M_elements M_shifted) := by
  refine zMet_i (own := RX7) _ (by decide) rfl (Nat.le_of_ble_eq_true rfl) ?_
  intro p e s m args below meth c A ls Q hC hW hl hret
  have hx := hC.1
  have hb := hC.2.1
  have hl : lv_has ls 3 [(0, .ref (ρ 0)), (1, .int a1), (2, .int a2)] := hl
  unfold f_X7_wall at h
  refine lv_aload_n hx hb dX7_wall_0 rfl (lv_at hl 0 rfl) ?_
  refine lv_iload_n hx hb dX7_wall_1 rfl (lv_at hl 1 rfl) ?_
  obtain ⟨u1, eu1, h⟩ := bd_some h
  refine z_callV_i hC hW (rest := []) (c_X7_areTwo (d := 2) (Nat.le_refl _) eu1) vw_X7_125 WM_0 rfl ⟨rfl, rfl⟩ (zrm_ok (by omega) (by decide)) rfl rfl hl.1 (Nat.le_of_ble_eq_true rfl) dX7_wall_2 (fun H locs hW => ?_)
  refine lv_if_eq (tgt := 18) hx hb dX7_wall_5 (by decide) (fun c2 => ?_) (fun c2 => ?_)
  · have h := ifp c2 h
    refine lv_iconst (v := (-1)) hx hb dX7_wall_18 (by decide) ?_
    have h := Option.some.inj h
    subst h
    exact hret _ _ _ _ _ dX7_wall_19 rfl rfl hW
  · have h := ifn c2 h
    refine lv_iload_n hx hb dX7_wall_8 rfl (lv_at hl 2 rfl) ?_
    refine lv_iconst (v := 0) hx hb dX7_wall_9 (by decide) ?_
    refine lv_bipush (v := 99) hx hb dX7_wall_10 (by decide) ?_
    obtain ⟨u3, eu3, h⟩ := bd_some h
    refine z_callS_i hC hW (rest := []) (c_X7_in (d := 0) (Nat.le_refl _) eu3) sw_X7_114 ⟨rfl, rfl⟩ (zrm_ok (by omega) (by decide)) rfl rfl hl.1 (Nat.le_of_ble_eq_true rfl) dX7_wall_12 (fun H locs hW => ?_)
    refine lv_if_ne (tgt := 20) hx hb dX7_wall_15 (by decide) (fun c4 => ?_) (fun c4 => ?_)
    · have h := ifn c4 h
      refine lv_aload_n hx hb dX7_wall_20 rfl (lv_at hl 0 rfl) ?_
      refine z_get hC hW fg_X7_135 0 WM_0 rfl dX7_wall_21 ?_
      refine lv_bipush (v := 10) hx hb dX7_wall_24 (by decide) ?_
      refine lv_icmp_ne (tgt := 32) hx hb dX7_wall_26 (by decide) (fun c5 => ?_) (fun c5 => ?_)
      · have h := ifn c5 h
        refine lv_aload_n hx hb dX7_wall_32 rfl (lv_at hl 0 rfl) ?_
        refine z_get hC hW fg_X7_22 0 WM_0 rfl dX7_wall_33 ?_
        refine lv_aload_n hx hb dX7_wall_36 rfl (lv_at hl 0 rfl) ?_
        refine z_get hC hW fg_X7_135 0 WM_0 rfl dX7_wall_37 ?_
        refine lv_iload_n hx hb dX7_wall_40 rfl (lv_at hl 1 rfl) ?_
        refine lv_bipush (v := 100) hx hb dX7_wall_41 (by decide) ?_
        refine lv_idiv hx hb dX7_wall_43 (by decide) ?_
        obtain ⟨g6, h⟩ := ix_some h
        refine z_iast hC hW 5 WM_5 g6 WMs_M_wallA dX7_wall_44 (fun H locs hW => ?_)
        refine lv_aload_n hx hb dX7_wall_45 rfl (lv_at hl 0 rfl) ?_
        refine z_get hC hW fg_X7_25 0 WM_0 rfl dX7_wall_46 ?_
        refine lv_aload_n hx hb dX7_wall_49 rfl (lv_at hl 0 rfl) ?_
        refine z_get hC hW fg_X7_135 0 WM_0 rfl dX7_wall_50 ?_
        refine lv_iload_n hx hb dX7_wall_53 rfl (lv_at hl 1 rfl) ?_
        refine lv_bipush (v := 100) hx hb dX7_wall_54 (by decide) ?_
        refine lv_irem hx hb dX7_wall_56 (by decide) ?_
        obtain ⟨g7, h⟩ := ix_some h
        refine z_iast hC hW 6 WM_6 g7 WMs_M_wallB dX7_wall_57 (fun H locs hW => ?_)
        refine lv_aload_n hx hb dX7_wall_58 rfl (lv_at hl 0 rfl) ?_
        refine z_get hC hW fg_X7_28 0 WM_0 rfl dX7_wall_59 ?_
        refine lv_aload_n hx hb dX7_wall_62 rfl (lv_at hl 0 rfl) ?_
        refine z_get hC hW fg_X7_135 0 WM_0 rfl dX7_wall_63 ?_
        refine lv_iload_n hx hb dX7_wall_66 rfl (lv_at hl 2 rfl) ?_
        obtain ⟨g8, h⟩ := ix_some h
        refine z_iast hC hW 7 WM_7 g8 WMs_M_cost dX7_wall_67 (fun H locs hW => ?_)
        refine lv_aload_n hx hb dX7_wall_68 rfl (lv_at hl 0 rfl) ?_
        refine lv_dup hx hb dX7_wall_69 rfl ?_
        refine z_get hC hW fg_X7_135 0 WM_0 rfl dX7_wall_70 ?_
        refine lv_iconst (v := 1) hx hb dX7_wall_73 (by decide) ?_
        refine lv_iadd hx hb dX7_wall_74 ?_
        refine z_put hC hW fp_X7_135 0 WM_0 (Nat.le_of_ble_eq_true rfl) rfl rfl WMs_M_walls dX7_wall_75 (fun H locs hW => ?_)
        refine lv_aload_n hx hb dX7_wall_78 rfl (lv_at hl 0 rfl) ?_
        refine z_get hC hW fg_X7_135 0 WM_0 rfl dX7_wall_79 ?_
        refine lv_iconst (v := 1) hx hb dX7_wall_82 (by decide) ?_
        refine lv_isub hx hb dX7_wall_83 ?_
        have h := Option.some.inj h
        subst h
        exact hret _ _ _ _ _ dX7_wall_84 rfl rfl hW
      · have h := ifp c5 h
        refine lv_bipush (v := (-3)) hx hb dX7_wall_29 (by decide) ?_
        have h := Option.some.inj h
        subst h
        exact hret _ _ _ _ _ dX7_wall_31 rfl rfl hW
    · have h := ifp c4 h
      refine lv_iconst (v := (-1)) hx hb dX7_wall_18 (by decide) ?_
      have h := Option.some.inj h
      subst h
      exact hret _ _ _ _ _ dX7_wall_19 rfl rfl hW
set_option maxHeartbeats 4000000 in
set_option maxRecDepth 100000 in
theorem c_X7_isLaying {a1 : Int32} {d : Nat} {res : Int32} (hd : 0 ≤ d) (h : f_X7_isLaying a1 M_doors = some res) : zMi l yX7_isLaying cX7_isLaying 2 .boolean (zrm d) [.ref (ρ 0), .int a1] D q (WM q ρ M_code M_doors M_price M_year M_joins M_joinA M_joinB M_walls M_wallA M_wallB M_cost M_olds M_near M_doneMany M_undoneMany M_changeOf M_changeAt M_before M_behind M_tape M_taped M_here M_fault M_open M_laid M_act M_with M_lineMany M_testEnd M_lineEnd M_facts M_pile M_hasLaw M_far M_within M_tooNear M_dried M_isOn M_wasOn M_bodies M_kind M_traces M_traced M_holds M_size M_elements M_shifted) sz res (WM q ρ M_code M_doors M_price M_year M_joins M_joinA M_joinB M_walls M_wallA M_wallB M_cost M_olds M_near M_doneMany M_undoneMany M_changeOf M_changeAt M_before M_behind M_tape M_taped M_here M_fault M_open M_laid M_act M_with M_lineMany M_testEnd M_lineEnd M_facts M_pile M_hasLaw M_far M_within M_tooNear M_dried M_isOn M_wasOn M_bodies M_kind M_traces M_traced M_holds M_size M_elements M_shifted) := by
  refine zMet_i (own := RX7) _ (by decide) rfl (Nat.le_of_ble_eq_true rfl) ?_
  intro p e s m args below meth c A ls Q hC hW hl hret
  have hx := hC.1
  have hb := hC.2.1
  have hl : lv_has ls 2 [(0, .ref (ρ 0)), (1, .int a1)] := hl
  unfold f_X7_isLaying at h
  refine lv_iload_n hx hb dX7_isLaying_0 rfl (lv_at hl 1 rfl) ?_
  refine lv_if_lt (tgt := 17) hx hb dX7_isLaying_1 (by decide) (fun c1 => ?_) (fun c1 => ?_)
  · have h := ifp c1 h
    refine lv_iconst (v := 0) hx hb dX7_isLaying_17 (by decide) ?_
    have h := Option.some.inj h
    subst h
    exact hret _ _ _ _ _ dX7_isLaying_18 rfl rfl hW
  · have h := ifn c1 h
    refine lv_iload_n hx hb dX7_isLaying_4 rfl (lv_at hl 1 rfl) ?_
    refine lv_aload_n hx hb dX7_isLaying_5 rfl (lv_at hl 0 rfl) ?_
    refine z_get hC hW fg_X7_111 0 WM_0 rfl dX7_isLaying_6 ?_
    refine lv_ishr hx hb dX7_isLaying_9 ?_
    refine lv_if_ne (tgt := 17) hx hb dX7_isLaying_10 (by decide) (fun c2 => ?_) (fun c2 => ?_)
    · have h := ifn c2 h
      refine lv_iconst (v := 0) hx hb dX7_isLaying_17 (by decide) ?_
      have h := Option.some.inj h
      subst h
      exact hret _ _ _ _ _ dX7_isLaying_18 rfl rfl hW
    · have h := ifp c2 h
      refine lv_iconst (v := 1) hx hb dX7_isLaying_13 (by decide) ?_
      refine lv_goto (tgt := 18) hx hb dX7_isLaying_14 (by decide) ?_
      have h := Option.some.inj h
      subst h
      exact hret _ _ _ _ _ dX7_isLaying_18 rfl rfl hW
set_option maxHeartbeats 4000000 in
set_option maxRecDepth 100000 in
theorem c_X7_old {a1 : Int32} {d : Nat} {res : Int32 × Int32} (hd : 1 ≤ d) (h : f_X7_old a1 M_doors M_olds = some res) : zMi l yX7_old cX7_old 3 .int (zrm d) [.ref (ρ 0), .int a1] D q (WM q ρ M_code M_doors M_price M_year M_joins M_joinA M_joinB M_walls M_wallA M_wallB M_cost M_olds M_near M_doneMany M_undoneMany M_changeOf M_changeAt M_before M_behind M_tape M_taped M_here M_fault M_open M_laid M_act M_with M_lineMany M_testEnd M_lineEnd M_facts M_pile M_hasLaw M_far M_within M_tooNear M_dried M_isOn M_wasOn M_bodies M_kind M_traces M_traced M_holds M_size M_elements M_shifted) sz res.1 (WM q ρ M_code M_doors M_price M_year M_joins M_joinA M_joinB M_walls M_wallA M_wallB M_cost res.2 M_near M_doneMany M_undoneMany M_changeOf M_changeAt M_before M_behind M_tape M_taped M_here M_fault M_open M_laid M_act M_with M_lineMany M_testEnd M_lineEnd M_facts M_pile M_hasLaw M_far M_within M_tooNear M_dried M_isOn M_wasOn M_bodies M_kind M_traces M_traced M_holds M_size M_elements M_shifted) := by
  refine zMet_i (own := RX7) _ (by decide) rfl (Nat.le_of_ble_eq_true rfl) ?_
  intro p e s m args below meth c A ls Q hC hW hl hret
  have hx := hC.1
  have hb := hC.2.1
  have hl : lv_has ls 3 [(0, .ref (ρ 0)), (1, .int a1)] := hl
  unfold f_X7_old at h
  refine lv_aload_n hx hb dX7_old_0 rfl (lv_at hl 0 rfl) ?_
  refine lv_iload_n hx hb dX7_old_1 rfl (lv_at hl 1 rfl) ?_
  obtain ⟨u1, eu1, h⟩ := bd_some h
  refine z_callV_i hC hW (rest := []) (c_X7_isLaying (d := 0) (Nat.le_refl _) eu1) vw_X7_138 WM_0 rfl ⟨rfl, rfl⟩ (zrm_ok (by omega) (by decide)) rfl rfl hl.1 (Nat.le_of_ble_eq_true rfl) dX7_old_2 (fun H locs hW => ?_)
  refine lv_if_ne (tgt := 10) hx hb dX7_old_5 (by decide) (fun c2 => ?_) (fun c2 => ?_)
  · have h := ifn c2 h
    refine lv_aload_n hx hb dX7_old_10 rfl (lv_at hl 0 rfl) ?_
    refine z_get hC hW fg_X7_141 0 WM_0 rfl dX7_old_11 ?_
    refine lv_istore_n (lv' := [(2, .int M_olds), (0, .ref (ρ 0)), (1, .int a1)]) hx hb dX7_old_14 rfl hl (by decide) rfl (fun ls hl => ?_)
    refine lv_aload_n hx hb dX7_old_15 rfl (lv_at hl 1 rfl) ?_
    refine lv_iload_n hx hb dX7_old_16 rfl (lv_at hl 2 rfl) ?_
    refine z_put hC hW fp_X7_141 0 WM_0 (Nat.le_of_ble_eq_true rfl) rfl rfl WMs_M_olds dX7_old_17 (fun H locs hW => ?_)
    refine lv_iload_n hx hb dX7_old_20 rfl (lv_at hl 0 rfl) ?_
    have h := Option.some.inj h
    subst h
    exact hret _ _ _ _ _ dX7_old_21 rfl rfl hW
  · have h := ifp c2 h
    refine lv_iconst (v := (-1)) hx hb dX7_old_8 (by decide) ?_
    have h := Option.some.inj h
    subst h
    exact hret _ _ _ _ _ dX7_old_9 rfl rfl hW
set_option maxHeartbeats 4000000 in
set_option maxRecDepth 100000 in
theorem c_X7_near {a1 : Int32} {d : Nat} {res : Int32 × Int32} (hd : 1 ≤ d) (h : f_X7_near a1 M_near = some res) : zMi l yX7_near cX7_near 3 .int (zrm d) [.ref (ρ 0), .int a1] D q (WM q ρ M_code M_doors M_price M_year M_joins M_joinA M_joinB M_walls M_wallA M_wallB M_cost M_olds M_near M_doneMany M_undoneMany M_changeOf M_changeAt M_before M_behind M_tape M_taped M_here M_fault M_open M_laid M_act M_with M_lineMany M_testEnd M_lineEnd M_facts M_pile M_hasLaw M_far M_within M_tooNear M_dried M_isOn M_wasOn M_bodies M_kind M_traces M_traced M_holds M_size M_elements M_shifted) sz res.1 (WM q ρ M_code M_doors M_price M_year M_joins M_joinA M_joinB M_walls M_wallA M_wallB M_cost M_olds res.2 M_doneMany M_undoneMany M_changeOf M_changeAt M_before M_behind M_tape M_taped M_here M_fault M_open M_laid M_act M_with M_lineMany M_testEnd M_lineEnd M_facts M_pile M_hasLaw M_far M_within M_tooNear M_dried M_isOn M_wasOn M_bodies M_kind M_traces M_traced M_holds M_size M_elements M_shifted) := by
  refine zMet_i (own := RX7) _ (by decide) rfl (Nat.le_of_ble_eq_true rfl) ?_
  intro p e s m args below meth c A ls Q hC hW hl hret
  have hx := hC.1
  have hb := hC.2.1
  have hl : lv_has ls 3 [(0, .ref (ρ 0)), (1, .int a1)] := hl
  unfold f_X7_near at h
  refine lv_iload_n hx hb dX7_near_0 rfl (lv_at hl 1 rfl) ?_
  refine lv_iconst (v := 0) hx hb dX7_near_1 (by decide) ?_
  refine lv_bipush (v := 9) hx hb dX7_near_2 (by decide) ?_
  obtain ⟨u1, eu1, h⟩ := bd_some h
  refine z_callS_i hC hW (rest := []) (c_X7_in (d := 0) (Nat.le_refl _) eu1) sw_X7_114 ⟨rfl, rfl⟩ (zrm_ok (by omega) (by decide)) rfl rfl hl.1 (Nat.le_of_ble_eq_true rfl) dX7_near_4 (fun H locs hW => ?_)
  refine lv_if_ne (tgt := 12) hx hb dX7_near_7 (by decide) (fun c2 => ?_) (fun c2 => ?_)
  · have h := ifn c2 h
    refine lv_aload_n hx hb dX7_near_12 rfl (lv_at hl 0 rfl) ?_
    refine z_get hC hW fg_X7_31 0 WM_0 rfl dX7_near_13 ?_
    refine lv_istore_n (lv' := [(2, .int M_near), (0, .ref (ρ 0)), (1, .int a1)]) hx hb dX7_near_16 rfl hl (by decide) rfl (fun ls hl => ?_)
    refine lv_aload_n hx hb dX7_near_17 rfl (lv_at hl 1 rfl) ?_
    refine lv_iload_n hx hb dX7_near_18 rfl (lv_at hl 2 rfl) ?_
    refine z_put hC hW fp_X7_31 0 WM_0 (Nat.le_of_ble_eq_true rfl) rfl rfl WMs_M_near dX7_near_19 (fun H locs hW => ?_)
    refine lv_iload_n hx hb dX7_near_22 rfl (lv_at hl 0 rfl) ?_
    have h := Option.some.inj h
    subst h
    exact hret _ _ _ _ _ dX7_near_23 rfl rfl hW
  · have h := ifp c2 h
    refine lv_iconst (v := (-1)) hx hb dX7_near_10 (by decide) ?_
    have h := Option.some.inj h
    subst h
    exact hret _ _ _ _ _ dX7_near_11 rfl rfl hW
set_option maxHeartbeats 4000000 in
set_option maxRecDepth 100000 in
theorem c_X7_valueAt {a1 : Int32} {a2 : Int32} {d : Nat} {res : Int32} (hd : 0 ≤ d) (h : f_X7_valueAt a1 a2 M_price M_year M_cost = some res) : zMi l yX7_valueAt cX7_valueAt 3 .int (zrm d) [.ref (ρ 0), .int a1, .int a2] D q (WM q ρ M_code M_doors M_price M_year M_joins M_joinA M_joinB M_walls M_wallA M_wallB M_cost M_olds M_near M_doneMany M_undoneMany M_changeOf M_changeAt M_before M_behind M_tape M_taped M_here M_fault M_open M_laid M_act M_with M_lineMany M_testEnd M_lineEnd M_facts M_pile M_hasLaw M_far M_within M_tooNear M_dried M_isOn M_wasOn M_bodies M_kind M_traces M_traced M_holds M_size M_elements M_shifted) sz res (WM q ρ M_code M_doors M_price M_year M_joins M_joinA M_joinB M_walls M_wallA M_wallB M_cost M_olds M_near M_doneMany M_undoneMany M_changeOf M_changeAt M_before M_behind M_tape M_taped M_here M_fault M_open M_laid M_act M_with M_lineMany M_testEnd M_lineEnd M_facts M_pile M_hasLaw M_far M_within M_tooNear M_dried M_isOn M_wasOn M_bodies M_kind M_traces M_traced M_holds M_size M_elements M_shifted) := by
  refine zMet_i (own := RX7) _ (by decide) rfl (Nat.le_of_ble_eq_true rfl) ?_
  intro p e s m args below meth c A ls Q hC hW hl hret
  have hx := hC.1
  have hb := hC.2.1
  have hl : lv_has ls 3 [(0, .ref (ρ 0)), (1, .int a1), (2, .int a2)] := hl
  unfold f_X7_valueAt at h
  refine lv_iload_n hx hb dX7_valueAt_0 rfl (lv_at hl 1 rfl) ?_
  refine lv_if_ne (tgt := 13) hx hb dX7_valueAt_1 (by decide) (fun c1 => ?_) (fun c1 => ?_)
  · have h := ifn c1 h
    refine lv_iload_n hx hb dX7_valueAt_13 rfl (lv_at hl 1 rfl) ?_
    refine lv_iconst (v := 1) hx hb dX7_valueAt_14 (by decide) ?_
    refine lv_icmp_ne (tgt := 27) hx hb dX7_valueAt_15 (by decide) (fun c2 => ?_) (fun c2 => ?_)
    · have h := ifn c2 h
      refine lv_aload_n hx hb dX7_valueAt_27 rfl (lv_at hl 0 rfl) ?_
      refine z_get hC hW fg_X7_28 0 WM_0 rfl dX7_valueAt_28 ?_
      refine lv_iload_n hx hb dX7_valueAt_31 rfl (lv_at hl 2 rfl) ?_
      obtain ⟨g3, h⟩ := ix_some h
      refine z_iald hC hW 7 WM_7 g3 dX7_valueAt_32 ?_
      have h := Option.some.inj h
      subst h
      exact hret _ _ _ _ _ dX7_valueAt_33 rfl rfl hW
    · have h := ifp c2 h
      refine lv_aload_n hx hb dX7_valueAt_18 rfl (lv_at hl 0 rfl) ?_
      refine z_get hC hW fg_X7_13 0 WM_0 rfl dX7_valueAt_19 ?_
      refine lv_iload_n hx hb dX7_valueAt_22 rfl (lv_at hl 2 rfl) ?_
      obtain ⟨g4, h⟩ := ix_some h
      refine z_iald hC hW 2 WM_2 g4 dX7_valueAt_23 ?_
      refine lv_goto (tgt := 33) hx hb dX7_valueAt_24 (by decide) ?_
      have h := Option.some.inj h
      subst h
      exact hret _ _ _ _ _ dX7_valueAt_33 rfl rfl hW
  · have h := ifp c1 h
    refine lv_aload_n hx hb dX7_valueAt_4 rfl (lv_at hl 0 rfl) ?_
    refine z_get hC hW fg_X7_7 0 WM_0 rfl dX7_valueAt_5 ?_
    refine lv_iload_n hx hb dX7_valueAt_8 rfl (lv_at hl 2 rfl) ?_
    obtain ⟨g5, h⟩ := ix_some h
    refine z_iald hC hW 1 WM_1 g5 dX7_valueAt_9 ?_
    refine lv_goto (tgt := 33) hx hb dX7_valueAt_10 (by decide) ?_
    have h := Option.some.inj h
    subst h
    exact hret _ _ _ _ _ dX7_valueAt_33 rfl rfl hW
set_option maxHeartbeats 4000000 in
set_option maxRecDepth 100000 in
theorem c_X7_lays {a1 : Int32} {a2 : Int32} {a3 : Int32} {d : Nat} {res : (Nat → Int32) × (Nat → Int32) × (Nat → Int32)} (hd : 0 ≤ d) (h : f_X7_lays a1 a2 a3 M_price M_year M_cost = some res) : zMv l yX7_lays cX7_lays 4 (zrm d) [.ref (ρ 0), .int a1, .int a2, .int a3] D q (WM q ρ M_code M_doors M_price M_year M_joins M_joinA M_joinB M_walls M_wallA M_wallB M_cost M_olds M_near M_doneMany M_undoneMany M_changeOf M_changeAt M_before M_behind M_tape M_taped M_here M_fault M_open M_laid M_act M_with M_lineMany M_testEnd M_lineEnd M_facts M_pile M_hasLaw M_far M_within M_tooNear M_dried M_isOn M_wasOn M_bodies M_kind M_traces M_traced M_holds M_size M_elements M_shifted) sz (WM q ρ M_code M_doors res.1 res.2.1 M_joins M_joinA M_joinB M_walls M_wallA M_wallB res.2.2 M_olds M_near M_doneMany M_undoneMany M_changeOf M_changeAt M_before M_behind M_tape M_taped M_here M_fault M_open M_laid M_act M_with M_lineMany M_testEnd M_lineEnd M_facts M_pile M_hasLaw M_far M_within M_tooNear M_dried M_isOn M_wasOn M_bodies M_kind M_traces M_traced M_holds M_size M_elements M_shifted) := by
  refine zMet_v (own := RX7) (by decide) rfl (Nat.le_of_ble_eq_true rfl) ?_
  intro p e s m args below meth c A ls Q hC hW hl hret
  have hx := hC.1
  have hb := hC.2.1
  have hl : lv_has ls 4 [(0, .ref (ρ 0)), (1, .int a1), (2, .int a2), (3, .int a3)] := hl
  unfold f_X7_lays at h
  refine lv_iload_n hx hb dX7_lays_0 rfl (lv_at hl 1 rfl) ?_
  refine lv_if_ne (tgt := 14) hx hb dX7_lays_1 (by decide) (fun c1 => ?_) (fun c1 => ?_)
  · have h := ifn c1 h
    refine lv_iload_n hx hb dX7_lays_14 rfl (lv_at hl 1 rfl) ?_
    refine lv_iconst (v := 1) hx hb dX7_lays_15 (by decide) ?_
    refine lv_icmp_ne (tgt := 29) hx hb dX7_lays_16 (by decide) (fun c2 => ?_) (fun c2 => ?_)
    · have h := ifn c2 h
      refine lv_aload_n hx hb dX7_lays_29 rfl (lv_at hl 0 rfl) ?_
      refine z_get hC hW fg_X7_28 0 WM_0 rfl dX7_lays_30 ?_
      refine lv_iload_n hx hb dX7_lays_33 rfl (lv_at hl 2 rfl) ?_
      refine lv_iload_n hx hb dX7_lays_34 rfl (lv_at hl 3 rfl) ?_
      obtain ⟨g3, h⟩ := ix_some h
      refine z_iast hC hW 7 WM_7 g3 WMs_M_cost dX7_lays_35 (fun H locs hW => ?_)
      have h := Option.some.inj h
      subst h
      exact hret _ _ _ _ dX7_lays_36 hW
    · have h := ifp c2 h
      refine lv_aload_n hx hb dX7_lays_19 rfl (lv_at hl 0 rfl) ?_
      refine z_get hC hW fg_X7_13 0 WM_0 rfl dX7_lays_20 ?_
      refine lv_iload_n hx hb dX7_lays_23 rfl (lv_at hl 2 rfl) ?_
      refine lv_iload_n hx hb dX7_lays_24 rfl (lv_at hl 3 rfl) ?_
      obtain ⟨g4, h⟩ := ix_some h
      refine z_iast hC hW 2 WM_2 g4 WMs_M_year dX7_lays_25 (fun H locs hW => ?_)
      refine lv_goto (tgt := 36) hx hb dX7_lays_26 (by decide) ?_
      have h := Option.some.inj h
      subst h
      exact hret _ _ _ _ dX7_lays_36 hW
  · have h := ifp c1 h
    refine lv_aload_n hx hb dX7_lays_4 rfl (lv_at hl 0 rfl) ?_
    refine z_get hC hW fg_X7_7 0 WM_0 rfl dX7_lays_5 ?_
    refine lv_iload_n hx hb dX7_lays_8 rfl (lv_at hl 2 rfl) ?_
    refine lv_iload_n hx hb dX7_lays_9 rfl (lv_at hl 3 rfl) ?_
    obtain ⟨g5, h⟩ := ix_some h
    refine z_iast hC hW 1 WM_1 g5 WMs_M_price dX7_lays_10 (fun H locs hW => ?_)
    refine lv_goto (tgt := 36) hx hb dX7_lays_11 (by decide) ?_
    have h := Option.some.inj h
    subst h
    exact hret _ _ _ _ dX7_lays_36 hW
set_option maxHeartbeats 4000000 in
set_option maxRecDepth 100000 in
theorem c_X7_changes {a1 : Int32} {a2 : Int32} {a3 : Int32} {d : Nat} {res : Int32 × (Nat → Int32) × (Nat → Int32) × (Nat → Int32) × Int32 × Int32 × (Nat → Int32) × (Nat → Int32) × (Nat → Int32) × (Nat → Int32)} (hd : 1 ≤ d) (h : f_X7_changes a1 a2 a3 M_price M_year M_cost M_doneMany M_undoneMany M_changeOf M_changeAt M_before M_behind = some res) : zMi l yX7_changes cX7_changes 6 .int (zrm d) [.ref (ρ 0), .int a1, .int a2, .int a3] D q (WM q ρ M_code M_doors M_price M_year M_joins M_joinA M_joinB M_walls M_wallA M_wallB M_cost M_olds M_near M_doneMany M_undoneMany M_changeOf M_changeAt M_before M_behind M_tape M_taped M_here M_fault M_open M_laid M_act M_with M_lineMany M_testEnd M_lineEnd M_facts M_pile M_hasLaw M_far M_within M_tooNear M_dried M_isOn M_wasOn M_bodies M_kind M_traces M_traced M_holds M_size M_elements M_shifted) sz res.1 (WM q ρ M_code M_doors res.2.1 res.2.2.1 M_joins M_joinA M_joinB M_walls M_wallA M_wallB res.2.2.2.1 M_olds M_near res.2.2.2.2.1 res.2.2.2.2.2.1 res.2.2.2.2.2.2.1 res.2.2.2.2.2.2.2.1 res.2.2.2.2.2.2.2.2.1 res.2.2.2.2.2.2.2.2.2 M_tape M_taped M_here M_fault M_open M_laid M_act M_with M_lineMany M_testEnd M_lineEnd M_facts M_pile M_hasLaw M_far M_within M_tooNear M_dried M_isOn M_wasOn M_bodies M_kind M_traces M_traced M_holds M_size M_elements M_shifted) := by
  refine zMet_i (own := RX7) _ (by decide) rfl (Nat.le_of_ble_eq_true rfl) ?_
  intro p e s m args below meth c A ls Q hC hW hl hret
  have hx := hC.1
  have hb := hC.2.1
  have hl : lv_has ls 6 [(0, .ref (ρ 0)), (1, .int a1), (2, .int a2), (3, .int a3)] := hl
  have b121 : ∀ {x1 : Int32} {x2 : Int32} {x3 : Int32} {x4 : Int32} {M_price : Nat → Int32} {M_year : Nat → Int32} {M_cost : Nat → Int32} {M_doneMany : Int32} {M_undoneMany : Int32} {M_changeOf : Nat → Int32} {M_changeAt : Nat → Int32} {M_before : Nat → Int32} {M_behind : Nat → Int32} {H : Heap} {locs : List Loc} {ls : Array Slot}, f_X7_changes_b121 x1 x2 x3 x4 M_price M_year M_cost M_doneMany M_undoneMany M_changeOf M_changeAt M_before M_behind = some res → zW D A s.heap (WM q ρ M_code M_doors M_price M_year M_joins M_joinA M_joinB M_walls M_wallA M_wallB M_cost M_olds M_near M_doneMany M_undoneMany M_changeOf M_changeAt M_before M_behind M_tape M_taped M_here M_fault M_open M_laid M_act M_with M_lineMany M_testEnd M_lineEnd M_facts M_pile M_hasLaw M_far M_within M_tooNear M_dried M_isOn M_wasOn M_bodies M_kind M_traces M_traced M_holds M_size M_elements M_shifted) H locs → lv_has ls 6 [(0, .ref (ρ 0)), (1, .int x1), (2, .int x2), (3, .int x3), (4, .int x4)] → W p l e (zrm d) s m args below meth c H locs 0 0 Q (F0 m 121 ls []) := by
    intro x1 x2 x3 x4 M_price M_year M_cost M_doneMany M_undoneMany M_changeOf M_changeAt M_before M_behind H locs ls h hW hl
    unfold f_X7_changes_b121 at h
    refine lv_aload_n hx hb dX7_changes_121 rfl (lv_at hl 0 rfl) ?_
    refine z_get hC hW fg_X7_35 0 WM_0 rfl dX7_changes_122 ?_
    refine lv_aload_n hx hb dX7_changes_125 rfl (lv_at hl 0 rfl) ?_
    refine z_get hC hW fg_X7_150 0 WM_0 rfl dX7_changes_126 ?_
    refine lv_iload_n hx hb dX7_changes_129 rfl (lv_at hl 1 rfl) ?_
    obtain ⟨g4, h⟩ := ix_some h
    refine z_iast hC hW 8 WM_8 g4 WMs_M_changeOf dX7_changes_130 (fun H locs hW => ?_)
    refine lv_aload_n hx hb dX7_changes_131 rfl (lv_at hl 0 rfl) ?_
    refine z_get hC hW fg_X7_38 0 WM_0 rfl dX7_changes_132 ?_
    refine lv_aload_n hx hb dX7_changes_135 rfl (lv_at hl 0 rfl) ?_
    refine z_get hC hW fg_X7_150 0 WM_0 rfl dX7_changes_136 ?_
    refine lv_iload_n hx hb dX7_changes_139 rfl (lv_at hl 2 rfl) ?_
    obtain ⟨g5, h⟩ := ix_some h
    refine z_iast hC hW 9 WM_9 g5 WMs_M_changeAt dX7_changes_140 (fun H locs hW => ?_)
    refine lv_aload_n hx hb dX7_changes_141 rfl (lv_at hl 0 rfl) ?_
    refine z_get hC hW fg_X7_41 0 WM_0 rfl dX7_changes_142 ?_
    refine lv_aload_n hx hb dX7_changes_145 rfl (lv_at hl 0 rfl) ?_
    refine z_get hC hW fg_X7_150 0 WM_0 rfl dX7_changes_146 ?_
    refine lv_iload hx hb dX7_changes_149 (lv_at hl 4 rfl) ?_
    obtain ⟨g6, h⟩ := ix_some h
    refine z_iast hC hW 10 WM_10 g6 WMs_M_before dX7_changes_151 (fun H locs hW => ?_)
    refine lv_aload_n hx hb dX7_changes_152 rfl (lv_at hl 0 rfl) ?_
    refine z_get hC hW fg_X7_44 0 WM_0 rfl dX7_changes_153 ?_
    refine lv_aload_n hx hb dX7_changes_156 rfl (lv_at hl 0 rfl) ?_
    refine z_get hC hW fg_X7_150 0 WM_0 rfl dX7_changes_157 ?_
    refine lv_iload_n hx hb dX7_changes_160 rfl (lv_at hl 3 rfl) ?_
    obtain ⟨g7, h⟩ := ix_some h
    refine z_iast hC hW 11 WM_11 g7 WMs_M_behind dX7_changes_161 (fun H locs hW => ?_)
    refine lv_aload_n hx hb dX7_changes_162 rfl (lv_at hl 0 rfl) ?_
    refine lv_dup hx hb dX7_changes_163 rfl ?_
    refine z_get hC hW fg_X7_150 0 WM_0 rfl dX7_changes_164 ?_
    refine lv_iconst (v := 1) hx hb dX7_changes_167 (by decide) ?_
    refine lv_iadd hx hb dX7_changes_168 ?_
    refine z_put hC hW fp_X7_150 0 WM_0 (Nat.le_of_ble_eq_true rfl) rfl rfl WMs_M_doneMany dX7_changes_169 (fun H locs hW => ?_)
    refine lv_aload_n hx hb dX7_changes_172 rfl (lv_at hl 0 rfl) ?_
    refine lv_iload_n hx hb dX7_changes_173 rfl (lv_at hl 1 rfl) ?_
    refine lv_iload_n hx hb dX7_changes_174 rfl (lv_at hl 2 rfl) ?_
    refine lv_iload_n hx hb dX7_changes_175 rfl (lv_at hl 3 rfl) ?_
    obtain ⟨u8, eu8, h⟩ := bd_some h
    refine z_callV_v hC hW (rest := []) (c_X7_lays (d := 0) (Nat.le_refl _) eu8) vw_X7_153 WM_0 rfl ⟨rfl, rfl⟩ (zrm_ok (by omega) (by decide)) rfl rfl hl.1 (Nat.le_of_ble_eq_true rfl) dX7_changes_176 (fun H locs hW => ?_)
    refine lv_iload hx hb dX7_changes_179 (lv_at hl 4 rfl) ?_
    have h := Option.some.inj h
    subst h
    exact hret _ _ _ _ _ dX7_changes_181 rfl rfl hW
  have b34 : ∀ {x1 : Int32} {x2 : Int32} {x3 : Int32} {x4 : Int32} {M_price : Nat → Int32} {M_year : Nat → Int32} {M_cost : Nat → Int32} {M_doneMany : Int32} {M_undoneMany : Int32} {n : Nat} {x5 : Int32} {M_changeOf : Nat → Int32} {M_changeAt : Nat → Int32} {M_before : Nat → Int32} {M_behind : Nat → Int32} {H : Heap} {locs : List Loc} {ls : Array Slot}, f_X7_changes_b34 x1 x2 x3 x4 M_price M_year M_cost M_doneMany M_undoneMany n x5 M_changeOf M_changeAt M_before M_behind = some res → zW D A s.heap (WM q ρ M_code M_doors M_price M_year M_joins M_joinA M_joinB M_walls M_wallA M_wallB M_cost M_olds M_near M_doneMany M_undoneMany M_changeOf M_changeAt M_before M_behind M_tape M_taped M_here M_fault M_open M_laid M_act M_with M_lineMany M_testEnd M_lineEnd M_facts M_pile M_hasLaw M_far M_within M_tooNear M_dried M_isOn M_wasOn M_bodies M_kind M_traces M_traced M_holds M_size M_elements M_shifted) H locs → lv_has ls 6 [(0, .ref (ρ 0)), (1, .int x1), (2, .int x2), (3, .int x3), (4, .int x4), (5, .int x5)] → W p l e (zrm d) s m args below meth c H locs 0 0 Q (F0 m 34 ls []) := by
    intro x1 x2 x3 x4 M_price M_year M_cost M_doneMany M_undoneMany
    intro n
    induction n with
    | zero =>
      intro x5 M_changeOf M_changeAt M_before M_behind H locs ls h
      rw [f_X7_changes_b34] at h
      cases h
    | succ n ih =>
      intro x5 M_changeOf M_changeAt M_before M_behind H locs ls h hW hl
      rw [f_X7_changes_b34] at h
      refine lv_iload hx hb dX7_changes_34 (lv_at hl 5 rfl) ?_
      refine lv_bipush (v := 40) hx hb dX7_changes_36 (by decide) ?_
      refine lv_icmp_ge (tgt := 111) hx hb dX7_changes_38 (by decide) (fun c9 => ?_) (fun c9 => ?_)
      · have h := ifp c9 h
        refine lv_aload_n hx hb dX7_changes_111 rfl (lv_at hl 0 rfl) ?_
        refine lv_dup hx hb dX7_changes_112 rfl ?_
        refine z_get hC hW fg_X7_150 0 WM_0 rfl dX7_changes_113 ?_
        refine lv_iconst (v := 1) hx hb dX7_changes_116 (by decide) ?_
        refine lv_isub hx hb dX7_changes_117 ?_
        refine z_put hC hW fp_X7_150 0 WM_0 (Nat.le_of_ble_eq_true rfl) rfl rfl WMs_M_doneMany dX7_changes_118 (fun H locs hW => ?_)
        exact b121 h hW (lv_sub hl [0, 1, 2, 3, 4] rfl)
      · have h := ifn c9 h
        refine lv_aload_n hx hb dX7_changes_41 rfl (lv_at hl 0 rfl) ?_
        refine z_get hC hW fg_X7_35 0 WM_0 rfl dX7_changes_42 ?_
        refine lv_iload hx hb dX7_changes_45 (lv_at hl 5 rfl) ?_
        refine lv_iconst (v := 1) hx hb dX7_changes_47 (by decide) ?_
        refine lv_isub hx hb dX7_changes_48 ?_
        refine lv_aload_n hx hb dX7_changes_49 rfl (lv_at hl 0 rfl) ?_
        refine z_get hC hW fg_X7_35 0 WM_0 rfl dX7_changes_50 ?_
        refine lv_iload hx hb dX7_changes_53 (lv_at hl 5 rfl) ?_
        obtain ⟨g10, h⟩ := ix_some h
        refine z_iald hC hW 8 WM_8 g10 dX7_changes_55 ?_
        obtain ⟨g11, h⟩ := ix_some h
        refine z_iast hC hW 8 WM_8 g11 WMs_M_changeOf dX7_changes_56 (fun H locs hW => ?_)
        refine lv_aload_n hx hb dX7_changes_57 rfl (lv_at hl 0 rfl) ?_
        refine z_get hC hW fg_X7_38 0 WM_0 rfl dX7_changes_58 ?_
        refine lv_iload hx hb dX7_changes_61 (lv_at hl 5 rfl) ?_
        refine lv_iconst (v := 1) hx hb dX7_changes_63 (by decide) ?_
        refine lv_isub hx hb dX7_changes_64 ?_
        refine lv_aload_n hx hb dX7_changes_65 rfl (lv_at hl 0 rfl) ?_
        refine z_get hC hW fg_X7_38 0 WM_0 rfl dX7_changes_66 ?_
        refine lv_iload hx hb dX7_changes_69 (lv_at hl 5 rfl) ?_
        obtain ⟨g12, h⟩ := ix_some h
        refine z_iald hC hW 9 WM_9 g12 dX7_changes_71 ?_
        obtain ⟨g13, h⟩ := ix_some h
        refine z_iast hC hW 9 WM_9 g13 WMs_M_changeAt dX7_changes_72 (fun H locs hW => ?_)
        refine lv_aload_n hx hb dX7_changes_73 rfl (lv_at hl 0 rfl) ?_
        refine z_get hC hW fg_X7_41 0 WM_0 rfl dX7_changes_74 ?_
        refine lv_iload hx hb dX7_changes_77 (lv_at hl 5 rfl) ?_
        refine lv_iconst (v := 1) hx hb dX7_changes_79 (by decide) ?_
        refine lv_isub hx hb dX7_changes_80 ?_
        refine lv_aload_n hx hb dX7_changes_81 rfl (lv_at hl 0 rfl) ?_
        refine z_get hC hW fg_X7_41 0 WM_0 rfl dX7_changes_82 ?_
        refine lv_iload hx hb dX7_changes_85 (lv_at hl 5 rfl) ?_
        obtain ⟨g14, h⟩ := ix_some h
        refine z_iald hC hW 10 WM_10 g14 dX7_changes_87 ?_
        obtain ⟨g15, h⟩ := ix_some h
        refine z_iast hC hW 10 WM_10 g15 WMs_M_before dX7_changes_88 (fun H locs hW => ?_)
        refine lv_aload_n hx hb dX7_changes_89 rfl (lv_at hl 0 rfl) ?_
        refine z_get hC hW fg_X7_44 0 WM_0 rfl dX7_changes_90 ?_
        refine lv_iload hx hb dX7_changes_93 (lv_at hl 5 rfl) ?_
        refine lv_iconst (v := 1) hx hb dX7_changes_95 (by decide) ?_
        refine lv_isub hx hb dX7_changes_96 ?_
        refine lv_aload_n hx hb dX7_changes_97 rfl (lv_at hl 0 rfl) ?_
        refine z_get hC hW fg_X7_44 0 WM_0 rfl dX7_changes_98 ?_
        refine lv_iload hx hb dX7_changes_101 (lv_at hl 5 rfl) ?_
        obtain ⟨g16, h⟩ := ix_some h
        refine z_iald hC hW 11 WM_11 g16 dX7_changes_103 ?_
        obtain ⟨g17, h⟩ := ix_some h
        refine z_iast hC hW 11 WM_11 g17 WMs_M_behind dX7_changes_104 (fun H locs hW => ?_)
        refine lv_iinc (v := (x5 + 1)) (lv' := [(5, .int (x5 + 1)), (0, .ref (ρ 0)), (1, .int x1), (2, .int x2), (3, .int x3), (4, .int x4)]) hx hb dX7_changes_105 hl (k := 5) rfl rfl (by decide) rfl (fun ls hl => ?_)
        refine lv_goto (tgt := 34) hx hb dX7_changes_108 (by decide) ?_
        exact ih h hW (lv_sub hl [1, 2, 3, 4, 5, 0] rfl)
  unfold f_X7_changes at h
  refine lv_aload_n hx hb dX7_changes_0 rfl (lv_at hl 0 rfl) ?_
  refine lv_iload_n hx hb dX7_changes_1 rfl (lv_at hl 1 rfl) ?_
  refine lv_iload_n hx hb dX7_changes_2 rfl (lv_at hl 2 rfl) ?_
  obtain ⟨u1, eu1, h⟩ := bd_some h
  refine z_callV_i hC hW (rest := []) (c_X7_valueAt (d := 0) (Nat.le_refl _) eu1) vw_X7_144 WM_0 rfl ⟨rfl, rfl⟩ (zrm_ok (by omega) (by decide)) rfl rfl hl.1 (Nat.le_of_ble_eq_true rfl) dX7_changes_3 (fun H locs hW => ?_)
  refine lv_istore (lv' := [(4, .int u1), (0, .ref (ρ 0)), (1, .int a1), (2, .int a2), (3, .int a3)]) hx hb dX7_changes_6 hl (by decide) rfl (fun ls hl => ?_)
  refine lv_iload hx hb dX7_changes_8 (lv_at hl 0 rfl) ?_
  refine lv_iload_n hx hb dX7_changes_10 rfl (lv_at hl 4 rfl) ?_
  refine lv_icmp_ne (tgt := 17) hx hb dX7_changes_11 (by decide) (fun c2 => ?_) (fun c2 => ?_)
  · have h := ifn c2 h
    refine lv_aload_n hx hb dX7_changes_17 rfl (lv_at hl 1 rfl) ?_
    refine lv_iconst (v := 0) hx hb dX7_changes_18 (by decide) ?_
    refine z_put hC hW fp_X7_147 0 WM_0 (Nat.le_of_ble_eq_true rfl) rfl rfl WMs_M_undoneMany dX7_changes_19 (fun H locs hW => ?_)
    refine lv_aload_n hx hb dX7_changes_22 rfl (lv_at hl 1 rfl) ?_
    refine z_get hC hW fg_X7_150 0 WM_0 rfl dX7_changes_23 ?_
    refine lv_bipush (v := 40) hx hb dX7_changes_26 (by decide) ?_
    refine lv_icmp_ne (tgt := 121) hx hb dX7_changes_28 (by decide) (fun c3 => ?_) (fun c3 => ?_)
    · have h := ifn c3 h
      exact b121 h hW (lv_sub hl [1, 2, 3, 4, 0] rfl)
    · have h := ifp c3 h
      refine lv_iconst (v := 1) hx hb dX7_changes_31 (by decide) ?_
      refine lv_istore (lv' := [(5, .int 1), (4, .int u1), (0, .ref (ρ 0)), (1, .int a1), (2, .int a2), (3, .int a3)]) hx hb dX7_changes_32 hl (by decide) rfl (fun ls hl => ?_)
      exact b34 h hW (lv_sub hl [2, 3, 4, 5, 1, 0] rfl)
  · have h := ifp c2 h
    refine lv_iload hx hb dX7_changes_14 (lv_at hl 0 rfl) ?_
    have h := Option.some.inj h
    subst h
    exact hret _ _ _ _ _ dX7_changes_16 rfl rfl hW
end CT21_m01
