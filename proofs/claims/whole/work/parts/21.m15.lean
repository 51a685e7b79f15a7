section CT21_m15
variable {l : Launch} {D : va_G} {q : Nat → ClassId} {ρ : Nat → Nat} {sz : Nat} {M_code : Int32} {M_doors : Int32} {M_price : Nat → Int32} {M_year : Nat → Int32} {M_joins : Int32} {M_joinA : Nat → Int32} {M_joinB : Nat → Int32} {M_walls : Int32} {M_wallA : Nat → Int32} {M_wallB : Nat → Int32} {M_cost : Nat → Int32} {M_olds : Int32} {M_near : Int32} {M_doneMany : Int32} {M_undoneMany : Int32} {M_changeOf : Nat → Int32} {M_changeAt : Nat → Int32} {M_before : Nat → Int32} {M_behind : Nat → Int32} {M_tape : Nat → Int32} {M_taped : Int32} {M_here : Int32} {M_fault : Int32} {M_open : Int32} {M_laid : Int32} {M_act : Nat → Int32} {M_with : Nat → Int32} {M_lineMany : Nat → Int32} {M_testEnd : Nat → Int32} {M_lineEnd : Nat → Int32} {M_facts : Nat → Int32} {M_pile : Nat → Int32} {M_hasLaw : Int32} {M_far : Nat → Int32} {M_within : Nat → Int32} {M_tooNear : Nat → Int32} {M_dried : Int32} {M_isOn : Nat → Int32} {M_wasOn : Nat → Int32} {M_bodies : Int32} {M_kind : Nat → Int32} {M_traces : Int32} {M_traced : Nat → Int32} {M_holds : Nat → Int32} {M_size : Nat → Int32} {M_elements : Nat → Int64} {M_shifted : Nat → Int64}
set_option maxHeartbeats 4000000 in
set_option maxRecDepth 100000 in
theorem c_X7_reaches {a1 : Int32} {a2 : Int32} {d : Nat} {res : Int32 × Int32 × (Nat → Int32)} (hd : 6 ≤ d) (h : f_X7_reaches a1 a2 M_kind M_traces M_traced = some res) : zMi l yX7_reaches cX7_reaches 4 .int (zrm d) [.ref (ρ 0), .int a1, .int a2] D q (WM q ρ M_code M_doors M_price M_year M_joins M_joinA M_joinB M_walls M_wallA M_wallB M_cost M_olds M_near M_doneMany M_undoneMany M_changeOf M_changeAt M_before M_behind M_tape M_taped M_here M_fault M_open M_laid M_act M_with M_lineMany M_testEnd M_lineEnd M_facts M_pile M_hasLaw M_far M_within M_tooNear M_dried M_isOn M_wasOn M_bodies M_kind M_traces M_traced M_holds M_size M_elements M_shifted) sz res.1 (WM q ρ M_code M_doors M_price M_year M_joins M_joinA M_joinB M_walls M_wallA M_wallB M_cost M_olds M_near M_doneMany M_undoneMany M_changeOf M_changeAt M_before M_behind M_tape M_taped M_here M_fault M_open M_laid M_act M_with M_lineMany M_testEnd M_lineEnd M_facts M_pile M_hasLaw M_far M_within M_tooNear M_dried M_isOn M_wasOn M_bodies M_kind res.2.1 res.2.2 M_holds M_size M_elements M_shifted) := by
  refine zMet_i (own := RX7) _ (by decide) rfl (Nat.le_of_ble_eq_true rfl) ?_
  intro p e s m args below meth c A ls Q hC hW hl hret
  have hx := hC.1
  have hb := hC.2.1
  have hl : lv_has ls 4 [(0, .ref (ρ 0)), (1, .int a1), (2, .int a2)] := hl
  unfold f_X7_reaches at h
  refine lv_aload_n hx hb dX7_reaches_0 rfl (lv_at hl 0 rfl) ?_
  refine z_get hC hW fg_X7_89 0 WM_0 rfl dX7_reaches_1 ?_
  refine lv_iload_n hx hb dX7_reaches_4 rfl (lv_at hl 1 rfl) ?_
  obtain ⟨g1, h⟩ := ix_some h
  refine z_iald hC hW 25 WM_25 g1 dX7_reaches_5 ?_
  refine lv_iconst (v := 3) hx hb dX7_reaches_6 (by decide) ?_
  refine lv_icmp_ne (tgt := 25) hx hb dX7_reaches_7 (by decide) (fun c2 => ?_) (fun c2 => ?_)
  · have h := ifn c2 h
    refine lv_aload_n hx hb dX7_reaches_25 rfl (lv_at hl 0 rfl) ?_
    refine z_get hC hW fg_X7_89 0 WM_0 rfl dX7_reaches_26 ?_
    refine lv_iload_n hx hb dX7_reaches_29 rfl (lv_at hl 1 rfl) ?_
    obtain ⟨g3, h⟩ := ix_some h
    refine z_iald hC hW 25 WM_25 g3 dX7_reaches_30 ?_
    refine lv_bipush (v := 7) hx hb dX7_reaches_31 (by decide) ?_
    refine lv_icmp_ne (tgt := 58) hx hb dX7_reaches_33 (by decide) (fun c4 => ?_) (fun c4 => ?_)
    · have h := ifn c4 h
      refine lv_aload_n hx hb dX7_reaches_58 rfl (lv_at hl 0 rfl) ?_
      refine z_get hC hW fg_X7_89 0 WM_0 rfl dX7_reaches_59 ?_
      refine lv_iload_n hx hb dX7_reaches_62 rfl (lv_at hl 1 rfl) ?_
      obtain ⟨g5, h⟩ := ix_some h
      refine z_iald hC hW 25 WM_25 g5 dX7_reaches_63 ?_
      refine lv_iconst (v := 2) hx hb dX7_reaches_64 (by decide) ?_
      refine lv_icmp_ne (tgt := 77) hx hb dX7_reaches_65 (by decide) (fun c6 => ?_) (fun c6 => ?_)
      · have h := ifn c6 h
        refine lv_aload_n hx hb dX7_reaches_77 rfl (lv_at hl 0 rfl) ?_
        refine lv_iload_n hx hb dX7_reaches_78 rfl (lv_at hl 1 rfl) ?_
        refine lv_iload_n hx hb dX7_reaches_79 rfl (lv_at hl 2 rfl) ?_
        obtain ⟨u7, eu7, h⟩ := bd_some h
        refine z_callV_i hC hW (rest := []) (c_X7_plainReaches (d := 4) (Nat.le_refl _) eu7) vw_X7_315 WM_0 rfl ⟨rfl, rfl⟩ (zrm_ok (by omega) (by decide)) rfl rfl hl.1 (Nat.le_of_ble_eq_true rfl) dX7_reaches_80 (fun H locs hW => ?_)
        have h := Option.some.inj h
        subst h
        exact hret _ _ _ _ _ dX7_reaches_83 rfl rfl hW
      · have h := ifp c6 h
        refine lv_aload_n hx hb dX7_reaches_68 rfl (lv_at hl 0 rfl) ?_
        refine lv_iload_n hx hb dX7_reaches_69 rfl (lv_at hl 1 rfl) ?_
        refine lv_iload_n hx hb dX7_reaches_70 rfl (lv_at hl 2 rfl) ?_
        obtain ⟨u8, eu8, h⟩ := bd_some h
        refine z_callV_i hC hW (rest := []) (c_X7_evenReaches (d := 5) (Nat.le_refl _) eu8) vw_X7_318 WM_0 rfl ⟨rfl, rfl⟩ (zrm_ok (by omega) (by decide)) rfl rfl hl.1 (Nat.le_of_ble_eq_true rfl) dX7_reaches_71 (fun H locs hW => ?_)
        refine lv_goto (tgt := 83) hx hb dX7_reaches_74 (by decide) ?_
        have h := Option.some.inj h
        subst h
        exact hret _ _ _ _ _ dX7_reaches_83 rfl rfl hW
    · have h := ifp c4 h
      refine lv_aload_n hx hb dX7_reaches_36 rfl (lv_at hl 0 rfl) ?_
      refine lv_bipush (v := 80) hx hb dX7_reaches_37 (by decide) ?_
      obtain ⟨u9, eu9, h⟩ := bd_some h
      refine z_callV_v hC hW (rest := []) (c_X7_ran (d := 0) (Nat.le_refl _) eu9) vw_X7_300 WM_0 rfl ⟨rfl, rfl⟩ (zrm_ok (by omega) (by decide)) rfl rfl hl.1 (Nat.le_of_ble_eq_true rfl) dX7_reaches_39 (fun H locs hW => ?_)
      refine lv_aload_n hx hb dX7_reaches_42 rfl (lv_at hl 0 rfl) ?_
      refine lv_iload_n hx hb dX7_reaches_43 rfl (lv_at hl 1 rfl) ?_
      refine lv_iload_n hx hb dX7_reaches_44 rfl (lv_at hl 2 rfl) ?_
      obtain ⟨u10, eu10, h⟩ := bd_some h
      refine z_callV_i hC hW (rest := []) (c_X7_plainReaches (d := 4) (Nat.le_refl _) eu10) vw_X7_315 WM_0 rfl ⟨rfl, rfl⟩ (zrm_ok (by omega) (by decide)) rfl rfl hl.1 (Nat.le_of_ble_eq_true rfl) dX7_reaches_45 (fun H locs hW => ?_)
      refine lv_istore_n (lv' := [(3, .int u10.1), (0, .ref (ρ 0)), (1, .int a1), (2, .int a2)]) hx hb dX7_reaches_48 rfl hl (by decide) rfl (fun ls hl => ?_)
      refine lv_iload_n hx hb dX7_reaches_49 rfl (lv_at hl 0 rfl) ?_
      refine lv_aload_n hx hb dX7_reaches_50 rfl (lv_at hl 1 rfl) ?_
      refine lv_iload_n hx hb dX7_reaches_51 rfl (lv_at hl 2 rfl) ?_
      refine lv_iconst (v := 2) hx hb dX7_reaches_52 (by decide) ?_
      obtain ⟨u11, eu11, h⟩ := bd_some h
      refine z_callV_i hC hW (rest := [.int u10.1]) (c_X7_nears (d := 4) (Nat.le_refl _) eu11) vw_X7_321 WM_0 rfl ⟨rfl, rfl⟩ (zrm_ok (by omega) (by decide)) rfl rfl hl.1 (Nat.le_of_ble_eq_true rfl) dX7_reaches_53 (fun H locs hW => ?_)
      refine lv_iadd hx hb dX7_reaches_56 ?_
      have h := Option.some.inj h
      subst h
      exact hret _ _ _ _ _ dX7_reaches_57 rfl rfl hW
  · have h := ifp c2 h
    refine lv_aload_n hx hb dX7_reaches_10 rfl (lv_at hl 0 rfl) ?_
    refine lv_bipush (v := 41) hx hb dX7_reaches_11 (by decide) ?_
    obtain ⟨u12, eu12, h⟩ := bd_some h
    refine z_callV_v hC hW (rest := []) (c_X7_ran (d := 0) (Nat.le_refl _) eu12) vw_X7_300 WM_0 rfl ⟨rfl, rfl⟩ (zrm_ok (by omega) (by decide)) rfl rfl hl.1 (Nat.le_of_ble_eq_true rfl) dX7_reaches_13 (fun H locs hW => ?_)
    refine lv_aload_n hx hb dX7_reaches_16 rfl (lv_at hl 0 rfl) ?_
    refine lv_iload_n hx hb dX7_reaches_17 rfl (lv_at hl 1 rfl) ?_
    refine lv_iload_n hx hb dX7_reaches_18 rfl (lv_at hl 2 rfl) ?_
    refine lv_iconst (v := 1) hx hb dX7_reaches_19 (by decide) ?_
    refine lv_iadd hx hb dX7_reaches_20 ?_
    obtain ⟨u13, eu13, h⟩ := bd_some h
    refine z_callV_i hC hW (rest := []) (c_X7_evenReaches (d := 5) (Nat.le_refl _) eu13) vw_X7_318 WM_0 rfl ⟨rfl, rfl⟩ (zrm_ok (by omega) (by decide)) rfl rfl hl.1 (Nat.le_of_ble_eq_true rfl) dX7_reaches_21 (fun H locs hW => ?_)
    have h := Option.some.inj h
    subst h
    exact hret _ _ _ _ _ dX7_reaches_24 rfl rfl hW
set_option maxHeartbeats 4000000 in
set_option maxRecDepth 100000 in
theorem c_X7_plainTells {a1 : Int32} {a2 : Int32} {d : Nat} {res : Int32 × Int32 × (Nat → Int32)} (hd : 7 ≤ d) (h : f_X7_plainTells a1 a2 M_kind M_traces M_traced = some res) : zMi l yX7_plainTells cX7_plainTells 4 .int (zrm d) [.ref (ρ 0), .int a1, .int a2] D q (WM q ρ M_code M_doors M_price M_year M_joins M_joinA M_joinB M_walls M_wallA M_wallB M_cost M_olds M_near M_doneMany M_undoneMany M_changeOf M_changeAt M_before M_behind M_tape M_taped M_here M_fault M_open M_laid M_act M_with M_lineMany M_testEnd M_lineEnd M_facts M_pile M_hasLaw M_far M_within M_tooNear M_dried M_isOn M_wasOn M_bodies M_kind M_traces M_traced M_holds M_size M_elements M_shifted) sz res.1 (WM q ρ M_code M_doors M_price M_year M_joins M_joinA M_joinB M_walls M_wallA M_wallB M_cost M_olds M_near M_doneMany M_undoneMany M_changeOf M_changeAt M_before M_behind M_tape M_taped M_here M_fault M_open M_laid M_act M_with M_lineMany M_testEnd M_lineEnd M_facts M_pile M_hasLaw M_far M_within M_tooNear M_dried M_isOn M_wasOn M_bodies M_kind res.2.1 res.2.2 M_holds M_size M_elements M_shifted) := by
  refine zMet_i (own := RX7) _ (by decide) rfl (Nat.le_of_ble_eq_true rfl) ?_
  intro p e s m args below meth c A ls Q hC hW hl hret
  have hx := hC.1
  have hb := hC.2.1
  have hl : lv_has ls 4 [(0, .ref (ρ 0)), (1, .int a1), (2, .int a2)] := hl
  unfold f_X7_plainTells at h
  refine lv_aload_n hx hb dX7_plainTells_0 rfl (lv_at hl 0 rfl) ?_
  refine lv_iconst (v := 2) hx hb dX7_plainTells_1 (by decide) ?_
  obtain ⟨u1, eu1, h⟩ := bd_some h
  refine z_callV_v hC hW (rest := []) (c_X7_ran (d := 0) (Nat.le_refl _) eu1) vw_X7_300 WM_0 rfl ⟨rfl, rfl⟩ (zrm_ok (by omega) (by decide)) rfl rfl hl.1 (Nat.le_of_ble_eq_true rfl) dX7_plainTells_2 (fun H locs hW => ?_)
  refine lv_aload_n hx hb dX7_plainTells_5 rfl (lv_at hl 0 rfl) ?_
  refine lv_iload_n hx hb dX7_plainTells_6 rfl (lv_at hl 1 rfl) ?_
  refine lv_iload_n hx hb dX7_plainTells_7 rfl (lv_at hl 2 rfl) ?_
  obtain ⟨u2, eu2, h⟩ := bd_some h
  refine z_callV_i hC hW (rest := []) (c_X7_reaches (d := 6) (Nat.le_refl _) eu2) vw_X7_327 WM_0 rfl ⟨rfl, rfl⟩ (zrm_ok (by omega) (by decide)) rfl rfl hl.1 (Nat.le_of_ble_eq_true rfl) dX7_plainTells_8 (fun H locs hW => ?_)
  refine lv_istore_n (lv' := [(3, .int u2.1), (0, .ref (ρ 0)), (1, .int a1), (2, .int a2)]) hx hb dX7_plainTells_11 rfl hl (by decide) rfl (fun ls hl => ?_)
  refine lv_iload_n hx hb dX7_plainTells_12 rfl (lv_at hl 0 rfl) ?_
  refine lv_aload_n hx hb dX7_plainTells_13 rfl (lv_at hl 1 rfl) ?_
  refine lv_iload_n hx hb dX7_plainTells_14 rfl (lv_at hl 2 rfl) ?_
  refine lv_iconst (v := 1) hx hb dX7_plainTells_15 (by decide) ?_
  obtain ⟨u3, eu3, h⟩ := bd_some h
  refine z_callV_i hC hW (rest := [.int u2.1]) (c_X7_nears (d := 4) (Nat.le_refl _) eu3) vw_X7_321 WM_0 rfl ⟨rfl, rfl⟩ (zrm_ok (by omega) (by decide)) rfl rfl hl.1 (Nat.le_of_ble_eq_true rfl) dX7_plainTells_16 (fun H locs hW => ?_)
  refine lv_isub hx hb dX7_plainTells_19 ?_
  have h := Option.some.inj h
  subst h
  exact hret _ _ _ _ _ dX7_plainTells_20 rfl rfl hW
set_option maxHeartbeats 4000000 in
set_option maxRecDepth 100000 in
theorem c_X7_lineTells {a1 : Int32} {a2 : Int32} {d : Nat} {res : Int32 × Int32 × (Nat → Int32)} (hd : 8 ≤ d) (h : f_X7_lineTells a1 a2 M_kind M_traces M_traced = some res) : zMi l yX7_lineTells cX7_lineTells 3 .int (zrm d) [.ref (ρ 0), .int a1, .int a2] D q (WM q ρ M_code M_doors M_price M_year M_joins M_joinA M_joinB M_walls M_wallA M_wallB M_cost M_olds M_near M_doneMany M_undoneMany M_changeOf M_changeAt M_before M_behind M_tape M_taped M_here M_fault M_open M_laid M_act M_with M_lineMany M_testEnd M_lineEnd M_facts M_pile M_hasLaw M_far M_within M_tooNear M_dried M_isOn M_wasOn M_bodies M_kind M_traces M_traced M_holds M_size M_elements M_shifted) sz res.1 (WM q ρ M_code M_doors M_price M_year M_joins M_joinA M_joinB M_walls M_wallA M_wallB M_cost M_olds M_near M_doneMany M_undoneMany M_changeOf M_changeAt M_before M_behind M_tape M_taped M_here M_fault M_open M_laid M_act M_with M_lineMany M_testEnd M_lineEnd M_facts M_pile M_hasLaw M_far M_within M_tooNear M_dried M_isOn M_wasOn M_bodies M_kind res.2.1 res.2.2 M_holds M_size M_elements M_shifted) := by
  refine zMet_i (own := RX7) _ (by decide) rfl (Nat.le_of_ble_eq_true rfl) ?_
  intro p e s m args below meth c A ls Q hC hW hl hret
  have hx := hC.1
  have hb := hC.2.1
  have hl : lv_has ls 3 [(0, .ref (ρ 0)), (1, .int a1), (2, .int a2)] := hl
  unfold f_X7_lineTells at h
  refine lv_aload_n hx hb dX7_lineTells_0 rfl (lv_at hl 0 rfl) ?_
  refine lv_bipush (v := 50) hx hb dX7_lineTells_1 (by decide) ?_
  obtain ⟨u1, eu1, h⟩ := bd_some h
  refine z_callV_v hC hW (rest := []) (c_X7_ran (d := 0) (Nat.le_refl _) eu1) vw_X7_300 WM_0 rfl ⟨rfl, rfl⟩ (zrm_ok (by omega) (by decide)) rfl rfl hl.1 (Nat.le_of_ble_eq_true rfl) dX7_lineTells_3 (fun H locs hW => ?_)
  refine lv_aload_n hx hb dX7_lineTells_6 rfl (lv_at hl 0 rfl) ?_
  refine lv_iload_n hx hb dX7_lineTells_7 rfl (lv_at hl 1 rfl) ?_
  refine lv_iload_n hx hb dX7_lineTells_8 rfl (lv_at hl 2 rfl) ?_
  obtain ⟨u2, eu2, h⟩ := bd_some h
  refine z_callV_i hC hW (rest := []) (c_X7_plainTells (d := 7) (Nat.le_refl _) eu2) vw_X7_330 WM_0 rfl ⟨rfl, rfl⟩ (zrm_ok (by omega) (by decide)) rfl rfl hl.1 (Nat.le_of_ble_eq_true rfl) dX7_lineTells_9 (fun H locs hW => ?_)
  refine lv_iconst (v := 5) hx hb dX7_lineTells_12 (by decide) ?_
  refine lv_ixor hx hb dX7_lineTells_13 ?_
  have h := Option.some.inj h
  subst h
  exact hret _ _ _ _ _ dX7_lineTells_14 rfl rfl hW
set_option maxHeartbeats 4000000 in
set_option maxRecDepth 100000 in
theorem c_X7_telling {a1 : Int32} {a2 : Int32} {d : Nat} {res : Int32 × Int32 × (Nat → Int32)} (hd : 9 ≤ d) (h : f_X7_telling a1 a2 M_kind M_traces M_traced = some res) : zMi l yX7_telling cX7_telling 3 .int (zrm d) [.ref (ρ 0), .int a1, .int a2] D q (WM q ρ M_code M_doors M_price M_year M_joins M_joinA M_joinB M_walls M_wallA M_wallB M_cost M_olds M_near M_doneMany M_undoneMany M_changeOf M_changeAt M_before M_behind M_tape M_taped M_here M_fault M_open M_laid M_act M_with M_lineMany M_testEnd M_lineEnd M_facts M_pile M_hasLaw M_far M_within M_tooNear M_dried M_isOn M_wasOn M_bodies M_kind M_traces M_traced M_holds M_size M_elements M_shifted) sz res.1 (WM q ρ M_code M_doors M_price M_year M_joins M_joinA M_joinB M_walls M_wallA M_wallB M_cost M_olds M_near M_doneMany M_undoneMany M_changeOf M_changeAt M_before M_behind M_tape M_taped M_here M_fault M_open M_laid M_act M_with M_lineMany M_testEnd M_lineEnd M_facts M_pile M_hasLaw M_far M_within M_tooNear M_dried M_isOn M_wasOn M_bodies M_kind res.2.1 res.2.2 M_holds M_size M_elements M_shifted) := by
  refine zMet_i (own := RX7) _ (by decide) rfl (Nat.le_of_ble_eq_true rfl) ?_
  intro p e s m args below meth c A ls Q hC hW hl hret
  have hx := hC.1
  have hb := hC.2.1
  have hl : lv_has ls 3 [(0, .ref (ρ 0)), (1, .int a1), (2, .int a2)] := hl
  unfold f_X7_telling at h
  refine lv_aload_n hx hb dX7_telling_0 rfl (lv_at hl 0 rfl) ?_
  refine z_get hC hW fg_X7_89 0 WM_0 rfl dX7_telling_1 ?_
  refine lv_iload_n hx hb dX7_telling_4 rfl (lv_at hl 1 rfl) ?_
  obtain ⟨g1, h⟩ := ix_some h
  refine z_iald hC hW 25 WM_25 g1 dX7_telling_5 ?_
  refine lv_iconst (v := 5) hx hb dX7_telling_6 (by decide) ?_
  refine lv_icmp_ne (tgt := 25) hx hb dX7_telling_7 (by decide) (fun c2 => ?_) (fun c2 => ?_)
  · have h := ifn c2 h
    refine lv_aload_n hx hb dX7_telling_25 rfl (lv_at hl 0 rfl) ?_
    refine z_get hC hW fg_X7_89 0 WM_0 rfl dX7_telling_26 ?_
    refine lv_iload_n hx hb dX7_telling_29 rfl (lv_at hl 1 rfl) ?_
    obtain ⟨g3, h⟩ := ix_some h
    refine z_iald hC hW 25 WM_25 g3 dX7_telling_30 ?_
    refine lv_iconst (v := 4) hx hb dX7_telling_31 (by decide) ?_
    refine lv_icmp_ne (tgt := 44) hx hb dX7_telling_32 (by decide) (fun c4 => ?_) (fun c4 => ?_)
    · have h := ifn c4 h
      refine lv_aload_n hx hb dX7_telling_44 rfl (lv_at hl 0 rfl) ?_
      refine lv_iload_n hx hb dX7_telling_45 rfl (lv_at hl 1 rfl) ?_
      refine lv_iload_n hx hb dX7_telling_46 rfl (lv_at hl 2 rfl) ?_
      obtain ⟨u5, eu5, h⟩ := bd_some h
      refine z_callV_i hC hW (rest := []) (c_X7_plainTells (d := 7) (Nat.le_refl _) eu5) vw_X7_330 WM_0 rfl ⟨rfl, rfl⟩ (zrm_ok (by omega) (by decide)) rfl rfl hl.1 (Nat.le_of_ble_eq_true rfl) dX7_telling_47 (fun H locs hW => ?_)
      have h := Option.some.inj h
      subst h
      exact hret _ _ _ _ _ dX7_telling_50 rfl rfl hW
    · have h := ifp c4 h
      refine lv_aload_n hx hb dX7_telling_35 rfl (lv_at hl 0 rfl) ?_
      refine lv_iload_n hx hb dX7_telling_36 rfl (lv_at hl 1 rfl) ?_
      refine lv_iload_n hx hb dX7_telling_37 rfl (lv_at hl 2 rfl) ?_
      obtain ⟨u6, eu6, h⟩ := bd_some h
      refine z_callV_i hC hW (rest := []) (c_X7_lineTells (d := 8) (Nat.le_refl _) eu6) vw_X7_333 WM_0 rfl ⟨rfl, rfl⟩ (zrm_ok (by omega) (by decide)) rfl rfl hl.1 (Nat.le_of_ble_eq_true rfl) dX7_telling_38 (fun H locs hW => ?_)
      refine lv_goto (tgt := 50) hx hb dX7_telling_41 (by decide) ?_
      have h := Option.some.inj h
      subst h
      exact hret _ _ _ _ _ dX7_telling_50 rfl rfl hW
  · have h := ifp c2 h
    refine lv_aload_n hx hb dX7_telling_10 rfl (lv_at hl 0 rfl) ?_
    refine lv_bipush (v := 61) hx hb dX7_telling_11 (by decide) ?_
    obtain ⟨u7, eu7, h⟩ := bd_some h
    refine z_callV_v hC hW (rest := []) (c_X7_ran (d := 0) (Nat.le_refl _) eu7) vw_X7_300 WM_0 rfl ⟨rfl, rfl⟩ (zrm_ok (by omega) (by decide)) rfl rfl hl.1 (Nat.le_of_ble_eq_true rfl) dX7_telling_13 (fun H locs hW => ?_)
    refine lv_aload_n hx hb dX7_telling_16 rfl (lv_at hl 0 rfl) ?_
    refine lv_iload_n hx hb dX7_telling_17 rfl (lv_at hl 1 rfl) ?_
    refine lv_iload_n hx hb dX7_telling_18 rfl (lv_at hl 2 rfl) ?_
    obtain ⟨u8, eu8, h⟩ := bd_some h
    refine z_callV_i hC hW (rest := []) (c_X7_lineTells (d := 8) (Nat.le_refl _) eu8) vw_X7_333 WM_0 rfl ⟨rfl, rfl⟩ (zrm_ok (by omega) (by decide)) rfl rfl hl.1 (Nat.le_of_ble_eq_true rfl) dX7_telling_19 (fun H locs hW => ?_)
    refine lv_iconst (v := 1) hx hb dX7_telling_22 (by decide) ?_
    refine lv_iadd hx hb dX7_telling_23 ?_
    have h := Option.some.inj h
    subst h
    exact hret _ _ _ _ _ dX7_telling_24 rfl rfl hW
set_option maxHeartbeats 4000000 in
set_option maxRecDepth 100000 in
theorem c_X7_act {a1 : Int32} {a2 : Int32} {a3 : Int32} {d : Nat} {res : Int32 × Int32 × (Nat → Int32)} (hd : 10 ≤ d) (h : f_X7_act a1 a2 a3 M_bodies M_kind M_traces M_traced = some res) : zMi l yX7_act cX7_act 4 .int (zrm d) [.ref (ρ 0), .int a1, .int a2, .int a3] D q (WM q ρ M_code M_doors M_price M_year M_joins M_joinA M_joinB M_walls M_wallA M_wallB M_cost M_olds M_near M_doneMany M_undoneMany M_changeOf M_changeAt M_before M_behind M_tape M_taped M_here M_fault M_open M_laid M_act M_with M_lineMany M_testEnd M_lineEnd M_facts M_pile M_hasLaw M_far M_within M_tooNear M_dried M_isOn M_wasOn M_bodies M_kind M_traces M_traced M_holds M_size M_elements M_shifted) sz res.1 (WM q ρ M_code M_doors M_price M_year M_joins M_joinA M_joinB M_walls M_wallA M_wallB M_cost M_olds M_near M_doneMany M_undoneMany M_changeOf M_changeAt M_before M_behind M_tape M_taped M_here M_fault M_open M_laid M_act M_with M_lineMany M_testEnd M_lineEnd M_facts M_pile M_hasLaw M_far M_within M_tooNear M_dried M_isOn M_wasOn M_bodies M_kind res.2.1 res.2.2 M_holds M_size M_elements M_shifted) := by
  refine zMet_i (own := RX7) _ (by decide) rfl (Nat.le_of_ble_eq_true rfl) ?_
  intro p e s m args below meth c A ls Q hC hW hl hret
  have hx := hC.1
  have hb := hC.2.1
  have hl : lv_has ls 4 [(0, .ref (ρ 0)), (1, .int a1), (2, .int a2), (3, .int a3)] := hl
  unfold f_X7_act at h
  refine lv_aload_n hx hb dX7_act_0 rfl (lv_at hl 0 rfl) ?_
  refine lv_iconst (v := 0) hx hb dX7_act_1 (by decide) ?_
  refine z_put hC hW fp_X7_297 0 WM_0 (Nat.le_of_ble_eq_true rfl) rfl rfl WMs_M_traces dX7_act_2 (fun H locs hW => ?_)
  refine lv_aload_n hx hb dX7_act_5 rfl (lv_at hl 0 rfl) ?_
  refine lv_iload_n hx hb dX7_act_6 rfl (lv_at hl 1 rfl) ?_
  obtain ⟨u1, eu1, h⟩ := bd_some h
  refine z_callV_i hC hW (rest := []) (c_X7_isBody (d := 1) (Nat.le_refl _) eu1) vw_X7_336 WM_0 rfl ⟨rfl, rfl⟩ (zrm_ok (by omega) (by decide)) rfl rfl hl.1 (Nat.le_of_ble_eq_true rfl) dX7_act_7 (fun H locs hW => ?_)
  refine lv_if_eq (tgt := 22) hx hb dX7_act_10 (by decide) (fun c2 => ?_) (fun c2 => ?_)
  · have h := ifp c2 h
    refine lv_iconst (v := 0) hx hb dX7_act_22 (by decide) ?_
    have h := Option.some.inj h
    subst h
    exact hret _ _ _ _ _ dX7_act_23 rfl rfl hW
  · have h := ifn c2 h
    refine lv_iload_n hx hb dX7_act_13 rfl (lv_at hl 2 rfl) ?_
    refine lv_iconst (v := 0) hx hb dX7_act_14 (by decide) ?_
    refine lv_iconst (v := 3) hx hb dX7_act_15 (by decide) ?_
    obtain ⟨u3, eu3, h⟩ := bd_some h
    refine z_callS_i hC hW (rest := []) (c_X7_in (d := 0) (Nat.le_refl _) eu3) sw_X7_114 ⟨rfl, rfl⟩ (zrm_ok (by omega) (by decide)) rfl rfl hl.1 (Nat.le_of_ble_eq_true rfl) dX7_act_16 (fun H locs hW => ?_)
    refine lv_if_ne (tgt := 24) hx hb dX7_act_19 (by decide) (fun c4 => ?_) (fun c4 => ?_)
    · have h := ifn c4 h
      refine lv_iload_n hx hb dX7_act_24 rfl (lv_at hl 2 rfl) ?_
      refine lv_if_ne (tgt := 37) hx hb dX7_act_25 (by decide) (fun c5 => ?_) (fun c5 => ?_)
      · have h := ifn c5 h
        refine lv_iload_n hx hb dX7_act_37 rfl (lv_at hl 2 rfl) ?_
        refine lv_iconst (v := 1) hx hb dX7_act_38 (by decide) ?_
        refine lv_icmp_ne (tgt := 51) hx hb dX7_act_39 (by decide) (fun c6 => ?_) (fun c6 => ?_)
        · have h := ifn c6 h
          refine lv_iload_n hx hb dX7_act_51 rfl (lv_at hl 2 rfl) ?_
          refine lv_iconst (v := 2) hx hb dX7_act_52 (by decide) ?_
          refine lv_icmp_ne (tgt := 65) hx hb dX7_act_53 (by decide) (fun c7 => ?_) (fun c7 => ?_)
          · have h := ifn c7 h
            refine lv_aload_n hx hb dX7_act_65 rfl (lv_at hl 0 rfl) ?_
            refine lv_iload_n hx hb dX7_act_66 rfl (lv_at hl 1 rfl) ?_
            refine lv_iload_n hx hb dX7_act_67 rfl (lv_at hl 3 rfl) ?_
            obtain ⟨u8, eu8, h⟩ := bd_some h
            refine z_callV_i hC hW (rest := []) (c_X7_telling (d := 9) (Nat.le_refl _) eu8) vw_X7_339 WM_0 rfl ⟨rfl, rfl⟩ (zrm_ok (by omega) (by decide)) rfl rfl hl.1 (Nat.le_of_ble_eq_true rfl) dX7_act_68 (fun H locs hW => ?_)
            have h := Option.some.inj h
            subst h
            exact hret _ _ _ _ _ dX7_act_71 rfl rfl hW
          · have h := ifp c7 h
            refine lv_aload_n hx hb dX7_act_56 rfl (lv_at hl 0 rfl) ?_
            refine lv_iload_n hx hb dX7_act_57 rfl (lv_at hl 1 rfl) ?_
            refine lv_iload_n hx hb dX7_act_58 rfl (lv_at hl 3 rfl) ?_
            obtain ⟨u9, eu9, h⟩ := bd_some h
            refine z_callV_i hC hW (rest := []) (c_X7_nears (d := 4) (Nat.le_refl _) eu9) vw_X7_321 WM_0 rfl ⟨rfl, rfl⟩ (zrm_ok (by omega) (by decide)) rfl rfl hl.1 (Nat.le_of_ble_eq_true rfl) dX7_act_59 (fun H locs hW => ?_)
            refine lv_goto (tgt := 71) hx hb dX7_act_62 (by decide) ?_
            have h := Option.some.inj h
            subst h
            exact hret _ _ _ _ _ dX7_act_71 rfl rfl hW
        · have h := ifp c6 h
          refine lv_aload_n hx hb dX7_act_42 rfl (lv_at hl 0 rfl) ?_
          refine lv_iload_n hx hb dX7_act_43 rfl (lv_at hl 1 rfl) ?_
          refine lv_iload_n hx hb dX7_act_44 rfl (lv_at hl 3 rfl) ?_
          obtain ⟨u10, eu10, h⟩ := bd_some h
          refine z_callV_i hC hW (rest := []) (c_X7_reaches (d := 6) (Nat.le_refl _) eu10) vw_X7_327 WM_0 rfl ⟨rfl, rfl⟩ (zrm_ok (by omega) (by decide)) rfl rfl hl.1 (Nat.le_of_ble_eq_true rfl) dX7_act_45 (fun H locs hW => ?_)
          refine lv_goto (tgt := 71) hx hb dX7_act_48 (by decide) ?_
          have h := Option.some.inj h
          subst h
          exact hret _ _ _ _ _ dX7_act_71 rfl rfl hW
      · have h := ifp c5 h
        refine lv_aload_n hx hb dX7_act_28 rfl (lv_at hl 0 rfl) ?_
        refine lv_iload_n hx hb dX7_act_29 rfl (lv_at hl 1 rfl) ?_
        refine lv_iload_n hx hb dX7_act_30 rfl (lv_at hl 3 rfl) ?_
        obtain ⟨u11, eu11, h⟩ := bd_some h
        refine z_callV_i hC hW (rest := []) (c_X7_digs (d := 3) (Nat.le_refl _) eu11) vw_X7_312 WM_0 rfl ⟨rfl, rfl⟩ (zrm_ok (by omega) (by decide)) rfl rfl hl.1 (Nat.le_of_ble_eq_true rfl) dX7_act_31 (fun H locs hW => ?_)
        refine lv_goto (tgt := 71) hx hb dX7_act_34 (by decide) ?_
        have h := Option.some.inj h
        subst h
        exact hret _ _ _ _ _ dX7_act_71 rfl rfl hW
    · have h := ifp c4 h
      refine lv_iconst (v := 0) hx hb dX7_act_22 (by decide) ?_
      have h := Option.some.inj h
      subst h
      exact hret _ _ _ _ _ dX7_act_23 rfl rfl hW
set_option maxHeartbeats 4000000 in
set_option maxRecDepth 100000 in
theorem c_X7_trace {a1 : Int32} {d : Nat} {res : Int32} (hd : 0 ≤ d) (h : f_X7_trace a1 M_traces M_traced = some res) : zMi l yX7_trace cX7_trace 2 .int (zrm d) [.ref (ρ 0), .int a1] D q (WM q ρ M_code M_doors M_price M_year M_joins M_joinA M_joinB M_walls M_wallA M_wallB M_cost M_olds M_near M_doneMany M_undoneMany M_changeOf M_changeAt M_before M_behind M_tape M_taped M_here M_fault M_open M_laid M_act M_with M_lineMany M_testEnd M_lineEnd M_facts M_pile M_hasLaw M_far M_within M_tooNear M_dried M_isOn M_wasOn M_bodies M_kind M_traces M_traced M_holds M_size M_elements M_shifted) sz res (WM q ρ M_code M_doors M_price M_year M_joins M_joinA M_joinB M_walls M_wallA M_wallB M_cost M_olds M_near M_doneMany M_undoneMany M_changeOf M_changeAt M_before M_behind M_tape M_taped M_here M_fault M_open M_laid M_act M_with M_lineMany M_testEnd M_lineEnd M_facts M_pile M_hasLaw M_far M_within M_tooNear M_dried M_isOn M_wasOn M_bodies M_kind M_traces M_traced M_holds M_size M_elements M_shifted) := by
  refine zMet_i (own := RX7) _ (by decide) rfl (Nat.le_of_ble_eq_true rfl) ?_
  intro p e s m args below meth c A ls Q hC hW hl hret
  have hx := hC.1
  have hb := hC.2.1
  have hl : lv_has ls 2 [(0, .ref (ρ 0)), (1, .int a1)] := hl
  unfold f_X7_trace at h
  refine lv_iload_n hx hb dX7_trace_0 rfl (lv_at hl 1 rfl) ?_
  refine lv_if_lt (tgt := 27) hx hb dX7_trace_1 (by decide) (fun c1 => ?_) (fun c1 => ?_)
  · have h := ifp c1 h
    refine lv_iconst (v := (-1)) hx hb dX7_trace_27 (by decide) ?_
    have h := Option.some.inj h
    subst h
    exact hret _ _ _ _ _ dX7_trace_28 rfl rfl hW
  · have h := ifn c1 h
    refine lv_iload_n hx hb dX7_trace_4 rfl (lv_at hl 1 rfl) ?_
    refine lv_aload_n hx hb dX7_trace_5 rfl (lv_at hl 0 rfl) ?_
    refine z_get hC hW fg_X7_297 0 WM_0 rfl dX7_trace_6 ?_
    refine lv_icmp_ge (tgt := 27) hx hb dX7_trace_9 (by decide) (fun c2 => ?_) (fun c2 => ?_)
    · have h := ifp c2 h
      refine lv_iconst (v := (-1)) hx hb dX7_trace_27 (by decide) ?_
      have h := Option.some.inj h
      subst h
      exact hret _ _ _ _ _ dX7_trace_28 rfl rfl hW
    · have h := ifn c2 h
      refine lv_iload_n hx hb dX7_trace_12 rfl (lv_at hl 1 rfl) ?_
      refine lv_bipush (v := 24) hx hb dX7_trace_13 (by decide) ?_
      refine lv_icmp_ge (tgt := 27) hx hb dX7_trace_15 (by decide) (fun c3 => ?_) (fun c3 => ?_)
      · have h := ifp c3 h
        refine lv_iconst (v := (-1)) hx hb dX7_trace_27 (by decide) ?_
        have h := Option.some.inj h
        subst h
        exact hret _ _ _ _ _ dX7_trace_28 rfl rfl hW
      · have h := ifn c3 h
        refine lv_aload_n hx hb dX7_trace_18 rfl (lv_at hl 0 rfl) ?_
        refine z_get hC hW fg_X7_92 0 WM_0 rfl dX7_trace_19 ?_
        refine lv_iload_n hx hb dX7_trace_22 rfl (lv_at hl 1 rfl) ?_
        obtain ⟨g4, h⟩ := ix_some h
        refine z_iald hC hW 26 WM_26 g4 dX7_trace_23 ?_
        refine lv_goto (tgt := 28) hx hb dX7_trace_24 (by decide) ?_
        have h := Option.some.inj h
        subst h
        exact hret _ _ _ _ _ dX7_trace_28 rfl rfl hW
set_option maxHeartbeats 4000000 in
set_option maxRecDepth 100000 in
theorem c_X7_keep {a1 : Int32} {a2 : Int32} {d : Nat} {res : Int32 × (Nat → Int32)} (hd : 2 ≤ d) (h : f_X7_keep a1 a2 M_bodies M_holds = some res) : zMi l yX7_keep cX7_keep 3 .int (zrm d) [.ref (ρ 0), .int a1, .int a2] D q (WM q ρ M_code M_doors M_price M_year M_joins M_joinA M_joinB M_walls M_wallA M_wallB M_cost M_olds M_near M_doneMany M_undoneMany M_changeOf M_changeAt M_before M_behind M_tape M_taped M_here M_fault M_open M_laid M_act M_with M_lineMany M_testEnd M_lineEnd M_facts M_pile M_hasLaw M_far M_within M_tooNear M_dried M_isOn M_wasOn M_bodies M_kind M_traces M_traced M_holds M_size M_elements M_shifted) sz res.1 (WM q ρ M_code M_doors M_price M_year M_joins M_joinA M_joinB M_walls M_wallA M_wallB M_cost M_olds M_near M_doneMany M_undoneMany M_changeOf M_changeAt M_before M_behind M_tape M_taped M_here M_fault M_open M_laid M_act M_with M_lineMany M_testEnd M_lineEnd M_facts M_pile M_hasLaw M_far M_within M_tooNear M_dried M_isOn M_wasOn M_bodies M_kind M_traces M_traced res.2 M_size M_elements M_shifted) := by
  refine zMet_i (own := RX7) _ (by decide) rfl (Nat.le_of_ble_eq_true rfl) ?_
  intro p e s m args below meth c A ls Q hC hW hl hret
  have hx := hC.1
  have hb := hC.2.1
  have hl : lv_has ls 3 [(0, .ref (ρ 0)), (1, .int a1), (2, .int a2)] := hl
  have b22 : ∀ {x1 : Int32} {x2 : Int32} {M_holds : Nat → Int32} {H : Heap} {locs : List Loc} {ls : Array Slot}, f_X7_keep_b22 x1 x2 M_holds = some res → zW D A s.heap (WM q ρ M_code M_doors M_price M_year M_joins M_joinA M_joinB M_walls M_wallA M_wallB M_cost M_olds M_near M_doneMany M_undoneMany M_changeOf M_changeAt M_before M_behind M_tape M_taped M_here M_fault M_open M_laid M_act M_with M_lineMany M_testEnd M_lineEnd M_facts M_pile M_hasLaw M_far M_within M_tooNear M_dried M_isOn M_wasOn M_bodies M_kind M_traces M_traced M_holds M_size M_elements M_shifted) H locs → lv_has ls 3 [(0, .ref (ρ 0)), (1, .int x1), (2, .int x2)] → W p l e (zrm d) s m args below meth c H locs 0 0 Q (F0 m 22 ls []) := by
    intro x1 x2 M_holds H locs ls h hW hl
    unfold f_X7_keep_b22 at h
    refine lv_aload_n hx hb dX7_keep_22 rfl (lv_at hl 0 rfl) ?_
    refine z_get hC hW fg_X7_95 0 WM_0 rfl dX7_keep_23 ?_
    refine lv_iload_n hx hb dX7_keep_26 rfl (lv_at hl 1 rfl) ?_
    refine lv_iload_n hx hb dX7_keep_27 rfl (lv_at hl 2 rfl) ?_
    obtain ⟨g4, h⟩ := ix_some h
    refine z_iast hC hW 27 WM_27 g4 WMs_M_holds dX7_keep_28 (fun H locs hW => ?_)
    refine lv_iconst (v := 1) hx hb dX7_keep_29 (by decide) ?_
    have h := Option.some.inj h
    subst h
    exact hret _ _ _ _ _ dX7_keep_30 rfl rfl hW
  unfold f_X7_keep at h
  refine lv_iload_n hx hb dX7_keep_0 rfl (lv_at hl 1 rfl) ?_
  obtain ⟨u1, eu1, h⟩ := bd_some h
  refine z_callS_i hC hW (rest := []) (c_X7_isShelf (d := 1) (Nat.le_refl _) eu1) sw_X7_132 ⟨rfl, rfl⟩ (zrm_ok (by omega) (by decide)) rfl rfl hl.1 (Nat.le_of_ble_eq_true rfl) dX7_keep_1 (fun H locs hW => ?_)
  refine lv_if_eq (tgt := 20) hx hb dX7_keep_4 (by decide) (fun c2 => ?_) (fun c2 => ?_)
  · have h := ifp c2 h
    refine lv_iconst (v := (-1)) hx hb dX7_keep_20 (by decide) ?_
    have h := Option.some.inj h
    subst h
    exact hret _ _ _ _ _ dX7_keep_21 rfl rfl hW
  · have h := ifn c2 h
    refine lv_iload_n hx hb dX7_keep_7 rfl (lv_at hl 2 rfl) ?_
    refine lv_iconst (v := (-1)) hx hb dX7_keep_8 (by decide) ?_
    refine lv_icmp_eq (tgt := 22) hx hb dX7_keep_9 (by decide) (fun c3 => ?_) (fun c3 => ?_)
    · have h := ifp c3 h
      exact b22 h hW (lv_sub hl [0, 1, 2] rfl)
    · have h := ifn c3 h
      refine lv_aload_n hx hb dX7_keep_12 rfl (lv_at hl 0 rfl) ?_
      refine lv_iload_n hx hb dX7_keep_13 rfl (lv_at hl 2 rfl) ?_
      obtain ⟨u5, eu5, h⟩ := bd_some h
      refine z_callV_i hC hW (rest := []) (c_X7_isBody (d := 1) (Nat.le_refl _) eu5) vw_X7_336 WM_0 rfl ⟨rfl, rfl⟩ (zrm_ok (by omega) (by decide)) rfl rfl hl.1 (Nat.le_of_ble_eq_true rfl) dX7_keep_14 (fun H locs hW => ?_)
      refine lv_if_ne (tgt := 22) hx hb dX7_keep_17 (by decide) (fun c6 => ?_) (fun c6 => ?_)
      · have h := ifn c6 h
        exact b22 h hW (lv_sub hl [0, 1, 2] rfl)
      · have h := ifp c6 h
        refine lv_iconst (v := (-1)) hx hb dX7_keep_20 (by decide) ?_
        have h := Option.some.inj h
        subst h
        exact hret _ _ _ _ _ dX7_keep_21 rfl rfl hW
set_option maxHeartbeats 4000000 in
set_option maxRecDepth 100000 in
theorem c_X7_row {a1 : Int32} {a2 : Int32} {a3 : Int32} {d : Nat} {res : Int32 × (Nat → Int32) × (Nat → Int32) × (Nat → Int64)} (hd : 2 ≤ d) (h : f_X7_row a1 a2 a3 M_holds M_size M_elements = some res) : zMi l yX7_row cX7_row 5 .int (zrm d) [.ref (ρ 0), .int a1, .int a2, .int a3] D q (WM q ρ M_code M_doors M_price M_year M_joins M_joinA M_joinB M_walls M_wallA M_wallB M_cost M_olds M_near M_doneMany M_undoneMany M_changeOf M_changeAt M_before M_behind M_tape M_taped M_here M_fault M_open M_laid M_act M_with M_lineMany M_testEnd M_lineEnd M_facts M_pile M_hasLaw M_far M_within M_tooNear M_dried M_isOn M_wasOn M_bodies M_kind M_traces M_traced M_holds M_size M_elements M_shifted) sz res.1 (WM q ρ M_code M_doors M_price M_year M_joins M_joinA M_joinB M_walls M_wallA M_wallB M_cost M_olds M_near M_doneMany M_undoneMany M_changeOf M_changeAt M_before M_behind M_tape M_taped M_here M_fault M_open M_laid M_act M_with M_lineMany M_testEnd M_lineEnd M_facts M_pile M_hasLaw M_far M_within M_tooNear M_dried M_isOn M_wasOn M_bodies M_kind M_traces M_traced res.2.1 res.2.2.1 res.2.2.2 M_shifted) := by
  refine zMet_i (own := RX7) _ (by decide) rfl (Nat.le_of_ble_eq_true rfl) ?_
  intro p e s m args below meth c A ls Q hC hW hl hret
  have hx := hC.1
  have hb := hC.2.1
  have hl : lv_has ls 5 [(0, .ref (ρ 0)), (1, .int a1), (2, .int a2), (3, .int a3)] := hl
  have b54 : ∀ {x1 : Int32} {M_holds : Nat → Int32} {M_size : Nat → Int32} {n : Nat} {x4 : Int32} {M_elements : Nat → Int64} {H : Heap} {locs : List Loc} {ls : Array Slot}, f_X7_row_b54 x1 M_holds M_size n x4 M_elements = some res → zW D A s.heap (WM q ρ M_code M_doors M_price M_year M_joins M_joinA M_joinB M_walls M_wallA M_wallB M_cost M_olds M_near M_doneMany M_undoneMany M_changeOf M_changeAt M_before M_behind M_tape M_taped M_here M_fault M_open M_laid M_act M_with M_lineMany M_testEnd M_lineEnd M_facts M_pile M_hasLaw M_far M_within M_tooNear M_dried M_isOn M_wasOn M_bodies M_kind M_traces M_traced M_holds M_size M_elements M_shifted) H locs → lv_has ls 5 [(0, .ref (ρ 0)), (1, .int x1), (4, .int x4)] → W p l e (zrm d) s m args below meth c H locs 0 0 Q (F0 m 54 ls []) := by
    intro x1 M_holds M_size
    intro n
    induction n with
    | zero =>
      intro x4 M_elements H locs ls h
      rw [f_X7_row_b54] at h
      cases h
    | succ n ih =>
      intro x4 M_elements H locs ls h hW hl
      rw [f_X7_row_b54] at h
      refine lv_iload hx hb dX7_row_54 (lv_at hl 2 rfl) ?_
      refine lv_bipush (v := 60) hx hb dX7_row_56 (by decide) ?_
      refine lv_iload_n hx hb dX7_row_58 rfl (lv_at hl 1 rfl) ?_
      refine lv_imul hx hb dX7_row_59 ?_
      refine lv_bipush (v := 60) hx hb dX7_row_60 (by decide) ?_
      refine lv_iadd hx hb dX7_row_62 ?_
      refine lv_icmp_ge (tgt := 80) hx hb dX7_row_63 (by decide) (fun c9 => ?_) (fun c9 => ?_)
      · have h := ifp c9 h
        refine lv_iconst (v := 1) hx hb dX7_row_80 (by decide) ?_
        have h := Option.some.inj h
        subst h
        exact hret _ _ _ _ _ dX7_row_81 rfl rfl hW
      · have h := ifn c9 h
        refine lv_aload_n hx hb dX7_row_66 rfl (lv_at hl 0 rfl) ?_
        refine z_get hC hW fg_X7_101 0 WM_0 rfl dX7_row_67 ?_
        refine lv_iload hx hb dX7_row_70 (lv_at hl 2 rfl) ?_
        refine lv_lconst (v := 0) hx hb dX7_row_72 (by decide) ?_
        obtain ⟨g10, h⟩ := ix_some h
        refine z_last hC hW 29 WM_29 g10 WMs_M_elements dX7_row_73 (fun H locs hW => ?_)
        refine lv_iinc (v := (x4 + 1)) (lv' := [(4, .int (x4 + 1)), (0, .ref (ρ 0)), (1, .int x1)]) hx hb dX7_row_74 hl (k := 2) rfl rfl (by decide) rfl (fun ls hl => ?_)
        refine lv_goto (tgt := 54) hx hb dX7_row_77 (by decide) ?_
        exact ih h hW (lv_sub hl [1, 2, 0] rfl)
  unfold f_X7_row at h
  refine lv_iload_n hx hb dX7_row_0 rfl (lv_at hl 1 rfl) ?_
  obtain ⟨u1, eu1, h⟩ := bd_some h
  refine z_callS_i hC hW (rest := []) (c_X7_isShelf (d := 1) (Nat.le_refl _) eu1) sw_X7_132 ⟨rfl, rfl⟩ (zrm_ok (by omega) (by decide)) rfl rfl hl.1 (Nat.le_of_ble_eq_true rfl) dX7_row_1 (fun H locs hW => ?_)
  refine lv_if_eq (tgt := 22) hx hb dX7_row_4 (by decide) (fun c2 => ?_) (fun c2 => ?_)
  · have h := ifp c2 h
    refine lv_iconst (v := (-1)) hx hb dX7_row_22 (by decide) ?_
    have h := Option.some.inj h
    subst h
    exact hret _ _ _ _ _ dX7_row_23 rfl rfl hW
  · have h := ifn c2 h
    refine lv_iload_n hx hb dX7_row_7 rfl (lv_at hl 2 rfl) ?_
    refine lv_iconst (v := 0) hx hb dX7_row_8 (by decide) ?_
    refine lv_iconst (v := 4) hx hb dX7_row_9 (by decide) ?_
    obtain ⟨u3, eu3, h⟩ := bd_some h
    refine z_callS_i hC hW (rest := []) (c_X7_in (d := 0) (Nat.le_refl _) eu3) sw_X7_114 ⟨rfl, rfl⟩ (zrm_ok (by omega) (by decide)) rfl rfl hl.1 (Nat.le_of_ble_eq_true rfl) dX7_row_10 (fun H locs hW => ?_)
    refine lv_if_eq (tgt := 22) hx hb dX7_row_13 (by decide) (fun c4 => ?_) (fun c4 => ?_)
    · have h := ifp c4 h
      refine lv_iconst (v := (-1)) hx hb dX7_row_22 (by decide) ?_
      have h := Option.some.inj h
      subst h
      exact hret _ _ _ _ _ dX7_row_23 rfl rfl hW
    · have h := ifn c4 h
      refine lv_iload_n hx hb dX7_row_16 rfl (lv_at hl 3 rfl) ?_
      refine lv_bipush (v := 60) hx hb dX7_row_17 (by decide) ?_
      refine lv_icmp_le (tgt := 24) hx hb dX7_row_19 (by decide) (fun c5 => ?_) (fun c5 => ?_)
      · have h := ifp c5 h
        refine lv_iload_n hx hb dX7_row_24 rfl (lv_at hl 3 rfl) ?_
        refine lv_if_ge (tgt := 31) hx hb dX7_row_25 (by decide) (fun c6 => ?_) (fun c6 => ?_)
        · have h := ifp c6 h
          refine lv_aload_n hx hb dX7_row_31 rfl (lv_at hl 0 rfl) ?_
          refine z_get hC hW fg_X7_95 0 WM_0 rfl dX7_row_32 ?_
          refine lv_iload_n hx hb dX7_row_35 rfl (lv_at hl 1 rfl) ?_
          refine lv_bipush (v := (-2)) hx hb dX7_row_36 (by decide) ?_
          refine lv_iload_n hx hb dX7_row_38 rfl (lv_at hl 2 rfl) ?_
          refine lv_isub hx hb dX7_row_39 ?_
          obtain ⟨g7, h⟩ := ix_some h
          refine z_iast hC hW 27 WM_27 g7 WMs_M_holds dX7_row_40 (fun H locs hW => ?_)
          refine lv_aload_n hx hb dX7_row_41 rfl (lv_at hl 0 rfl) ?_
          refine z_get hC hW fg_X7_98 0 WM_0 rfl dX7_row_42 ?_
          refine lv_iload_n hx hb dX7_row_45 rfl (lv_at hl 1 rfl) ?_
          refine lv_iload_n hx hb dX7_row_46 rfl (lv_at hl 3 rfl) ?_
          obtain ⟨g8, h⟩ := ix_some h
          refine z_iast hC hW 28 WM_28 g8 WMs_M_size dX7_row_47 (fun H locs hW => ?_)
          refine lv_bipush (v := 60) hx hb dX7_row_48 (by decide) ?_
          refine lv_iload_n hx hb dX7_row_50 rfl (lv_at hl 1 rfl) ?_
          refine lv_imul hx hb dX7_row_51 ?_
          refine lv_istore (lv' := [(4, .int (60 * a1)), (0, .ref (ρ 0)), (1, .int a1), (2, .int a2), (3, .int a3)]) hx hb dX7_row_52 hl (by decide) rfl (fun ls hl => ?_)
          exact b54 h hW (lv_sub hl [1, 2, 0] rfl)
        · have h := ifn c6 h
          refine lv_bipush (v := (-14)) hx hb dX7_row_28 (by decide) ?_
          have h := Option.some.inj h
          subst h
          exact hret _ _ _ _ _ dX7_row_30 rfl rfl hW
      · have h := ifn c5 h
        refine lv_iconst (v := (-1)) hx hb dX7_row_22 (by decide) ?_
        have h := Option.some.inj h
        subst h
        exact hret _ _ _ _ _ dX7_row_23 rfl rfl hW
end CT21_m15
