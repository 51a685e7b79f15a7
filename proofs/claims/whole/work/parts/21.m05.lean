section CT21_m05
variable {l : Launch} {D : va_G} {q : Nat → ClassId} {ρ : Nat → Nat} {sz : Nat} {M_code : Int32} {M_doors : Int32} {M_price : Nat → Int32} {M_year : Nat → Int32} {M_joins : Int32} {M_joinA : Nat → Int32} {M_joinB : Nat → Int32} {M_walls : Int32} {M_wallA : Nat → Int32} {M_wallB : Nat → Int32} {M_cost : Nat → Int32} {M_olds : Int32} {M_near : Int32} {M_doneMany : Int32} {M_undoneMany : Int32} {M_changeOf : Nat → Int32} {M_changeAt : Nat → Int32} {M_before : Nat → Int32} {M_behind : Nat → Int32} {M_tape : Nat → Int32} {M_taped : Int32} {M_here : Int32} {M_fault : Int32} {M_open : Int32} {M_laid : Int32} {M_act : Nat → Int32} {M_with : Nat → Int32} {M_lineMany : Nat → Int32} {M_testEnd : Nat → Int32} {M_lineEnd : Nat → Int32} {M_facts : Nat → Int32} {M_pile : Nat → Int32} {M_hasLaw : Int32} {M_far : Nat → Int32} {M_within : Nat → Int32} {M_tooNear : Nat → Int32} {M_dried : Int32} {M_isOn : Nat → Int32} {M_wasOn : Nat → Int32} {M_bodies : Int32} {M_kind : Nat → Int32} {M_traces : Int32} {M_traced : Nat → Int32} {M_holds : Nat → Int32} {M_size : Nat → Int32} {M_elements : Nat → Int64} {M_shifted : Nat → Int64}
set_option maxHeartbeats 4000000 in
set_option maxRecDepth 100000 in
theorem c_X7_figure {d : Nat} {res : Int32 × Int32 × Int32 × (Nat → Int32) × (Nat → Int32)} (hd : 1 ≤ d) (h : f_X7_figure M_tape M_taped M_here M_fault M_laid M_act M_with = some res) : zMv l yX7_figure cX7_figure 3 (zrm d) [.ref (ρ 0)] D q (WM q ρ M_code M_doors M_price M_year M_joins M_joinA M_joinB M_walls M_wallA M_wallB M_cost M_olds M_near M_doneMany M_undoneMany M_changeOf M_changeAt M_before M_behind M_tape M_taped M_here M_fault M_open M_laid M_act M_with M_lineMany M_testEnd M_lineEnd M_facts M_pile M_hasLaw M_far M_within M_tooNear M_dried M_isOn M_wasOn M_bodies M_kind M_traces M_traced M_holds M_size M_elements M_shifted) sz (WM q ρ M_code M_doors M_price M_year M_joins M_joinA M_joinB M_walls M_wallA M_wallB M_cost M_olds M_near M_doneMany M_undoneMany M_changeOf M_changeAt M_before M_behind M_tape M_taped res.1 res.2.1 M_open res.2.2.1 res.2.2.2.1 res.2.2.2.2 M_lineMany M_testEnd M_lineEnd M_facts M_pile M_hasLaw M_far M_within M_tooNear M_dried M_isOn M_wasOn M_bodies M_kind M_traces M_traced M_holds M_size M_elements M_shifted) := by
  refine zMet_v (own := RX7) (by decide) rfl (Nat.le_of_ble_eq_true rfl) ?_
  intro p e s m args below meth c A ls Q hC hW hl hret
  have hx := hC.1
  have hb := hC.2.1
  have hl : lv_has ls 3 [(0, .ref (ρ 0))] := hl
  have b74 : ∀ {x1 : Int32} {M_here : Int32} {M_fault : Int32} {M_laid : Int32} {M_act : Nat → Int32} {M_with : Nat → Int32} {H : Heap} {locs : List Loc} {ls : Array Slot}, f_X7_figure_b74 x1 M_here M_fault M_laid M_act M_with = some res → zW D A s.heap (WM q ρ M_code M_doors M_price M_year M_joins M_joinA M_joinB M_walls M_wallA M_wallB M_cost M_olds M_near M_doneMany M_undoneMany M_changeOf M_changeAt M_before M_behind M_tape M_taped M_here M_fault M_open M_laid M_act M_with M_lineMany M_testEnd M_lineEnd M_facts M_pile M_hasLaw M_far M_within M_tooNear M_dried M_isOn M_wasOn M_bodies M_kind M_traces M_traced M_holds M_size M_elements M_shifted) H locs → lv_has ls 3 [(0, .ref (ρ 0)), (1, .int x1)] → W p l e (zrm d) s m args below meth c H locs 0 0 Q (F0 m 74 ls []) := by
    intro x1 M_here M_fault M_laid M_act M_with H locs ls h hW hl
    unfold f_X7_figure_b74 at h
    refine lv_aload_n hx hb dX7_figure_74 rfl (lv_at hl 0 rfl) ?_
    refine lv_iconst (v := 1) hx hb dX7_figure_75 (by decide) ?_
    refine lv_iload_n hx hb dX7_figure_76 rfl (lv_at hl 1 rfl) ?_
    obtain ⟨u4, eu4, h⟩ := bd_some h
    refine z_callV_v hC hW (rest := []) (c_X7_addStep (d := 0) (Nat.le_refl _) eu4) vw_X7_190 WM_0 rfl ⟨rfl, rfl⟩ (zrm_ok (by omega) (by decide)) rfl rfl hl.1 (Nat.le_of_ble_eq_true rfl) dX7_figure_77 (fun H locs hW => ?_)
    have h := Option.some.inj h
    subst h
    exact hret _ _ _ _ dX7_figure_80 hW
  have b70 : ∀ {x1 : Int32} {M_here : Int32} {M_fault : Int32} {M_laid : Int32} {M_act : Nat → Int32} {M_with : Nat → Int32} {H : Heap} {locs : List Loc} {ls : Array Slot}, f_X7_figure_b70 x1 M_here M_fault M_laid M_act M_with = some res → zW D A s.heap (WM q ρ M_code M_doors M_price M_year M_joins M_joinA M_joinB M_walls M_wallA M_wallB M_cost M_olds M_near M_doneMany M_undoneMany M_changeOf M_changeAt M_before M_behind M_tape M_taped M_here M_fault M_open M_laid M_act M_with M_lineMany M_testEnd M_lineEnd M_facts M_pile M_hasLaw M_far M_within M_tooNear M_dried M_isOn M_wasOn M_bodies M_kind M_traces M_traced M_holds M_size M_elements M_shifted) H locs → lv_has ls 3 [(0, .ref (ρ 0)), (1, .int x1)] → W p l e (zrm d) s m args below meth c H locs 0 0 Q (F0 m 70 ls []) := by
    intro x1 M_here M_fault M_laid M_act M_with H locs ls h hW hl
    unfold f_X7_figure_b70 at h
    refine lv_aload_n hx hb dX7_figure_70 rfl (lv_at hl 0 rfl) ?_
    obtain ⟨u3, eu3, h⟩ := bd_some h
    refine z_callV_v hC hW (rest := []) (c_X7_faulty (d := 0) (Nat.le_refl _) eu3) vw_X7_183 WM_0 rfl ⟨rfl, rfl⟩ (zrm_ok (by omega) (by decide)) rfl rfl hl.1 (Nat.le_of_ble_eq_true rfl) dX7_figure_71 (fun H locs hW => ?_)
    exact b74 h hW (lv_sub hl [0, 1] rfl)
  have b52 : ∀ {x1 : Int32} {x2 : Int32} {M_here : Int32} {M_fault : Int32} {M_laid : Int32} {M_act : Nat → Int32} {M_with : Nat → Int32} {H : Heap} {locs : List Loc} {ls : Array Slot}, f_X7_figure_b52 x1 x2 M_tape M_taped M_here M_fault M_laid M_act M_with = some res → zW D A s.heap (WM q ρ M_code M_doors M_price M_year M_joins M_joinA M_joinB M_walls M_wallA M_wallB M_cost M_olds M_near M_doneMany M_undoneMany M_changeOf M_changeAt M_before M_behind M_tape M_taped M_here M_fault M_open M_laid M_act M_with M_lineMany M_testEnd M_lineEnd M_facts M_pile M_hasLaw M_far M_within M_tooNear M_dried M_isOn M_wasOn M_bodies M_kind M_traces M_traced M_holds M_size M_elements M_shifted) H locs → lv_has ls 3 [(0, .ref (ρ 0)), (1, .int x1), (2, .int x2)] → W p l e (zrm d) s m args below meth c H locs 0 0 Q (F0 m 52 ls []) := by
    intro x1 x2 M_here M_fault M_laid M_act M_with H locs ls h hW hl
    unfold f_X7_figure_b52 at h
    refine lv_iload_n hx hb dX7_figure_52 rfl (lv_at hl 2 rfl) ?_
    refine lv_if_eq (tgt := 70) hx hb dX7_figure_53 (by decide) (fun c2 => ?_) (fun c2 => ?_)
    · have h := ifp c2 h
      exact b70 h hW (lv_sub hl [0, 1] rfl)
    · have h := ifn c2 h
      refine lv_aload_n hx hb dX7_figure_56 rfl (lv_at hl 0 rfl) ?_
      obtain ⟨u5, eu5, h⟩ := bd_some h
      refine z_callV_i hC hW (rest := []) (c_X7_look (d := 0) (Nat.le_refl _) eu5) vw_X7_186 WM_0 rfl ⟨rfl, rfl⟩ (zrm_ok (by omega) (by decide)) rfl rfl hl.1 (Nat.le_of_ble_eq_true rfl) dX7_figure_57 (fun H locs hW => ?_)
      refine lv_bipush (v := 48) hx hb dX7_figure_60 (by decide) ?_
      refine lv_bipush (v := 57) hx hb dX7_figure_62 (by decide) ?_
      obtain ⟨u6, eu6, h⟩ := bd_some h
      refine z_callS_i hC hW (rest := []) (c_X7_in (d := 0) (Nat.le_refl _) eu6) sw_X7_114 ⟨rfl, rfl⟩ (zrm_ok (by omega) (by decide)) rfl rfl hl.1 (Nat.le_of_ble_eq_true rfl) dX7_figure_64 (fun H locs hW => ?_)
      refine lv_if_eq (tgt := 74) hx hb dX7_figure_67 (by decide) (fun c7 => ?_) (fun c7 => ?_)
      · have h := ifp c7 h
        exact b74 h hW (lv_sub hl [0, 1] rfl)
      · have h := ifn c7 h
        exact b70 h hW (lv_sub hl [0, 1] rfl)
  have b4 : ∀ {M_fault : Int32} {M_laid : Int32} {M_act : Nat → Int32} {M_with : Nat → Int32} {n : Nat} {x1 : Int32} {x2 : Int32} {M_here : Int32} {H : Heap} {locs : List Loc} {ls : Array Slot}, f_X7_figure_b4 M_tape M_taped M_fault M_laid M_act M_with n x1 x2 M_here = some res → zW D A s.heap (WM q ρ M_code M_doors M_price M_year M_joins M_joinA M_joinB M_walls M_wallA M_wallB M_cost M_olds M_near M_doneMany M_undoneMany M_changeOf M_changeAt M_before M_behind M_tape M_taped M_here M_fault M_open M_laid M_act M_with M_lineMany M_testEnd M_lineEnd M_facts M_pile M_hasLaw M_far M_within M_tooNear M_dried M_isOn M_wasOn M_bodies M_kind M_traces M_traced M_holds M_size M_elements M_shifted) H locs → lv_has ls 3 [(0, .ref (ρ 0)), (1, .int x1), (2, .int x2)] → W p l e (zrm d) s m args below meth c H locs 0 0 Q (F0 m 4 ls []) := by
    intro M_fault M_laid M_act M_with
    intro n
    induction n with
    | zero =>
      intro x1 x2 M_here H locs ls h
      rw [f_X7_figure_b4] at h
      cases h
    | succ n ih =>
      intro x1 x2 M_here H locs ls h hW hl
      rw [f_X7_figure_b4] at h
      refine lv_iload_n hx hb dX7_figure_4 rfl (lv_at hl 2 rfl) ?_
      refine lv_iconst (v := 4) hx hb dX7_figure_5 (by decide) ?_
      refine lv_icmp_ge (tgt := 52) hx hb dX7_figure_6 (by decide) (fun c1 => ?_) (fun c1 => ?_)
      · have h := ifp c1 h
        exact b52 h hW (lv_sub hl [0, 1, 2] rfl)
      · have h := ifn c1 h
        refine lv_aload_n hx hb dX7_figure_9 rfl (lv_at hl 0 rfl) ?_
        obtain ⟨u8, eu8, h⟩ := bd_some h
        refine z_callV_i hC hW (rest := []) (c_X7_look (d := 0) (Nat.le_refl _) eu8) vw_X7_186 WM_0 rfl ⟨rfl, rfl⟩ (zrm_ok (by omega) (by decide)) rfl rfl hl.1 (Nat.le_of_ble_eq_true rfl) dX7_figure_10 (fun H locs hW => ?_)
        refine lv_bipush (v := 48) hx hb dX7_figure_13 (by decide) ?_
        refine lv_bipush (v := 57) hx hb dX7_figure_15 (by decide) ?_
        obtain ⟨u9, eu9, h⟩ := bd_some h
        refine z_callS_i hC hW (rest := []) (c_X7_in (d := 0) (Nat.le_refl _) eu9) sw_X7_114 ⟨rfl, rfl⟩ (zrm_ok (by omega) (by decide)) rfl rfl hl.1 (Nat.le_of_ble_eq_true rfl) dX7_figure_17 (fun H locs hW => ?_)
        refine lv_if_eq (tgt := 52) hx hb dX7_figure_20 (by decide) (fun c10 => ?_) (fun c10 => ?_)
        · have h := ifp c10 h
          exact b52 h hW (lv_sub hl [0, 1, 2] rfl)
        · have h := ifn c10 h
          refine lv_bipush (v := 10) hx hb dX7_figure_23 (by decide) ?_
          refine lv_iload_n hx hb dX7_figure_25 rfl (lv_at hl 1 rfl) ?_
          refine lv_imul hx hb dX7_figure_26 ?_
          refine lv_aload_n hx hb dX7_figure_27 rfl (lv_at hl 0 rfl) ?_
          obtain ⟨u11, eu11, h⟩ := bd_some h
          refine z_callV_i hC hW (rest := [.int (10 * x1)]) (c_X7_look (d := 0) (Nat.le_refl _) eu11) vw_X7_186 WM_0 rfl ⟨rfl, rfl⟩ (zrm_ok (by omega) (by decide)) rfl rfl hl.1 (Nat.le_of_ble_eq_true rfl) dX7_figure_28 (fun H locs hW => ?_)
          refine lv_iadd hx hb dX7_figure_31 ?_
          refine lv_bipush (v := 48) hx hb dX7_figure_32 (by decide) ?_
          refine lv_isub hx hb dX7_figure_34 ?_
          refine lv_istore_n (lv' := [(1, .int (((10 * x1) + u11) - 48)), (0, .ref (ρ 0)), (2, .int x2)]) hx hb dX7_figure_35 rfl hl (by decide) rfl (fun ls hl => ?_)
          refine lv_iinc (v := (x2 + 1)) (lv' := [(2, .int (x2 + 1)), (1, .int (((10 * x1) + u11) - 48)), (0, .ref (ρ 0))]) hx hb dX7_figure_36 hl (k := 2) rfl rfl (by decide) rfl (fun ls hl => ?_)
          refine lv_aload_n hx hb dX7_figure_39 rfl (lv_at hl 2 rfl) ?_
          refine lv_dup hx hb dX7_figure_40 rfl ?_
          refine z_get hC hW fg_X7_171 0 WM_0 rfl dX7_figure_41 ?_
          refine lv_iconst (v := 1) hx hb dX7_figure_44 (by decide) ?_
          refine lv_iadd hx hb dX7_figure_45 ?_
          refine z_put hC hW fp_X7_171 0 WM_0 (Nat.le_of_ble_eq_true rfl) rfl rfl WMs_M_here dX7_figure_46 (fun H locs hW => ?_)
          refine lv_goto (tgt := 4) hx hb dX7_figure_49 (by decide) ?_
          exact ih h hW (lv_sub hl [2, 1, 0] rfl)
  unfold f_X7_figure at h
  refine lv_iconst (v := 0) hx hb dX7_figure_0 (by decide) ?_
  refine lv_istore_n (lv' := [(1, .int 0), (0, .ref (ρ 0))]) hx hb dX7_figure_1 rfl hl (by decide) rfl (fun ls hl => ?_)
  refine lv_iconst (v := 0) hx hb dX7_figure_2 (by decide) ?_
  refine lv_istore_n (lv' := [(2, .int 0), (1, .int 0), (0, .ref (ρ 0))]) hx hb dX7_figure_3 rfl hl (by decide) rfl (fun ls hl => ?_)
  exact b4 h hW (lv_sub hl [2, 1, 0] rfl)
set_option maxHeartbeats 4000000 in
set_option maxRecDepth 100000 in
theorem c_X7_operand {ro : (Nat → Int32) → Int32 → Int32 → Int32 → Int32 → Int32 → (Nat → Int32) → (Nat → Int32) → Option (Int32 × Int32 × Int32 × Int32 × (Nat → Int32) × (Nat → Int32))} {re : (Nat → Int32) → Int32 → Int32 → Int32 → Int32 → Int32 → (Nat → Int32) → (Nat → Int32) → Option (Int32 × Int32 × Int32 × Int32 × (Nat → Int32) × (Nat → Int32))} {dr : Nat} {d : Nat} {res : Int32 × Int32 × Int32 × Int32 × (Nat → Int32) × (Nat → Int32)} (hro : ∀ {M_code : Int32} {M_doors : Int32} {M_price : Nat → Int32} {M_year : Nat → Int32} {M_joins : Int32} {M_joinA : Nat → Int32} {M_joinB : Nat → Int32} {M_walls : Int32} {M_wallA : Nat → Int32} {M_wallB : Nat → Int32} {M_cost : Nat → Int32} {M_olds : Int32} {M_near : Int32} {M_doneMany : Int32} {M_undoneMany : Int32} {M_changeOf : Nat → Int32} {M_changeAt : Nat → Int32} {M_before : Nat → Int32} {M_behind : Nat → Int32} {M_tape : Nat → Int32} {M_taped : Int32} {M_here : Int32} {M_fault : Int32} {M_open : Int32} {M_laid : Int32} {M_act : Nat → Int32} {M_with : Nat → Int32} {M_lineMany : Nat → Int32} {M_testEnd : Nat → Int32} {M_lineEnd : Nat → Int32} {M_facts : Nat → Int32} {M_pile : Nat → Int32} {M_hasLaw : Int32} {M_far : Nat → Int32} {M_within : Nat → Int32} {M_tooNear : Nat → Int32} {M_dried : Int32} {M_isOn : Nat → Int32} {M_wasOn : Nat → Int32} {M_bodies : Int32} {M_kind : Nat → Int32} {M_traces : Int32} {M_traced : Nat → Int32} {M_holds : Nat → Int32} {M_size : Nat → Int32} {M_elements : Nat → Int64} {M_shifted : Nat → Int64} {sz : Nat} {res : Int32 × Int32 × Int32 × Int32 × (Nat → Int32) × (Nat → Int32)}, ro M_tape M_taped M_here M_fault M_open M_laid M_act M_with = some res → zMv l yX7_operand cX7_operand 2 (zrm dr) [.ref (ρ 0)] D q (WM q ρ M_code M_doors M_price M_year M_joins M_joinA M_joinB M_walls M_wallA M_wallB M_cost M_olds M_near M_doneMany M_undoneMany M_changeOf M_changeAt M_before M_behind M_tape M_taped M_here M_fault M_open M_laid M_act M_with M_lineMany M_testEnd M_lineEnd M_facts M_pile M_hasLaw M_far M_within M_tooNear M_dried M_isOn M_wasOn M_bodies M_kind M_traces M_traced M_holds M_size M_elements M_shifted) sz (WM q ρ M_code M_doors M_price M_year M_joins M_joinA M_joinB M_walls M_wallA M_wallB M_cost M_olds M_near M_doneMany M_undoneMany M_changeOf M_changeAt M_before M_behind M_tape M_taped res.1 res.2.1 res.2.2.1 res.2.2.2.1 res.2.2.2.2.1 res.2.2.2.2.2 M_lineMany M_testEnd M_lineEnd M_facts M_pile M_hasLaw M_far M_within M_tooNear M_dried M_isOn M_wasOn M_bodies M_kind M_traces M_traced M_holds M_size M_elements M_shifted)) (hre : ∀ {M_code : Int32} {M_doors : Int32} {M_price : Nat → Int32} {M_year : Nat → Int32} {M_joins : Int32} {M_joinA : Nat → Int32} {M_joinB : Nat → Int32} {M_walls : Int32} {M_wallA : Nat → Int32} {M_wallB : Nat → Int32} {M_cost : Nat → Int32} {M_olds : Int32} {M_near : Int32} {M_doneMany : Int32} {M_undoneMany : Int32} {M_changeOf : Nat → Int32} {M_changeAt : Nat → Int32} {M_before : Nat → Int32} {M_behind : Nat → Int32} {M_tape : Nat → Int32} {M_taped : Int32} {M_here : Int32} {M_fault : Int32} {M_open : Int32} {M_laid : Int32} {M_act : Nat → Int32} {M_with : Nat → Int32} {M_lineMany : Nat → Int32} {M_testEnd : Nat → Int32} {M_lineEnd : Nat → Int32} {M_facts : Nat → Int32} {M_pile : Nat → Int32} {M_hasLaw : Int32} {M_far : Nat → Int32} {M_within : Nat → Int32} {M_tooNear : Nat → Int32} {M_dried : Int32} {M_isOn : Nat → Int32} {M_wasOn : Nat → Int32} {M_bodies : Int32} {M_kind : Nat → Int32} {M_traces : Int32} {M_traced : Nat → Int32} {M_holds : Nat → Int32} {M_size : Nat → Int32} {M_elements : Nat → Int64} {M_shifted : Nat → Int64} {sz : Nat} {res : Int32 × Int32 × Int32 × Int32 × (Nat → Int32) × (Nat → Int32)}, re M_tape M_taped M_here M_fault M_open M_laid M_act M_with = some res → zMv l yX7_either cX7_either 1 (zrm dr) [.ref (ρ 0)] D q (WM q ρ M_code M_doors M_price M_year M_joins M_joinA M_joinB M_walls M_wallA M_wallB M_cost M_olds M_near M_doneMany M_undoneMany M_changeOf M_changeAt M_before M_behind M_tape M_taped M_here M_fault M_open M_laid M_act M_with M_lineMany M_testEnd M_lineEnd M_facts M_pile M_hasLaw M_far M_within M_tooNear M_dried M_isOn M_wasOn M_bodies M_kind M_traces M_traced M_holds M_size M_elements M_shifted) sz (WM q ρ M_code M_doors M_price M_year M_joins M_joinA M_joinB M_walls M_wallA M_wallB M_cost M_olds M_near M_doneMany M_undoneMany M_changeOf M_changeAt M_before M_behind M_tape M_taped res.1 res.2.1 res.2.2.1 res.2.2.2.1 res.2.2.2.2.1 res.2.2.2.2.2 M_lineMany M_testEnd M_lineEnd M_facts M_pile M_hasLaw M_far M_within M_tooNear M_dried M_isOn M_wasOn M_bodies M_kind M_traces M_traced M_holds M_size M_elements M_shifted)) (hd : dr + 2 ≤ d) (h : f_X7_operand ro re M_tape M_taped M_here M_fault M_open M_laid M_act M_with = some res) : zMv l yX7_operand cX7_operand 2 (zrm d) [.ref (ρ 0)] D q (WM q ρ M_code M_doors M_price M_year M_joins M_joinA M_joinB M_walls M_wallA M_wallB M_cost M_olds M_near M_doneMany M_undoneMany M_changeOf M_changeAt M_before M_behind M_tape M_taped M_here M_fault M_open M_laid M_act M_with M_lineMany M_testEnd M_lineEnd M_facts M_pile M_hasLaw M_far M_within M_tooNear M_dried M_isOn M_wasOn M_bodies M_kind M_traces M_traced M_holds M_size M_elements M_shifted) sz (WM q ρ M_code M_doors M_price M_year M_joins M_joinA M_joinB M_walls M_wallA M_wallB M_cost M_olds M_near M_doneMany M_undoneMany M_changeOf M_changeAt M_before M_behind M_tape M_taped res.1 res.2.1 res.2.2.1 res.2.2.2.1 res.2.2.2.2.1 res.2.2.2.2.2 M_lineMany M_testEnd M_lineEnd M_facts M_pile M_hasLaw M_far M_within M_tooNear M_dried M_isOn M_wasOn M_bodies M_kind M_traces M_traced M_holds M_size M_elements M_shifted) := by
  refine zMet_v (own := RX7) (by decide) rfl (Nat.le_of_ble_eq_true rfl) ?_
  intro p e s m args below meth c A ls Q hC hW hl hret
  have hx := hC.1
  have hb := hC.2.1
  have hl : lv_has ls 2 [(0, .ref (ρ 0))] := hl
  have b80 : ∀ {s0 : Int32} {M_here : Int32} {M_fault : Int32} {M_open : Int32} {M_laid : Int32} {M_act : Nat → Int32} {M_with : Nat → Int32} {H : Heap} {locs : List Loc} {ls : Array Slot}, f_X7_operand_b80 ro re s0 M_here M_fault M_open M_laid M_act M_with = some res → zW D A s.heap (WM q ρ M_code M_doors M_price M_year M_joins M_joinA M_joinB M_walls M_wallA M_wallB M_cost M_olds M_near M_doneMany M_undoneMany M_changeOf M_changeAt M_before M_behind M_tape M_taped M_here M_fault M_open M_laid M_act M_with M_lineMany M_testEnd M_lineEnd M_facts M_pile M_hasLaw M_far M_within M_tooNear M_dried M_isOn M_wasOn M_bodies M_kind M_traces M_traced M_holds M_size M_elements M_shifted) H locs → lv_has ls 2 [] → W p l e (zrm d) s m args below meth c H locs 0 0 Q (F0 m 80 ls [.int s0, .ref (ρ 0)]) := by
    intro s0 M_here M_fault M_open M_laid M_act M_with H locs ls h hW hl
    unfold f_X7_operand_b80 at h
    refine lv_iconst (v := 0) hx hb dX7_operand_80 (by decide) ?_
    obtain ⟨u9, eu9, h⟩ := bd_some h
    refine z_callV_v hC hW (rest := []) (c_X7_addStep (d := 0) (Nat.le_refl _) eu9) vw_X7_190 WM_0 rfl ⟨rfl, rfl⟩ (zrm_ok (by omega) (by decide)) rfl rfl hl.1 (Nat.le_of_ble_eq_true rfl) dX7_operand_81 (fun H locs hW => ?_)
    refine lv_goto (tgt := 154) hx hb dX7_operand_84 (by decide) ?_
    have h := Option.some.inj h
    subst h
    exact hret _ _ _ _ dX7_operand_154 hW
  have b46 : ∀ {x1 : Int32} {M_here : Int32} {M_fault : Int32} {M_open : Int32} {M_laid : Int32} {M_act : Nat → Int32} {M_with : Nat → Int32} {H : Heap} {locs : List Loc} {ls : Array Slot}, f_X7_operand_b46 ro re x1 M_tape M_taped M_here M_fault M_open M_laid M_act M_with = some res → zW D A s.heap (WM q ρ M_code M_doors M_price M_year M_joins M_joinA M_joinB M_walls M_wallA M_wallB M_cost M_olds M_near M_doneMany M_undoneMany M_changeOf M_changeAt M_before M_behind M_tape M_taped M_here M_fault M_open M_laid M_act M_with M_lineMany M_testEnd M_lineEnd M_facts M_pile M_hasLaw M_far M_within M_tooNear M_dried M_isOn M_wasOn M_bodies M_kind M_traces M_traced M_holds M_size M_elements M_shifted) H locs → lv_has ls 2 [(0, .ref (ρ 0)), (1, .int x1)] → W p l e (zrm d) s m args below meth c H locs 0 0 Q (F0 m 46 ls []) := by
    intro x1 M_here M_fault M_open M_laid M_act M_with H locs ls h hW hl
    unfold f_X7_operand_b46 at h
    refine lv_aload_n hx hb dX7_operand_46 rfl (lv_at hl 0 rfl) ?_
    obtain ⟨u5, eu5, h⟩ := bd_some h
    refine z_callV_i hC hW (rest := []) (c_X7_opens (d := 1) (Nat.le_refl _) eu5) vw_X7_197 WM_0 rfl ⟨rfl, rfl⟩ (zrm_ok (by omega) (by decide)) rfl rfl hl.1 (Nat.le_of_ble_eq_true rfl) dX7_operand_47 (fun H locs hW => ?_)
    refine lv_if_ne (tgt := 54) hx hb dX7_operand_50 (by decide) (fun c6 => ?_) (fun c6 => ?_)
    · have h := ifn c6 h
      refine lv_aload_n hx hb dX7_operand_54 rfl (lv_at hl 0 rfl) ?_
      obtain ⟨u7, eu7, h⟩ := bd_some h
      refine z_callV_v hC hW (rest := []) (hro eu7) vw_X7_201 WM_0 rfl ⟨rfl, rfl⟩ (zrm_ok (by omega) (by decide)) rfl rfl hl.1 (Nat.le_of_ble_eq_true rfl) dX7_operand_55 (fun H locs hW => ?_)
      refine lv_aload_n hx hb dX7_operand_58 rfl (lv_at hl 0 rfl) ?_
      refine lv_dup hx hb dX7_operand_59 rfl ?_
      refine z_get hC hW fg_X7_180 0 WM_0 rfl dX7_operand_60 ?_
      refine lv_iconst (v := 1) hx hb dX7_operand_63 (by decide) ?_
      refine lv_isub hx hb dX7_operand_64 ?_
      refine z_put hC hW fp_X7_180 0 WM_0 (Nat.le_of_ble_eq_true rfl) rfl rfl WMs_M_open dX7_operand_65 (fun H locs hW => ?_)
      refine lv_aload_n hx hb dX7_operand_68 rfl (lv_at hl 0 rfl) ?_
      refine lv_iload_n hx hb dX7_operand_69 rfl (lv_at hl 1 rfl) ?_
      refine lv_bipush (v := 33) hx hb dX7_operand_70 (by decide) ?_
      refine lv_icmp_ne (tgt := 79) hx hb dX7_operand_72 (by decide) (fun c8 => ?_) (fun c8 => ?_)
      · have h := ifn c8 h
        refine lv_iconst (v := 4) hx hb dX7_operand_79 (by decide) ?_
        exact b80 h hW (lv_sub hl [] rfl)
      · have h := ifp c8 h
        refine lv_iconst (v := 3) hx hb dX7_operand_75 (by decide) ?_
        refine lv_goto (tgt := 80) hx hb dX7_operand_76 (by decide) ?_
        exact b80 h hW (lv_sub hl [] rfl)
    · have h := ifp c6 h
      have h := Option.some.inj h
      subst h
      exact hret _ _ _ _ dX7_operand_53 hW
  unfold f_X7_operand at h
  refine lv_aload_n hx hb dX7_operand_0 rfl (lv_at hl 0 rfl) ?_
  obtain ⟨u1, eu1, h⟩ := bd_some h
  refine z_callV_i hC hW (rest := []) (c_X7_look (d := 0) (Nat.le_refl _) eu1) vw_X7_186 WM_0 rfl ⟨rfl, rfl⟩ (zrm_ok (by omega) (by decide)) rfl rfl hl.1 (Nat.le_of_ble_eq_true rfl) dX7_operand_1 (fun H locs hW => ?_)
  refine lv_istore_n (lv' := [(1, .int u1), (0, .ref (ρ 0))]) hx hb dX7_operand_4 rfl hl (by decide) rfl (fun ls hl => ?_)
  refine lv_iload_n hx hb dX7_operand_5 rfl (lv_at hl 0 rfl) ?_
  obtain ⟨u2, eu2, h⟩ := bd_some h
  refine z_callS_i hC hW (rest := []) (c_X7_nameOf (d := 0) (Nat.le_refl _) eu2) sw_X7_194 ⟨rfl, rfl⟩ (zrm_ok (by omega) (by decide)) rfl rfl hl.1 (Nat.le_of_ble_eq_true rfl) dX7_operand_6 (fun H locs hW => ?_)
  refine lv_if_lt (tgt := 34) hx hb dX7_operand_9 (by decide) (fun c3 => ?_) (fun c3 => ?_)
  · have h := ifp c3 h
    refine lv_iload_n hx hb dX7_operand_34 rfl (lv_at hl 0 rfl) ?_
    refine lv_bipush (v := 33) hx hb dX7_operand_35 (by decide) ?_
    refine lv_icmp_eq (tgt := 46) hx hb dX7_operand_37 (by decide) (fun c4 => ?_) (fun c4 => ?_)
    · have h := ifp c4 h
      exact b46 h hW (lv_sub hl [1, 0] rfl)
    · have h := ifn c4 h
      refine lv_iload_n hx hb dX7_operand_40 rfl (lv_at hl 0 rfl) ?_
      refine lv_bipush (v := 45) hx hb dX7_operand_41 (by decide) ?_
      refine lv_icmp_ne (tgt := 87) hx hb dX7_operand_43 (by decide) (fun c10 => ?_) (fun c10 => ?_)
      · have h := ifn c10 h
        refine lv_iload_n hx hb dX7_operand_87 rfl (lv_at hl 0 rfl) ?_
        refine lv_bipush (v := 40) hx hb dX7_operand_88 (by decide) ?_
        refine lv_icmp_ne (tgt := 150) hx hb dX7_operand_90 (by decide) (fun c11 => ?_) (fun c11 => ?_)
        · have h := ifn c11 h
          refine lv_aload_n hx hb dX7_operand_150 rfl (lv_at hl 1 rfl) ?_
          obtain ⟨u12, eu12, h⟩ := bd_some h
          refine z_callV_v hC hW (rest := []) (c_X7_figure (d := 1) (Nat.le_refl _) eu12) vw_X7_207 WM_0 rfl ⟨rfl, rfl⟩ (zrm_ok (by omega) (by decide)) rfl rfl hl.1 (Nat.le_of_ble_eq_true rfl) dX7_operand_151 (fun H locs hW => ?_)
          have h := Option.some.inj h
          subst h
          exact hret _ _ _ _ dX7_operand_154 hW
        · have h := ifp c11 h
          refine lv_aload_n hx hb dX7_operand_93 rfl (lv_at hl 1 rfl) ?_
          obtain ⟨u13, eu13, h⟩ := bd_some h
          refine z_callV_i hC hW (rest := []) (c_X7_opens (d := 1) (Nat.le_refl _) eu13) vw_X7_197 WM_0 rfl ⟨rfl, rfl⟩ (zrm_ok (by omega) (by decide)) rfl rfl hl.1 (Nat.le_of_ble_eq_true rfl) dX7_operand_94 (fun H locs hW => ?_)
          refine lv_if_ne (tgt := 101) hx hb dX7_operand_97 (by decide) (fun c14 => ?_) (fun c14 => ?_)
          · have h := ifn c14 h
            refine lv_aload_n hx hb dX7_operand_101 rfl (lv_at hl 1 rfl) ?_
            obtain ⟨u15, eu15, h⟩ := bd_some h
            refine z_callV_v hC hW (rest := []) (hre eu15) vw_X7_204 WM_0 rfl ⟨rfl, rfl⟩ (zrm_ok (by omega) (by decide)) rfl rfl hl.1 (Nat.le_of_ble_eq_true rfl) dX7_operand_102 (fun H locs hW => ?_)
            refine lv_aload_n hx hb dX7_operand_105 rfl (lv_at hl 1 rfl) ?_
            refine z_get hC hW fg_X7_174 0 WM_0 rfl dX7_operand_106 ?_
            refine lv_if_lt (tgt := 113) hx hb dX7_operand_109 (by decide) (fun c16 => ?_) (fun c16 => ?_)
            · have h := ifp c16 h
              refine lv_aload_n hx hb dX7_operand_113 rfl (lv_at hl 1 rfl) ?_
              obtain ⟨u17, eu17, h⟩ := bd_some h
              refine z_callV_i hC hW (rest := []) (c_X7_look (d := 0) (Nat.le_refl _) eu17) vw_X7_186 WM_0 rfl ⟨rfl, rfl⟩ (zrm_ok (by omega) (by decide)) rfl rfl hl.1 (Nat.le_of_ble_eq_true rfl) dX7_operand_114 (fun H locs hW => ?_)
              refine lv_bipush (v := 41) hx hb dX7_operand_117 (by decide) ?_
              refine lv_icmp_eq (tgt := 127) hx hb dX7_operand_119 (by decide) (fun c18 => ?_) (fun c18 => ?_)
              · have h := ifp c18 h
                refine lv_aload_n hx hb dX7_operand_127 rfl (lv_at hl 1 rfl) ?_
                refine lv_dup hx hb dX7_operand_128 rfl ?_
                refine z_get hC hW fg_X7_171 0 WM_0 rfl dX7_operand_129 ?_
                refine lv_iconst (v := 1) hx hb dX7_operand_132 (by decide) ?_
                refine lv_iadd hx hb dX7_operand_133 ?_
                refine z_put hC hW fp_X7_171 0 WM_0 (Nat.le_of_ble_eq_true rfl) rfl rfl WMs_M_here dX7_operand_134 (fun H locs hW => ?_)
                refine lv_aload_n hx hb dX7_operand_137 rfl (lv_at hl 1 rfl) ?_
                refine lv_dup hx hb dX7_operand_138 rfl ?_
                refine z_get hC hW fg_X7_180 0 WM_0 rfl dX7_operand_139 ?_
                refine lv_iconst (v := 1) hx hb dX7_operand_142 (by decide) ?_
                refine lv_isub hx hb dX7_operand_143 ?_
                refine z_put hC hW fp_X7_180 0 WM_0 (Nat.le_of_ble_eq_true rfl) rfl rfl WMs_M_open dX7_operand_144 (fun H locs hW => ?_)
                refine lv_goto (tgt := 154) hx hb dX7_operand_147 (by decide) ?_
                have h := Option.some.inj h
                subst h
                exact hret _ _ _ _ dX7_operand_154 hW
              · have h := ifn c18 h
                refine lv_aload_n hx hb dX7_operand_122 rfl (lv_at hl 1 rfl) ?_
                obtain ⟨u19, eu19, h⟩ := bd_some h
                refine z_callV_v hC hW (rest := []) (c_X7_faulty (d := 0) (Nat.le_refl _) eu19) vw_X7_183 WM_0 rfl ⟨rfl, rfl⟩ (zrm_ok (by omega) (by decide)) rfl rfl hl.1 (Nat.le_of_ble_eq_true rfl) dX7_operand_123 (fun H locs hW => ?_)
                have h := Option.some.inj h
                subst h
                exact hret _ _ _ _ dX7_operand_126 hW
            · have h := ifn c16 h
              have h := Option.some.inj h
              subst h
              exact hret _ _ _ _ dX7_operand_112 hW
          · have h := ifp c14 h
            have h := Option.some.inj h
            subst h
            exact hret _ _ _ _ dX7_operand_100 hW
      · have h := ifp c10 h
        exact b46 h hW (lv_sub hl [1, 0] rfl)
  · have h := ifn c3 h
    refine lv_aload_n hx hb dX7_operand_12 rfl (lv_at hl 1 rfl) ?_
    refine lv_iconst (v := 2) hx hb dX7_operand_13 (by decide) ?_
    refine lv_iload_n hx hb dX7_operand_14 rfl (lv_at hl 0 rfl) ?_
    obtain ⟨u20, eu20, h⟩ := bd_some h
    refine z_callS_i hC hW (rest := [.int 2, .ref (ρ 0)]) (c_X7_nameOf (d := 0) (Nat.le_refl _) eu20) sw_X7_194 ⟨rfl, rfl⟩ (zrm_ok (by omega) (by decide)) rfl rfl hl.1 (Nat.le_of_ble_eq_true rfl) dX7_operand_15 (fun H locs hW => ?_)
    obtain ⟨u21, eu21, h⟩ := bd_some h
    refine z_callV_v hC hW (rest := []) (c_X7_addStep (d := 0) (Nat.le_refl _) eu21) vw_X7_190 WM_0 rfl ⟨rfl, rfl⟩ (zrm_ok (by omega) (by decide)) rfl rfl hl.1 (Nat.le_of_ble_eq_true rfl) dX7_operand_18 (fun H locs hW => ?_)
    refine lv_aload_n hx hb dX7_operand_21 rfl (lv_at hl 1 rfl) ?_
    refine lv_dup hx hb dX7_operand_22 rfl ?_
    refine z_get hC hW fg_X7_171 0 WM_0 rfl dX7_operand_23 ?_
    refine lv_iconst (v := 1) hx hb dX7_operand_26 (by decide) ?_
    refine lv_iadd hx hb dX7_operand_27 ?_
    refine z_put hC hW fp_X7_171 0 WM_0 (Nat.le_of_ble_eq_true rfl) rfl rfl WMs_M_here dX7_operand_28 (fun H locs hW => ?_)
    refine lv_goto (tgt := 154) hx hb dX7_operand_31 (by decide) ?_
    have h := Option.some.inj h
    subst h
    exact hret _ _ _ _ dX7_operand_154 hW
set_option maxHeartbeats 4000000 in
set_option maxRecDepth 100000 in
theorem c_X7_product {ro : (Nat → Int32) → Int32 → Int32 → Int32 → Int32 → Int32 → (Nat → Int32) → (Nat → Int32) → Option (Int32 × Int32 × Int32 × Int32 × (Nat → Int32) × (Nat → Int32))} {dr : Nat} {d : Nat} {res : Int32 × Int32 × Int32 × Int32 × (Nat → Int32) × (Nat → Int32)} (hro : ∀ {M_code : Int32} {M_doors : Int32} {M_price : Nat → Int32} {M_year : Nat → Int32} {M_joins : Int32} {M_joinA : Nat → Int32} {M_joinB : Nat → Int32} {M_walls : Int32} {M_wallA : Nat → Int32} {M_wallB : Nat → Int32} {M_cost : Nat → Int32} {M_olds : Int32} {M_near : Int32} {M_doneMany : Int32} {M_undoneMany : Int32} {M_changeOf : Nat → Int32} {M_changeAt : Nat → Int32} {M_before : Nat → Int32} {M_behind : Nat → Int32} {M_tape : Nat → Int32} {M_taped : Int32} {M_here : Int32} {M_fault : Int32} {M_open : Int32} {M_laid : Int32} {M_act : Nat → Int32} {M_with : Nat → Int32} {M_lineMany : Nat → Int32} {M_testEnd : Nat → Int32} {M_lineEnd : Nat → Int32} {M_facts : Nat → Int32} {M_pile : Nat → Int32} {M_hasLaw : Int32} {M_far : Nat → Int32} {M_within : Nat → Int32} {M_tooNear : Nat → Int32} {M_dried : Int32} {M_isOn : Nat → Int32} {M_wasOn : Nat → Int32} {M_bodies : Int32} {M_kind : Nat → Int32} {M_traces : Int32} {M_traced : Nat → Int32} {M_holds : Nat → Int32} {M_size : Nat → Int32} {M_elements : Nat → Int64} {M_shifted : Nat → Int64} {sz : Nat} {res : Int32 × Int32 × Int32 × Int32 × (Nat → Int32) × (Nat → Int32)}, ro M_tape M_taped M_here M_fault M_open M_laid M_act M_with = some res → zMv l yX7_operand cX7_operand 2 (zrm dr) [.ref (ρ 0)] D q (WM q ρ M_code M_doors M_price M_year M_joins M_joinA M_joinB M_walls M_wallA M_wallB M_cost M_olds M_near M_doneMany M_undoneMany M_changeOf M_changeAt M_before M_behind M_tape M_taped M_here M_fault M_open M_laid M_act M_with M_lineMany M_testEnd M_lineEnd M_facts M_pile M_hasLaw M_far M_within M_tooNear M_dried M_isOn M_wasOn M_bodies M_kind M_traces M_traced M_holds M_size M_elements M_shifted) sz (WM q ρ M_code M_doors M_price M_year M_joins M_joinA M_joinB M_walls M_wallA M_wallB M_cost M_olds M_near M_doneMany M_undoneMany M_changeOf M_changeAt M_before M_behind M_tape M_taped res.1 res.2.1 res.2.2.1 res.2.2.2.1 res.2.2.2.2.1 res.2.2.2.2.2 M_lineMany M_testEnd M_lineEnd M_facts M_pile M_hasLaw M_far M_within M_tooNear M_dried M_isOn M_wasOn M_bodies M_kind M_traces M_traced M_holds M_size M_elements M_shifted)) (hd : dr + 1 ≤ d) (h : f_X7_product ro M_tape M_taped M_here M_fault M_open M_laid M_act M_with = some res) : zMv l yX7_product cX7_product 2 (zrm d) [.ref (ρ 0)] D q (WM q ρ M_code M_doors M_price M_year M_joins M_joinA M_joinB M_walls M_wallA M_wallB M_cost M_olds M_near M_doneMany M_undoneMany M_changeOf M_changeAt M_before M_behind M_tape M_taped M_here M_fault M_open M_laid M_act M_with M_lineMany M_testEnd M_lineEnd M_facts M_pile M_hasLaw M_far M_within M_tooNear M_dried M_isOn M_wasOn M_bodies M_kind M_traces M_traced M_holds M_size M_elements M_shifted) sz (WM q ρ M_code M_doors M_price M_year M_joins M_joinA M_joinB M_walls M_wallA M_wallB M_cost M_olds M_near M_doneMany M_undoneMany M_changeOf M_changeAt M_before M_behind M_tape M_taped res.1 res.2.1 res.2.2.1 res.2.2.2.1 res.2.2.2.2.1 res.2.2.2.2.2 M_lineMany M_testEnd M_lineEnd M_facts M_pile M_hasLaw M_far M_within M_tooNear M_dried M_isOn M_wasOn M_bodies M_kind M_traces M_traced M_holds M_size M_elements M_shifted) := by
  refine zMet_v (own := RX7) (by decide) rfl (Nat.le_of_ble_eq_true rfl) ?_
  intro p e s m args below meth c A ls Q hC hW hl hret
  have hx := hC.1
  have hb := hC.2.1
  have hl : lv_has ls 2 [(0, .ref (ρ 0))] := hl
  have b38 : ∀ {M_here : Int32} {M_fault : Int32} {M_open : Int32} {M_laid : Int32} {M_act : Nat → Int32} {M_with : Nat → Int32} {k4 : Int32 → Int32 → Int32 → Int32 → (Nat → Int32) → (Nat → Int32) → Option (Int32 × Int32 × Int32 × Int32 × (Nat → Int32) × (Nat → Int32))} (hk4 : ∀ {M_here : Int32} {M_fault : Int32} {M_open : Int32} {M_laid : Int32} {M_act : Nat → Int32} {M_with : Nat → Int32} {H : Heap} {locs : List Loc} {ls : Array Slot}, k4 M_here M_fault M_open M_laid M_act M_with = some res → zW D A s.heap (WM q ρ M_code M_doors M_price M_year M_joins M_joinA M_joinB M_walls M_wallA M_wallB M_cost M_olds M_near M_doneMany M_undoneMany M_changeOf M_changeAt M_before M_behind M_tape M_taped M_here M_fault M_open M_laid M_act M_with M_lineMany M_testEnd M_lineEnd M_facts M_pile M_hasLaw M_far M_within M_tooNear M_dried M_isOn M_wasOn M_bodies M_kind M_traces M_traced M_holds M_size M_elements M_shifted) H locs → lv_has ls 2 [(0, .ref (ρ 0))] → W p l e (zrm d) s m args below meth c H locs 0 0 Q (F0 m 4 ls [])) {H : Heap} {locs : List Loc} {ls : Array Slot}, f_X7_product_b38 ro k4 M_tape M_taped M_here M_fault M_open M_laid M_act M_with = some res → zW D A s.heap (WM q ρ M_code M_doors M_price M_year M_joins M_joinA M_joinB M_walls M_wallA M_wallB M_cost M_olds M_near M_doneMany M_undoneMany M_changeOf M_changeAt M_before M_behind M_tape M_taped M_here M_fault M_open M_laid M_act M_with M_lineMany M_testEnd M_lineEnd M_facts M_pile M_hasLaw M_far M_within M_tooNear M_dried M_isOn M_wasOn M_bodies M_kind M_traces M_traced M_holds M_size M_elements M_shifted) H locs → lv_has ls 2 [(0, .ref (ρ 0))] → W p l e (zrm d) s m args below meth c H locs 0 0 Q (F0 m 38 ls []) := by
    intro M_here M_fault M_open M_laid M_act M_with k4 hk4 H locs ls h hW hl
    unfold f_X7_product_b38 at h
    refine lv_aload_n hx hb dX7_product_38 rfl (lv_at hl 0 rfl) ?_
    obtain ⟨u5, eu5, h⟩ := bd_some h
    refine z_callV_i hC hW (rest := []) (c_X7_look (d := 0) (Nat.le_refl _) eu5) vw_X7_186 WM_0 rfl ⟨rfl, rfl⟩ (zrm_ok (by omega) (by decide)) rfl rfl hl.1 (Nat.le_of_ble_eq_true rfl) dX7_product_39 (fun H locs hW => ?_)
    refine lv_istore_n (lv' := [(1, .int u5), (0, .ref (ρ 0))]) hx hb dX7_product_42 rfl hl (by decide) rfl (fun ls hl => ?_)
    refine lv_aload_n hx hb dX7_product_43 rfl (lv_at hl 1 rfl) ?_
    refine lv_dup hx hb dX7_product_44 rfl ?_
    refine z_get hC hW fg_X7_171 0 WM_0 rfl dX7_product_45 ?_
    refine lv_iconst (v := 1) hx hb dX7_product_48 (by decide) ?_
    refine lv_iadd hx hb dX7_product_49 ?_
    refine z_put hC hW fp_X7_171 0 WM_0 (Nat.le_of_ble_eq_true rfl) rfl rfl WMs_M_here dX7_product_50 (fun H locs hW => ?_)
    refine lv_aload_n hx hb dX7_product_53 rfl (lv_at hl 1 rfl) ?_
    obtain ⟨u6, eu6, h⟩ := bd_some h
    refine z_callV_v hC hW (rest := []) (hro eu6) vw_X7_201 WM_0 rfl ⟨rfl, rfl⟩ (zrm_ok (by omega) (by decide)) rfl rfl hl.1 (Nat.le_of_ble_eq_true rfl) dX7_product_54 (fun H locs hW => ?_)
    refine lv_aload_n hx hb dX7_product_57 rfl (lv_at hl 1 rfl) ?_
    refine lv_iload_n hx hb dX7_product_58 rfl (lv_at hl 0 rfl) ?_
    refine lv_iconst (v := 0) hx hb dX7_product_59 (by decide) ?_
    obtain ⟨u7, eu7, h⟩ := bd_some h
    refine z_callV_v hC hW (rest := []) (c_X7_addStep (d := 0) (Nat.le_refl _) eu7) vw_X7_190 WM_0 rfl ⟨rfl, rfl⟩ (zrm_ok (by omega) (by decide)) rfl rfl hl.1 (Nat.le_of_ble_eq_true rfl) dX7_product_60 (fun H locs hW => ?_)
    refine lv_goto (tgt := 4) hx hb dX7_product_63 (by decide) ?_
    exact hk4 h hW (lv_sub hl [1] rfl)
  have b4 : ∀ {n : Nat} {M_here : Int32} {M_fault : Int32} {M_open : Int32} {M_laid : Int32} {M_act : Nat → Int32} {M_with : Nat → Int32} {H : Heap} {locs : List Loc} {ls : Array Slot}, f_X7_product_b4 ro M_tape M_taped n M_here M_fault M_open M_laid M_act M_with = some res → zW D A s.heap (WM q ρ M_code M_doors M_price M_year M_joins M_joinA M_joinB M_walls M_wallA M_wallB M_cost M_olds M_near M_doneMany M_undoneMany M_changeOf M_changeAt M_before M_behind M_tape M_taped M_here M_fault M_open M_laid M_act M_with M_lineMany M_testEnd M_lineEnd M_facts M_pile M_hasLaw M_far M_within M_tooNear M_dried M_isOn M_wasOn M_bodies M_kind M_traces M_traced M_holds M_size M_elements M_shifted) H locs → lv_has ls 2 [(0, .ref (ρ 0))] → W p l e (zrm d) s m args below meth c H locs 0 0 Q (F0 m 4 ls []) := by
    intro n
    induction n with
    | zero =>
      intro M_here M_fault M_open M_laid M_act M_with H locs ls h
      rw [f_X7_product_b4] at h
      cases h
    | succ n ih =>
      intro M_here M_fault M_open M_laid M_act M_with H locs ls h hW hl
      rw [f_X7_product_b4] at h
      refine lv_aload_n hx hb dX7_product_4 rfl (lv_at hl 0 rfl) ?_
      refine z_get hC hW fg_X7_174 0 WM_0 rfl dX7_product_5 ?_
      refine lv_if_ge (tgt := 66) hx hb dX7_product_8 (by decide) (fun c2 => ?_) (fun c2 => ?_)
      · have h := ifp c2 h
        have h := Option.some.inj h
        subst h
        exact hret _ _ _ _ dX7_product_66 hW
      · have h := ifn c2 h
        refine lv_aload_n hx hb dX7_product_11 rfl (lv_at hl 0 rfl) ?_
        obtain ⟨u3, eu3, h⟩ := bd_some h
        refine z_callV_i hC hW (rest := []) (c_X7_look (d := 0) (Nat.le_refl _) eu3) vw_X7_186 WM_0 rfl ⟨rfl, rfl⟩ (zrm_ok (by omega) (by decide)) rfl rfl hl.1 (Nat.le_of_ble_eq_true rfl) dX7_product_12 (fun H locs hW => ?_)
        refine lv_bipush (v := 42) hx hb dX7_product_15 (by decide) ?_
        refine lv_icmp_eq (tgt := 38) hx hb dX7_product_17 (by decide) (fun c4 => ?_) (fun c4 => ?_)
        · have h := ifp c4 h
          exact b38 ih h hW (lv_sub hl [0] rfl)
        · have h := ifn c4 h
          refine lv_aload_n hx hb dX7_product_20 rfl (lv_at hl 0 rfl) ?_
          obtain ⟨u8, eu8, h⟩ := bd_some h
          refine z_callV_i hC hW (rest := []) (c_X7_look (d := 0) (Nat.le_refl _) eu8) vw_X7_186 WM_0 rfl ⟨rfl, rfl⟩ (zrm_ok (by omega) (by decide)) rfl rfl hl.1 (Nat.le_of_ble_eq_true rfl) dX7_product_21 (fun H locs hW => ?_)
          refine lv_bipush (v := 47) hx hb dX7_product_24 (by decide) ?_
          refine lv_icmp_eq (tgt := 38) hx hb dX7_product_26 (by decide) (fun c9 => ?_) (fun c9 => ?_)
          · have h := ifp c9 h
            exact b38 ih h hW (lv_sub hl [0] rfl)
          · have h := ifn c9 h
            refine lv_aload_n hx hb dX7_product_29 rfl (lv_at hl 0 rfl) ?_
            obtain ⟨u10, eu10, h⟩ := bd_some h
            refine z_callV_i hC hW (rest := []) (c_X7_look (d := 0) (Nat.le_refl _) eu10) vw_X7_186 WM_0 rfl ⟨rfl, rfl⟩ (zrm_ok (by omega) (by decide)) rfl rfl hl.1 (Nat.le_of_ble_eq_true rfl) dX7_product_30 (fun H locs hW => ?_)
            refine lv_bipush (v := 37) hx hb dX7_product_33 (by decide) ?_
            refine lv_icmp_ne (tgt := 66) hx hb dX7_product_35 (by decide) (fun c11 => ?_) (fun c11 => ?_)
            · have h := ifn c11 h
              have h := Option.some.inj h
              subst h
              exact hret _ _ _ _ dX7_product_66 hW
            · have h := ifp c11 h
              exact b38 ih h hW (lv_sub hl [0] rfl)
  unfold f_X7_product at h
  refine lv_aload_n hx hb dX7_product_0 rfl (lv_at hl 0 rfl) ?_
  obtain ⟨u1, eu1, h⟩ := bd_some h
  refine z_callV_v hC hW (rest := []) (hro eu1) vw_X7_201 WM_0 rfl ⟨rfl, rfl⟩ (zrm_ok (by omega) (by decide)) rfl rfl hl.1 (Nat.le_of_ble_eq_true rfl) dX7_product_1 (fun H locs hW => ?_)
  exact b4 h hW (lv_sub hl [0] rfl)
set_option maxHeartbeats 4000000 in
set_option maxRecDepth 100000 in
theorem c_X7_sum {ro : (Nat → Int32) → Int32 → Int32 → Int32 → Int32 → Int32 → (Nat → Int32) → (Nat → Int32) → Option (Int32 × Int32 × Int32 × Int32 × (Nat → Int32) × (Nat → Int32))} {dr : Nat} {d : Nat} {res : Int32 × Int32 × Int32 × Int32 × (Nat → Int32) × (Nat → Int32)} (hro : ∀ {M_code : Int32} {M_doors : Int32} {M_price : Nat → Int32} {M_year : Nat → Int32} {M_joins : Int32} {M_joinA : Nat → Int32} {M_joinB : Nat → Int32} {M_walls : Int32} {M_wallA : Nat → Int32} {M_wallB : Nat → Int32} {M_cost : Nat → Int32} {M_olds : Int32} {M_near : Int32} {M_doneMany : Int32} {M_undoneMany : Int32} {M_changeOf : Nat → Int32} {M_changeAt : Nat → Int32} {M_before : Nat → Int32} {M_behind : Nat → Int32} {M_tape : Nat → Int32} {M_taped : Int32} {M_here : Int32} {M_fault : Int32} {M_open : Int32} {M_laid : Int32} {M_act : Nat → Int32} {M_with : Nat → Int32} {M_lineMany : Nat → Int32} {M_testEnd : Nat → Int32} {M_lineEnd : Nat → Int32} {M_facts : Nat → Int32} {M_pile : Nat → Int32} {M_hasLaw : Int32} {M_far : Nat → Int32} {M_within : Nat → Int32} {M_tooNear : Nat → Int32} {M_dried : Int32} {M_isOn : Nat → Int32} {M_wasOn : Nat → Int32} {M_bodies : Int32} {M_kind : Nat → Int32} {M_traces : Int32} {M_traced : Nat → Int32} {M_holds : Nat → Int32} {M_size : Nat → Int32} {M_elements : Nat → Int64} {M_shifted : Nat → Int64} {sz : Nat} {res : Int32 × Int32 × Int32 × Int32 × (Nat → Int32) × (Nat → Int32)}, ro M_tape M_taped M_here M_fault M_open M_laid M_act M_with = some res → zMv l yX7_operand cX7_operand 2 (zrm dr) [.ref (ρ 0)] D q (WM q ρ M_code M_doors M_price M_year M_joins M_joinA M_joinB M_walls M_wallA M_wallB M_cost M_olds M_near M_doneMany M_undoneMany M_changeOf M_changeAt M_before M_behind M_tape M_taped M_here M_fault M_open M_laid M_act M_with M_lineMany M_testEnd M_lineEnd M_facts M_pile M_hasLaw M_far M_within M_tooNear M_dried M_isOn M_wasOn M_bodies M_kind M_traces M_traced M_holds M_size M_elements M_shifted) sz (WM q ρ M_code M_doors M_price M_year M_joins M_joinA M_joinB M_walls M_wallA M_wallB M_cost M_olds M_near M_doneMany M_undoneMany M_changeOf M_changeAt M_before M_behind M_tape M_taped res.1 res.2.1 res.2.2.1 res.2.2.2.1 res.2.2.2.2.1 res.2.2.2.2.2 M_lineMany M_testEnd M_lineEnd M_facts M_pile M_hasLaw M_far M_within M_tooNear M_dried M_isOn M_wasOn M_bodies M_kind M_traces M_traced M_holds M_size M_elements M_shifted)) (hd : dr + 2 ≤ d) (h : f_X7_sum ro M_tape M_taped M_here M_fault M_open M_laid M_act M_with = some res) : zMv l yX7_sum cX7_sum 2 (zrm d) [.ref (ρ 0)] D q (WM q ρ M_code M_doors M_price M_year M_joins M_joinA M_joinB M_walls M_wallA M_wallB M_cost M_olds M_near M_doneMany M_undoneMany M_changeOf M_changeAt M_before M_behind M_tape M_taped M_here M_fault M_open M_laid M_act M_with M_lineMany M_testEnd M_lineEnd M_facts M_pile M_hasLaw M_far M_within M_tooNear M_dried M_isOn M_wasOn M_bodies M_kind M_traces M_traced M_holds M_size M_elements M_shifted) sz (WM q ρ M_code M_doors M_price M_year M_joins M_joinA M_joinB M_walls M_wallA M_wallB M_cost M_olds M_near M_doneMany M_undoneMany M_changeOf M_changeAt M_before M_behind M_tape M_taped res.1 res.2.1 res.2.2.1 res.2.2.2.1 res.2.2.2.2.1 res.2.2.2.2.2 M_lineMany M_testEnd M_lineEnd M_facts M_pile M_hasLaw M_far M_within M_tooNear M_dried M_isOn M_wasOn M_bodies M_kind M_traces M_traced M_holds M_size M_elements M_shifted) := by
  refine zMet_v (own := RX7) (by decide) rfl (Nat.le_of_ble_eq_true rfl) ?_
  intro p e s m args below meth c A ls Q hC hW hl hret
  have hx := hC.1
  have hb := hC.2.1
  have hl : lv_has ls 2 [(0, .ref (ρ 0))] := hl
  have b29 : ∀ {M_here : Int32} {M_fault : Int32} {M_open : Int32} {M_laid : Int32} {M_act : Nat → Int32} {M_with : Nat → Int32} {k4 : Int32 → Int32 → Int32 → Int32 → (Nat → Int32) → (Nat → Int32) → Option (Int32 × Int32 × Int32 × Int32 × (Nat → Int32) × (Nat → Int32))} (hk4 : ∀ {M_here : Int32} {M_fault : Int32} {M_open : Int32} {M_laid : Int32} {M_act : Nat → Int32} {M_with : Nat → Int32} {H : Heap} {locs : List Loc} {ls : Array Slot}, k4 M_here M_fault M_open M_laid M_act M_with = some res → zW D A s.heap (WM q ρ M_code M_doors M_price M_year M_joins M_joinA M_joinB M_walls M_wallA M_wallB M_cost M_olds M_near M_doneMany M_undoneMany M_changeOf M_changeAt M_before M_behind M_tape M_taped M_here M_fault M_open M_laid M_act M_with M_lineMany M_testEnd M_lineEnd M_facts M_pile M_hasLaw M_far M_within M_tooNear M_dried M_isOn M_wasOn M_bodies M_kind M_traces M_traced M_holds M_size M_elements M_shifted) H locs → lv_has ls 2 [(0, .ref (ρ 0))] → W p l e (zrm d) s m args below meth c H locs 0 0 Q (F0 m 4 ls [])) {H : Heap} {locs : List Loc} {ls : Array Slot}, f_X7_sum_b29 ro k4 M_tape M_taped M_here M_fault M_open M_laid M_act M_with = some res → zW D A s.heap (WM q ρ M_code M_doors M_price M_year M_joins M_joinA M_joinB M_walls M_wallA M_wallB M_cost M_olds M_near M_doneMany M_undoneMany M_changeOf M_changeAt M_before M_behind M_tape M_taped M_here M_fault M_open M_laid M_act M_with M_lineMany M_testEnd M_lineEnd M_facts M_pile M_hasLaw M_far M_within M_tooNear M_dried M_isOn M_wasOn M_bodies M_kind M_traces M_traced M_holds M_size M_elements M_shifted) H locs → lv_has ls 2 [(0, .ref (ρ 0))] → W p l e (zrm d) s m args below meth c H locs 0 0 Q (F0 m 29 ls []) := by
    intro M_here M_fault M_open M_laid M_act M_with k4 hk4 H locs ls h hW hl
    unfold f_X7_sum_b29 at h
    refine lv_aload_n hx hb dX7_sum_29 rfl (lv_at hl 0 rfl) ?_
    obtain ⟨u5, eu5, h⟩ := bd_some h
    refine z_callV_i hC hW (rest := []) (c_X7_look (d := 0) (Nat.le_refl _) eu5) vw_X7_186 WM_0 rfl ⟨rfl, rfl⟩ (zrm_ok (by omega) (by decide)) rfl rfl hl.1 (Nat.le_of_ble_eq_true rfl) dX7_sum_30 (fun H locs hW => ?_)
    refine lv_istore_n (lv' := [(1, .int u5), (0, .ref (ρ 0))]) hx hb dX7_sum_33 rfl hl (by decide) rfl (fun ls hl => ?_)
    refine lv_aload_n hx hb dX7_sum_34 rfl (lv_at hl 1 rfl) ?_
    refine lv_dup hx hb dX7_sum_35 rfl ?_
    refine z_get hC hW fg_X7_171 0 WM_0 rfl dX7_sum_36 ?_
    refine lv_iconst (v := 1) hx hb dX7_sum_39 (by decide) ?_
    refine lv_iadd hx hb dX7_sum_40 ?_
    refine z_put hC hW fp_X7_171 0 WM_0 (Nat.le_of_ble_eq_true rfl) rfl rfl WMs_M_here dX7_sum_41 (fun H locs hW => ?_)
    refine lv_aload_n hx hb dX7_sum_44 rfl (lv_at hl 1 rfl) ?_
    obtain ⟨u6, eu6, h⟩ := bd_some h
    refine z_callV_v hC hW (rest := []) (c_X7_product (dr := dr) (d := d - 1) hro (by omega) eu6) vw_X7_210 WM_0 rfl ⟨rfl, rfl⟩ (zrm_ok (by omega) (by decide)) rfl rfl hl.1 (Nat.le_of_ble_eq_true rfl) dX7_sum_45 (fun H locs hW => ?_)
    refine lv_aload_n hx hb dX7_sum_48 rfl (lv_at hl 1 rfl) ?_
    refine lv_iload_n hx hb dX7_sum_49 rfl (lv_at hl 0 rfl) ?_
    refine lv_iconst (v := 0) hx hb dX7_sum_50 (by decide) ?_
    obtain ⟨u7, eu7, h⟩ := bd_some h
    refine z_callV_v hC hW (rest := []) (c_X7_addStep (d := 0) (Nat.le_refl _) eu7) vw_X7_190 WM_0 rfl ⟨rfl, rfl⟩ (zrm_ok (by omega) (by decide)) rfl rfl hl.1 (Nat.le_of_ble_eq_true rfl) dX7_sum_51 (fun H locs hW => ?_)
    refine lv_goto (tgt := 4) hx hb dX7_sum_54 (by decide) ?_
    exact hk4 h hW (lv_sub hl [1] rfl)
  have b4 : ∀ {n : Nat} {M_here : Int32} {M_fault : Int32} {M_open : Int32} {M_laid : Int32} {M_act : Nat → Int32} {M_with : Nat → Int32} {H : Heap} {locs : List Loc} {ls : Array Slot}, f_X7_sum_b4 ro M_tape M_taped n M_here M_fault M_open M_laid M_act M_with = some res → zW D A s.heap (WM q ρ M_code M_doors M_price M_year M_joins M_joinA M_joinB M_walls M_wallA M_wallB M_cost M_olds M_near M_doneMany M_undoneMany M_changeOf M_changeAt M_before M_behind M_tape M_taped M_here M_fault M_open M_laid M_act M_with M_lineMany M_testEnd M_lineEnd M_facts M_pile M_hasLaw M_far M_within M_tooNear M_dried M_isOn M_wasOn M_bodies M_kind M_traces M_traced M_holds M_size M_elements M_shifted) H locs → lv_has ls 2 [(0, .ref (ρ 0))] → W p l e (zrm d) s m args below meth c H locs 0 0 Q (F0 m 4 ls []) := by
    intro n
    induction n with
    | zero =>
      intro M_here M_fault M_open M_laid M_act M_with H locs ls h
      rw [f_X7_sum_b4] at h
      cases h
    | succ n ih =>
      intro M_here M_fault M_open M_laid M_act M_with H locs ls h hW hl
      rw [f_X7_sum_b4] at h
      refine lv_aload_n hx hb dX7_sum_4 rfl (lv_at hl 0 rfl) ?_
      refine z_get hC hW fg_X7_174 0 WM_0 rfl dX7_sum_5 ?_
      refine lv_if_ge (tgt := 57) hx hb dX7_sum_8 (by decide) (fun c2 => ?_) (fun c2 => ?_)
      · have h := ifp c2 h
        have h := Option.some.inj h
        subst h
        exact hret _ _ _ _ dX7_sum_57 hW
      · have h := ifn c2 h
        refine lv_aload_n hx hb dX7_sum_11 rfl (lv_at hl 0 rfl) ?_
        obtain ⟨u3, eu3, h⟩ := bd_some h
        refine z_callV_i hC hW (rest := []) (c_X7_look (d := 0) (Nat.le_refl _) eu3) vw_X7_186 WM_0 rfl ⟨rfl, rfl⟩ (zrm_ok (by omega) (by decide)) rfl rfl hl.1 (Nat.le_of_ble_eq_true rfl) dX7_sum_12 (fun H locs hW => ?_)
        refine lv_bipush (v := 43) hx hb dX7_sum_15 (by decide) ?_
        refine lv_icmp_eq (tgt := 29) hx hb dX7_sum_17 (by decide) (fun c4 => ?_) (fun c4 => ?_)
        · have h := ifp c4 h
          exact b29 ih h hW (lv_sub hl [0] rfl)
        · have h := ifn c4 h
          refine lv_aload_n hx hb dX7_sum_20 rfl (lv_at hl 0 rfl) ?_
          obtain ⟨u8, eu8, h⟩ := bd_some h
          refine z_callV_i hC hW (rest := []) (c_X7_look (d := 0) (Nat.le_refl _) eu8) vw_X7_186 WM_0 rfl ⟨rfl, rfl⟩ (zrm_ok (by omega) (by decide)) rfl rfl hl.1 (Nat.le_of_ble_eq_true rfl) dX7_sum_21 (fun H locs hW => ?_)
          refine lv_bipush (v := 45) hx hb dX7_sum_24 (by decide) ?_
          refine lv_icmp_ne (tgt := 57) hx hb dX7_sum_26 (by decide) (fun c9 => ?_) (fun c9 => ?_)
          · have h := ifn c9 h
            have h := Option.some.inj h
            subst h
            exact hret _ _ _ _ dX7_sum_57 hW
          · have h := ifp c9 h
            exact b29 ih h hW (lv_sub hl [0] rfl)
  unfold f_X7_sum at h
  refine lv_aload_n hx hb dX7_sum_0 rfl (lv_at hl 0 rfl) ?_
  obtain ⟨u1, eu1, h⟩ := bd_some h
  refine z_callV_v hC hW (rest := []) (c_X7_product (dr := dr) (d := d - 1) hro (by omega) eu1) vw_X7_210 WM_0 rfl ⟨rfl, rfl⟩ (zrm_ok (by omega) (by decide)) rfl rfl hl.1 (Nat.le_of_ble_eq_true rfl) dX7_sum_1 (fun H locs hW => ?_)
  exact b4 h hW (lv_sub hl [0] rfl)
set_option maxHeartbeats 4000000 in
set_option maxRecDepth 100000 in
theorem c_X7_compared {ro : (Nat → Int32) → Int32 → Int32 → Int32 → Int32 → Int32 → (Nat → Int32) → (Nat → Int32) → Option (Int32 × Int32 × Int32 × Int32 × (Nat → Int32) × (Nat → Int32))} {dr : Nat} {d : Nat} {res : Int32 × Int32 × Int32 × Int32 × (Nat → Int32) × (Nat → Int32)} (hro : ∀ {M_code : Int32} {M_doors : Int32} {M_price : Nat → Int32} {M_year : Nat → Int32} {M_joins : Int32} {M_joinA : Nat → Int32} {M_joinB : Nat → Int32} {M_walls : Int32} {M_wallA : Nat → Int32} {M_wallB : Nat → Int32} {M_cost : Nat → Int32} {M_olds : Int32} {M_near : Int32} {M_doneMany : Int32} {M_undoneMany : Int32} {M_changeOf : Nat → Int32} {M_changeAt : Nat → Int32} {M_before : Nat → Int32} {M_behind : Nat → Int32} {M_tape : Nat → Int32} {M_taped : Int32} {M_here : Int32} {M_fault : Int32} {M_open : Int32} {M_laid : Int32} {M_act : Nat → Int32} {M_with : Nat → Int32} {M_lineMany : Nat → Int32} {M_testEnd : Nat → Int32} {M_lineEnd : Nat → Int32} {M_facts : Nat → Int32} {M_pile : Nat → Int32} {M_hasLaw : Int32} {M_far : Nat → Int32} {M_within : Nat → Int32} {M_tooNear : Nat → Int32} {M_dried : Int32} {M_isOn : Nat → Int32} {M_wasOn : Nat → Int32} {M_bodies : Int32} {M_kind : Nat → Int32} {M_traces : Int32} {M_traced : Nat → Int32} {M_holds : Nat → Int32} {M_size : Nat → Int32} {M_elements : Nat → Int64} {M_shifted : Nat → Int64} {sz : Nat} {res : Int32 × Int32 × Int32 × Int32 × (Nat → Int32) × (Nat → Int32)}, ro M_tape M_taped M_here M_fault M_open M_laid M_act M_with = some res → zMv l yX7_operand cX7_operand 2 (zrm dr) [.ref (ρ 0)] D q (WM q ρ M_code M_doors M_price M_year M_joins M_joinA M_joinB M_walls M_wallA M_wallB M_cost M_olds M_near M_doneMany M_undoneMany M_changeOf M_changeAt M_before M_behind M_tape M_taped M_here M_fault M_open M_laid M_act M_with M_lineMany M_testEnd M_lineEnd M_facts M_pile M_hasLaw M_far M_within M_tooNear M_dried M_isOn M_wasOn M_bodies M_kind M_traces M_traced M_holds M_size M_elements M_shifted) sz (WM q ρ M_code M_doors M_price M_year M_joins M_joinA M_joinB M_walls M_wallA M_wallB M_cost M_olds M_near M_doneMany M_undoneMany M_changeOf M_changeAt M_before M_behind M_tape M_taped res.1 res.2.1 res.2.2.1 res.2.2.2.1 res.2.2.2.2.1 res.2.2.2.2.2 M_lineMany M_testEnd M_lineEnd M_facts M_pile M_hasLaw M_far M_within M_tooNear M_dried M_isOn M_wasOn M_bodies M_kind M_traces M_traced M_holds M_size M_elements M_shifted)) (hd : dr + 3 ≤ d) (h : f_X7_compared ro M_tape M_taped M_here M_fault M_open M_laid M_act M_with = some res) : zMv l yX7_compared cX7_compared 2 (zrm d) [.ref (ρ 0)] D q (WM q ρ M_code M_doors M_price M_year M_joins M_joinA M_joinB M_walls M_wallA M_wallB M_cost M_olds M_near M_doneMany M_undoneMany M_changeOf M_changeAt M_before M_behind M_tape M_taped M_here M_fault M_open M_laid M_act M_with M_lineMany M_testEnd M_lineEnd M_facts M_pile M_hasLaw M_far M_within M_tooNear M_dried M_isOn M_wasOn M_bodies M_kind M_traces M_traced M_holds M_size M_elements M_shifted) sz (WM q ρ M_code M_doors M_price M_year M_joins M_joinA M_joinB M_walls M_wallA M_wallB M_cost M_olds M_near M_doneMany M_undoneMany M_changeOf M_changeAt M_before M_behind M_tape M_taped res.1 res.2.1 res.2.2.1 res.2.2.2.1 res.2.2.2.2.1 res.2.2.2.2.2 M_lineMany M_testEnd M_lineEnd M_facts M_pile M_hasLaw M_far M_within M_tooNear M_dried M_isOn M_wasOn M_bodies M_kind M_traces M_traced M_holds M_size M_elements M_shifted) := by
  refine zMet_v (own := RX7) (by decide) rfl (Nat.le_of_ble_eq_true rfl) ?_
  intro p e s m args below meth c A ls Q hC hW hl hret
  have hx := hC.1
  have hb := hC.2.1
  have hl : lv_has ls 2 [(0, .ref (ρ 0))] := hl
  have b35 : ∀ {x1 : Int32} {M_here : Int32} {M_fault : Int32} {M_open : Int32} {M_laid : Int32} {M_act : Nat → Int32} {M_with : Nat → Int32} {H : Heap} {locs : List Loc} {ls : Array Slot}, f_X7_compared_b35 ro x1 M_tape M_taped M_here M_fault M_open M_laid M_act M_with = some res → zW D A s.heap (WM q ρ M_code M_doors M_price M_year M_joins M_joinA M_joinB M_walls M_wallA M_wallB M_cost M_olds M_near M_doneMany M_undoneMany M_changeOf M_changeAt M_before M_behind M_tape M_taped M_here M_fault M_open M_laid M_act M_with M_lineMany M_testEnd M_lineEnd M_facts M_pile M_hasLaw M_far M_within M_tooNear M_dried M_isOn M_wasOn M_bodies M_kind M_traces M_traced M_holds M_size M_elements M_shifted) H locs → lv_has ls 2 [(0, .ref (ρ 0)), (1, .int x1)] → W p l e (zrm d) s m args below meth c H locs 0 0 Q (F0 m 35 ls []) := by
    intro x1 M_here M_fault M_open M_laid M_act M_with H locs ls h hW hl
    unfold f_X7_compared_b35 at h
    refine lv_aload_n hx hb dX7_compared_35 rfl (lv_at hl 0 rfl) ?_
    refine lv_dup hx hb dX7_compared_36 rfl ?_
    refine z_get hC hW fg_X7_171 0 WM_0 rfl dX7_compared_37 ?_
    refine lv_iconst (v := 1) hx hb dX7_compared_40 (by decide) ?_
    refine lv_iadd hx hb dX7_compared_41 ?_
    refine z_put hC hW fp_X7_171 0 WM_0 (Nat.le_of_ble_eq_true rfl) rfl rfl WMs_M_here dX7_compared_42 (fun H locs hW => ?_)
    refine lv_aload_n hx hb dX7_compared_45 rfl (lv_at hl 0 rfl) ?_
    obtain ⟨u5, eu5, h⟩ := bd_some h
    refine z_callV_v hC hW (rest := []) (c_X7_sum (dr := dr) (d := d - 1) hro (by omega) eu5) vw_X7_213 WM_0 rfl ⟨rfl, rfl⟩ (zrm_ok (by omega) (by decide)) rfl rfl hl.1 (Nat.le_of_ble_eq_true rfl) dX7_compared_46 (fun H locs hW => ?_)
    refine lv_aload_n hx hb dX7_compared_49 rfl (lv_at hl 0 rfl) ?_
    refine lv_iload_n hx hb dX7_compared_50 rfl (lv_at hl 1 rfl) ?_
    refine lv_iconst (v := 0) hx hb dX7_compared_51 (by decide) ?_
    obtain ⟨u6, eu6, h⟩ := bd_some h
    refine z_callV_v hC hW (rest := []) (c_X7_addStep (d := 0) (Nat.le_refl _) eu6) vw_X7_190 WM_0 rfl ⟨rfl, rfl⟩ (zrm_ok (by omega) (by decide)) rfl rfl hl.1 (Nat.le_of_ble_eq_true rfl) dX7_compared_52 (fun H locs hW => ?_)
    have h := Option.some.inj h
    subst h
    exact hret _ _ _ _ dX7_compared_55 hW
  unfold f_X7_compared at h
  refine lv_aload_n hx hb dX7_compared_0 rfl (lv_at hl 0 rfl) ?_
  obtain ⟨u1, eu1, h⟩ := bd_some h
  refine z_callV_v hC hW (rest := []) (c_X7_sum (dr := dr) (d := d - 1) hro (by omega) eu1) vw_X7_213 WM_0 rfl ⟨rfl, rfl⟩ (zrm_ok (by omega) (by decide)) rfl rfl hl.1 (Nat.le_of_ble_eq_true rfl) dX7_compared_1 (fun H locs hW => ?_)
  refine lv_aload_n hx hb dX7_compared_4 rfl (lv_at hl 0 rfl) ?_
  obtain ⟨u2, eu2, h⟩ := bd_some h
  refine z_callV_i hC hW (rest := []) (c_X7_look (d := 0) (Nat.le_refl _) eu2) vw_X7_186 WM_0 rfl ⟨rfl, rfl⟩ (zrm_ok (by omega) (by decide)) rfl rfl hl.1 (Nat.le_of_ble_eq_true rfl) dX7_compared_5 (fun H locs hW => ?_)
  refine lv_istore_n (lv' := [(1, .int u2), (0, .ref (ρ 0))]) hx hb dX7_compared_8 rfl hl (by decide) rfl (fun ls hl => ?_)
  refine lv_aload_n hx hb dX7_compared_9 rfl (lv_at hl 1 rfl) ?_
  refine z_get hC hW fg_X7_174 0 WM_0 rfl dX7_compared_10 ?_
  refine lv_if_ge (tgt := 34) hx hb dX7_compared_13 (by decide) (fun c3 => ?_) (fun c3 => ?_)
  · have h := ifp c3 h
    have h := Option.some.inj h
    subst h
    exact hret _ _ _ _ dX7_compared_34 hW
  · have h := ifn c3 h
    refine lv_iload_n hx hb dX7_compared_16 rfl (lv_at hl 0 rfl) ?_
    refine lv_bipush (v := 60) hx hb dX7_compared_17 (by decide) ?_
    refine lv_icmp_eq (tgt := 35) hx hb dX7_compared_19 (by decide) (fun c4 => ?_) (fun c4 => ?_)
    · have h := ifp c4 h
      exact b35 h hW (lv_sub hl [1, 0] rfl)
    · have h := ifn c4 h
      refine lv_iload_n hx hb dX7_compared_22 rfl (lv_at hl 0 rfl) ?_
      refine lv_bipush (v := 61) hx hb dX7_compared_23 (by decide) ?_
      refine lv_icmp_eq (tgt := 35) hx hb dX7_compared_25 (by decide) (fun c7 => ?_) (fun c7 => ?_)
      · have h := ifp c7 h
        exact b35 h hW (lv_sub hl [1, 0] rfl)
      · have h := ifn c7 h
        refine lv_iload_n hx hb dX7_compared_28 rfl (lv_at hl 0 rfl) ?_
        refine lv_bipush (v := 62) hx hb dX7_compared_29 (by decide) ?_
        refine lv_icmp_eq (tgt := 35) hx hb dX7_compared_31 (by decide) (fun c8 => ?_) (fun c8 => ?_)
        · have h := ifp c8 h
          exact b35 h hW (lv_sub hl [1, 0] rfl)
        · have h := ifn c8 h
          have h := Option.some.inj h
          subst h
          exact hret _ _ _ _ dX7_compared_34 hW
end CT21_m05
