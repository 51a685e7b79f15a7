section CT21_m16
variable {l : Launch} {D : va_G} {q : Nat → ClassId} {ρ : Nat → Nat} {sz : Nat} {M_code : Int32} {M_doors : Int32} {M_price : Nat → Int32} {M_year : Nat → Int32} {M_joins : Int32} {M_joinA : Nat → Int32} {M_joinB : Nat → Int32} {M_walls : Int32} {M_wallA : Nat → Int32} {M_wallB : Nat → Int32} {M_cost : Nat → Int32} {M_olds : Int32} {M_near : Int32} {M_doneMany : Int32} {M_undoneMany : Int32} {M_changeOf : Nat → Int32} {M_changeAt : Nat → Int32} {M_before : Nat → Int32} {M_behind : Nat → Int32} {M_tape : Nat → Int32} {M_taped : Int32} {M_here : Int32} {M_fault : Int32} {M_open : Int32} {M_laid : Int32} {M_act : Nat → Int32} {M_with : Nat → Int32} {M_lineMany : Nat → Int32} {M_testEnd : Nat → Int32} {M_lineEnd : Nat → Int32} {M_facts : Nat → Int32} {M_pile : Nat → Int32} {M_hasLaw : Int32} {M_far : Nat → Int32} {M_within : Nat → Int32} {M_tooNear : Nat → Int32} {M_dried : Int32} {M_isOn : Nat → Int32} {M_wasOn : Nat → Int32} {M_bodies : Int32} {M_kind : Nat → Int32} {M_traces : Int32} {M_traced : Nat → Int32} {M_holds : Nat → Int32} {M_size : Nat → Int32} {M_elements : Nat → Int64} {M_shifted : Nat → Int64}
set_option maxHeartbeats 4000000 in
set_option maxRecDepth 100000 in
theorem c_X7_whyNoPlace {a1 : Int32} {a2 : Int32} {d : Nat} {res : Int32} (hd : 2 ≤ d) (h : f_X7_whyNoPlace a1 a2 M_holds M_size = some res) : zMi l yX7_whyNoPlace cX7_whyNoPlace 3 .int (zrm d) [.ref (ρ 0), .int a1, .int a2] D q (WM q ρ M_code M_doors M_price M_year M_joins M_joinA M_joinB M_walls M_wallA M_wallB M_cost M_olds M_near M_doneMany M_undoneMany M_changeOf M_changeAt M_before M_behind M_tape M_taped M_here M_fault M_open M_laid M_act M_with M_lineMany M_testEnd M_lineEnd M_facts M_pile M_hasLaw M_far M_within M_tooNear M_dried M_isOn M_wasOn M_bodies M_kind M_traces M_traced M_holds M_size M_elements M_shifted) sz res (WM q ρ M_code M_doors M_price M_year M_joins M_joinA M_joinB M_walls M_wallA M_wallB M_cost M_olds M_near M_doneMany M_undoneMany M_changeOf M_changeAt M_before M_behind M_tape M_taped M_here M_fault M_open M_laid M_act M_with M_lineMany M_testEnd M_lineEnd M_facts M_pile M_hasLaw M_far M_within M_tooNear M_dried M_isOn M_wasOn M_bodies M_kind M_traces M_traced M_holds M_size M_elements M_shifted) := by
  refine zMet_i (own := RX7) _ (by decide) rfl (Nat.le_of_ble_eq_true rfl) ?_
  intro p e s m args below meth c A ls Q hC hW hl hret
  have hx := hC.1
  have hb := hC.2.1
  have hl : lv_has ls 3 [(0, .ref (ρ 0)), (1, .int a1), (2, .int a2)] := hl
  unfold f_X7_whyNoPlace at h
  refine lv_iload_n hx hb dX7_whyNoPlace_0 rfl (lv_at hl 1 rfl) ?_
  obtain ⟨u1, eu1, h⟩ := bd_some h
  refine z_callS_i hC hW (rest := []) (c_X7_isShelf (d := 1) (Nat.le_refl _) eu1) sw_X7_132 ⟨rfl, rfl⟩ (zrm_ok (by omega) (by decide)) rfl rfl hl.1 (Nat.le_of_ble_eq_true rfl) dX7_whyNoPlace_1 (fun H locs hW => ?_)
  refine lv_if_ne (tgt := 9) hx hb dX7_whyNoPlace_4 (by decide) (fun c2 => ?_) (fun c2 => ?_)
  · have h := ifn c2 h
    refine lv_aload_n hx hb dX7_whyNoPlace_9 rfl (lv_at hl 0 rfl) ?_
    refine z_get hC hW fg_X7_95 0 WM_0 rfl dX7_whyNoPlace_10 ?_
    refine lv_iload_n hx hb dX7_whyNoPlace_13 rfl (lv_at hl 1 rfl) ?_
    obtain ⟨g3, h⟩ := ix_some h
    refine z_iald hC hW 27 WM_27 g3 dX7_whyNoPlace_14 ?_
    refine lv_iconst (v := (-1)) hx hb dX7_whyNoPlace_15 (by decide) ?_
    refine lv_icmp_ne (tgt := 22) hx hb dX7_whyNoPlace_16 (by decide) (fun c4 => ?_) (fun c4 => ?_)
    · have h := ifn c4 h
      refine lv_aload_n hx hb dX7_whyNoPlace_22 rfl (lv_at hl 0 rfl) ?_
      refine z_get hC hW fg_X7_95 0 WM_0 rfl dX7_whyNoPlace_23 ?_
      refine lv_iload_n hx hb dX7_whyNoPlace_26 rfl (lv_at hl 1 rfl) ?_
      obtain ⟨g5, h⟩ := ix_some h
      refine z_iald hC hW 27 WM_27 g5 dX7_whyNoPlace_27 ?_
      refine lv_if_lt (tgt := 34) hx hb dX7_whyNoPlace_28 (by decide) (fun c6 => ?_) (fun c6 => ?_)
      · have h := ifp c6 h
        refine lv_iload_n hx hb dX7_whyNoPlace_34 rfl (lv_at hl 2 rfl) ?_
        refine lv_iconst (v := 0) hx hb dX7_whyNoPlace_35 (by decide) ?_
        refine lv_aload_n hx hb dX7_whyNoPlace_36 rfl (lv_at hl 0 rfl) ?_
        refine z_get hC hW fg_X7_98 0 WM_0 rfl dX7_whyNoPlace_37 ?_
        refine lv_iload_n hx hb dX7_whyNoPlace_40 rfl (lv_at hl 1 rfl) ?_
        obtain ⟨g7, h⟩ := ix_some h
        refine z_iald hC hW 28 WM_28 g7 dX7_whyNoPlace_41 ?_
        refine lv_iconst (v := 1) hx hb dX7_whyNoPlace_42 (by decide) ?_
        refine lv_isub hx hb dX7_whyNoPlace_43 ?_
        obtain ⟨u8, eu8, h⟩ := bd_some h
        refine z_callS_i hC hW (rest := []) (c_X7_in (d := 0) (Nat.le_refl _) eu8) sw_X7_114 ⟨rfl, rfl⟩ (zrm_ok (by omega) (by decide)) rfl rfl hl.1 (Nat.le_of_ble_eq_true rfl) dX7_whyNoPlace_44 (fun H locs hW => ?_)
        refine lv_if_eq (tgt := 54) hx hb dX7_whyNoPlace_47 (by decide) (fun c9 => ?_) (fun c9 => ?_)
        · have h := ifp c9 h
          refine lv_bipush (v := (-13)) hx hb dX7_whyNoPlace_54 (by decide) ?_
          have h := Option.some.inj h
          subst h
          exact hret _ _ _ _ _ dX7_whyNoPlace_56 rfl rfl hW
        · have h := ifn c9 h
          refine lv_iconst (v := 0) hx hb dX7_whyNoPlace_50 (by decide) ?_
          refine lv_goto (tgt := 56) hx hb dX7_whyNoPlace_51 (by decide) ?_
          have h := Option.some.inj h
          subst h
          exact hret _ _ _ _ _ dX7_whyNoPlace_56 rfl rfl hW
      · have h := ifn c6 h
        refine lv_bipush (v := (-12)) hx hb dX7_whyNoPlace_31 (by decide) ?_
        have h := Option.some.inj h
        subst h
        exact hret _ _ _ _ _ dX7_whyNoPlace_33 rfl rfl hW
    · have h := ifp c4 h
      refine lv_bipush (v := (-11)) hx hb dX7_whyNoPlace_19 (by decide) ?_
      have h := Option.some.inj h
      subst h
      exact hret _ _ _ _ _ dX7_whyNoPlace_21 rfl rfl hW
  · have h := ifp c2 h
    refine lv_iconst (v := (-1)) hx hb dX7_whyNoPlace_7 (by decide) ?_
    have h := Option.some.inj h
    subst h
    exact hret _ _ _ _ _ dX7_whyNoPlace_8 rfl rfl hW
set_option maxHeartbeats 4000000 in
set_option maxRecDepth 100000 in
theorem c_X7_put {a1 : Int32} {a2 : Int32} {a3 : Int64} {d : Nat} {res : Int32 × (Nat → Int64)} (hd : 3 ≤ d) (h : f_X7_put a1 a2 a3 M_holds M_size M_elements = some res) : zMi l yX7_put cX7_put 7 .int (zrm d) [.ref (ρ 0), .int a1, .int a2, .long a3] D q (WM q ρ M_code M_doors M_price M_year M_joins M_joinA M_joinB M_walls M_wallA M_wallB M_cost M_olds M_near M_doneMany M_undoneMany M_changeOf M_changeAt M_before M_behind M_tape M_taped M_here M_fault M_open M_laid M_act M_with M_lineMany M_testEnd M_lineEnd M_facts M_pile M_hasLaw M_far M_within M_tooNear M_dried M_isOn M_wasOn M_bodies M_kind M_traces M_traced M_holds M_size M_elements M_shifted) sz res.1 (WM q ρ M_code M_doors M_price M_year M_joins M_joinA M_joinB M_walls M_wallA M_wallB M_cost M_olds M_near M_doneMany M_undoneMany M_changeOf M_changeAt M_before M_behind M_tape M_taped M_here M_fault M_open M_laid M_act M_with M_lineMany M_testEnd M_lineEnd M_facts M_pile M_hasLaw M_far M_within M_tooNear M_dried M_isOn M_wasOn M_bodies M_kind M_traces M_traced M_holds M_size res.2 M_shifted) := by
  refine zMet_i (own := RX7) _ (by decide) rfl (Nat.le_of_ble_eq_true rfl) ?_
  intro p e s m args below meth c A ls Q hC hW hl hret
  have hx := hC.1
  have hb := hC.2.1
  have hl : lv_has ls 7 [(0, .ref (ρ 0)), (1, .int a1), (2, .int a2), (3, .long a3)] := hl
  have b95 : ∀ {s0 : Int64} {s1 : Int32} {M_elements : Nat → Int64} {H : Heap} {locs : List Loc} {ls : Array Slot}, f_X7_put_b95 s0 s1 M_elements = some res → zW D A s.heap (WM q ρ M_code M_doors M_price M_year M_joins M_joinA M_joinB M_walls M_wallA M_wallB M_cost M_olds M_near M_doneMany M_undoneMany M_changeOf M_changeAt M_before M_behind M_tape M_taped M_here M_fault M_open M_laid M_act M_with M_lineMany M_testEnd M_lineEnd M_facts M_pile M_hasLaw M_far M_within M_tooNear M_dried M_isOn M_wasOn M_bodies M_kind M_traces M_traced M_holds M_size M_elements M_shifted) H locs → lv_has ls 7 [] → W p l e (zrm d) s m args below meth c H locs 0 0 Q (F0 m 95 ls [.long s0, .int s1, .ref (ρ 29)]) := by
    intro s0 s1 M_elements H locs ls h hW hl
    unfold f_X7_put_b95 at h
    obtain ⟨g9, h⟩ := ix_some h
    refine z_last hC hW 29 WM_29 g9 WMs_M_elements dX7_put_95 (fun H locs hW => ?_)
    refine lv_iconst (v := 1) hx hb dX7_put_96 (by decide) ?_
    have h := Option.some.inj h
    subst h
    exact hret _ _ _ _ _ dX7_put_97 rfl rfl hW
  unfold f_X7_put at h
  refine lv_aload_n hx hb dX7_put_0 rfl (lv_at hl 0 rfl) ?_
  refine lv_iload_n hx hb dX7_put_1 rfl (lv_at hl 1 rfl) ?_
  refine lv_iload_n hx hb dX7_put_2 rfl (lv_at hl 2 rfl) ?_
  obtain ⟨u1, eu1, h⟩ := bd_some h
  refine z_callV_i hC hW (rest := []) (c_X7_whyNoPlace (d := 2) (Nat.le_refl _) eu1) vw_X7_342 WM_0 rfl ⟨rfl, rfl⟩ (zrm_ok (by omega) (by decide)) rfl rfl hl.1 (Nat.le_of_ble_eq_true rfl) dX7_put_3 (fun H locs hW => ?_)
  refine lv_istore (lv' := [(5, .int u1), (0, .ref (ρ 0)), (1, .int a1), (2, .int a2), (3, .long a3)]) hx hb dX7_put_6 hl (by decide) rfl (fun ls hl => ?_)
  refine lv_iload hx hb dX7_put_8 (lv_at hl 0 rfl) ?_
  refine lv_if_ge (tgt := 16) hx hb dX7_put_10 (by decide) (fun c2 => ?_) (fun c2 => ?_)
  · have h := ifp c2 h
    refine lv_bipush (v := (-2)) hx hb dX7_put_16 (by decide) ?_
    refine lv_aload_n hx hb dX7_put_18 rfl (lv_at hl 1 rfl) ?_
    refine z_get hC hW fg_X7_95 0 WM_0 rfl dX7_put_19 ?_
    refine lv_iload_n hx hb dX7_put_22 rfl (lv_at hl 2 rfl) ?_
    obtain ⟨g3, h⟩ := ix_some h
    refine z_iald hC hW 27 WM_27 g3 dX7_put_23 ?_
    refine lv_isub hx hb dX7_put_24 ?_
    refine lv_istore (lv' := [(6, .int ((-2) - (M_holds (Int32.toNatClampNeg a1)))), (5, .int u1), (0, .ref (ρ 0)), (1, .int a1), (2, .int a2), (3, .long a3)]) hx hb dX7_put_25 hl (by decide) rfl (fun ls hl => ?_)
    refine lv_aload_n hx hb dX7_put_27 rfl (lv_at hl 2 rfl) ?_
    refine z_get hC hW fg_X7_101 0 WM_0 rfl dX7_put_28 ?_
    refine lv_bipush (v := 60) hx hb dX7_put_31 (by decide) ?_
    refine lv_iload_n hx hb dX7_put_33 rfl (lv_at hl 3 rfl) ?_
    refine lv_imul hx hb dX7_put_34 ?_
    refine lv_iload_n hx hb dX7_put_35 rfl (lv_at hl 4 rfl) ?_
    refine lv_iadd hx hb dX7_put_36 ?_
    refine lv_iload hx hb dX7_put_37 (lv_at hl 0 rfl) ?_
    refine lv_if_ne (tgt := 49) hx hb dX7_put_39 (by decide) (fun c4 => ?_) (fun c4 => ?_)
    · have h := ifn c4 h
      refine lv_iload hx hb dX7_put_49 (lv_at hl 0 rfl) ?_
      refine lv_iconst (v := 1) hx hb dX7_put_51 (by decide) ?_
      refine lv_icmp_ne (tgt := 62) hx hb dX7_put_52 (by decide) (fun c5 => ?_) (fun c5 => ?_)
      · have h := ifn c5 h
        refine lv_iload hx hb dX7_put_62 (lv_at hl 0 rfl) ?_
        refine lv_iconst (v := 2) hx hb dX7_put_64 (by decide) ?_
        refine lv_icmp_ne (tgt := 74) hx hb dX7_put_65 (by decide) (fun c6 => ?_) (fun c6 => ?_)
        · have h := ifn c6 h
          refine lv_iload hx hb dX7_put_74 (lv_at hl 0 rfl) ?_
          refine lv_iconst (v := 3) hx hb dX7_put_76 (by decide) ?_
          refine lv_icmp_ne (tgt := 84) hx hb dX7_put_77 (by decide) (fun c7 => ?_) (fun c7 => ?_)
          · have h := ifn c7 h
            refine lv_lload_n hx hb dX7_put_84 rfl (lv_at hl 5 rfl) ?_
            refine lv_lconst (v := 0) hx hb dX7_put_85 (by decide) ?_
            refine W.lcmp hx hb dX7_put_86 ?_
            refine lv_if_eq (tgt := 94) hx hb dX7_put_87 (by decide) (fun c8 => ?_) (fun c8 => ?_)
            · have h := ifp c8 h
              refine lv_lconst (v := 0) hx hb dX7_put_94 (by decide) ?_
              exact b95 h hW (lv_sub hl [] rfl)
            · have h := ifn c8 h
              refine lv_lconst (v := 1) hx hb dX7_put_90 (by decide) ?_
              refine lv_goto (tgt := 95) hx hb dX7_put_91 (by decide) ?_
              exact b95 h hW (lv_sub hl [] rfl)
          · have h := ifp c7 h
            refine lv_lload_n hx hb dX7_put_80 rfl (lv_at hl 5 rfl) ?_
            refine lv_goto (tgt := 95) hx hb dX7_put_81 (by decide) ?_
            exact b95 h hW (lv_sub hl [] rfl)
        · have h := ifp c6 h
          refine lv_lload_n hx hb dX7_put_68 rfl (lv_at hl 5 rfl) ?_
          refine lv_l2i hx hb dX7_put_69 rfl ?_
          refine lv_i2l hx hb dX7_put_70 rfl ?_
          refine lv_goto (tgt := 95) hx hb dX7_put_71 (by decide) ?_
          exact b95 h hW (lv_sub hl [] rfl)
      · have h := ifp c5 h
        refine lv_lload_n hx hb dX7_put_55 rfl (lv_at hl 5 rfl) ?_
        refine lv_l2i hx hb dX7_put_56 rfl ?_
        refine lv_i2s hx hb dX7_put_57 rfl ?_
        refine lv_i2l hx hb dX7_put_58 rfl ?_
        refine lv_goto (tgt := 95) hx hb dX7_put_59 (by decide) ?_
        exact b95 h hW (lv_sub hl [] rfl)
    · have h := ifp c4 h
      refine lv_lload_n hx hb dX7_put_42 rfl (lv_at hl 5 rfl) ?_
      refine lv_l2i hx hb dX7_put_43 rfl ?_
      refine lv_i2b hx hb dX7_put_44 rfl ?_
      refine lv_i2l hx hb dX7_put_45 rfl ?_
      refine lv_goto (tgt := 95) hx hb dX7_put_46 (by decide) ?_
      exact b95 h hW (lv_sub hl [] rfl)
  · have h := ifn c2 h
    refine lv_iload hx hb dX7_put_13 (lv_at hl 0 rfl) ?_
    have h := Option.some.inj h
    subst h
    exact hret _ _ _ _ _ dX7_put_15 rfl rfl hW
set_option maxHeartbeats 4000000 in
set_option maxRecDepth 100000 in
theorem c_X7_element {a1 : Int32} {a2 : Int32} {d : Nat} {res : Int64} (hd : 3 ≤ d) (h : f_X7_element a1 a2 M_holds M_size M_elements = some res) : zMl l yX7_element cX7_element 3 (zrm d) [.ref (ρ 0), .int a1, .int a2] D q (WM q ρ M_code M_doors M_price M_year M_joins M_joinA M_joinB M_walls M_wallA M_wallB M_cost M_olds M_near M_doneMany M_undoneMany M_changeOf M_changeAt M_before M_behind M_tape M_taped M_here M_fault M_open M_laid M_act M_with M_lineMany M_testEnd M_lineEnd M_facts M_pile M_hasLaw M_far M_within M_tooNear M_dried M_isOn M_wasOn M_bodies M_kind M_traces M_traced M_holds M_size M_elements M_shifted) sz res (WM q ρ M_code M_doors M_price M_year M_joins M_joinA M_joinB M_walls M_wallA M_wallB M_cost M_olds M_near M_doneMany M_undoneMany M_changeOf M_changeAt M_before M_behind M_tape M_taped M_here M_fault M_open M_laid M_act M_with M_lineMany M_testEnd M_lineEnd M_facts M_pile M_hasLaw M_far M_within M_tooNear M_dried M_isOn M_wasOn M_bodies M_kind M_traces M_traced M_holds M_size M_elements M_shifted) := by
  refine zMet_l (own := RX7) _ (by decide) rfl (Nat.le_of_ble_eq_true rfl) ?_
  intro p e s m args below meth c A ls Q hC hW hl hret
  have hx := hC.1
  have hb := hC.2.1
  have hl : lv_has ls 3 [(0, .ref (ρ 0)), (1, .int a1), (2, .int a2)] := hl
  unfold f_X7_element at h
  refine lv_aload_n hx hb dX7_element_0 rfl (lv_at hl 0 rfl) ?_
  refine lv_iload_n hx hb dX7_element_1 rfl (lv_at hl 1 rfl) ?_
  refine lv_iload_n hx hb dX7_element_2 rfl (lv_at hl 2 rfl) ?_
  obtain ⟨u1, eu1, h⟩ := bd_some h
  refine z_callV_i hC hW (rest := []) (c_X7_whyNoPlace (d := 2) (Nat.le_refl _) eu1) vw_X7_342 WM_0 rfl ⟨rfl, rfl⟩ (zrm_ok (by omega) (by decide)) rfl rfl hl.1 (Nat.le_of_ble_eq_true rfl) dX7_element_3 (fun H locs hW => ?_)
  refine lv_if_ge (tgt := 15) hx hb dX7_element_6 (by decide) (fun c2 => ?_) (fun c2 => ?_)
  · have h := ifp c2 h
    refine lv_aload_n hx hb dX7_element_15 rfl (lv_at hl 0 rfl) ?_
    refine z_get hC hW fg_X7_101 0 WM_0 rfl dX7_element_16 ?_
    refine lv_bipush (v := 60) hx hb dX7_element_19 (by decide) ?_
    refine lv_iload_n hx hb dX7_element_21 rfl (lv_at hl 1 rfl) ?_
    refine lv_imul hx hb dX7_element_22 ?_
    refine lv_iload_n hx hb dX7_element_23 rfl (lv_at hl 2 rfl) ?_
    refine lv_iadd hx hb dX7_element_24 ?_
    obtain ⟨g3, h⟩ := ix_some h
    refine z_lald hC hW 29 WM_29 g3 dX7_element_25 ?_
    have h := Option.some.inj h
    subst h
    exact hret _ _ _ _ _ dX7_element_26 rfl hW
  · have h := ifn c2 h
    refine lv_ldc2 (v := (-9223372036854775808)) hx hb hC.2.2.1 (hC.2.2.2.1 _ wd_1324) dX7_element_9 ?_
    refine lv_goto (tgt := 26) hx hb dX7_element_12 (by decide) ?_
    have h := Option.some.inj h
    subst h
    exact hret _ _ _ _ _ dX7_element_26 rfl hW
set_option maxHeartbeats 4000000 in
set_option maxRecDepth 100000 in
theorem c_X7_shift {a1 : Int32} {a2 : Int32} {a3 : Int32} {a4 : Int32} {a5 : Int32} {d : Nat} {res : Int32 × (Nat → Int64) × (Nat → Int64)} (hd : 2 ≤ d) (h : f_X7_shift a1 a2 a3 a4 a5 M_holds M_size M_elements M_shifted = some res) : zMi l yX7_shift cX7_shift 7 .int (zrm d) [.ref (ρ 0), .int a1, .int a2, .int a3, .int a4, .int a5] D q (WM q ρ M_code M_doors M_price M_year M_joins M_joinA M_joinB M_walls M_wallA M_wallB M_cost M_olds M_near M_doneMany M_undoneMany M_changeOf M_changeAt M_before M_behind M_tape M_taped M_here M_fault M_open M_laid M_act M_with M_lineMany M_testEnd M_lineEnd M_facts M_pile M_hasLaw M_far M_within M_tooNear M_dried M_isOn M_wasOn M_bodies M_kind M_traces M_traced M_holds M_size M_elements M_shifted) sz res.1 (WM q ρ M_code M_doors M_price M_year M_joins M_joinA M_joinB M_walls M_wallA M_wallB M_cost M_olds M_near M_doneMany M_undoneMany M_changeOf M_changeAt M_before M_behind M_tape M_taped M_here M_fault M_open M_laid M_act M_with M_lineMany M_testEnd M_lineEnd M_facts M_pile M_hasLaw M_far M_within M_tooNear M_dried M_isOn M_wasOn M_bodies M_kind M_traces M_traced M_holds M_size res.2.1 res.2.2) := by
  refine zMet_i (own := RX7) _ (by decide) rfl (Nat.le_of_ble_eq_true rfl) ?_
  intro p e s m args below meth c A ls Q hC hW hl hret
  have hx := hC.1
  have hb := hC.2.1
  have hl : lv_has ls 7 [(0, .ref (ρ 0)), (1, .int a1), (2, .int a2), (3, .int a3), (4, .int a4), (5, .int a5)] := hl
  have b150 : ∀ {x3 : Int32} {x4 : Int32} {x5 : Int32} {M_shifted : Nat → Int64} {n : Nat} {x6 : Int32} {M_elements : Nat → Int64} {H : Heap} {locs : List Loc} {ls : Array Slot}, f_X7_shift_b150 x3 x4 x5 M_shifted n x6 M_elements = some res → zW D A s.heap (WM q ρ M_code M_doors M_price M_year M_joins M_joinA M_joinB M_walls M_wallA M_wallB M_cost M_olds M_near M_doneMany M_undoneMany M_changeOf M_changeAt M_before M_behind M_tape M_taped M_here M_fault M_open M_laid M_act M_with M_lineMany M_testEnd M_lineEnd M_facts M_pile M_hasLaw M_far M_within M_tooNear M_dried M_isOn M_wasOn M_bodies M_kind M_traces M_traced M_holds M_size M_elements M_shifted) H locs → lv_has ls 7 [(0, .ref (ρ 0)), (3, .int x3), (4, .int x4), (5, .int x5), (6, .int x6)] → W p l e (zrm d) s m args below meth c H locs 0 0 Q (F0 m 150 ls []) := by
    intro x3 x4 x5 M_shifted
    intro n
    induction n with
    | zero =>
      intro x6 M_elements H locs ls h
      rw [f_X7_shift_b150] at h
      cases h
    | succ n ih =>
      intro x6 M_elements H locs ls h hW hl
      rw [f_X7_shift_b150] at h
      refine lv_iload hx hb dX7_shift_150 (lv_at hl 4 rfl) ?_
      refine lv_iload hx hb dX7_shift_152 (lv_at hl 3 rfl) ?_
      refine lv_icmp_ge (tgt := 185) hx hb dX7_shift_154 (by decide) (fun c22 => ?_) (fun c22 => ?_)
      · have h := ifp c22 h
        refine lv_iload hx hb dX7_shift_185 (lv_at hl 3 rfl) ?_
        have h := Option.some.inj h
        subst h
        exact hret _ _ _ _ _ dX7_shift_187 rfl rfl hW
      · have h := ifn c22 h
        refine lv_aload_n hx hb dX7_shift_157 rfl (lv_at hl 0 rfl) ?_
        refine z_get hC hW fg_X7_101 0 WM_0 rfl dX7_shift_158 ?_
        refine lv_bipush (v := 60) hx hb dX7_shift_161 (by decide) ?_
        refine lv_iload_n hx hb dX7_shift_163 rfl (lv_at hl 1 rfl) ?_
        refine lv_imul hx hb dX7_shift_164 ?_
        refine lv_iload hx hb dX7_shift_165 (lv_at hl 2 rfl) ?_
        refine lv_iadd hx hb dX7_shift_167 ?_
        refine lv_iload hx hb dX7_shift_168 (lv_at hl 4 rfl) ?_
        refine lv_iadd hx hb dX7_shift_170 ?_
        refine lv_aload_n hx hb dX7_shift_171 rfl (lv_at hl 0 rfl) ?_
        refine z_get hC hW fg_X7_105 0 WM_0 rfl dX7_shift_172 ?_
        refine lv_iload hx hb dX7_shift_175 (lv_at hl 4 rfl) ?_
        obtain ⟨g23, h⟩ := ix_some h
        refine z_lald hC hW 30 WM_30 g23 dX7_shift_177 ?_
        obtain ⟨g24, h⟩ := ix_some h
        refine z_last hC hW 29 WM_29 g24 WMs_M_elements dX7_shift_178 (fun H locs hW => ?_)
        refine lv_iinc (v := (x6 + 1)) (lv' := [(6, .int (x6 + 1)), (0, .ref (ρ 0)), (3, .int x3), (4, .int x4), (5, .int x5)]) hx hb dX7_shift_179 hl (k := 4) rfl rfl (by decide) rfl (fun ls hl => ?_)
        refine lv_goto (tgt := 150) hx hb dX7_shift_182 (by decide) ?_
        exact ih h hW (lv_sub hl [1, 2, 3, 4, 0] rfl)
  have b113 : ∀ {x1 : Int32} {x2 : Int32} {x3 : Int32} {x4 : Int32} {x5 : Int32} {M_elements : Nat → Int64} {n : Nat} {x6 : Int32} {M_shifted : Nat → Int64} {H : Heap} {locs : List Loc} {ls : Array Slot}, f_X7_shift_b113 x1 x2 x3 x4 x5 M_elements n x6 M_shifted = some res → zW D A s.heap (WM q ρ M_code M_doors M_price M_year M_joins M_joinA M_joinB M_walls M_wallA M_wallB M_cost M_olds M_near M_doneMany M_undoneMany M_changeOf M_changeAt M_before M_behind M_tape M_taped M_here M_fault M_open M_laid M_act M_with M_lineMany M_testEnd M_lineEnd M_facts M_pile M_hasLaw M_far M_within M_tooNear M_dried M_isOn M_wasOn M_bodies M_kind M_traces M_traced M_holds M_size M_elements M_shifted) H locs → lv_has ls 7 [(0, .ref (ρ 0)), (1, .int x1), (2, .int x2), (3, .int x3), (4, .int x4), (5, .int x5), (6, .int x6)] → W p l e (zrm d) s m args below meth c H locs 0 0 Q (F0 m 113 ls []) := by
    intro x1 x2 x3 x4 x5 M_elements
    intro n
    induction n with
    | zero =>
      intro x6 M_shifted H locs ls h
      rw [f_X7_shift_b113] at h
      cases h
    | succ n ih =>
      intro x6 M_shifted H locs ls h hW hl
      rw [f_X7_shift_b113] at h
      refine lv_iload hx hb dX7_shift_113 (lv_at hl 6 rfl) ?_
      refine lv_iload hx hb dX7_shift_115 (lv_at hl 5 rfl) ?_
      refine lv_icmp_ge (tgt := 147) hx hb dX7_shift_117 (by decide) (fun c21 => ?_) (fun c21 => ?_)
      · have h := ifp c21 h
        refine lv_iconst (v := 0) hx hb dX7_shift_147 (by decide) ?_
        refine lv_istore (lv' := [(6, .int 0), (0, .ref (ρ 0)), (1, .int x1), (2, .int x2), (3, .int x3), (4, .int x4), (5, .int x5)]) hx hb dX7_shift_148 hl (by decide) rfl (fun ls hl => ?_)
        exact b150 h hW (lv_sub hl [1, 4, 5, 6, 0] rfl)
      · have h := ifn c21 h
        refine lv_aload_n hx hb dX7_shift_120 rfl (lv_at hl 0 rfl) ?_
        refine z_get hC hW fg_X7_105 0 WM_0 rfl dX7_shift_121 ?_
        refine lv_iload hx hb dX7_shift_124 (lv_at hl 6 rfl) ?_
        refine lv_aload_n hx hb dX7_shift_126 rfl (lv_at hl 0 rfl) ?_
        refine z_get hC hW fg_X7_101 0 WM_0 rfl dX7_shift_127 ?_
        refine lv_bipush (v := 60) hx hb dX7_shift_130 (by decide) ?_
        refine lv_iload_n hx hb dX7_shift_132 rfl (lv_at hl 1 rfl) ?_
        refine lv_imul hx hb dX7_shift_133 ?_
        refine lv_iload_n hx hb dX7_shift_134 rfl (lv_at hl 2 rfl) ?_
        refine lv_iadd hx hb dX7_shift_135 ?_
        refine lv_iload hx hb dX7_shift_136 (lv_at hl 6 rfl) ?_
        refine lv_iadd hx hb dX7_shift_138 ?_
        obtain ⟨g25, h⟩ := ix_some h
        refine z_lald hC hW 29 WM_29 g25 dX7_shift_139 ?_
        obtain ⟨g26, h⟩ := ix_some h
        refine z_last hC hW 30 WM_30 g26 WMs_M_shifted dX7_shift_140 (fun H locs hW => ?_)
        refine lv_iinc (v := (x6 + 1)) (lv' := [(6, .int (x6 + 1)), (0, .ref (ρ 0)), (1, .int x1), (2, .int x2), (3, .int x3), (4, .int x4), (5, .int x5)]) hx hb dX7_shift_141 hl (k := 6) rfl rfl (by decide) rfl (fun ls hl => ?_)
        refine lv_goto (tgt := 113) hx hb dX7_shift_144 (by decide) ?_
        exact ih h hW (lv_sub hl [1, 2, 3, 4, 5, 6, 0] rfl)
  unfold f_X7_shift at h
  refine lv_iload_n hx hb dX7_shift_0 rfl (lv_at hl 1 rfl) ?_
  obtain ⟨u1, eu1, h⟩ := bd_some h
  refine z_callS_i hC hW (rest := []) (c_X7_isShelf (d := 1) (Nat.le_refl _) eu1) sw_X7_132 ⟨rfl, rfl⟩ (zrm_ok (by omega) (by decide)) rfl rfl hl.1 (Nat.le_of_ble_eq_true rfl) dX7_shift_1 (fun H locs hW => ?_)
  refine lv_if_eq (tgt := 14) hx hb dX7_shift_4 (by decide) (fun c2 => ?_) (fun c2 => ?_)
  · have h := ifp c2 h
    refine lv_iconst (v := (-1)) hx hb dX7_shift_14 (by decide) ?_
    have h := Option.some.inj h
    subst h
    exact hret _ _ _ _ _ dX7_shift_15 rfl rfl hW
  · have h := ifn c2 h
    refine lv_iload_n hx hb dX7_shift_7 rfl (lv_at hl 3 rfl) ?_
    obtain ⟨u3, eu3, h⟩ := bd_some h
    refine z_callS_i hC hW (rest := []) (c_X7_isShelf (d := 1) (Nat.le_refl _) eu3) sw_X7_132 ⟨rfl, rfl⟩ (zrm_ok (by omega) (by decide)) rfl rfl hl.1 (Nat.le_of_ble_eq_true rfl) dX7_shift_8 (fun H locs hW => ?_)
    refine lv_if_ne (tgt := 16) hx hb dX7_shift_11 (by decide) (fun c4 => ?_) (fun c4 => ?_)
    · have h := ifn c4 h
      refine lv_aload_n hx hb dX7_shift_16 rfl (lv_at hl 0 rfl) ?_
      refine z_get hC hW fg_X7_95 0 WM_0 rfl dX7_shift_17 ?_
      refine lv_iload_n hx hb dX7_shift_20 rfl (lv_at hl 1 rfl) ?_
      obtain ⟨g5, h⟩ := ix_some h
      refine z_iald hC hW 27 WM_27 g5 dX7_shift_21 ?_
      refine lv_iconst (v := (-1)) hx hb dX7_shift_22 (by decide) ?_
      refine lv_icmp_eq (tgt := 36) hx hb dX7_shift_23 (by decide) (fun c6 => ?_) (fun c6 => ?_)
      · have h := ifp c6 h
        refine lv_bipush (v := (-11)) hx hb dX7_shift_36 (by decide) ?_
        have h := Option.some.inj h
        subst h
        exact hret _ _ _ _ _ dX7_shift_38 rfl rfl hW
      · have h := ifn c6 h
        refine lv_aload_n hx hb dX7_shift_26 rfl (lv_at hl 0 rfl) ?_
        refine z_get hC hW fg_X7_95 0 WM_0 rfl dX7_shift_27 ?_
        refine lv_iload_n hx hb dX7_shift_30 rfl (lv_at hl 3 rfl) ?_
        obtain ⟨g7, h⟩ := ix_some h
        refine z_iald hC hW 27 WM_27 g7 dX7_shift_31 ?_
        refine lv_iconst (v := (-1)) hx hb dX7_shift_32 (by decide) ?_
        refine lv_icmp_ne (tgt := 39) hx hb dX7_shift_33 (by decide) (fun c8 => ?_) (fun c8 => ?_)
        · have h := ifn c8 h
          refine lv_aload_n hx hb dX7_shift_39 rfl (lv_at hl 0 rfl) ?_
          refine z_get hC hW fg_X7_95 0 WM_0 rfl dX7_shift_40 ?_
          refine lv_iload_n hx hb dX7_shift_43 rfl (lv_at hl 1 rfl) ?_
          obtain ⟨g9, h⟩ := ix_some h
          refine z_iald hC hW 27 WM_27 g9 dX7_shift_44 ?_
          refine lv_if_ge (tgt := 63) hx hb dX7_shift_45 (by decide) (fun c10 => ?_) (fun c10 => ?_)
          · have h := ifp c10 h
            refine lv_bipush (v := (-12)) hx hb dX7_shift_63 (by decide) ?_
            have h := Option.some.inj h
            subst h
            exact hret _ _ _ _ _ dX7_shift_65 rfl rfl hW
          · have h := ifn c10 h
            refine lv_aload_n hx hb dX7_shift_48 rfl (lv_at hl 0 rfl) ?_
            refine z_get hC hW fg_X7_95 0 WM_0 rfl dX7_shift_49 ?_
            refine lv_iload_n hx hb dX7_shift_52 rfl (lv_at hl 1 rfl) ?_
            obtain ⟨g11, h⟩ := ix_some h
            refine z_iald hC hW 27 WM_27 g11 dX7_shift_53 ?_
            refine lv_aload_n hx hb dX7_shift_54 rfl (lv_at hl 0 rfl) ?_
            refine z_get hC hW fg_X7_95 0 WM_0 rfl dX7_shift_55 ?_
            refine lv_iload_n hx hb dX7_shift_58 rfl (lv_at hl 3 rfl) ?_
            obtain ⟨g12, h⟩ := ix_some h
            refine z_iald hC hW 27 WM_27 g12 dX7_shift_59 ?_
            refine lv_icmp_eq (tgt := 66) hx hb dX7_shift_60 (by decide) (fun c13 => ?_) (fun c13 => ?_)
            · have h := ifp c13 h
              refine lv_iload hx hb dX7_shift_66 (lv_at hl 5 rfl) ?_
              refine lv_if_lt (tgt := 107) hx hb dX7_shift_68 (by decide) (fun c14 => ?_) (fun c14 => ?_)
              · have h := ifp c14 h
                refine lv_bipush (v := (-13)) hx hb dX7_shift_107 (by decide) ?_
                have h := Option.some.inj h
                subst h
                exact hret _ _ _ _ _ dX7_shift_109 rfl rfl hW
              · have h := ifn c14 h
                refine lv_iload_n hx hb dX7_shift_71 rfl (lv_at hl 2 rfl) ?_
                refine lv_if_lt (tgt := 107) hx hb dX7_shift_72 (by decide) (fun c15 => ?_) (fun c15 => ?_)
                · have h := ifp c15 h
                  refine lv_bipush (v := (-13)) hx hb dX7_shift_107 (by decide) ?_
                  have h := Option.some.inj h
                  subst h
                  exact hret _ _ _ _ _ dX7_shift_109 rfl rfl hW
                · have h := ifn c15 h
                  refine lv_iload hx hb dX7_shift_75 (lv_at hl 4 rfl) ?_
                  refine lv_if_lt (tgt := 107) hx hb dX7_shift_77 (by decide) (fun c16 => ?_) (fun c16 => ?_)
                  · have h := ifp c16 h
                    refine lv_bipush (v := (-13)) hx hb dX7_shift_107 (by decide) ?_
                    have h := Option.some.inj h
                    subst h
                    exact hret _ _ _ _ _ dX7_shift_109 rfl rfl hW
                  · have h := ifn c16 h
                    refine lv_iload_n hx hb dX7_shift_80 rfl (lv_at hl 2 rfl) ?_
                    refine lv_aload_n hx hb dX7_shift_81 rfl (lv_at hl 0 rfl) ?_
                    refine z_get hC hW fg_X7_98 0 WM_0 rfl dX7_shift_82 ?_
                    refine lv_iload_n hx hb dX7_shift_85 rfl (lv_at hl 1 rfl) ?_
                    obtain ⟨g17, h⟩ := ix_some h
                    refine z_iald hC hW 28 WM_28 g17 dX7_shift_86 ?_
                    refine lv_iload hx hb dX7_shift_87 (lv_at hl 5 rfl) ?_
                    refine lv_isub hx hb dX7_shift_89 ?_
                    refine lv_icmp_gt (tgt := 107) hx hb dX7_shift_90 (by decide) (fun c18 => ?_) (fun c18 => ?_)
                    · have h := ifp c18 h
                      refine lv_bipush (v := (-13)) hx hb dX7_shift_107 (by decide) ?_
                      have h := Option.some.inj h
                      subst h
                      exact hret _ _ _ _ _ dX7_shift_109 rfl rfl hW
                    · have h := ifn c18 h
                      refine lv_iload hx hb dX7_shift_93 (lv_at hl 4 rfl) ?_
                      refine lv_aload_n hx hb dX7_shift_95 rfl (lv_at hl 0 rfl) ?_
                      refine z_get hC hW fg_X7_98 0 WM_0 rfl dX7_shift_96 ?_
                      refine lv_iload_n hx hb dX7_shift_99 rfl (lv_at hl 3 rfl) ?_
                      obtain ⟨g19, h⟩ := ix_some h
                      refine z_iald hC hW 28 WM_28 g19 dX7_shift_100 ?_
                      refine lv_iload hx hb dX7_shift_101 (lv_at hl 5 rfl) ?_
                      refine lv_isub hx hb dX7_shift_103 ?_
                      refine lv_icmp_le (tgt := 110) hx hb dX7_shift_104 (by decide) (fun c20 => ?_) (fun c20 => ?_)
                      · have h := ifp c20 h
                        refine lv_iconst (v := 0) hx hb dX7_shift_110 (by decide) ?_
                        refine lv_istore (lv' := [(6, .int 0), (0, .ref (ρ 0)), (1, .int a1), (2, .int a2), (3, .int a3), (4, .int a4), (5, .int a5)]) hx hb dX7_shift_111 hl (by decide) rfl (fun ls hl => ?_)
                        exact b113 h hW (lv_sub hl [1, 2, 3, 4, 5, 6, 0] rfl)
                      · have h := ifn c20 h
                        refine lv_bipush (v := (-13)) hx hb dX7_shift_107 (by decide) ?_
                        have h := Option.some.inj h
                        subst h
                        exact hret _ _ _ _ _ dX7_shift_109 rfl rfl hW
            · have h := ifn c13 h
              refine lv_bipush (v := (-12)) hx hb dX7_shift_63 (by decide) ?_
              have h := Option.some.inj h
              subst h
              exact hret _ _ _ _ _ dX7_shift_65 rfl rfl hW
        · have h := ifp c8 h
          refine lv_bipush (v := (-11)) hx hb dX7_shift_36 (by decide) ?_
          have h := Option.some.inj h
          subst h
          exact hret _ _ _ _ _ dX7_shift_38 rfl rfl hW
    · have h := ifp c4 h
      refine lv_iconst (v := (-1)) hx hb dX7_shift_14 (by decide) ?_
      have h := Option.some.inj h
      subst h
      exact hret _ _ _ _ _ dX7_shift_15 rfl rfl hW
end CT21_m16
