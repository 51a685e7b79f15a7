section CT21_m17
variable {l : Launch} {D : va_G} {q : Nat → ClassId} {ρ : Nat → Nat} {sz : Nat} {M_code : Int32} {M_doors : Int32} {M_price : Nat → Int32} {M_year : Nat → Int32} {M_joins : Int32} {M_joinA : Nat → Int32} {M_joinB : Nat → Int32} {M_walls : Int32} {M_wallA : Nat → Int32} {M_wallB : Nat → Int32} {M_cost : Nat → Int32} {M_olds : Int32} {M_near : Int32} {M_doneMany : Int32} {M_undoneMany : Int32} {M_changeOf : Nat → Int32} {M_changeAt : Nat → Int32} {M_before : Nat → Int32} {M_behind : Nat → Int32} {M_tape : Nat → Int32} {M_taped : Int32} {M_here : Int32} {M_fault : Int32} {M_open : Int32} {M_laid : Int32} {M_act : Nat → Int32} {M_with : Nat → Int32} {M_lineMany : Nat → Int32} {M_testEnd : Nat → Int32} {M_lineEnd : Nat → Int32} {M_facts : Nat → Int32} {M_pile : Nat → Int32} {M_hasLaw : Int32} {M_far : Nat → Int32} {M_within : Nat → Int32} {M_tooNear : Nat → Int32} {M_dried : Int32} {M_isOn : Nat → Int32} {M_wasOn : Nat → Int32} {M_bodies : Int32} {M_kind : Nat → Int32} {M_traces : Int32} {M_traced : Nat → Int32} {M_holds : Nat → Int32} {M_size : Nat → Int32} {M_elements : Nat → Int64} {M_shifted : Nat → Int64}
set_option maxHeartbeats 4000000 in
set_option maxRecDepth 100000 in
theorem c_X7_taken {a1 : Int32} {a2 : Int32} {d : Nat} {res : Int32} (hd : 2 ≤ d) (h : f_X7_taken a1 a2 M_kind M_holds = some res) : zMi l yX7_taken cX7_taken 3 .int (zrm d) [.ref (ρ 0), .int a1, .int a2] D q (WM q ρ M_code M_doors M_price M_year M_joins M_joinA M_joinB M_walls M_wallA M_wallB M_cost M_olds M_near M_doneMany M_undoneMany M_changeOf M_changeAt M_before M_behind M_tape M_taped M_here M_fault M_open M_laid M_act M_with M_lineMany M_testEnd M_lineEnd M_facts M_pile M_hasLaw M_far M_within M_tooNear M_dried M_isOn M_wasOn M_bodies M_kind M_traces M_traced M_holds M_size M_elements M_shifted) sz res (WM q ρ M_code M_doors M_price M_year M_joins M_joinA M_joinB M_walls M_wallA M_wallB M_cost M_olds M_near M_doneMany M_undoneMany M_changeOf M_changeAt M_before M_behind M_tape M_taped M_here M_fault M_open M_laid M_act M_with M_lineMany M_testEnd M_lineEnd M_facts M_pile M_hasLaw M_far M_within M_tooNear M_dried M_isOn M_wasOn M_bodies M_kind M_traces M_traced M_holds M_size M_elements M_shifted) := by
  refine zMet_i (own := RX7) _ (by decide) rfl (Nat.le_of_ble_eq_true rfl) ?_
  intro p e s m args below meth c A ls Q hC hW hl hret
  have hx := hC.1
  have hb := hC.2.1
  have hl : lv_has ls 3 [(0, .ref (ρ 0)), (1, .int a1), (2, .int a2)] := hl
  unfold f_X7_taken at h
  refine lv_iload_n hx hb dX7_taken_0 rfl (lv_at hl 1 rfl) ?_
  obtain ⟨u1, eu1, h⟩ := bd_some h
  refine z_callS_i hC hW (rest := []) (c_X7_isShelf (d := 1) (Nat.le_refl _) eu1) sw_X7_132 ⟨rfl, rfl⟩ (zrm_ok (by omega) (by decide)) rfl rfl hl.1 (Nat.le_of_ble_eq_true rfl) dX7_taken_1 (fun H locs hW => ?_)
  refine lv_if_eq (tgt := 17) hx hb dX7_taken_4 (by decide) (fun c2 => ?_) (fun c2 => ?_)
  · have h := ifp c2 h
    refine lv_iconst (v := (-1)) hx hb dX7_taken_17 (by decide) ?_
    have h := Option.some.inj h
    subst h
    exact hret _ _ _ _ _ dX7_taken_18 rfl rfl hW
  · have h := ifn c2 h
    refine lv_iload_n hx hb dX7_taken_7 rfl (lv_at hl 2 rfl) ?_
    refine lv_iconst (v := 0) hx hb dX7_taken_8 (by decide) ?_
    refine lv_bipush (v := 7) hx hb dX7_taken_9 (by decide) ?_
    obtain ⟨u3, eu3, h⟩ := bd_some h
    refine z_callS_i hC hW (rest := []) (c_X7_in (d := 0) (Nat.le_refl _) eu3) sw_X7_114 ⟨rfl, rfl⟩ (zrm_ok (by omega) (by decide)) rfl rfl hl.1 (Nat.le_of_ble_eq_true rfl) dX7_taken_11 (fun H locs hW => ?_)
    refine lv_if_ne (tgt := 19) hx hb dX7_taken_14 (by decide) (fun c4 => ?_) (fun c4 => ?_)
    · have h := ifn c4 h
      refine lv_aload_n hx hb dX7_taken_19 rfl (lv_at hl 0 rfl) ?_
      refine z_get hC hW fg_X7_95 0 WM_0 rfl dX7_taken_20 ?_
      refine lv_iload_n hx hb dX7_taken_23 rfl (lv_at hl 1 rfl) ?_
      obtain ⟨g5, h⟩ := ix_some h
      refine z_iald hC hW 27 WM_27 g5 dX7_taken_24 ?_
      refine lv_iconst (v := (-1)) hx hb dX7_taken_25 (by decide) ?_
      refine lv_icmp_ne (tgt := 32) hx hb dX7_taken_26 (by decide) (fun c6 => ?_) (fun c6 => ?_)
      · have h := ifn c6 h
        refine lv_aload_n hx hb dX7_taken_32 rfl (lv_at hl 0 rfl) ?_
        refine z_get hC hW fg_X7_95 0 WM_0 rfl dX7_taken_33 ?_
        refine lv_iload_n hx hb dX7_taken_36 rfl (lv_at hl 1 rfl) ?_
        obtain ⟨g7, h⟩ := ix_some h
        refine z_iald hC hW 27 WM_27 g7 dX7_taken_37 ?_
        refine lv_if_lt (tgt := 73) hx hb dX7_taken_38 (by decide) (fun c8 => ?_) (fun c8 => ?_)
        · have h := ifp c8 h
          refine lv_bipush (v := (-12)) hx hb dX7_taken_73 (by decide) ?_
          have h := Option.some.inj h
          subst h
          exact hret _ _ _ _ _ dX7_taken_75 rfl rfl hW
        · have h := ifn c8 h
          refine lv_aload_n hx hb dX7_taken_41 rfl (lv_at hl 0 rfl) ?_
          refine z_get hC hW fg_X7_89 0 WM_0 rfl dX7_taken_42 ?_
          refine lv_aload_n hx hb dX7_taken_45 rfl (lv_at hl 0 rfl) ?_
          refine z_get hC hW fg_X7_95 0 WM_0 rfl dX7_taken_46 ?_
          refine lv_iload_n hx hb dX7_taken_49 rfl (lv_at hl 1 rfl) ?_
          obtain ⟨g9, h⟩ := ix_some h
          refine z_iald hC hW 27 WM_27 g9 dX7_taken_50 ?_
          obtain ⟨g10, h⟩ := ix_some h
          refine z_iald hC hW 25 WM_25 g10 dX7_taken_51 ?_
          refine lv_iload_n hx hb dX7_taken_52 rfl (lv_at hl 2 rfl) ?_
          obtain ⟨u11, eu11, h⟩ := bd_some h
          refine z_callS_i hC hW (rest := []) (c_X7_isUnder (d := 0) (Nat.le_refl _) eu11) sw_X7_306 ⟨rfl, rfl⟩ (zrm_ok (by omega) (by decide)) rfl rfl hl.1 (Nat.le_of_ble_eq_true rfl) dX7_taken_53 (fun H locs hW => ?_)
          refine lv_if_eq (tgt := 73) hx hb dX7_taken_56 (by decide) (fun c12 => ?_) (fun c12 => ?_)
          · have h := ifp c12 h
            refine lv_bipush (v := (-12)) hx hb dX7_taken_73 (by decide) ?_
            have h := Option.some.inj h
            subst h
            exact hret _ _ _ _ _ dX7_taken_75 rfl rfl hW
          · have h := ifn c12 h
            refine lv_aload_n hx hb dX7_taken_59 rfl (lv_at hl 0 rfl) ?_
            refine z_get hC hW fg_X7_89 0 WM_0 rfl dX7_taken_60 ?_
            refine lv_aload_n hx hb dX7_taken_63 rfl (lv_at hl 0 rfl) ?_
            refine z_get hC hW fg_X7_95 0 WM_0 rfl dX7_taken_64 ?_
            refine lv_iload_n hx hb dX7_taken_67 rfl (lv_at hl 1 rfl) ?_
            obtain ⟨g13, h⟩ := ix_some h
            refine z_iald hC hW 27 WM_27 g13 dX7_taken_68 ?_
            obtain ⟨g14, h⟩ := ix_some h
            refine z_iald hC hW 25 WM_25 g14 dX7_taken_69 ?_
            refine lv_goto (tgt := 75) hx hb dX7_taken_70 (by decide) ?_
            have h := Option.some.inj h
            subst h
            exact hret _ _ _ _ _ dX7_taken_75 rfl rfl hW
      · have h := ifp c6 h
        refine lv_bipush (v := (-11)) hx hb dX7_taken_29 (by decide) ?_
        have h := Option.some.inj h
        subst h
        exact hret _ _ _ _ _ dX7_taken_31 rfl rfl hW
    · have h := ifp c4 h
      refine lv_iconst (v := (-1)) hx hb dX7_taken_17 (by decide) ?_
      have h := Option.some.inj h
      subst h
      exact hret _ _ _ _ _ dX7_taken_18 rfl rfl hW
set_option maxHeartbeats 4000000 in
set_option maxRecDepth 100000 in
theorem c_X7_count {a1 : Int32} {d : Nat} {res : Int32} (hd : 0 ≤ d) (h : f_X7_count a1 M_doors M_joins M_walls M_doneMany M_taped M_bodies M_traces = some res) : zMi l yX7_count cX7_count 2 .int (zrm d) [.ref (ρ 0), .int a1] D q (WM q ρ M_code M_doors M_price M_year M_joins M_joinA M_joinB M_walls M_wallA M_wallB M_cost M_olds M_near M_doneMany M_undoneMany M_changeOf M_changeAt M_before M_behind M_tape M_taped M_here M_fault M_open M_laid M_act M_with M_lineMany M_testEnd M_lineEnd M_facts M_pile M_hasLaw M_far M_within M_tooNear M_dried M_isOn M_wasOn M_bodies M_kind M_traces M_traced M_holds M_size M_elements M_shifted) sz res (WM q ρ M_code M_doors M_price M_year M_joins M_joinA M_joinB M_walls M_wallA M_wallB M_cost M_olds M_near M_doneMany M_undoneMany M_changeOf M_changeAt M_before M_behind M_tape M_taped M_here M_fault M_open M_laid M_act M_with M_lineMany M_testEnd M_lineEnd M_facts M_pile M_hasLaw M_far M_within M_tooNear M_dried M_isOn M_wasOn M_bodies M_kind M_traces M_traced M_holds M_size M_elements M_shifted) := by
  refine zMet_i (own := RX7) _ (by decide) rfl (Nat.le_of_ble_eq_true rfl) ?_
  intro p e s m args below meth c A ls Q hC hW hl hret
  have hx := hC.1
  have hb := hC.2.1
  have hl : lv_has ls 2 [(0, .ref (ρ 0)), (1, .int a1)] := hl
  unfold f_X7_count at h
  refine lv_iload_n hx hb dX7_count_0 rfl (lv_at hl 1 rfl) ?_
  by_cases c1 : a1 = 0
  · have h := ifp c1 h
    refine z_tabIn hx hb (off := 43) (tgt := 44) 0 c1 (by decide) dX7_count_1 (by decide) ?_
    refine lv_aload_n hx hb dX7_count_44 rfl (lv_at hl 0 rfl) ?_
    refine z_get hC hW fg_X7_111 0 WM_0 rfl dX7_count_45 ?_
    have h := Option.some.inj h
    subst h
    exact hret _ _ _ _ _ dX7_count_48 rfl rfl hW
  · have h := ifn c1 h
    by_cases c2 : a1 = 1
    · have h := ifp c2 h
      refine z_tabIn hx hb (off := 48) (tgt := 49) 1 c2 (by decide) dX7_count_1 (by decide) ?_
      refine lv_aload_n hx hb dX7_count_49 rfl (lv_at hl 0 rfl) ?_
      refine z_get hC hW fg_X7_122 0 WM_0 rfl dX7_count_50 ?_
      have h := Option.some.inj h
      subst h
      exact hret _ _ _ _ _ dX7_count_53 rfl rfl hW
    · have h := ifn c2 h
      by_cases c3 : a1 = 2
      · have h := ifp c3 h
        refine z_tabIn hx hb (off := 53) (tgt := 54) 2 c3 (by decide) dX7_count_1 (by decide) ?_
        refine lv_aload_n hx hb dX7_count_54 rfl (lv_at hl 0 rfl) ?_
        refine z_get hC hW fg_X7_135 0 WM_0 rfl dX7_count_55 ?_
        have h := Option.some.inj h
        subst h
        exact hret _ _ _ _ _ dX7_count_58 rfl rfl hW
      · have h := ifn c3 h
        by_cases c4 : a1 = 3
        · have h := ifp c4 h
          refine z_tabIn hx hb (off := 58) (tgt := 59) 3 c4 (by decide) dX7_count_1 (by decide) ?_
          refine lv_aload_n hx hb dX7_count_59 rfl (lv_at hl 0 rfl) ?_
          refine z_get hC hW fg_X7_168 0 WM_0 rfl dX7_count_60 ?_
          have h := Option.some.inj h
          subst h
          exact hret _ _ _ _ _ dX7_count_63 rfl rfl hW
        · have h := ifn c4 h
          by_cases c5 : a1 = 4
          · have h := ifp c5 h
            refine z_tabIn hx hb (off := 63) (tgt := 64) 4 c5 (by decide) dX7_count_1 (by decide) ?_
            refine lv_aload_n hx hb dX7_count_64 rfl (lv_at hl 0 rfl) ?_
            refine z_get hC hW fg_X7_150 0 WM_0 rfl dX7_count_65 ?_
            have h := Option.some.inj h
            subst h
            exact hret _ _ _ _ _ dX7_count_68 rfl rfl hW
          · have h := ifn c5 h
            by_cases c6 : a1 = 5
            · have h := ifp c6 h
              refine z_tabIn hx hb (off := 68) (tgt := 69) 5 c6 (by decide) dX7_count_1 (by decide) ?_
              refine lv_aload_n hx hb dX7_count_69 rfl (lv_at hl 0 rfl) ?_
              refine z_get hC hW fg_X7_294 0 WM_0 rfl dX7_count_70 ?_
              have h := Option.some.inj h
              subst h
              exact hret _ _ _ _ _ dX7_count_73 rfl rfl hW
            · have h := ifn c6 h
              by_cases c7 : a1 = 6
              · have h := ifp c7 h
                refine z_tabIn hx hb (off := 73) (tgt := 74) 6 c7 (by decide) dX7_count_1 (by decide) ?_
                refine lv_aload_n hx hb dX7_count_74 rfl (lv_at hl 0 rfl) ?_
                refine z_get hC hW fg_X7_297 0 WM_0 rfl dX7_count_75 ?_
                have h := Option.some.inj h
                subst h
                exact hret _ _ _ _ _ dX7_count_78 rfl rfl hW
              · have h := ifn c7 h
                refine z_tabD hx hb (tgt := 79) [0, 1, 2, 3, 4, 5, 6] (List.forall_mem_cons.mpr ⟨c1, List.forall_mem_cons.mpr ⟨c2, List.forall_mem_cons.mpr ⟨c3, List.forall_mem_cons.mpr ⟨c4, List.forall_mem_cons.mpr ⟨c5, List.forall_mem_cons.mpr ⟨c6, List.forall_mem_cons.mpr ⟨c7, List.forall_mem_nil _⟩⟩⟩⟩⟩⟩⟩) (by decide) dX7_count_1 (by decide) ?_
                refine lv_iconst (v := (-1)) hx hb dX7_count_79 (by decide) ?_
                have h := Option.some.inj h
                subst h
                exact hret _ _ _ _ _ dX7_count_80 rfl rfl hW
end CT21_m17
