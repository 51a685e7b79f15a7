section CT21_m04
variable {l : Launch} {D : va_G} {q : Nat → ClassId} {ρ : Nat → Nat} {sz : Nat} {M_code : Int32} {M_doors : Int32} {M_price : Nat → Int32} {M_year : Nat → Int32} {M_joins : Int32} {M_joinA : Nat → Int32} {M_joinB : Nat → Int32} {M_walls : Int32} {M_wallA : Nat → Int32} {M_wallB : Nat → Int32} {M_cost : Nat → Int32} {M_olds : Int32} {M_near : Int32} {M_doneMany : Int32} {M_undoneMany : Int32} {M_changeOf : Nat → Int32} {M_changeAt : Nat → Int32} {M_before : Nat → Int32} {M_behind : Nat → Int32} {M_tape : Nat → Int32} {M_taped : Int32} {M_here : Int32} {M_fault : Int32} {M_open : Int32} {M_laid : Int32} {M_act : Nat → Int32} {M_with : Nat → Int32} {M_lineMany : Nat → Int32} {M_testEnd : Nat → Int32} {M_lineEnd : Nat → Int32} {M_facts : Nat → Int32} {M_pile : Nat → Int32} {M_hasLaw : Int32} {M_far : Nat → Int32} {M_within : Nat → Int32} {M_tooNear : Nat → Int32} {M_dried : Int32} {M_isOn : Nat → Int32} {M_wasOn : Nat → Int32} {M_bodies : Int32} {M_kind : Nat → Int32} {M_traces : Int32} {M_traced : Nat → Int32} {M_holds : Nat → Int32} {M_size : Nat → Int32} {M_elements : Nat → Int64} {M_shifted : Nat → Int64}
set_option maxHeartbeats 4000000 in
set_option maxRecDepth 100000 in
theorem c_X7_of {a1 : Int32} {a2 : Int32} {d : Nat} {res : Int32 × (Nat → Int32) × (Nat → Int32)} (hd : 4 ≤ d) (h : f_X7_of a1 a2 M_doors M_price M_year M_joins M_joinA M_joinB M_walls M_wallA M_wallB M_cost M_olds M_act M_with M_lineMany M_testEnd M_lineEnd M_facts M_pile M_hasLaw = some res) : zMi l yX7_of cX7_of 3 .int (zrm d) [.ref (ρ 0), .int a1, .int a2] D q (WM q ρ M_code M_doors M_price M_year M_joins M_joinA M_joinB M_walls M_wallA M_wallB M_cost M_olds M_near M_doneMany M_undoneMany M_changeOf M_changeAt M_before M_behind M_tape M_taped M_here M_fault M_open M_laid M_act M_with M_lineMany M_testEnd M_lineEnd M_facts M_pile M_hasLaw M_far M_within M_tooNear M_dried M_isOn M_wasOn M_bodies M_kind M_traces M_traced M_holds M_size M_elements M_shifted) sz res.1 (WM q ρ M_code M_doors M_price M_year M_joins M_joinA M_joinB M_walls M_wallA M_wallB M_cost M_olds M_near M_doneMany M_undoneMany M_changeOf M_changeAt M_before M_behind M_tape M_taped M_here M_fault M_open M_laid M_act M_with M_lineMany M_testEnd M_lineEnd res.2.1 res.2.2 M_hasLaw M_far M_within M_tooNear M_dried M_isOn M_wasOn M_bodies M_kind M_traces M_traced M_holds M_size M_elements M_shifted) := by
  refine zMet_i (own := RX7) _ (by decide) rfl (Nat.le_of_ble_eq_true rfl) ?_
  intro p e s m args below meth c A ls Q hC hW hl hret
  have hx := hC.1
  have hb := hC.2.1
  have hl : lv_has ls 3 [(0, .ref (ρ 0)), (1, .int a1), (2, .int a2)] := hl
  unfold f_X7_of at h
  refine lv_iload_n hx hb dX7_of_0 rfl (lv_at hl 2 rfl) ?_
  refine lv_iconst (v := 0) hx hb dX7_of_1 (by decide) ?_
  refine lv_iconst (v := 3) hx hb dX7_of_2 (by decide) ?_
  obtain ⟨u1, eu1, h⟩ := bd_some h
  refine z_callS_i hC hW (rest := []) (c_X7_in (d := 0) (Nat.le_refl _) eu1) sw_X7_114 ⟨rfl, rfl⟩ (zrm_ok (by omega) (by decide)) rfl rfl hl.1 (Nat.le_of_ble_eq_true rfl) dX7_of_3 (fun H locs hW => ?_)
  refine lv_if_eq (tgt := 67) hx hb dX7_of_6 (by decide) (fun c2 => ?_) (fun c2 => ?_)
  · have h := ifp c2 h
    refine lv_iload_n hx hb dX7_of_67 rfl (lv_at hl 2 rfl) ?_
    refine lv_bipush (v := 10) hx hb dX7_of_68 (by decide) ?_
    refine lv_icmp_ne (tgt := 108) hx hb dX7_of_70 (by decide) (fun c3 => ?_) (fun c3 => ?_)
    · have h := ifn c3 h
      refine lv_iload_n hx hb dX7_of_108 rfl (lv_at hl 2 rfl) ?_
      refine lv_bipush (v := 20) hx hb dX7_of_109 (by decide) ?_
      refine lv_bipush (v := 21) hx hb dX7_of_111 (by decide) ?_
      obtain ⟨u4, eu4, h⟩ := bd_some h
      refine z_callS_i hC hW (rest := []) (c_X7_in (d := 0) (Nat.le_refl _) eu4) sw_X7_114 ⟨rfl, rfl⟩ (zrm_ok (by omega) (by decide)) rfl rfl hl.1 (Nat.le_of_ble_eq_true rfl) dX7_of_113 (fun H locs hW => ?_)
      refine lv_if_eq (tgt := 133) hx hb dX7_of_116 (by decide) (fun c5 => ?_) (fun c5 => ?_)
      · have h := ifp c5 h
        refine lv_iconst (v := (-1)) hx hb dX7_of_133 (by decide) ?_
        have h := Option.some.inj h
        subst h
        exact hret _ _ _ _ _ dX7_of_134 rfl rfl hW
      · have h := ifn c5 h
        refine lv_iload_n hx hb dX7_of_119 rfl (lv_at hl 1 rfl) ?_
        refine lv_iconst (v := 0) hx hb dX7_of_120 (by decide) ?_
        refine lv_aload_n hx hb dX7_of_121 rfl (lv_at hl 0 rfl) ?_
        refine z_get hC hW fg_X7_135 0 WM_0 rfl dX7_of_122 ?_
        refine lv_iconst (v := 1) hx hb dX7_of_125 (by decide) ?_
        refine lv_isub hx hb dX7_of_126 ?_
        obtain ⟨u6, eu6, h⟩ := bd_some h
        refine z_callS_i hC hW (rest := []) (c_X7_in (d := 0) (Nat.le_refl _) eu6) sw_X7_114 ⟨rfl, rfl⟩ (zrm_ok (by omega) (by decide)) rfl rfl hl.1 (Nat.le_of_ble_eq_true rfl) dX7_of_127 (fun H locs hW => ?_)
        refine lv_if_ne (tgt := 135) hx hb dX7_of_130 (by decide) (fun c7 => ?_) (fun c7 => ?_)
        · have h := ifn c7 h
          refine lv_iload_n hx hb dX7_of_135 rfl (lv_at hl 2 rfl) ?_
          refine lv_bipush (v := 20) hx hb dX7_of_136 (by decide) ?_
          refine lv_icmp_ne (tgt := 160) hx hb dX7_of_138 (by decide) (fun c8 => ?_) (fun c8 => ?_)
          · have h := ifn c8 h
            refine lv_aload_n hx hb dX7_of_160 rfl (lv_at hl 0 rfl) ?_
            refine z_get hC hW fg_X7_28 0 WM_0 rfl dX7_of_161 ?_
            refine lv_iload_n hx hb dX7_of_164 rfl (lv_at hl 1 rfl) ?_
            obtain ⟨g9, h⟩ := ix_some h
            refine z_iald hC hW 7 WM_7 g9 dX7_of_165 ?_
            have h := Option.some.inj h
            subst h
            exact hret _ _ _ _ _ dX7_of_166 rfl rfl hW
          · have h := ifp c8 h
            refine lv_bipush (v := 100) hx hb dX7_of_141 (by decide) ?_
            refine lv_aload_n hx hb dX7_of_143 rfl (lv_at hl 0 rfl) ?_
            refine z_get hC hW fg_X7_22 0 WM_0 rfl dX7_of_144 ?_
            refine lv_iload_n hx hb dX7_of_147 rfl (lv_at hl 1 rfl) ?_
            obtain ⟨g10, h⟩ := ix_some h
            refine z_iald hC hW 5 WM_5 g10 dX7_of_148 ?_
            refine lv_imul hx hb dX7_of_149 ?_
            refine lv_aload_n hx hb dX7_of_150 rfl (lv_at hl 0 rfl) ?_
            refine z_get hC hW fg_X7_25 0 WM_0 rfl dX7_of_151 ?_
            refine lv_iload_n hx hb dX7_of_154 rfl (lv_at hl 1 rfl) ?_
            obtain ⟨g11, h⟩ := ix_some h
            refine z_iald hC hW 6 WM_6 g11 dX7_of_155 ?_
            refine lv_iadd hx hb dX7_of_156 ?_
            refine lv_goto (tgt := 166) hx hb dX7_of_157 (by decide) ?_
            have h := Option.some.inj h
            subst h
            exact hret _ _ _ _ _ dX7_of_166 rfl rfl hW
        · have h := ifp c7 h
          refine lv_iconst (v := (-1)) hx hb dX7_of_133 (by decide) ?_
          have h := Option.some.inj h
          subst h
          exact hret _ _ _ _ _ dX7_of_134 rfl rfl hW
    · have h := ifp c3 h
      refine lv_iload_n hx hb dX7_of_73 rfl (lv_at hl 1 rfl) ?_
      refine lv_iconst (v := 0) hx hb dX7_of_74 (by decide) ?_
      refine lv_aload_n hx hb dX7_of_75 rfl (lv_at hl 0 rfl) ?_
      refine z_get hC hW fg_X7_122 0 WM_0 rfl dX7_of_76 ?_
      refine lv_iconst (v := 1) hx hb dX7_of_79 (by decide) ?_
      refine lv_isub hx hb dX7_of_80 ?_
      obtain ⟨u12, eu12, h⟩ := bd_some h
      refine z_callS_i hC hW (rest := []) (c_X7_in (d := 0) (Nat.le_refl _) eu12) sw_X7_114 ⟨rfl, rfl⟩ (zrm_ok (by omega) (by decide)) rfl rfl hl.1 (Nat.le_of_ble_eq_true rfl) dX7_of_81 (fun H locs hW => ?_)
      refine lv_if_eq (tgt := 106) hx hb dX7_of_84 (by decide) (fun c13 => ?_) (fun c13 => ?_)
      · have h := ifp c13 h
        refine lv_iconst (v := (-1)) hx hb dX7_of_106 (by decide) ?_
        have h := Option.some.inj h
        subst h
        exact hret _ _ _ _ _ dX7_of_107 rfl rfl hW
      · have h := ifn c13 h
        refine lv_bipush (v := 100) hx hb dX7_of_87 (by decide) ?_
        refine lv_aload_n hx hb dX7_of_89 rfl (lv_at hl 0 rfl) ?_
        refine z_get hC hW fg_X7_16 0 WM_0 rfl dX7_of_90 ?_
        refine lv_iload_n hx hb dX7_of_93 rfl (lv_at hl 1 rfl) ?_
        obtain ⟨g14, h⟩ := ix_some h
        refine z_iald hC hW 3 WM_3 g14 dX7_of_94 ?_
        refine lv_imul hx hb dX7_of_95 ?_
        refine lv_aload_n hx hb dX7_of_96 rfl (lv_at hl 0 rfl) ?_
        refine z_get hC hW fg_X7_19 0 WM_0 rfl dX7_of_97 ?_
        refine lv_iload_n hx hb dX7_of_100 rfl (lv_at hl 1 rfl) ?_
        obtain ⟨g15, h⟩ := ix_some h
        refine z_iald hC hW 4 WM_4 g15 dX7_of_101 ?_
        refine lv_iadd hx hb dX7_of_102 ?_
        refine lv_goto (tgt := 107) hx hb dX7_of_103 (by decide) ?_
        have h := Option.some.inj h
        subst h
        exact hret _ _ _ _ _ dX7_of_107 rfl rfl hW
  · have h := ifn c2 h
    refine lv_aload_n hx hb dX7_of_9 rfl (lv_at hl 0 rfl) ?_
    refine lv_iload_n hx hb dX7_of_10 rfl (lv_at hl 1 rfl) ?_
    obtain ⟨u16, eu16, h⟩ := bd_some h
    refine z_callV_i hC hW (rest := []) (c_X7_isDoor (d := 1) (Nat.le_refl _) eu16) vw_X7_118 WM_0 rfl ⟨rfl, rfl⟩ (zrm_ok (by omega) (by decide)) rfl rfl hl.1 (Nat.le_of_ble_eq_true rfl) dX7_of_11 (fun H locs hW => ?_)
    refine lv_if_ne (tgt := 21) hx hb dX7_of_14 (by decide) (fun c17 => ?_) (fun c17 => ?_)
    · have h := ifn c17 h
      refine lv_iload_n hx hb dX7_of_21 rfl (lv_at hl 2 rfl) ?_
      refine lv_if_ne (tgt := 34) hx hb dX7_of_22 (by decide) (fun c18 => ?_) (fun c18 => ?_)
      · have h := ifn c18 h
        refine lv_iload_n hx hb dX7_of_34 rfl (lv_at hl 2 rfl) ?_
        refine lv_iconst (v := 1) hx hb dX7_of_35 (by decide) ?_
        refine lv_icmp_ne (tgt := 48) hx hb dX7_of_36 (by decide) (fun c19 => ?_) (fun c19 => ?_)
        · have h := ifn c19 h
          refine lv_iload_n hx hb dX7_of_48 rfl (lv_at hl 2 rfl) ?_
          refine lv_iconst (v := 2) hx hb dX7_of_49 (by decide) ?_
          refine lv_icmp_ne (tgt := 61) hx hb dX7_of_50 (by decide) (fun c20 => ?_) (fun c20 => ?_)
          · have h := ifn c20 h
            refine lv_aload_n hx hb dX7_of_61 rfl (lv_at hl 0 rfl) ?_
            refine lv_iload_n hx hb dX7_of_62 rfl (lv_at hl 1 rfl) ?_
            obtain ⟨u21, eu21, h⟩ := bd_some h
            refine z_callV_i hC hW (rest := []) (c_X7_reachOf (d := 3) (Nat.le_refl _) eu21) vw_X7_165 WM_0 rfl ⟨rfl, rfl⟩ (zrm_ok (by omega) (by decide)) rfl rfl hl.1 (Nat.le_of_ble_eq_true rfl) dX7_of_63 (fun H locs hW => ?_)
            have h := Option.some.inj h
            subst h
            exact hret _ _ _ _ _ dX7_of_66 rfl rfl hW
          · have h := ifp c20 h
            refine lv_aload_n hx hb dX7_of_53 rfl (lv_at hl 0 rfl) ?_
            refine lv_iload_n hx hb dX7_of_54 rfl (lv_at hl 1 rfl) ?_
            obtain ⟨u22, eu22, h⟩ := bd_some h
            refine z_callV_i hC hW (rest := []) (c_X7_joinsOf (d := 0) (Nat.le_refl _) eu22) vw_X7_161 WM_0 rfl ⟨rfl, rfl⟩ (zrm_ok (by omega) (by decide)) rfl rfl hl.1 (Nat.le_of_ble_eq_true rfl) dX7_of_55 (fun H locs hW => ?_)
            refine lv_goto (tgt := 66) hx hb dX7_of_58 (by decide) ?_
            have h := Option.some.inj h
            subst h
            exact hret _ _ _ _ _ dX7_of_66 rfl rfl hW
        · have h := ifp c19 h
          refine lv_aload_n hx hb dX7_of_39 rfl (lv_at hl 0 rfl) ?_
          refine z_get hC hW fg_X7_13 0 WM_0 rfl dX7_of_40 ?_
          refine lv_iload_n hx hb dX7_of_43 rfl (lv_at hl 1 rfl) ?_
          obtain ⟨g23, h⟩ := ix_some h
          refine z_iald hC hW 2 WM_2 g23 dX7_of_44 ?_
          refine lv_goto (tgt := 66) hx hb dX7_of_45 (by decide) ?_
          have h := Option.some.inj h
          subst h
          exact hret _ _ _ _ _ dX7_of_66 rfl rfl hW
      · have h := ifp c18 h
        refine lv_aload_n hx hb dX7_of_25 rfl (lv_at hl 0 rfl) ?_
        refine z_get hC hW fg_X7_7 0 WM_0 rfl dX7_of_26 ?_
        refine lv_iload_n hx hb dX7_of_29 rfl (lv_at hl 1 rfl) ?_
        obtain ⟨g24, h⟩ := ix_some h
        refine z_iald hC hW 1 WM_1 g24 dX7_of_30 ?_
        refine lv_goto (tgt := 66) hx hb dX7_of_31 (by decide) ?_
        have h := Option.some.inj h
        subst h
        exact hret _ _ _ _ _ dX7_of_66 rfl rfl hW
    · have h := ifp c17 h
      refine lv_iconst (v := (-1)) hx hb dX7_of_17 (by decide) ?_
      refine lv_goto (tgt := 66) hx hb dX7_of_18 (by decide) ?_
      have h := Option.some.inj h
      subst h
      exact hret _ _ _ _ _ dX7_of_66 rfl rfl hW
set_option maxHeartbeats 4000000 in
set_option maxRecDepth 100000 in
theorem c_X7_feed {a1 : Int32} {d : Nat} {res : Int32 × (Nat → Int32) × Int32} (hd : 1 ≤ d) (h : f_X7_feed a1 M_tape M_taped = some res) : zMi l yX7_feed cX7_feed 2 .int (zrm d) [.ref (ρ 0), .int a1] D q (WM q ρ M_code M_doors M_price M_year M_joins M_joinA M_joinB M_walls M_wallA M_wallB M_cost M_olds M_near M_doneMany M_undoneMany M_changeOf M_changeAt M_before M_behind M_tape M_taped M_here M_fault M_open M_laid M_act M_with M_lineMany M_testEnd M_lineEnd M_facts M_pile M_hasLaw M_far M_within M_tooNear M_dried M_isOn M_wasOn M_bodies M_kind M_traces M_traced M_holds M_size M_elements M_shifted) sz res.1 (WM q ρ M_code M_doors M_price M_year M_joins M_joinA M_joinB M_walls M_wallA M_wallB M_cost M_olds M_near M_doneMany M_undoneMany M_changeOf M_changeAt M_before M_behind res.2.1 res.2.2 M_here M_fault M_open M_laid M_act M_with M_lineMany M_testEnd M_lineEnd M_facts M_pile M_hasLaw M_far M_within M_tooNear M_dried M_isOn M_wasOn M_bodies M_kind M_traces M_traced M_holds M_size M_elements M_shifted) := by
  refine zMet_i (own := RX7) _ (by decide) rfl (Nat.le_of_ble_eq_true rfl) ?_
  intro p e s m args below meth c A ls Q hC hW hl hret
  have hx := hC.1
  have hb := hC.2.1
  have hl : lv_has ls 2 [(0, .ref (ρ 0)), (1, .int a1)] := hl
  unfold f_X7_feed at h
  refine lv_iload_n hx hb dX7_feed_0 rfl (lv_at hl 1 rfl) ?_
  refine lv_iconst (v := 0) hx hb dX7_feed_1 (by decide) ?_
  refine lv_sipush (v := 255) hx hb dX7_feed_2 (by decide) ?_
  obtain ⟨u1, eu1, h⟩ := bd_some h
  refine z_callS_i hC hW (rest := []) (c_X7_in (d := 0) (Nat.le_refl _) eu1) sw_X7_114 ⟨rfl, rfl⟩ (zrm_ok (by omega) (by decide)) rfl rfl hl.1 (Nat.le_of_ble_eq_true rfl) dX7_feed_5 (fun H locs hW => ?_)
  refine lv_if_ne (tgt := 13) hx hb dX7_feed_8 (by decide) (fun c2 => ?_) (fun c2 => ?_)
  · have h := ifn c2 h
    refine lv_aload_n hx hb dX7_feed_13 rfl (lv_at hl 0 rfl) ?_
    refine z_get hC hW fg_X7_168 0 WM_0 rfl dX7_feed_14 ?_
    refine lv_bipush (v := 120) hx hb dX7_feed_17 (by decide) ?_
    refine lv_icmp_ne (tgt := 25) hx hb dX7_feed_19 (by decide) (fun c3 => ?_) (fun c3 => ?_)
    · have h := ifn c3 h
      refine lv_aload_n hx hb dX7_feed_25 rfl (lv_at hl 0 rfl) ?_
      refine z_get hC hW fg_X7_47 0 WM_0 rfl dX7_feed_26 ?_
      refine lv_aload_n hx hb dX7_feed_29 rfl (lv_at hl 0 rfl) ?_
      refine z_get hC hW fg_X7_168 0 WM_0 rfl dX7_feed_30 ?_
      refine lv_iload_n hx hb dX7_feed_33 rfl (lv_at hl 1 rfl) ?_
      refine lv_i2b hx hb dX7_feed_34 rfl ?_
      obtain ⟨g4, h⟩ := ix_some h
      refine z_bast hC hW 12 WM_12 g4 WMs_M_tape dX7_feed_35 (fun H locs hW => ?_)
      refine lv_aload_n hx hb dX7_feed_36 rfl (lv_at hl 0 rfl) ?_
      refine lv_dup hx hb dX7_feed_37 rfl ?_
      refine z_get hC hW fg_X7_168 0 WM_0 rfl dX7_feed_38 ?_
      refine lv_iconst (v := 1) hx hb dX7_feed_41 (by decide) ?_
      refine lv_iadd hx hb dX7_feed_42 ?_
      refine z_put hC hW fp_X7_168 0 WM_0 (Nat.le_of_ble_eq_true rfl) rfl rfl WMs_M_taped dX7_feed_43 (fun H locs hW => ?_)
      refine lv_aload_n hx hb dX7_feed_46 rfl (lv_at hl 0 rfl) ?_
      refine z_get hC hW fg_X7_168 0 WM_0 rfl dX7_feed_47 ?_
      have h := Option.some.inj h
      subst h
      exact hret _ _ _ _ _ dX7_feed_50 rfl rfl hW
    · have h := ifp c3 h
      refine lv_bipush (v := (-3)) hx hb dX7_feed_22 (by decide) ?_
      have h := Option.some.inj h
      subst h
      exact hret _ _ _ _ _ dX7_feed_24 rfl rfl hW
  · have h := ifp c2 h
    refine lv_iconst (v := (-1)) hx hb dX7_feed_11 (by decide) ?_
    have h := Option.some.inj h
    subst h
    exact hret _ _ _ _ _ dX7_feed_12 rfl rfl hW
set_option maxHeartbeats 4000000 in
set_option maxRecDepth 100000 in
theorem c_X7_look {d : Nat} {res : Int32} (hd : 0 ≤ d) (h : f_X7_look M_tape M_taped M_here = some res) : zMi l yX7_look cX7_look 1 .int (zrm d) [.ref (ρ 0)] D q (WM q ρ M_code M_doors M_price M_year M_joins M_joinA M_joinB M_walls M_wallA M_wallB M_cost M_olds M_near M_doneMany M_undoneMany M_changeOf M_changeAt M_before M_behind M_tape M_taped M_here M_fault M_open M_laid M_act M_with M_lineMany M_testEnd M_lineEnd M_facts M_pile M_hasLaw M_far M_within M_tooNear M_dried M_isOn M_wasOn M_bodies M_kind M_traces M_traced M_holds M_size M_elements M_shifted) sz res (WM q ρ M_code M_doors M_price M_year M_joins M_joinA M_joinB M_walls M_wallA M_wallB M_cost M_olds M_near M_doneMany M_undoneMany M_changeOf M_changeAt M_before M_behind M_tape M_taped M_here M_fault M_open M_laid M_act M_with M_lineMany M_testEnd M_lineEnd M_facts M_pile M_hasLaw M_far M_within M_tooNear M_dried M_isOn M_wasOn M_bodies M_kind M_traces M_traced M_holds M_size M_elements M_shifted) := by
  refine zMet_i (own := RX7) _ (by decide) rfl (Nat.le_of_ble_eq_true rfl) ?_
  intro p e s m args below meth c A ls Q hC hW hl hret
  have hx := hC.1
  have hb := hC.2.1
  have hl : lv_has ls 1 [(0, .ref (ρ 0))] := hl
  unfold f_X7_look at h
  refine lv_aload_n hx hb dX7_look_0 rfl (lv_at hl 0 rfl) ?_
  refine z_get hC hW fg_X7_171 0 WM_0 rfl dX7_look_1 ?_
  refine lv_aload_n hx hb dX7_look_4 rfl (lv_at hl 0 rfl) ?_
  refine z_get hC hW fg_X7_168 0 WM_0 rfl dX7_look_5 ?_
  refine lv_icmp_ge (tgt := 23) hx hb dX7_look_8 (by decide) (fun c1 => ?_) (fun c1 => ?_)
  · have h := ifp c1 h
    refine lv_iconst (v := (-1)) hx hb dX7_look_23 (by decide) ?_
    have h := Option.some.inj h
    subst h
    exact hret _ _ _ _ _ dX7_look_24 rfl rfl hW
  · have h := ifn c1 h
    refine lv_aload_n hx hb dX7_look_11 rfl (lv_at hl 0 rfl) ?_
    refine z_get hC hW fg_X7_47 0 WM_0 rfl dX7_look_12 ?_
    refine lv_aload_n hx hb dX7_look_15 rfl (lv_at hl 0 rfl) ?_
    refine z_get hC hW fg_X7_171 0 WM_0 rfl dX7_look_16 ?_
    obtain ⟨g2, h⟩ := ix_some h
    refine z_bald hC hW 12 WM_12 g2 dX7_look_19 ?_
    refine lv_goto (tgt := 24) hx hb dX7_look_20 (by decide) ?_
    have h := Option.some.inj h
    subst h
    exact hret _ _ _ _ _ dX7_look_24 rfl rfl hW
set_option maxHeartbeats 4000000 in
set_option maxRecDepth 100000 in
theorem c_X7_nameOf {a0 : Int32} {d : Nat} {res : Int32} (hd : 0 ≤ d) (h : f_X7_nameOf a0 = some res) : zMi l yX7_nameOf cX7_nameOf 1 .int (zrm d) [.int a0] D q (WM q ρ M_code M_doors M_price M_year M_joins M_joinA M_joinB M_walls M_wallA M_wallB M_cost M_olds M_near M_doneMany M_undoneMany M_changeOf M_changeAt M_before M_behind M_tape M_taped M_here M_fault M_open M_laid M_act M_with M_lineMany M_testEnd M_lineEnd M_facts M_pile M_hasLaw M_far M_within M_tooNear M_dried M_isOn M_wasOn M_bodies M_kind M_traces M_traced M_holds M_size M_elements M_shifted) sz res (WM q ρ M_code M_doors M_price M_year M_joins M_joinA M_joinB M_walls M_wallA M_wallB M_cost M_olds M_near M_doneMany M_undoneMany M_changeOf M_changeAt M_before M_behind M_tape M_taped M_here M_fault M_open M_laid M_act M_with M_lineMany M_testEnd M_lineEnd M_facts M_pile M_hasLaw M_far M_within M_tooNear M_dried M_isOn M_wasOn M_bodies M_kind M_traces M_traced M_holds M_size M_elements M_shifted) := by
  refine zMet_i (own := RX7) _ (by decide) rfl (Nat.le_of_ble_eq_true rfl) ?_
  intro p e s m args below meth c A ls Q hC hW hl hret
  have hx := hC.1
  have hb := hC.2.1
  have hl : lv_has ls 1 [(0, .int a0)] := hl
  unfold f_X7_nameOf at h
  refine lv_iload_n hx hb dX7_nameOf_0 rfl (lv_at hl 0 rfl) ?_
  by_cases c1 : a0 = 100
  · have h := ifp c1 h
    refine z_luk hx hb (off := 51) (tgt := 52) 100 c1 (by decide) (by decide) dX7_nameOf_1 (by decide) ?_
    refine lv_iconst (v := 0) hx hb dX7_nameOf_52 (by decide) ?_
    have h := Option.some.inj h
    subst h
    exact hret _ _ _ _ _ dX7_nameOf_53 rfl rfl hW
  · have h := ifn c1 h
    by_cases c2 : a0 = 106
    · have h := ifp c2 h
      refine z_luk hx hb (off := 57) (tgt := 58) 106 c2 (by decide) (by decide) dX7_nameOf_1 (by decide) ?_
      refine lv_iconst (v := 3) hx hb dX7_nameOf_58 (by decide) ?_
      have h := Option.some.inj h
      subst h
      exact hret _ _ _ _ _ dX7_nameOf_59 rfl rfl hW
    · have h := ifn c2 h
      by_cases c3 : a0 = 111
      · have h := ifp c3 h
        refine z_luk hx hb (off := 59) (tgt := 60) 111 c3 (by decide) (by decide) dX7_nameOf_1 (by decide) ?_
        refine lv_iconst (v := 4) hx hb dX7_nameOf_60 (by decide) ?_
        have h := Option.some.inj h
        subst h
        exact hret _ _ _ _ _ dX7_nameOf_61 rfl rfl hW
      · have h := ifn c3 h
        by_cases c4 : a0 = 112
        · have h := ifp c4 h
          refine z_luk hx hb (off := 53) (tgt := 54) 112 c4 (by decide) (by decide) dX7_nameOf_1 (by decide) ?_
          refine lv_iconst (v := 1) hx hb dX7_nameOf_54 (by decide) ?_
          have h := Option.some.inj h
          subst h
          exact hret _ _ _ _ _ dX7_nameOf_55 rfl rfl hW
        · have h := ifn c4 h
          by_cases c5 : a0 = 121
          · have h := ifp c5 h
            refine z_luk hx hb (off := 55) (tgt := 56) 121 c5 (by decide) (by decide) dX7_nameOf_1 (by decide) ?_
            refine lv_iconst (v := 2) hx hb dX7_nameOf_56 (by decide) ?_
            have h := Option.some.inj h
            subst h
            exact hret _ _ _ _ _ dX7_nameOf_57 rfl rfl hW
          · have h := ifn c5 h
            refine z_lukD hx hb (tgt := 62) [100, 106, 111, 112, 121] (List.forall_mem_cons.mpr ⟨c1, List.forall_mem_cons.mpr ⟨c2, List.forall_mem_cons.mpr ⟨c3, List.forall_mem_cons.mpr ⟨c4, List.forall_mem_cons.mpr ⟨c5, List.forall_mem_nil _⟩⟩⟩⟩⟩) (by decide) (by decide) dX7_nameOf_1 (by decide) ?_
            refine lv_iconst (v := (-1)) hx hb dX7_nameOf_62 (by decide) ?_
            have h := Option.some.inj h
            subst h
            exact hret _ _ _ _ _ dX7_nameOf_63 rfl rfl hW
set_option maxHeartbeats 4000000 in
set_option maxRecDepth 100000 in
theorem c_X7_faulty {d : Nat} {res : Int32} (hd : 0 ≤ d) (h : f_X7_faulty M_here M_fault = some res) : zMv l yX7_faulty cX7_faulty 1 (zrm d) [.ref (ρ 0)] D q (WM q ρ M_code M_doors M_price M_year M_joins M_joinA M_joinB M_walls M_wallA M_wallB M_cost M_olds M_near M_doneMany M_undoneMany M_changeOf M_changeAt M_before M_behind M_tape M_taped M_here M_fault M_open M_laid M_act M_with M_lineMany M_testEnd M_lineEnd M_facts M_pile M_hasLaw M_far M_within M_tooNear M_dried M_isOn M_wasOn M_bodies M_kind M_traces M_traced M_holds M_size M_elements M_shifted) sz (WM q ρ M_code M_doors M_price M_year M_joins M_joinA M_joinB M_walls M_wallA M_wallB M_cost M_olds M_near M_doneMany M_undoneMany M_changeOf M_changeAt M_before M_behind M_tape M_taped M_here res M_open M_laid M_act M_with M_lineMany M_testEnd M_lineEnd M_facts M_pile M_hasLaw M_far M_within M_tooNear M_dried M_isOn M_wasOn M_bodies M_kind M_traces M_traced M_holds M_size M_elements M_shifted) := by
  refine zMet_v (own := RX7) (by decide) rfl (Nat.le_of_ble_eq_true rfl) ?_
  intro p e s m args below meth c A ls Q hC hW hl hret
  have hx := hC.1
  have hb := hC.2.1
  have hl : lv_has ls 1 [(0, .ref (ρ 0))] := hl
  unfold f_X7_faulty at h
  refine lv_aload_n hx hb dX7_faulty_0 rfl (lv_at hl 0 rfl) ?_
  refine z_get hC hW fg_X7_174 0 WM_0 rfl dX7_faulty_1 ?_
  refine lv_if_ge (tgt := 15) hx hb dX7_faulty_4 (by decide) (fun c1 => ?_) (fun c1 => ?_)
  · have h := ifp c1 h
    have h := Option.some.inj h
    subst h
    exact hret _ _ _ _ dX7_faulty_15 hW
  · have h := ifn c1 h
    refine lv_aload_n hx hb dX7_faulty_7 rfl (lv_at hl 0 rfl) ?_
    refine lv_aload_n hx hb dX7_faulty_8 rfl (lv_at hl 0 rfl) ?_
    refine z_get hC hW fg_X7_171 0 WM_0 rfl dX7_faulty_9 ?_
    refine z_put hC hW fp_X7_174 0 WM_0 (Nat.le_of_ble_eq_true rfl) rfl rfl WMs_M_fault dX7_faulty_12 (fun H locs hW => ?_)
    have h := Option.some.inj h
    subst h
    exact hret _ _ _ _ dX7_faulty_15 hW
set_option maxHeartbeats 4000000 in
set_option maxRecDepth 100000 in
theorem c_X7_opens {d : Nat} {res : Int32 × Int32 × Int32 × Int32} (hd : 1 ≤ d) (h : f_X7_opens M_here M_fault M_open = some res) : zMi l yX7_opens cX7_opens 1 .boolean (zrm d) [.ref (ρ 0)] D q (WM q ρ M_code M_doors M_price M_year M_joins M_joinA M_joinB M_walls M_wallA M_wallB M_cost M_olds M_near M_doneMany M_undoneMany M_changeOf M_changeAt M_before M_behind M_tape M_taped M_here M_fault M_open M_laid M_act M_with M_lineMany M_testEnd M_lineEnd M_facts M_pile M_hasLaw M_far M_within M_tooNear M_dried M_isOn M_wasOn M_bodies M_kind M_traces M_traced M_holds M_size M_elements M_shifted) sz res.1 (WM q ρ M_code M_doors M_price M_year M_joins M_joinA M_joinB M_walls M_wallA M_wallB M_cost M_olds M_near M_doneMany M_undoneMany M_changeOf M_changeAt M_before M_behind M_tape M_taped res.2.1 res.2.2.1 res.2.2.2 M_laid M_act M_with M_lineMany M_testEnd M_lineEnd M_facts M_pile M_hasLaw M_far M_within M_tooNear M_dried M_isOn M_wasOn M_bodies M_kind M_traces M_traced M_holds M_size M_elements M_shifted) := by
  refine zMet_i (own := RX7) _ (by decide) rfl (Nat.le_of_ble_eq_true rfl) ?_
  intro p e s m args below meth c A ls Q hC hW hl hret
  have hx := hC.1
  have hb := hC.2.1
  have hl : lv_has ls 1 [(0, .ref (ρ 0))] := hl
  unfold f_X7_opens at h
  refine lv_aload_n hx hb dX7_opens_0 rfl (lv_at hl 0 rfl) ?_
  refine z_get hC hW fg_X7_180 0 WM_0 rfl dX7_opens_1 ?_
  refine lv_bipush (v := 6) hx hb dX7_opens_4 (by decide) ?_
  refine lv_icmp_ne (tgt := 15) hx hb dX7_opens_6 (by decide) (fun c1 => ?_) (fun c1 => ?_)
  · have h := ifn c1 h
    refine lv_aload_n hx hb dX7_opens_15 rfl (lv_at hl 0 rfl) ?_
    refine lv_dup hx hb dX7_opens_16 rfl ?_
    refine z_get hC hW fg_X7_180 0 WM_0 rfl dX7_opens_17 ?_
    refine lv_iconst (v := 1) hx hb dX7_opens_20 (by decide) ?_
    refine lv_iadd hx hb dX7_opens_21 ?_
    refine z_put hC hW fp_X7_180 0 WM_0 (Nat.le_of_ble_eq_true rfl) rfl rfl WMs_M_open dX7_opens_22 (fun H locs hW => ?_)
    refine lv_aload_n hx hb dX7_opens_25 rfl (lv_at hl 0 rfl) ?_
    refine lv_dup hx hb dX7_opens_26 rfl ?_
    refine z_get hC hW fg_X7_171 0 WM_0 rfl dX7_opens_27 ?_
    refine lv_iconst (v := 1) hx hb dX7_opens_30 (by decide) ?_
    refine lv_iadd hx hb dX7_opens_31 ?_
    refine z_put hC hW fp_X7_171 0 WM_0 (Nat.le_of_ble_eq_true rfl) rfl rfl WMs_M_here dX7_opens_32 (fun H locs hW => ?_)
    refine lv_iconst (v := 1) hx hb dX7_opens_35 (by decide) ?_
    have h := Option.some.inj h
    subst h
    exact hret _ _ _ _ _ dX7_opens_36 rfl rfl hW
  · have h := ifp c1 h
    refine lv_aload_n hx hb dX7_opens_9 rfl (lv_at hl 0 rfl) ?_
    obtain ⟨u2, eu2, h⟩ := bd_some h
    refine z_callV_v hC hW (rest := []) (c_X7_faulty (d := 0) (Nat.le_refl _) eu2) vw_X7_183 WM_0 rfl ⟨rfl, rfl⟩ (zrm_ok (by omega) (by decide)) rfl rfl hl.1 (Nat.le_of_ble_eq_true rfl) dX7_opens_10 (fun H locs hW => ?_)
    refine lv_iconst (v := 0) hx hb dX7_opens_13 (by decide) ?_
    have h := Option.some.inj h
    subst h
    exact hret _ _ _ _ _ dX7_opens_14 rfl rfl hW
set_option maxHeartbeats 4000000 in
set_option maxRecDepth 100000 in
theorem c_X7_addStep {a1 : Int32} {a2 : Int32} {d : Nat} {res : Int32 × (Nat → Int32) × (Nat → Int32)} (hd : 0 ≤ d) (h : f_X7_addStep a1 a2 M_laid M_act M_with = some res) : zMv l yX7_addStep cX7_addStep 3 (zrm d) [.ref (ρ 0), .int a1, .int a2] D q (WM q ρ M_code M_doors M_price M_year M_joins M_joinA M_joinB M_walls M_wallA M_wallB M_cost M_olds M_near M_doneMany M_undoneMany M_changeOf M_changeAt M_before M_behind M_tape M_taped M_here M_fault M_open M_laid M_act M_with M_lineMany M_testEnd M_lineEnd M_facts M_pile M_hasLaw M_far M_within M_tooNear M_dried M_isOn M_wasOn M_bodies M_kind M_traces M_traced M_holds M_size M_elements M_shifted) sz (WM q ρ M_code M_doors M_price M_year M_joins M_joinA M_joinB M_walls M_wallA M_wallB M_cost M_olds M_near M_doneMany M_undoneMany M_changeOf M_changeAt M_before M_behind M_tape M_taped M_here M_fault M_open res.1 res.2.1 res.2.2 M_lineMany M_testEnd M_lineEnd M_facts M_pile M_hasLaw M_far M_within M_tooNear M_dried M_isOn M_wasOn M_bodies M_kind M_traces M_traced M_holds M_size M_elements M_shifted) := by
  refine zMet_v (own := RX7) (by decide) rfl (Nat.le_of_ble_eq_true rfl) ?_
  intro p e s m args below meth c A ls Q hC hW hl hret
  have hx := hC.1
  have hb := hC.2.1
  have hl : lv_has ls 3 [(0, .ref (ρ 0)), (1, .int a1), (2, .int a2)] := hl
  unfold f_X7_addStep at h
  refine lv_aload_n hx hb dX7_addStep_0 rfl (lv_at hl 0 rfl) ?_
  refine z_get hC hW fg_X7_51 0 WM_0 rfl dX7_addStep_1 ?_
  refine lv_sipush (v := 130) hx hb dX7_addStep_4 (by decide) ?_
  refine lv_aload_n hx hb dX7_addStep_7 rfl (lv_at hl 0 rfl) ?_
  refine z_get hC hW fg_X7_177 0 WM_0 rfl dX7_addStep_8 ?_
  refine lv_iadd hx hb dX7_addStep_11 ?_
  refine lv_iload_n hx hb dX7_addStep_12 rfl (lv_at hl 1 rfl) ?_
  refine lv_i2b hx hb dX7_addStep_13 rfl ?_
  obtain ⟨g1, h⟩ := ix_some h
  refine z_bast hC hW 13 WM_13 g1 WMs_M_act dX7_addStep_14 (fun H locs hW => ?_)
  refine lv_aload_n hx hb dX7_addStep_15 rfl (lv_at hl 0 rfl) ?_
  refine z_get hC hW fg_X7_54 0 WM_0 rfl dX7_addStep_16 ?_
  refine lv_sipush (v := 130) hx hb dX7_addStep_19 (by decide) ?_
  refine lv_aload_n hx hb dX7_addStep_22 rfl (lv_at hl 0 rfl) ?_
  refine z_get hC hW fg_X7_177 0 WM_0 rfl dX7_addStep_23 ?_
  refine lv_iadd hx hb dX7_addStep_26 ?_
  refine lv_iload_n hx hb dX7_addStep_27 rfl (lv_at hl 2 rfl) ?_
  obtain ⟨g2, h⟩ := ix_some h
  refine z_iast hC hW 14 WM_14 g2 WMs_M_with dX7_addStep_28 (fun H locs hW => ?_)
  refine lv_aload_n hx hb dX7_addStep_29 rfl (lv_at hl 0 rfl) ?_
  refine lv_dup hx hb dX7_addStep_30 rfl ?_
  refine z_get hC hW fg_X7_177 0 WM_0 rfl dX7_addStep_31 ?_
  refine lv_iconst (v := 1) hx hb dX7_addStep_34 (by decide) ?_
  refine lv_iadd hx hb dX7_addStep_35 ?_
  refine z_put hC hW fp_X7_177 0 WM_0 (Nat.le_of_ble_eq_true rfl) rfl rfl WMs_M_laid dX7_addStep_36 (fun H locs hW => ?_)
  have h := Option.some.inj h
  subst h
  exact hret _ _ _ _ dX7_addStep_39 hW
end CT21_m04
