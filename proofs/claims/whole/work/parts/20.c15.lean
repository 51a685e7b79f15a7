section CT20_c15
variable {l : Launch} {D : va_G} {q : Nat → ClassId} {ρ : Nat → Nat} {sz : Nat} {T_price : Nat → Int32} {T_year : Nat → Int32} {T_joinEnds : Nat → Int32} {T_wallEnds : Nat → Int32} {T_cost : Nat → Int32} {T_doors : Int32} {T_joins : Int32} {T_walls : Int32} {T_oldWells : Int32} {T_apart : Int32} {L_tape : Nat → Int32} {L_text : Nat → Int32} {L_fed : Int32} {L_length : Int32} {L_read : Nat} {L_end : Int32} {L_at : Int32} {L_fault : Int32} {L_d : Int32} {L_p : Int32} {L_y : Int32} {L_j : Int32} {L_o : Int32} {P_away : Nat → Nat → Int32} {P_beside : Nat → Int32} {P_reach : Nat → Int32} {P_serves : Nat → Int32} {P_crowds : Nat → Int32} {P_servedLow : Nat → Int32} {P_servedHigh : Nat → Int32} {P_crowdedLow : Nat → Int32} {P_crowdedHigh : Nat → Int32} {P_there : Int32} {P_must : Int32} {P_can : Int32} {C_what : Nat → Int32} {C_number : Nat → Int32} {C_before : Nat → Int32} {C_after : Nat → Int32} {C_done : Int32} {C_kept : Int32} {A_kinds : Nat → Int32} {A_traced : Nat → Int32} {A_bodies : Int32} {A_began : Int32} {A_self : Int32} {A_kindOfSelf : Int32} {S_holds : Nat → Int32} {S_body : Nat → Int32} {S_sort : Nat → Int32} {S_size : Nat → Int32} {S_elements : Nat → Nat → Int64} {G_grown : Nat → Int32}
set_option maxHeartbeats 4000000 in
set_option maxRecDepth 100000 in
theorem c_X6_stood {a1 : Int32} {a2 : Int32} {d : Nat} {res : Int32 × Nat × Int32 × Int32 × Int32 × Int32 × Int32 × Int32 × Int32 × Int32 × (Nat → Nat → Int32) × (Nat → Int32) × (Nat → Int32) × (Nat → Int32) × (Nat → Int32) × (Nat → Int32) × (Nat → Int32) × (Nat → Int32) × (Nat → Int32) × Int32 × Int32 × Int32} (hd : 84 ≤ d) (h : f_X6_stood a1 a2 T_price T_year T_joinEnds T_wallEnds T_doors T_joins T_walls T_oldWells T_apart L_text L_length L_read L_end L_at L_fault L_d L_p L_y L_j L_o P_away P_beside P_reach P_serves P_crowds P_servedLow P_servedHigh P_crowdedLow P_crowdedHigh P_there P_must P_can S_holds S_sort S_size S_elements = some res) : zMi l yX6_stood cX6_stood 6 .int (zrm d) [.ref (ρ 0), .int a1, .int a2] D q (WC q ρ T_price T_year T_joinEnds T_wallEnds T_cost T_doors T_joins T_walls T_oldWells T_apart L_tape L_text L_fed L_length L_read L_end L_at L_fault L_d L_p L_y L_j L_o P_away P_beside P_reach P_serves P_crowds P_servedLow P_servedHigh P_crowdedLow P_crowdedHigh P_there P_must P_can C_what C_number C_before C_after C_done C_kept A_kinds A_traced A_bodies A_began A_self A_kindOfSelf S_holds S_body S_sort S_size S_elements G_grown) sz res.1 (WC q ρ T_price T_year T_joinEnds T_wallEnds T_cost T_doors T_joins T_walls T_oldWells T_apart L_tape L_text L_fed L_length res.2.1 res.2.2.1 res.2.2.2.1 res.2.2.2.2.1 res.2.2.2.2.2.1 res.2.2.2.2.2.2.1 res.2.2.2.2.2.2.2.1 res.2.2.2.2.2.2.2.2.1 res.2.2.2.2.2.2.2.2.2.1 res.2.2.2.2.2.2.2.2.2.2.1 res.2.2.2.2.2.2.2.2.2.2.2.1 res.2.2.2.2.2.2.2.2.2.2.2.2.1 res.2.2.2.2.2.2.2.2.2.2.2.2.2.1 res.2.2.2.2.2.2.2.2.2.2.2.2.2.2.1 res.2.2.2.2.2.2.2.2.2.2.2.2.2.2.2.1 res.2.2.2.2.2.2.2.2.2.2.2.2.2.2.2.2.1 res.2.2.2.2.2.2.2.2.2.2.2.2.2.2.2.2.2.1 res.2.2.2.2.2.2.2.2.2.2.2.2.2.2.2.2.2.2.1 res.2.2.2.2.2.2.2.2.2.2.2.2.2.2.2.2.2.2.2.1 res.2.2.2.2.2.2.2.2.2.2.2.2.2.2.2.2.2.2.2.2.1 res.2.2.2.2.2.2.2.2.2.2.2.2.2.2.2.2.2.2.2.2.2 C_what C_number C_before C_after C_done C_kept A_kinds A_traced A_bodies A_began A_self A_kindOfSelf S_holds S_body S_sort S_size S_elements G_grown) := by
  refine zMet_i (own := RX6) _ (by decide) rfl (Nat.le_of_ble_eq_true rfl) ?_
  intro p e s m args below meth c A ls Q hC hW hl hret
  have hx := hC.1
  have hb := hC.2.1
  have hl : lv_has ls 6 [(0, .ref (ρ 0)), (1, .int a1), (2, .int a2)] := hl
  have b105 : ∀ {x2 : Int32} {j3 : Nat} {x5 : Int32} {s0 : Int32} {s1 : Int32} {L_read : Nat} {L_end : Int32} {L_at : Int32} {L_fault : Int32} {L_d : Int32} {L_p : Int32} {L_y : Int32} {L_j : Int32} {L_o : Int32} {P_away : Nat → Nat → Int32} {P_beside : Nat → Int32} {P_reach : Nat → Int32} {P_serves : Nat → Int32} {P_crowds : Nat → Int32} {P_servedLow : Nat → Int32} {P_servedHigh : Nat → Int32} {P_crowdedLow : Nat → Int32} {P_crowdedHigh : Nat → Int32} {P_there : Int32} {P_must : Int32} {P_can : Int32} {k72 : Int32 → Int32 → Option (Int32 × Nat × Int32 × Int32 × Int32 × Int32 × Int32 × Int32 × Int32 × Int32 × (Nat → Nat → Int32) × (Nat → Int32) × (Nat → Int32) × (Nat → Int32) × (Nat → Int32) × (Nat → Int32) × (Nat → Int32) × (Nat → Int32) × (Nat → Int32) × Int32 × Int32 × Int32)} (hk72 : ∀ {x4 : Int32} {x5 : Int32} {H : Heap} {locs : List Loc} {ls : Array Slot}, j3 < 6 → k72 x4 x5 = some res → zW D A s.heap (WC q ρ T_price T_year T_joinEnds T_wallEnds T_cost T_doors T_joins T_walls T_oldWells T_apart L_tape L_text L_fed L_length L_read L_end L_at L_fault L_d L_p L_y L_j L_o P_away P_beside P_reach P_serves P_crowds P_servedLow P_servedHigh P_crowdedLow P_crowdedHigh P_there P_must P_can C_what C_number C_before C_after C_done C_kept A_kinds A_traced A_bodies A_began A_self A_kindOfSelf S_holds S_body S_sort S_size S_elements G_grown) H locs → lv_has ls 6 [(0, .ref (ρ 0)), (2, .int x2), (3, .ref (ρ (30 + j3))), (4, .int x4), (5, .int x5)] → W p l e (zrm d) s m args below meth c H locs 0 0 Q (F0 m 72 ls [])) {H : Heap} {locs : List Loc} {ls : Array Slot} (hj3 : j3 < 6), f_X6_stood_b105 k72 x2 j3 x5 s0 s1 T_doors L_read L_end L_at L_fault L_d L_p L_y L_j L_o P_away P_beside P_reach P_serves P_crowds P_servedLow P_servedHigh P_crowdedLow P_crowdedHigh P_there P_must P_can S_size S_elements = some res → zW D A s.heap (WC q ρ T_price T_year T_joinEnds T_wallEnds T_cost T_doors T_joins T_walls T_oldWells T_apart L_tape L_text L_fed L_length L_read L_end L_at L_fault L_d L_p L_y L_j L_o P_away P_beside P_reach P_serves P_crowds P_servedLow P_servedHigh P_crowdedLow P_crowdedHigh P_there P_must P_can C_what C_number C_before C_after C_done C_kept A_kinds A_traced A_bodies A_began A_self A_kindOfSelf S_holds S_body S_sort S_size S_elements G_grown) H locs → lv_has ls 6 [(0, .ref (ρ 0)), (2, .int x2), (3, .ref (ρ (30 + j3))), (5, .int x5)] → W p l e (zrm d) s m args below meth c H locs 0 0 Q (F0 m 105 ls [.int s0, .int s1]) := by
    intro x2 j3 x5 s0 s1 L_read L_end L_at L_fault L_d L_p L_y L_j L_o P_away P_beside P_reach P_serves P_crowds P_servedLow P_servedHigh P_crowdedLow P_crowdedHigh P_there P_must P_can k72 hk72 H locs ls hj3 h hW hl
    unfold f_X6_stood_b105 at h
    refine lv_ior hx hb dX6_stood_105 ?_
    refine lv_istore (lv' := [(4, .int (s1 ||| s0)), (0, .ref (ρ 0)), (2, .int x2), (3, .ref (ρ (30 + j3))), (5, .int x5)]) hx hb dX6_stood_106 hl (by decide) rfl (fun ls hl => ?_)
    refine lv_iinc (v := (x5 + 1)) (lv' := [(5, .int (x5 + 1)), (4, .int (s1 ||| s0)), (0, .ref (ρ 0)), (2, .int x2), (3, .ref (ρ (30 + j3)))]) hx hb dX6_stood_108 hl (k := 4) rfl rfl (by decide) rfl (fun ls hl => ?_)
    refine lv_goto (tgt := 72) hx hb dX6_stood_111 (by decide) ?_
    exact hk72 hj3 h hW (lv_sub hl [2, 3, 4, 1, 0] rfl)
  have b72 : ∀ {x2 : Int32} {j3 : Nat} {L_read : Nat} {L_end : Int32} {L_at : Int32} {L_fault : Int32} {L_d : Int32} {L_p : Int32} {L_y : Int32} {L_j : Int32} {L_o : Int32} {P_away : Nat → Nat → Int32} {P_beside : Nat → Int32} {P_reach : Nat → Int32} {P_serves : Nat → Int32} {P_crowds : Nat → Int32} {P_servedLow : Nat → Int32} {P_servedHigh : Nat → Int32} {P_crowdedLow : Nat → Int32} {P_crowdedHigh : Nat → Int32} {P_there : Int32} {P_must : Int32} {P_can : Int32} {n : Nat} {x4 : Int32} {x5 : Int32} {H : Heap} {locs : List Loc} {ls : Array Slot} (hj3 : j3 < 6), f_X6_stood_b72 x2 j3 T_doors L_read L_end L_at L_fault L_d L_p L_y L_j L_o P_away P_beside P_reach P_serves P_crowds P_servedLow P_servedHigh P_crowdedLow P_crowdedHigh P_there P_must P_can S_size S_elements n x4 x5 = some res → zW D A s.heap (WC q ρ T_price T_year T_joinEnds T_wallEnds T_cost T_doors T_joins T_walls T_oldWells T_apart L_tape L_text L_fed L_length L_read L_end L_at L_fault L_d L_p L_y L_j L_o P_away P_beside P_reach P_serves P_crowds P_servedLow P_servedHigh P_crowdedLow P_crowdedHigh P_there P_must P_can C_what C_number C_before C_after C_done C_kept A_kinds A_traced A_bodies A_began A_self A_kindOfSelf S_holds S_body S_sort S_size S_elements G_grown) H locs → lv_has ls 6 [(0, .ref (ρ 0)), (2, .int x2), (3, .ref (ρ (30 + j3))), (4, .int x4), (5, .int x5)] → W p l e (zrm d) s m args below meth c H locs 0 0 Q (F0 m 72 ls []) := by
    intro x2 j3 L_read L_end L_at L_fault L_d L_p L_y L_j L_o P_away P_beside P_reach P_serves P_crowds P_servedLow P_servedHigh P_crowdedLow P_crowdedHigh P_there P_must P_can
    intro n
    induction n with
    | zero =>
      intro x4 x5 H locs ls hj3 h
      rw [f_X6_stood_b72] at h
      cases h
    | succ n ih =>
      intro x4 x5 H locs ls hj3 h hW hl
      rw [f_X6_stood_b72] at h
      refine lv_iload hx hb dX6_stood_72 (lv_at hl 4 rfl) ?_
      refine lv_aload_n hx hb dX6_stood_74 rfl (lv_at hl 0 rfl) ?_
      refine z_get hC hW fg_X6_10 0 WC_0 rfl dX6_stood_75 ?_
      refine z_get hC hW fg_X6_59 1 WC_1 rfl dX6_stood_78 ?_
      refine lv_icmp_ge (tgt := 114) hx hb dX6_stood_81 (by decide) (fun c12 => ?_) (fun c12 => ?_)
      · have h := ifp c12 h
        refine lv_iload hx hb dX6_stood_114 (lv_at hl 3 rfl) ?_
        have h := Option.some.inj h
        subst h
        exact hret _ _ _ _ _ dX6_stood_116 rfl rfl hW
      · have h := ifn c12 h
        refine lv_iload hx hb dX6_stood_84 (lv_at hl 3 rfl) ?_
        refine lv_aload_n hx hb dX6_stood_86 rfl (lv_at hl 0 rfl) ?_
        refine lv_iload hx hb dX6_stood_87 (lv_at hl 4 rfl) ?_
        refine lv_iload_n hx hb dX6_stood_89 rfl (lv_at hl 1 rfl) ?_
        refine lv_aload_n hx hb dX6_stood_90 rfl (lv_at hl 2 rfl) ?_
        obtain ⟨u13, eu13, h⟩ := bd_some h
        refine z_callV_i hC hW (rest := [.int x4]) (c_X6_isToldFrom (d := 0) (Nat.le_refl _) hj3 eu13) vw_X6_221 WC_0 rfl ⟨rfl, rfl⟩ (zrm_ok (by omega) (by decide)) rfl rfl hl.1 (Nat.le_of_ble_eq_true rfl) dX6_stood_91 (fun H locs hW => ?_)
        refine lv_if_eq (tgt := 104) hx hb dX6_stood_94 (by decide) (fun c14 => ?_) (fun c14 => ?_)
        · have h := ifp c14 h
          refine lv_iconst (v := 0) hx hb dX6_stood_104 (by decide) ?_
          exact b105 ih hj3 h hW (lv_sub hl [0, 1, 2, 4] rfl)
        · have h := ifn c14 h
          refine lv_iconst (v := 1) hx hb dX6_stood_97 (by decide) ?_
          refine lv_iload hx hb dX6_stood_98 (lv_at hl 4 rfl) ?_
          refine lv_ishl hx hb dX6_stood_100 ?_
          refine lv_goto (tgt := 105) hx hb dX6_stood_101 (by decide) ?_
          exact b105 ih hj3 h hW (lv_sub hl [0, 1, 2, 4] rfl)
  unfold f_X6_stood at h
  refine lv_iload_n hx hb dX6_stood_0 rfl (lv_at hl 1 rfl) ?_
  obtain ⟨u1, eu1, h⟩ := bd_some h
  refine z_callS_i hC hW (rest := []) (c_X6_isShelf (d := 0) (Nat.le_refl _) eu1) sw_X6_77 ⟨rfl, rfl⟩ (zrm_ok (by omega) (by decide)) rfl rfl hl.1 (Nat.le_of_ble_eq_true rfl) dX6_stood_1 (fun H locs hW => ?_)
  refine lv_if_eq (tgt := 18) hx hb dX6_stood_4 (by decide) (fun c2 => ?_) (fun c2 => ?_)
  · have h := ifp c2 h
    refine lv_iconst (v := (-1)) hx hb dX6_stood_18 (by decide) ?_
    have h := Option.some.inj h
    subst h
    exact hret _ _ _ _ _ dX6_stood_19 rfl rfl hW
  · have h := ifn c2 h
    refine lv_aload_n hx hb dX6_stood_7 rfl (lv_at hl 0 rfl) ?_
    refine z_get hC hW fg_X6_10 0 WC_0 rfl dX6_stood_8 ?_
    refine lv_iload_n hx hb dX6_stood_11 rfl (lv_at hl 2 rfl) ?_
    obtain ⟨u3, eu3, h⟩ := bd_some h
    refine z_callV_i hC hW (rest := []) (c_X5_areDoors (d := 1) (Nat.le_refl _) eu3) vw_X6_97 WC_1 rfl ⟨rfl, rfl⟩ (zrm_ok (by omega) (by decide)) rfl rfl hl.1 (Nat.le_of_ble_eq_true rfl) dX6_stood_12 (fun H locs hW => ?_)
    refine lv_if_ne (tgt := 20) hx hb dX6_stood_15 (by decide) (fun c4 => ?_) (fun c4 => ?_)
    · have h := ifn c4 h
      refine lv_aload_n hx hb dX6_stood_20 rfl (lv_at hl 0 rfl) ?_
      refine z_get hC hW fg_X6_46 0 WC_0 rfl dX6_stood_21 ?_
      refine lv_iload_n hx hb dX6_stood_24 rfl (lv_at hl 1 rfl) ?_
      obtain ⟨g5, h⟩ := ix_some h
      refine z_aald hC hW 6 WC_6 g5 dX6_stood_25 ?_
      refine lv_astore_n (lv' := [(3, .ref (ρ (30 + (Int32.toNatClampNeg a1)))), (0, .ref (ρ 0)), (1, .int a1), (2, .int a2)]) hx hb dX6_stood_26 rfl hl (by decide) rfl (fun ls hl => ?_)
      refine lv_aload_n hx hb dX6_stood_27 rfl (lv_at hl 0 rfl) ?_
      refine z_get hC hW fg_X6_81 (30 + (Int32.toNatClampNeg a1)) (WC_sh (vlt g5)) rfl dX6_stood_28 ?_
      refine lv_if_ne (tgt := 37) hx hb dX6_stood_31 (by decide) (fun c6 => ?_) (fun c6 => ?_)
      · have h := ifn c6 h
        refine lv_aload_n hx hb dX6_stood_37 rfl (lv_at hl 0 rfl) ?_
        refine lv_iconst (v := 0) hx hb dX6_stood_38 (by decide) ?_
        obtain ⟨u7, eu7, h⟩ := bd_some h
        refine z_callV_i hC hW (q0 := 30 + (Int32.toNatClampNeg a1)) (rest := []) (c_X4_isRowOf (d := 0) (Nat.le_refl _) (vlt g5) eu7) vw_X6_84 (WC_sh (vlt g5)) rfl ⟨rfl, rfl⟩ (zrm_ok (by omega) (by decide)) rfl rfl hl.1 (Nat.le_of_ble_eq_true rfl) dX6_stood_39 (fun H locs hW => ?_)
        refine lv_if_ne (tgt := 48) hx hb dX6_stood_42 (by decide) (fun c8 => ?_) (fun c8 => ?_)
        · have h := ifn c8 h
          refine lv_aload_n hx hb dX6_stood_48 rfl (lv_at hl 0 rfl) ?_
          refine z_get hC hW fg_X6_218 (30 + (Int32.toNatClampNeg a1)) (WC_sh (vlt g5)) rfl dX6_stood_49 ?_
          refine lv_iload_n hx hb dX6_stood_52 rfl (lv_at hl 3 rfl) ?_
          obtain ⟨u9, eu9, h⟩ := bd_some h
          refine z_callS_i hC hW (rest := [.int (S_size (Int32.toNatClampNeg a1))]) (c_J6_bitCount_0f7a4 (d := 0) (Nat.le_refl _) eu9) sw_X6_192 ⟨rfl, rfl⟩ (zrm_ok (by omega) (by decide)) rfl rfl hl.1 (Nat.le_of_ble_eq_true rfl) dX6_stood_53 (fun H locs hW => ?_)
          refine lv_icmp_ge (tgt := 62) hx hb dX6_stood_56 (by decide) (fun c10 => ?_) (fun c10 => ?_)
          · have h := ifp c10 h
            refine lv_aload_n hx hb dX6_stood_62 rfl (lv_at hl 1 rfl) ?_
            obtain ⟨u11, eu11, h⟩ := bd_some h
            refine z_callV_v hC hW (rest := []) (c_X6_settle (d := 83) (Nat.le_refl _) eu11) vw_X6_147 WC_0 rfl ⟨rfl, rfl⟩ (zrm_ok (by omega) (by decide)) rfl rfl hl.1 (Nat.le_of_ble_eq_true rfl) dX6_stood_63 (fun H locs hW => ?_)
            refine lv_iconst (v := 0) hx hb dX6_stood_66 (by decide) ?_
            refine lv_istore (lv' := [(4, .int 0), (3, .ref (ρ (30 + (Int32.toNatClampNeg a1)))), (0, .ref (ρ 0)), (1, .int a1), (2, .int a2)]) hx hb dX6_stood_67 hl (by decide) rfl (fun ls hl => ?_)
            refine lv_iconst (v := 0) hx hb dX6_stood_69 (by decide) ?_
            refine lv_istore (lv' := [(5, .int 0), (4, .int 0), (3, .ref (ρ (30 + (Int32.toNatClampNeg a1)))), (0, .ref (ρ 0)), (1, .int a1), (2, .int a2)]) hx hb dX6_stood_70 hl (by decide) rfl (fun ls hl => ?_)
            exact b72 (vlt g5) h hW (lv_sub hl [3, 5, 2, 1, 0] rfl)
          · have h := ifn c10 h
            refine lv_bipush (v := (-13)) hx hb dX6_stood_59 (by decide) ?_
            have h := Option.some.inj h
            subst h
            exact hret _ _ _ _ _ dX6_stood_61 rfl rfl hW
        · have h := ifp c8 h
          refine lv_bipush (v := (-12)) hx hb dX6_stood_45 (by decide) ?_
          have h := Option.some.inj h
          subst h
          exact hret _ _ _ _ _ dX6_stood_47 rfl rfl hW
      · have h := ifp c6 h
        refine lv_bipush (v := (-11)) hx hb dX6_stood_34 (by decide) ?_
        have h := Option.some.inj h
        subst h
        exact hret _ _ _ _ _ dX6_stood_36 rfl rfl hW
    · have h := ifp c4 h
      refine lv_iconst (v := (-1)) hx hb dX6_stood_18 (by decide) ?_
      have h := Option.some.inj h
      subst h
      exact hret _ _ _ _ _ dX6_stood_19 rfl rfl hW
set_option maxHeartbeats 4000000 in
set_option maxRecDepth 100000 in
theorem c_X6_turn {a1 : Int32} {a2 : Int32} {d : Nat} {res : Int32 × Nat × Int32 × Int32 × Int32 × Int32 × Int32 × Int32 × Int32 × Int32 × (Nat → Nat → Int32) × (Nat → Int32) × (Nat → Int32) × (Nat → Int32) × (Nat → Int32) × (Nat → Int32) × (Nat → Int32) × (Nat → Int32) × (Nat → Int32) × Int32 × Int32 × Int32} (hd : 84 ≤ d) (h : f_X6_turn a1 a2 T_price T_year T_joinEnds T_wallEnds T_doors T_joins T_walls T_oldWells T_apart L_text L_length L_read L_end L_at L_fault L_d L_p L_y L_j L_o P_away P_beside P_reach P_serves P_crowds P_servedLow P_servedHigh P_crowdedLow P_crowdedHigh P_there P_must P_can = some res) : zMi l yX6_turn cX6_turn 10 .int (zrm d) [.ref (ρ 0), .int a1, .int a2] D q (WC q ρ T_price T_year T_joinEnds T_wallEnds T_cost T_doors T_joins T_walls T_oldWells T_apart L_tape L_text L_fed L_length L_read L_end L_at L_fault L_d L_p L_y L_j L_o P_away P_beside P_reach P_serves P_crowds P_servedLow P_servedHigh P_crowdedLow P_crowdedHigh P_there P_must P_can C_what C_number C_before C_after C_done C_kept A_kinds A_traced A_bodies A_began A_self A_kindOfSelf S_holds S_body S_sort S_size S_elements G_grown) sz res.1 (WC q ρ T_price T_year T_joinEnds T_wallEnds T_cost T_doors T_joins T_walls T_oldWells T_apart L_tape L_text L_fed L_length res.2.1 res.2.2.1 res.2.2.2.1 res.2.2.2.2.1 res.2.2.2.2.2.1 res.2.2.2.2.2.2.1 res.2.2.2.2.2.2.2.1 res.2.2.2.2.2.2.2.2.1 res.2.2.2.2.2.2.2.2.2.1 res.2.2.2.2.2.2.2.2.2.2.1 res.2.2.2.2.2.2.2.2.2.2.2.1 res.2.2.2.2.2.2.2.2.2.2.2.2.1 res.2.2.2.2.2.2.2.2.2.2.2.2.2.1 res.2.2.2.2.2.2.2.2.2.2.2.2.2.2.1 res.2.2.2.2.2.2.2.2.2.2.2.2.2.2.2.1 res.2.2.2.2.2.2.2.2.2.2.2.2.2.2.2.2.1 res.2.2.2.2.2.2.2.2.2.2.2.2.2.2.2.2.2.1 res.2.2.2.2.2.2.2.2.2.2.2.2.2.2.2.2.2.2.1 res.2.2.2.2.2.2.2.2.2.2.2.2.2.2.2.2.2.2.2.1 res.2.2.2.2.2.2.2.2.2.2.2.2.2.2.2.2.2.2.2.2.1 res.2.2.2.2.2.2.2.2.2.2.2.2.2.2.2.2.2.2.2.2.2 C_what C_number C_before C_after C_done C_kept A_kinds A_traced A_bodies A_began A_self A_kindOfSelf S_holds S_body S_sort S_size S_elements G_grown) := by
  refine zMet_i (own := RX6) _ (by decide) rfl (Nat.le_of_ble_eq_true rfl) ?_
  intro p e s m args below meth c A ls Q hC hW hl hret
  have hx := hC.1
  have hb := hC.2.1
  have hl : lv_has ls 10 [(0, .ref (ρ 0)), (1, .int a1), (2, .int a2)] := hl
  have b170 : ∀ {x2 : Int32} {x3 : Int32} {x4 : Int32} {L_read : Nat} {L_end : Int32} {L_at : Int32} {L_fault : Int32} {L_d : Int32} {L_p : Int32} {L_y : Int32} {L_j : Int32} {L_o : Int32} {P_away : Nat → Nat → Int32} {P_beside : Nat → Int32} {P_reach : Nat → Int32} {P_serves : Nat → Int32} {P_crowds : Nat → Int32} {P_servedLow : Nat → Int32} {P_servedHigh : Nat → Int32} {P_crowdedLow : Nat → Int32} {P_crowdedHigh : Nat → Int32} {P_there : Int32} {P_must : Int32} {P_can : Int32} {H : Heap} {locs : List Loc} {ls : Array Slot}, f_X6_turn_b170 x2 x3 x4 L_read L_end L_at L_fault L_d L_p L_y L_j L_o P_away P_beside P_reach P_serves P_crowds P_servedLow P_servedHigh P_crowdedLow P_crowdedHigh P_there P_must P_can = some res → zW D A s.heap (WC q ρ T_price T_year T_joinEnds T_wallEnds T_cost T_doors T_joins T_walls T_oldWells T_apart L_tape L_text L_fed L_length L_read L_end L_at L_fault L_d L_p L_y L_j L_o P_away P_beside P_reach P_serves P_crowds P_servedLow P_servedHigh P_crowdedLow P_crowdedHigh P_there P_must P_can C_what C_number C_before C_after C_done C_kept A_kinds A_traced A_bodies A_began A_self A_kindOfSelf S_holds S_body S_sort S_size S_elements G_grown) H locs → lv_has ls 10 [(2, .int x2), (3, .int x3), (4, .int x4)] → W p l e (zrm d) s m args below meth c H locs 0 0 Q (F0 m 170 ls []) := by
    intro x2 x3 x4 L_read L_end L_at L_fault L_d L_p L_y L_j L_o P_away P_beside P_reach P_serves P_crowds P_servedLow P_servedHigh P_crowdedLow P_crowdedHigh P_there P_must P_can H locs ls h hW hl
    unfold f_X6_turn_b170 at h
    refine lv_iload_n hx hb dX6_turn_170 rfl (lv_at hl 0 rfl) ?_
    refine lv_if_ne (tgt := 179) hx hb dX6_turn_171 (by decide) (fun c7 => ?_) (fun c7 => ?_)
    · have h := ifn c7 h
      refine lv_iload_n hx hb dX6_turn_179 rfl (lv_at hl 1 rfl) ?_
      have h := Option.some.inj h
      subst h
      exact hret _ _ _ _ _ dX6_turn_180 rfl rfl hW
    · have h := ifp c7 h
      refine lv_iload hx hb dX6_turn_174 (lv_at hl 2 rfl) ?_
      refine lv_goto (tgt := 180) hx hb dX6_turn_176 (by decide) ?_
      have h := Option.some.inj h
      subst h
      exact hret _ _ _ _ _ dX6_turn_180 rfl rfl hW
  have b162 : ∀ {x1 : Int32} {x2 : Int32} {x3 : Int32} {x4 : Int32} {x6 : Int32} {s0 : Int32} {L_read : Nat} {L_end : Int32} {L_at : Int32} {L_fault : Int32} {L_d : Int32} {L_p : Int32} {L_y : Int32} {L_j : Int32} {L_o : Int32} {P_away : Nat → Nat → Int32} {P_beside : Nat → Int32} {P_reach : Nat → Int32} {P_serves : Nat → Int32} {P_crowds : Nat → Int32} {P_servedLow : Nat → Int32} {P_servedHigh : Nat → Int32} {P_crowdedLow : Nat → Int32} {P_crowdedHigh : Nat → Int32} {P_there : Int32} {P_must : Int32} {P_can : Int32} {k40 : Int32 → Int32 → Int32 → Int32 → Option (Int32 × Nat × Int32 × Int32 × Int32 × Int32 × Int32 × Int32 × Int32 × Int32 × (Nat → Nat → Int32) × (Nat → Int32) × (Nat → Int32) × (Nat → Int32) × (Nat → Int32) × (Nat → Int32) × (Nat → Int32) × (Nat → Int32) × (Nat → Int32) × Int32 × Int32 × Int32)} (hk40 : ∀ {x3 : Int32} {x4 : Int32} {x5 : Int32} {x6 : Int32} {H : Heap} {locs : List Loc} {ls : Array Slot}, k40 x3 x4 x5 x6 = some res → zW D A s.heap (WC q ρ T_price T_year T_joinEnds T_wallEnds T_cost T_doors T_joins T_walls T_oldWells T_apart L_tape L_text L_fed L_length L_read L_end L_at L_fault L_d L_p L_y L_j L_o P_away P_beside P_reach P_serves P_crowds P_servedLow P_servedHigh P_crowdedLow P_crowdedHigh P_there P_must P_can C_what C_number C_before C_after C_done C_kept A_kinds A_traced A_bodies A_began A_self A_kindOfSelf S_holds S_body S_sort S_size S_elements G_grown) H locs → lv_has ls 10 [(0, .ref (ρ 0)), (1, .int x1), (2, .int x2), (3, .int x3), (4, .int x4), (5, .int x5), (6, .int x6)] → W p l e (zrm d) s m args below meth c H locs 0 0 Q (F0 m 40 ls [])) {H : Heap} {locs : List Loc} {ls : Array Slot}, f_X6_turn_b162 k40 x1 x2 x3 x4 x6 s0 T_price T_doors L_read L_end L_at L_fault L_d L_p L_y L_j L_o P_away P_beside P_reach P_serves P_crowds P_servedLow P_servedHigh P_crowdedLow P_crowdedHigh P_there P_must P_can = some res → zW D A s.heap (WC q ρ T_price T_year T_joinEnds T_wallEnds T_cost T_doors T_joins T_walls T_oldWells T_apart L_tape L_text L_fed L_length L_read L_end L_at L_fault L_d L_p L_y L_j L_o P_away P_beside P_reach P_serves P_crowds P_servedLow P_servedHigh P_crowdedLow P_crowdedHigh P_there P_must P_can C_what C_number C_before C_after C_done C_kept A_kinds A_traced A_bodies A_began A_self A_kindOfSelf S_holds S_body S_sort S_size S_elements G_grown) H locs → lv_has ls 10 [(0, .ref (ρ 0)), (1, .int x1), (2, .int x2), (3, .int x3), (4, .int x4), (6, .int x6)] → W p l e (zrm d) s m args below meth c H locs 0 0 Q (F0 m 162 ls [.int s0]) := by
    intro x1 x2 x3 x4 x6 s0 L_read L_end L_at L_fault L_d L_p L_y L_j L_o P_away P_beside P_reach P_serves P_crowds P_servedLow P_servedHigh P_crowdedLow P_crowdedHigh P_there P_must P_can k40 hk40 H locs ls h hW hl
    unfold f_X6_turn_b162 at h
    refine lv_istore (lv' := [(5, .int s0), (0, .ref (ρ 0)), (1, .int x1), (2, .int x2), (3, .int x3), (4, .int x4), (6, .int x6)]) hx hb dX6_turn_162 hl (by decide) rfl (fun ls hl => ?_)
    refine lv_iinc (v := (x6 + 1)) (lv' := [(6, .int (x6 + 1)), (5, .int s0), (0, .ref (ρ 0)), (1, .int x1), (2, .int x2), (3, .int x3), (4, .int x4)]) hx hb dX6_turn_164 hl (k := 6) rfl rfl (by decide) rfl (fun ls hl => ?_)
    refine lv_goto (tgt := 40) hx hb dX6_turn_167 (by decide) ?_
    exact hk40 h hW (lv_sub hl [2, 3, 4, 5, 6, 1, 0] rfl)
  have b145 : ∀ {x1 : Int32} {x2 : Int32} {x3 : Int32} {x4 : Int32} {x6 : Int32} {x7 : Int32} {x8 : Int32} {L_read : Nat} {L_end : Int32} {L_at : Int32} {L_fault : Int32} {L_d : Int32} {L_p : Int32} {L_y : Int32} {L_j : Int32} {L_o : Int32} {P_away : Nat → Nat → Int32} {P_beside : Nat → Int32} {P_reach : Nat → Int32} {P_serves : Nat → Int32} {P_crowds : Nat → Int32} {P_servedLow : Nat → Int32} {P_servedHigh : Nat → Int32} {P_crowdedLow : Nat → Int32} {P_crowdedHigh : Nat → Int32} {P_there : Int32} {P_must : Int32} {P_can : Int32} {k40 : Int32 → Int32 → Int32 → Int32 → Option (Int32 × Nat × Int32 × Int32 × Int32 × Int32 × Int32 × Int32 × Int32 × Int32 × (Nat → Nat → Int32) × (Nat → Int32) × (Nat → Int32) × (Nat → Int32) × (Nat → Int32) × (Nat → Int32) × (Nat → Int32) × (Nat → Int32) × (Nat → Int32) × Int32 × Int32 × Int32)} (hk40 : ∀ {x3 : Int32} {x4 : Int32} {x5 : Int32} {x6 : Int32} {H : Heap} {locs : List Loc} {ls : Array Slot}, k40 x3 x4 x5 x6 = some res → zW D A s.heap (WC q ρ T_price T_year T_joinEnds T_wallEnds T_cost T_doors T_joins T_walls T_oldWells T_apart L_tape L_text L_fed L_length L_read L_end L_at L_fault L_d L_p L_y L_j L_o P_away P_beside P_reach P_serves P_crowds P_servedLow P_servedHigh P_crowdedLow P_crowdedHigh P_there P_must P_can C_what C_number C_before C_after C_done C_kept A_kinds A_traced A_bodies A_began A_self A_kindOfSelf S_holds S_body S_sort S_size S_elements G_grown) H locs → lv_has ls 10 [(0, .ref (ρ 0)), (1, .int x1), (2, .int x2), (3, .int x3), (4, .int x4), (5, .int x5), (6, .int x6)] → W p l e (zrm d) s m args below meth c H locs 0 0 Q (F0 m 40 ls [])) {k58 : Int32 → Int32 → Int32 → Option (Int32 × Nat × Int32 × Int32 × Int32 × Int32 × Int32 × Int32 × Int32 × Int32 × (Nat → Nat → Int32) × (Nat → Int32) × (Nat → Int32) × (Nat → Int32) × (Nat → Int32) × (Nat → Int32) × (Nat → Int32) × (Nat → Int32) × (Nat → Int32) × Int32 × Int32 × Int32)} (hk58 : ∀ {x3 : Int32} {x4 : Int32} {x8 : Int32} {H : Heap} {locs : List Loc} {ls : Array Slot}, k58 x3 x4 x8 = some res → zW D A s.heap (WC q ρ T_price T_year T_joinEnds T_wallEnds T_cost T_doors T_joins T_walls T_oldWells T_apart L_tape L_text L_fed L_length L_read L_end L_at L_fault L_d L_p L_y L_j L_o P_away P_beside P_reach P_serves P_crowds P_servedLow P_servedHigh P_crowdedLow P_crowdedHigh P_there P_must P_can C_what C_number C_before C_after C_done C_kept A_kinds A_traced A_bodies A_began A_self A_kindOfSelf S_holds S_body S_sort S_size S_elements G_grown) H locs → lv_has ls 10 [(0, .ref (ρ 0)), (1, .int x1), (2, .int x2), (3, .int x3), (4, .int x4), (6, .int x6), (7, .int x7), (8, .int x8)] → W p l e (zrm d) s m args below meth c H locs 0 0 Q (F0 m 58 ls [])) {H : Heap} {locs : List Loc} {ls : Array Slot}, f_X6_turn_b145 k40 k58 x1 x2 x3 x4 x6 x7 x8 T_price T_doors L_read L_end L_at L_fault L_d L_p L_y L_j L_o P_away P_beside P_reach P_serves P_crowds P_servedLow P_servedHigh P_crowdedLow P_crowdedHigh P_there P_must P_can = some res → zW D A s.heap (WC q ρ T_price T_year T_joinEnds T_wallEnds T_cost T_doors T_joins T_walls T_oldWells T_apart L_tape L_text L_fed L_length L_read L_end L_at L_fault L_d L_p L_y L_j L_o P_away P_beside P_reach P_serves P_crowds P_servedLow P_servedHigh P_crowdedLow P_crowdedHigh P_there P_must P_can C_what C_number C_before C_after C_done C_kept A_kinds A_traced A_bodies A_began A_self A_kindOfSelf S_holds S_body S_sort S_size S_elements G_grown) H locs → lv_has ls 10 [(0, .ref (ρ 0)), (1, .int x1), (2, .int x2), (3, .int x3), (4, .int x4), (6, .int x6), (7, .int x7), (8, .int x8)] → W p l e (zrm d) s m args below meth c H locs 0 0 Q (F0 m 145 ls []) := by
    intro x1 x2 x3 x4 x6 x7 x8 L_read L_end L_at L_fault L_d L_p L_y L_j L_o P_away P_beside P_reach P_serves P_crowds P_servedLow P_servedHigh P_crowdedLow P_crowdedHigh P_there P_must P_can k40 hk40 k58 hk58 H locs ls h hW hl
    unfold f_X6_turn_b145 at h
    refine lv_iinc (v := (x8 + 1)) (lv' := [(8, .int (x8 + 1)), (0, .ref (ρ 0)), (1, .int x1), (2, .int x2), (3, .int x3), (4, .int x4), (6, .int x6), (7, .int x7)]) hx hb dX6_turn_145 hl (k := 7) rfl rfl (by decide) rfl (fun ls hl => ?_)
    refine lv_goto (tgt := 58) hx hb dX6_turn_148 (by decide) ?_
    exact hk58 h hW (lv_sub hl [1, 2, 3, 4, 5, 6, 7, 0] rfl)
  have b102 : ∀ {x1 : Int32} {x2 : Int32} {x3 : Int32} {x4 : Int32} {x6 : Int32} {x7 : Int32} {x8 : Int32} {s0 : Int32} {L_read : Nat} {L_end : Int32} {L_at : Int32} {L_fault : Int32} {L_d : Int32} {L_p : Int32} {L_y : Int32} {L_j : Int32} {L_o : Int32} {P_away : Nat → Nat → Int32} {P_beside : Nat → Int32} {P_reach : Nat → Int32} {P_serves : Nat → Int32} {P_crowds : Nat → Int32} {P_servedLow : Nat → Int32} {P_servedHigh : Nat → Int32} {P_crowdedLow : Nat → Int32} {P_crowdedHigh : Nat → Int32} {P_there : Int32} {P_must : Int32} {P_can : Int32} {k40 : Int32 → Int32 → Int32 → Int32 → Option (Int32 × Nat × Int32 × Int32 × Int32 × Int32 × Int32 × Int32 × Int32 × Int32 × (Nat → Nat → Int32) × (Nat → Int32) × (Nat → Int32) × (Nat → Int32) × (Nat → Int32) × (Nat → Int32) × (Nat → Int32) × (Nat → Int32) × (Nat → Int32) × Int32 × Int32 × Int32)} (hk40 : ∀ {x3 : Int32} {x4 : Int32} {x5 : Int32} {x6 : Int32} {H : Heap} {locs : List Loc} {ls : Array Slot}, k40 x3 x4 x5 x6 = some res → zW D A s.heap (WC q ρ T_price T_year T_joinEnds T_wallEnds T_cost T_doors T_joins T_walls T_oldWells T_apart L_tape L_text L_fed L_length L_read L_end L_at L_fault L_d L_p L_y L_j L_o P_away P_beside P_reach P_serves P_crowds P_servedLow P_servedHigh P_crowdedLow P_crowdedHigh P_there P_must P_can C_what C_number C_before C_after C_done C_kept A_kinds A_traced A_bodies A_began A_self A_kindOfSelf S_holds S_body S_sort S_size S_elements G_grown) H locs → lv_has ls 10 [(0, .ref (ρ 0)), (1, .int x1), (2, .int x2), (3, .int x3), (4, .int x4), (5, .int x5), (6, .int x6)] → W p l e (zrm d) s m args below meth c H locs 0 0 Q (F0 m 40 ls [])) {k58 : Int32 → Int32 → Int32 → Option (Int32 × Nat × Int32 × Int32 × Int32 × Int32 × Int32 × Int32 × Int32 × Int32 × (Nat → Nat → Int32) × (Nat → Int32) × (Nat → Int32) × (Nat → Int32) × (Nat → Int32) × (Nat → Int32) × (Nat → Int32) × (Nat → Int32) × (Nat → Int32) × Int32 × Int32 × Int32)} (hk58 : ∀ {x3 : Int32} {x4 : Int32} {x8 : Int32} {H : Heap} {locs : List Loc} {ls : Array Slot}, k58 x3 x4 x8 = some res → zW D A s.heap (WC q ρ T_price T_year T_joinEnds T_wallEnds T_cost T_doors T_joins T_walls T_oldWells T_apart L_tape L_text L_fed L_length L_read L_end L_at L_fault L_d L_p L_y L_j L_o P_away P_beside P_reach P_serves P_crowds P_servedLow P_servedHigh P_crowdedLow P_crowdedHigh P_there P_must P_can C_what C_number C_before C_after C_done C_kept A_kinds A_traced A_bodies A_began A_self A_kindOfSelf S_holds S_body S_sort S_size S_elements G_grown) H locs → lv_has ls 10 [(0, .ref (ρ 0)), (1, .int x1), (2, .int x2), (3, .int x3), (4, .int x4), (6, .int x6), (7, .int x7), (8, .int x8)] → W p l e (zrm d) s m args below meth c H locs 0 0 Q (F0 m 58 ls [])) {H : Heap} {locs : List Loc} {ls : Array Slot}, f_X6_turn_b102 k40 k58 x1 x2 x3 x4 x6 x7 x8 s0 T_price T_doors L_read L_end L_at L_fault L_d L_p L_y L_j L_o P_away P_beside P_reach P_serves P_crowds P_servedLow P_servedHigh P_crowdedLow P_crowdedHigh P_there P_must P_can = some res → zW D A s.heap (WC q ρ T_price T_year T_joinEnds T_wallEnds T_cost T_doors T_joins T_walls T_oldWells T_apart L_tape L_text L_fed L_length L_read L_end L_at L_fault L_d L_p L_y L_j L_o P_away P_beside P_reach P_serves P_crowds P_servedLow P_servedHigh P_crowdedLow P_crowdedHigh P_there P_must P_can C_what C_number C_before C_after C_done C_kept A_kinds A_traced A_bodies A_began A_self A_kindOfSelf S_holds S_body S_sort S_size S_elements G_grown) H locs → lv_has ls 10 [(0, .ref (ρ 0)), (1, .int x1), (2, .int x2), (3, .int x3), (4, .int x4), (6, .int x6), (7, .int x7), (8, .int x8)] → W p l e (zrm d) s m args below meth c H locs 0 0 Q (F0 m 102 ls [.int s0]) := by
    intro x1 x2 x3 x4 x6 x7 x8 s0 L_read L_end L_at L_fault L_d L_p L_y L_j L_o P_away P_beside P_reach P_serves P_crowds P_servedLow P_servedHigh P_crowdedLow P_crowdedHigh P_there P_must P_can k40 hk40 k58 hk58 H locs ls h hW hl
    unfold f_X6_turn_b102 at h
    refine lv_istore (lv' := [(9, .int s0), (0, .ref (ρ 0)), (1, .int x1), (2, .int x2), (3, .int x3), (4, .int x4), (6, .int x6), (7, .int x7), (8, .int x8)]) hx hb dX6_turn_102 hl (by decide) rfl (fun ls hl => ?_)
    refine lv_iload hx hb dX6_turn_104 (lv_at hl 0 rfl) ?_
    refine lv_if_eq (tgt := 145) hx hb dX6_turn_106 (by decide) (fun c13 => ?_) (fun c13 => ?_)
    · have h := ifp c13 h
      exact b145 hk40 hk58 h hW (lv_sub hl [1, 2, 3, 4, 5, 6, 7, 8] rfl)
    · have h := ifn c13 h
      refine lv_aload_n hx hb dX6_turn_109 rfl (lv_at hl 1 rfl) ?_
      refine z_get hC hW fg_X6_26 0 WC_0 rfl dX6_turn_110 ?_
      refine lv_iload hx hb dX6_turn_113 (lv_at hl 8 rfl) ?_
      refine lv_iload_n hx hb dX6_turn_115 rfl (lv_at hl 4 rfl) ?_
      obtain ⟨u14, eu14, h⟩ := bd_some h
      refine z_callV_i hC hW (rest := []) (c_X3_isServed (d := 1) (Nat.le_refl _) eu14) vw_X6_170 WC_3 rfl ⟨rfl, rfl⟩ (zrm_ok (by omega) (by decide)) rfl rfl hl.1 (Nat.le_of_ble_eq_true rfl) dX6_turn_116 (fun H locs hW => ?_)
      refine lv_if_ne (tgt := 145) hx hb dX6_turn_119 (by decide) (fun c15 => ?_) (fun c15 => ?_)
      · have h := ifn c15 h
        exact b145 hk40 hk58 h hW (lv_sub hl [1, 2, 3, 4, 5, 6, 7, 8] rfl)
      · have h := ifp c15 h
        refine lv_aload_n hx hb dX6_turn_122 rfl (lv_at hl 1 rfl) ?_
        refine z_get hC hW fg_X6_26 0 WC_0 rfl dX6_turn_123 ?_
        refine lv_iload hx hb dX6_turn_126 (lv_at hl 8 rfl) ?_
        refine lv_iload_n hx hb dX6_turn_128 rfl (lv_at hl 4 rfl) ?_
        obtain ⟨u16, eu16, h⟩ := bd_some h
        refine z_callV_i hC hW (rest := []) (c_X3_isClear (d := 1) (Nat.le_refl _) eu16) vw_X6_176 WC_3 rfl ⟨rfl, rfl⟩ (zrm_ok (by omega) (by decide)) rfl rfl hl.1 (Nat.le_of_ble_eq_true rfl) dX6_turn_129 (fun H locs hW => ?_)
        refine lv_if_eq (tgt := 145) hx hb dX6_turn_132 (by decide) (fun c17 => ?_) (fun c17 => ?_)
        · have h := ifp c17 h
          exact b145 hk40 hk58 h hW (lv_sub hl [1, 2, 3, 4, 5, 6, 7, 8] rfl)
        · have h := ifn c17 h
          refine lv_iload_n hx hb dX6_turn_135 rfl (lv_at hl 4 rfl) ?_
          refine lv_iconst (v := 1) hx hb dX6_turn_136 (by decide) ?_
          refine lv_iload hx hb dX6_turn_137 (lv_at hl 8 rfl) ?_
          refine lv_ishl hx hb dX6_turn_139 ?_
          refine lv_ior hx hb dX6_turn_140 ?_
          refine lv_istore_n (lv' := [(3, .int (x3 ||| (1 <<< (x8 &&& 31)))), (9, .int s0), (0, .ref (ρ 0)), (1, .int x1), (2, .int x2), (4, .int x4), (6, .int x6), (7, .int x7), (8, .int x8)]) hx hb dX6_turn_141 rfl hl (by decide) rfl (fun ls hl => ?_)
          refine lv_iinc (v := (x4 + 1)) (lv' := [(4, .int (x4 + 1)), (3, .int (x3 ||| (1 <<< (x8 &&& 31)))), (9, .int s0), (0, .ref (ρ 0)), (1, .int x1), (2, .int x2), (6, .int x6), (7, .int x7), (8, .int x8)]) hx hb dX6_turn_142 hl (k := 5) rfl rfl (by decide) rfl (fun ls hl => ?_)
          exact b145 hk40 hk58 h hW (lv_sub hl [3, 4, 5, 1, 0, 6, 7, 8] rfl)
  have b101 : ∀ {x1 : Int32} {x2 : Int32} {x3 : Int32} {x4 : Int32} {x6 : Int32} {x7 : Int32} {x8 : Int32} {L_read : Nat} {L_end : Int32} {L_at : Int32} {L_fault : Int32} {L_d : Int32} {L_p : Int32} {L_y : Int32} {L_j : Int32} {L_o : Int32} {P_away : Nat → Nat → Int32} {P_beside : Nat → Int32} {P_reach : Nat → Int32} {P_serves : Nat → Int32} {P_crowds : Nat → Int32} {P_servedLow : Nat → Int32} {P_servedHigh : Nat → Int32} {P_crowdedLow : Nat → Int32} {P_crowdedHigh : Nat → Int32} {P_there : Int32} {P_must : Int32} {P_can : Int32} {k40 : Int32 → Int32 → Int32 → Int32 → Option (Int32 × Nat × Int32 × Int32 × Int32 × Int32 × Int32 × Int32 × Int32 × Int32 × (Nat → Nat → Int32) × (Nat → Int32) × (Nat → Int32) × (Nat → Int32) × (Nat → Int32) × (Nat → Int32) × (Nat → Int32) × (Nat → Int32) × (Nat → Int32) × Int32 × Int32 × Int32)} (hk40 : ∀ {x3 : Int32} {x4 : Int32} {x5 : Int32} {x6 : Int32} {H : Heap} {locs : List Loc} {ls : Array Slot}, k40 x3 x4 x5 x6 = some res → zW D A s.heap (WC q ρ T_price T_year T_joinEnds T_wallEnds T_cost T_doors T_joins T_walls T_oldWells T_apart L_tape L_text L_fed L_length L_read L_end L_at L_fault L_d L_p L_y L_j L_o P_away P_beside P_reach P_serves P_crowds P_servedLow P_servedHigh P_crowdedLow P_crowdedHigh P_there P_must P_can C_what C_number C_before C_after C_done C_kept A_kinds A_traced A_bodies A_began A_self A_kindOfSelf S_holds S_body S_sort S_size S_elements G_grown) H locs → lv_has ls 10 [(0, .ref (ρ 0)), (1, .int x1), (2, .int x2), (3, .int x3), (4, .int x4), (5, .int x5), (6, .int x6)] → W p l e (zrm d) s m args below meth c H locs 0 0 Q (F0 m 40 ls [])) {k58 : Int32 → Int32 → Int32 → Option (Int32 × Nat × Int32 × Int32 × Int32 × Int32 × Int32 × Int32 × Int32 × Int32 × (Nat → Nat → Int32) × (Nat → Int32) × (Nat → Int32) × (Nat → Int32) × (Nat → Int32) × (Nat → Int32) × (Nat → Int32) × (Nat → Int32) × (Nat → Int32) × Int32 × Int32 × Int32)} (hk58 : ∀ {x3 : Int32} {x4 : Int32} {x8 : Int32} {H : Heap} {locs : List Loc} {ls : Array Slot}, k58 x3 x4 x8 = some res → zW D A s.heap (WC q ρ T_price T_year T_joinEnds T_wallEnds T_cost T_doors T_joins T_walls T_oldWells T_apart L_tape L_text L_fed L_length L_read L_end L_at L_fault L_d L_p L_y L_j L_o P_away P_beside P_reach P_serves P_crowds P_servedLow P_servedHigh P_crowdedLow P_crowdedHigh P_there P_must P_can C_what C_number C_before C_after C_done C_kept A_kinds A_traced A_bodies A_began A_self A_kindOfSelf S_holds S_body S_sort S_size S_elements G_grown) H locs → lv_has ls 10 [(0, .ref (ρ 0)), (1, .int x1), (2, .int x2), (3, .int x3), (4, .int x4), (6, .int x6), (7, .int x7), (8, .int x8)] → W p l e (zrm d) s m args below meth c H locs 0 0 Q (F0 m 58 ls [])) {H : Heap} {locs : List Loc} {ls : Array Slot}, f_X6_turn_b101 k40 k58 x1 x2 x3 x4 x6 x7 x8 T_price T_doors L_read L_end L_at L_fault L_d L_p L_y L_j L_o P_away P_beside P_reach P_serves P_crowds P_servedLow P_servedHigh P_crowdedLow P_crowdedHigh P_there P_must P_can = some res → zW D A s.heap (WC q ρ T_price T_year T_joinEnds T_wallEnds T_cost T_doors T_joins T_walls T_oldWells T_apart L_tape L_text L_fed L_length L_read L_end L_at L_fault L_d L_p L_y L_j L_o P_away P_beside P_reach P_serves P_crowds P_servedLow P_servedHigh P_crowdedLow P_crowdedHigh P_there P_must P_can C_what C_number C_before C_after C_done C_kept A_kinds A_traced A_bodies A_began A_self A_kindOfSelf S_holds S_body S_sort S_size S_elements G_grown) H locs → lv_has ls 10 [(0, .ref (ρ 0)), (1, .int x1), (2, .int x2), (3, .int x3), (4, .int x4), (6, .int x6), (7, .int x7), (8, .int x8)] → W p l e (zrm d) s m args below meth c H locs 0 0 Q (F0 m 101 ls []) := by
    intro x1 x2 x3 x4 x6 x7 x8 L_read L_end L_at L_fault L_d L_p L_y L_j L_o P_away P_beside P_reach P_serves P_crowds P_servedLow P_servedHigh P_crowdedLow P_crowdedHigh P_there P_must P_can k40 hk40 k58 hk58 H locs ls h hW hl
    unfold f_X6_turn_b101 at h
    refine lv_iconst (v := 0) hx hb dX6_turn_101 (by decide) ?_
    exact b102 hk40 hk58 h hW (lv_sub hl [0, 1, 2, 3, 4, 5, 6, 7] rfl)
  have b58 : ∀ {x1 : Int32} {x2 : Int32} {x6 : Int32} {x7 : Int32} {L_read : Nat} {L_end : Int32} {L_at : Int32} {L_fault : Int32} {L_d : Int32} {L_p : Int32} {L_y : Int32} {L_j : Int32} {L_o : Int32} {P_away : Nat → Nat → Int32} {P_beside : Nat → Int32} {P_reach : Nat → Int32} {P_serves : Nat → Int32} {P_crowds : Nat → Int32} {P_servedLow : Nat → Int32} {P_servedHigh : Nat → Int32} {P_crowdedLow : Nat → Int32} {P_crowdedHigh : Nat → Int32} {P_there : Int32} {P_must : Int32} {P_can : Int32} {k40 : Int32 → Int32 → Int32 → Int32 → Option (Int32 × Nat × Int32 × Int32 × Int32 × Int32 × Int32 × Int32 × Int32 × Int32 × (Nat → Nat → Int32) × (Nat → Int32) × (Nat → Int32) × (Nat → Int32) × (Nat → Int32) × (Nat → Int32) × (Nat → Int32) × (Nat → Int32) × (Nat → Int32) × Int32 × Int32 × Int32)} (hk40 : ∀ {x3 : Int32} {x4 : Int32} {x5 : Int32} {x6 : Int32} {H : Heap} {locs : List Loc} {ls : Array Slot}, k40 x3 x4 x5 x6 = some res → zW D A s.heap (WC q ρ T_price T_year T_joinEnds T_wallEnds T_cost T_doors T_joins T_walls T_oldWells T_apart L_tape L_text L_fed L_length L_read L_end L_at L_fault L_d L_p L_y L_j L_o P_away P_beside P_reach P_serves P_crowds P_servedLow P_servedHigh P_crowdedLow P_crowdedHigh P_there P_must P_can C_what C_number C_before C_after C_done C_kept A_kinds A_traced A_bodies A_began A_self A_kindOfSelf S_holds S_body S_sort S_size S_elements G_grown) H locs → lv_has ls 10 [(0, .ref (ρ 0)), (1, .int x1), (2, .int x2), (3, .int x3), (4, .int x4), (5, .int x5), (6, .int x6)] → W p l e (zrm d) s m args below meth c H locs 0 0 Q (F0 m 40 ls [])) {n : Nat} {x3 : Int32} {x4 : Int32} {x8 : Int32} {H : Heap} {locs : List Loc} {ls : Array Slot}, f_X6_turn_b58 k40 x1 x2 x6 x7 T_price T_doors L_read L_end L_at L_fault L_d L_p L_y L_j L_o P_away P_beside P_reach P_serves P_crowds P_servedLow P_servedHigh P_crowdedLow P_crowdedHigh P_there P_must P_can n x3 x4 x8 = some res → zW D A s.heap (WC q ρ T_price T_year T_joinEnds T_wallEnds T_cost T_doors T_joins T_walls T_oldWells T_apart L_tape L_text L_fed L_length L_read L_end L_at L_fault L_d L_p L_y L_j L_o P_away P_beside P_reach P_serves P_crowds P_servedLow P_servedHigh P_crowdedLow P_crowdedHigh P_there P_must P_can C_what C_number C_before C_after C_done C_kept A_kinds A_traced A_bodies A_began A_self A_kindOfSelf S_holds S_body S_sort S_size S_elements G_grown) H locs → lv_has ls 10 [(0, .ref (ρ 0)), (1, .int x1), (2, .int x2), (3, .int x3), (4, .int x4), (6, .int x6), (7, .int x7), (8, .int x8)] → W p l e (zrm d) s m args below meth c H locs 0 0 Q (F0 m 58 ls []) := by
    intro x1 x2 x6 x7 L_read L_end L_at L_fault L_d L_p L_y L_j L_o P_away P_beside P_reach P_serves P_crowds P_servedLow P_servedHigh P_crowdedLow P_crowdedHigh P_there P_must P_can k40 hk40
    intro n
    induction n with
    | zero =>
      intro x3 x4 x8 H locs ls h
      rw [f_X6_turn_b58] at h
      cases h
    | succ n ih =>
      intro x3 x4 x8 H locs ls h hW hl
      rw [f_X6_turn_b58] at h
      refine lv_iload hx hb dX6_turn_58 (lv_at hl 7 rfl) ?_
      refine lv_aload_n hx hb dX6_turn_60 rfl (lv_at hl 0 rfl) ?_
      refine z_get hC hW fg_X6_10 0 WC_0 rfl dX6_turn_61 ?_
      refine z_get hC hW fg_X6_59 1 WC_1 rfl dX6_turn_64 ?_
      refine lv_icmp_ge (tgt := 151) hx hb dX6_turn_67 (by decide) (fun c9 => ?_) (fun c9 => ?_)
      · have h := ifp c9 h
        refine lv_iload_n hx hb dX6_turn_151 rfl (lv_at hl 3 rfl) ?_
        refine lv_iload hx hb dX6_turn_152 (lv_at hl 6 rfl) ?_
        refine lv_icmp_eq (tgt := 161) hx hb dX6_turn_154 (by decide) (fun c10 => ?_) (fun c10 => ?_)
        · have h := ifp c10 h
          refine lv_iconst (v := 0) hx hb dX6_turn_161 (by decide) ?_
          exact b162 hk40 h hW (lv_sub hl [0, 1, 2, 3, 4, 5] rfl)
        · have h := ifn c10 h
          refine lv_iconst (v := 1) hx hb dX6_turn_157 (by decide) ?_
          refine lv_goto (tgt := 162) hx hb dX6_turn_158 (by decide) ?_
          exact b162 hk40 h hW (lv_sub hl [0, 1, 2, 3, 4, 5] rfl)
      · have h := ifn c9 h
        refine lv_aload_n hx hb dX6_turn_70 rfl (lv_at hl 0 rfl) ?_
        refine z_get hC hW fg_X6_10 0 WC_0 rfl dX6_turn_71 ?_
        refine z_get hC hW fg_X6_173 1 WC_1 rfl dX6_turn_74 ?_
        refine lv_iload hx hb dX6_turn_77 (lv_at hl 7 rfl) ?_
        obtain ⟨g11, h⟩ := ix_some h
        refine z_iald hC hW 8 WC_8 g11 dX6_turn_79 ?_
        refine lv_if_le (tgt := 101) hx hb dX6_turn_80 (by decide) (fun c12 => ?_) (fun c12 => ?_)
        · have h := ifp c12 h
          exact b101 hk40 ih h hW (lv_sub hl [0, 1, 2, 3, 4, 5, 6, 7] rfl)
        · have h := ifn c12 h
          refine lv_aload_n hx hb dX6_turn_83 rfl (lv_at hl 0 rfl) ?_
          refine z_get hC hW fg_X6_10 0 WC_0 rfl dX6_turn_84 ?_
          refine z_get hC hW fg_X6_173 1 WC_1 rfl dX6_turn_87 ?_
          refine lv_iload hx hb dX6_turn_90 (lv_at hl 7 rfl) ?_
          obtain ⟨g18, h⟩ := ix_some h
          refine z_iald hC hW 8 WC_8 g18 dX6_turn_92 ?_
          refine lv_iload_n hx hb dX6_turn_93 rfl (lv_at hl 1 rfl) ?_
          refine lv_icmp_gt (tgt := 101) hx hb dX6_turn_94 (by decide) (fun c19 => ?_) (fun c19 => ?_)
          · have h := ifp c19 h
            exact b101 hk40 ih h hW (lv_sub hl [0, 1, 2, 3, 4, 5, 6, 7] rfl)
          · have h := ifn c19 h
            refine lv_iconst (v := 1) hx hb dX6_turn_97 (by decide) ?_
            refine lv_goto (tgt := 102) hx hb dX6_turn_98 (by decide) ?_
            exact b102 hk40 ih h hW (lv_sub hl [0, 1, 2, 3, 4, 5, 6, 7] rfl)
  have b40 : ∀ {x1 : Int32} {x2 : Int32} {L_read : Nat} {L_end : Int32} {L_at : Int32} {L_fault : Int32} {L_d : Int32} {L_p : Int32} {L_y : Int32} {L_j : Int32} {L_o : Int32} {P_away : Nat → Nat → Int32} {P_beside : Nat → Int32} {P_reach : Nat → Int32} {P_serves : Nat → Int32} {P_crowds : Nat → Int32} {P_servedLow : Nat → Int32} {P_servedHigh : Nat → Int32} {P_crowdedLow : Nat → Int32} {P_crowdedHigh : Nat → Int32} {P_there : Int32} {P_must : Int32} {P_can : Int32} {n : Nat} {x3 : Int32} {x4 : Int32} {x5 : Int32} {x6 : Int32} {H : Heap} {locs : List Loc} {ls : Array Slot}, f_X6_turn_b40 x1 x2 T_price T_doors L_read L_end L_at L_fault L_d L_p L_y L_j L_o P_away P_beside P_reach P_serves P_crowds P_servedLow P_servedHigh P_crowdedLow P_crowdedHigh P_there P_must P_can n x3 x4 x5 x6 = some res → zW D A s.heap (WC q ρ T_price T_year T_joinEnds T_wallEnds T_cost T_doors T_joins T_walls T_oldWells T_apart L_tape L_text L_fed L_length L_read L_end L_at L_fault L_d L_p L_y L_j L_o P_away P_beside P_reach P_serves P_crowds P_servedLow P_servedHigh P_crowdedLow P_crowdedHigh P_there P_must P_can C_what C_number C_before C_after C_done C_kept A_kinds A_traced A_bodies A_began A_self A_kindOfSelf S_holds S_body S_sort S_size S_elements G_grown) H locs → lv_has ls 10 [(0, .ref (ρ 0)), (1, .int x1), (2, .int x2), (3, .int x3), (4, .int x4), (5, .int x5), (6, .int x6)] → W p l e (zrm d) s m args below meth c H locs 0 0 Q (F0 m 40 ls []) := by
    intro x1 x2 L_read L_end L_at L_fault L_d L_p L_y L_j L_o P_away P_beside P_reach P_serves P_crowds P_servedLow P_servedHigh P_crowdedLow P_crowdedHigh P_there P_must P_can
    intro n
    induction n with
    | zero =>
      intro x3 x4 x5 x6 H locs ls h
      rw [f_X6_turn_b40] at h
      cases h
    | succ n ih =>
      intro x3 x4 x5 x6 H locs ls h hW hl
      rw [f_X6_turn_b40] at h
      refine lv_iload hx hb dX6_turn_40 (lv_at hl 6 rfl) ?_
      refine lv_bipush (v := 14) hx hb dX6_turn_42 (by decide) ?_
      refine lv_icmp_gt (tgt := 170) hx hb dX6_turn_44 (by decide) (fun c6 => ?_) (fun c6 => ?_)
      · have h := ifp c6 h
        exact b170 h hW (lv_sub hl [2, 3, 4] rfl)
      · have h := ifn c6 h
        refine lv_iload hx hb dX6_turn_47 (lv_at hl 5 rfl) ?_
        refine lv_if_eq (tgt := 170) hx hb dX6_turn_49 (by decide) (fun c8 => ?_) (fun c8 => ?_)
        · have h := ifp c8 h
          exact b170 h hW (lv_sub hl [2, 3, 4] rfl)
        · have h := ifn c8 h
          refine lv_iload_n hx hb dX6_turn_52 rfl (lv_at hl 3 rfl) ?_
          refine lv_istore (lv' := [(7, .int x3), (0, .ref (ρ 0)), (1, .int x1), (2, .int x2), (3, .int x3), (4, .int x4), (5, .int x5), (6, .int x6)]) hx hb dX6_turn_53 hl (by decide) rfl (fun ls hl => ?_)
          refine lv_iconst (v := 0) hx hb dX6_turn_55 (by decide) ?_
          refine lv_istore (lv' := [(8, .int 0), (7, .int x3), (0, .ref (ρ 0)), (1, .int x1), (2, .int x2), (3, .int x3), (4, .int x4), (5, .int x5), (6, .int x6)]) hx hb dX6_turn_56 hl (by decide) rfl (fun ls hl => ?_)
          exact b58 ih h hW (lv_sub hl [2, 3, 4, 5, 6, 8, 1, 0] rfl)
  unfold f_X6_turn at h
  refine lv_iload_n hx hb dX6_turn_0 rfl (lv_at hl 1 rfl) ?_
  refine lv_bipush (v := 99) hx hb dX6_turn_1 (by decide) ?_
  obtain ⟨u1, eu1, h⟩ := bd_some h
  refine z_callS_i hC hW (rest := []) (c_X6_isWithin (d := 0) (Nat.le_refl _) eu1) sw_X6_55 ⟨rfl, rfl⟩ (zrm_ok (by omega) (by decide)) rfl rfl hl.1 (Nat.le_of_ble_eq_true rfl) dX6_turn_3 (fun H locs hW => ?_)
  refine lv_if_eq (tgt := 17) hx hb dX6_turn_6 (by decide) (fun c2 => ?_) (fun c2 => ?_)
  · have h := ifp c2 h
    refine lv_iconst (v := (-1)) hx hb dX6_turn_17 (by decide) ?_
    have h := Option.some.inj h
    subst h
    exact hret _ _ _ _ _ dX6_turn_18 rfl rfl hW
  · have h := ifn c2 h
    refine lv_iload_n hx hb dX6_turn_9 rfl (lv_at hl 2 rfl) ?_
    refine lv_iconst (v := 1) hx hb dX6_turn_10 (by decide) ?_
    obtain ⟨u3, eu3, h⟩ := bd_some h
    refine z_callS_i hC hW (rest := []) (c_X6_isWithin (d := 0) (Nat.le_refl _) eu3) sw_X6_55 ⟨rfl, rfl⟩ (zrm_ok (by omega) (by decide)) rfl rfl hl.1 (Nat.le_of_ble_eq_true rfl) dX6_turn_11 (fun H locs hW => ?_)
    refine lv_if_ne (tgt := 19) hx hb dX6_turn_14 (by decide) (fun c4 => ?_) (fun c4 => ?_)
    · have h := ifn c4 h
      refine lv_aload_n hx hb dX6_turn_19 rfl (lv_at hl 0 rfl) ?_
      obtain ⟨u5, eu5, h⟩ := bd_some h
      refine z_callV_v hC hW (rest := []) (c_X6_settle (d := 83) (Nat.le_refl _) eu5) vw_X6_147 WC_0 rfl ⟨rfl, rfl⟩ (zrm_ok (by omega) (by decide)) rfl rfl hl.1 (Nat.le_of_ble_eq_true rfl) dX6_turn_20 (fun H locs hW => ?_)
      refine lv_aload_n hx hb dX6_turn_23 rfl (lv_at hl 0 rfl) ?_
      refine z_get hC hW fg_X6_10 0 WC_0 rfl dX6_turn_24 ?_
      refine z_get hC hW fg_X6_100 1 WC_1 rfl dX6_turn_27 ?_
      refine lv_istore_n (lv' := [(3, .int T_oldWells), (0, .ref (ρ 0)), (1, .int a1), (2, .int a2)]) hx hb dX6_turn_30 rfl hl (by decide) rfl (fun ls hl => ?_)
      refine lv_iconst (v := 0) hx hb dX6_turn_31 (by decide) ?_
      refine lv_istore (lv' := [(4, .int 0), (3, .int T_oldWells), (0, .ref (ρ 0)), (1, .int a1), (2, .int a2)]) hx hb dX6_turn_32 hl (by decide) rfl (fun ls hl => ?_)
      refine lv_iconst (v := 1) hx hb dX6_turn_34 (by decide) ?_
      refine lv_istore (lv' := [(5, .int 1), (4, .int 0), (3, .int T_oldWells), (0, .ref (ρ 0)), (1, .int a1), (2, .int a2)]) hx hb dX6_turn_35 hl (by decide) rfl (fun ls hl => ?_)
      refine lv_iconst (v := 0) hx hb dX6_turn_37 (by decide) ?_
      refine lv_istore (lv' := [(6, .int 0), (5, .int 1), (4, .int 0), (3, .int T_oldWells), (0, .ref (ρ 0)), (1, .int a1), (2, .int a2)]) hx hb dX6_turn_38 hl (by decide) rfl (fun ls hl => ?_)
      exact b40 h hW (lv_sub hl [4, 5, 6, 3, 2, 1, 0] rfl)
    · have h := ifp c4 h
      refine lv_iconst (v := (-1)) hx hb dX6_turn_17 (by decide) ?_
      have h := Option.some.inj h
      subst h
      exact hret _ _ _ _ _ dX6_turn_18 rfl rfl hW
set_option maxHeartbeats 4000000 in
set_option maxRecDepth 100000 in
theorem c_X1_takeBack {d : Nat} {res : Int32 × (Nat → Int32) × (Nat → Int32) × (Nat → Int32) × Int32} (hd : 1 ≤ d) (h : f_X1_takeBack T_price T_year T_cost C_what C_number C_before C_done = some res) : zMi l yX1_takeBack cX1_takeBack 2 .int (zrm d) [.ref (ρ 4), .ref (ρ 1)] D q (WC q ρ T_price T_year T_joinEnds T_wallEnds T_cost T_doors T_joins T_walls T_oldWells T_apart L_tape L_text L_fed L_length L_read L_end L_at L_fault L_d L_p L_y L_j L_o P_away P_beside P_reach P_serves P_crowds P_servedLow P_servedHigh P_crowdedLow P_crowdedHigh P_there P_must P_can C_what C_number C_before C_after C_done C_kept A_kinds A_traced A_bodies A_began A_self A_kindOfSelf S_holds S_body S_sort S_size S_elements G_grown) sz res.1 (WC q ρ res.2.1 res.2.2.1 T_joinEnds T_wallEnds res.2.2.2.1 T_doors T_joins T_walls T_oldWells T_apart L_tape L_text L_fed L_length L_read L_end L_at L_fault L_d L_p L_y L_j L_o P_away P_beside P_reach P_serves P_crowds P_servedLow P_servedHigh P_crowdedLow P_crowdedHigh P_there P_must P_can C_what C_number C_before C_after res.2.2.2.2 C_kept A_kinds A_traced A_bodies A_began A_self A_kindOfSelf S_holds S_body S_sort S_size S_elements G_grown) := by
  refine zMet_i (own := RX1) _ (by decide) rfl (Nat.le_of_ble_eq_true rfl) ?_
  intro p e s m args below meth c A ls Q hC hW hl hret
  have hx := hC.1
  have hb := hC.2.1
  have hl : lv_has ls 2 [(0, .ref (ρ 4)), (1, .ref (ρ 1))] := hl
  unfold f_X1_takeBack at h
  refine lv_aload_n hx hb dX1_takeBack_0 rfl (lv_at hl 0 rfl) ?_
  refine lv_dup hx hb dX1_takeBack_1 rfl ?_
  refine z_get hC hW fg_X1_24 4 WC_4 rfl dX1_takeBack_2 ?_
  refine lv_iconst (v := 1) hx hb dX1_takeBack_5 (by decide) ?_
  refine lv_isub hx hb dX1_takeBack_6 ?_
  refine z_put hC hW fp_X1_24 4 WC_4 (Nat.le_of_ble_eq_true rfl) rfl rfl WCs_C_done dX1_takeBack_7 (fun H locs hW => ?_)
  refine lv_aload_n hx hb dX1_takeBack_10 rfl (lv_at hl 1 rfl) ?_
  refine lv_aload_n hx hb dX1_takeBack_11 rfl (lv_at hl 0 rfl) ?_
  refine z_get hC hW fg_X1_9 4 WC_4 rfl dX1_takeBack_12 ?_
  refine lv_aload_n hx hb dX1_takeBack_15 rfl (lv_at hl 0 rfl) ?_
  refine z_get hC hW fg_X1_24 4 WC_4 rfl dX1_takeBack_16 ?_
  obtain ⟨g1, h⟩ := ix_some h
  refine z_iald hC hW 24 WC_24 g1 dX1_takeBack_19 ?_
  refine lv_aload_n hx hb dX1_takeBack_20 rfl (lv_at hl 0 rfl) ?_
  refine z_get hC hW fg_X1_15 4 WC_4 rfl dX1_takeBack_21 ?_
  refine lv_aload_n hx hb dX1_takeBack_24 rfl (lv_at hl 0 rfl) ?_
  refine z_get hC hW fg_X1_24 4 WC_4 rfl dX1_takeBack_25 ?_
  obtain ⟨g2, h⟩ := ix_some h
  refine z_iald hC hW 25 WC_25 g2 dX1_takeBack_28 ?_
  refine lv_aload_n hx hb dX1_takeBack_29 rfl (lv_at hl 0 rfl) ?_
  refine z_get hC hW fg_X1_18 4 WC_4 rfl dX1_takeBack_30 ?_
  refine lv_aload_n hx hb dX1_takeBack_33 rfl (lv_at hl 0 rfl) ?_
  refine z_get hC hW fg_X1_24 4 WC_4 rfl dX1_takeBack_34 ?_
  obtain ⟨g3, h⟩ := ix_some h
  refine z_iald hC hW 26 WC_26 g3 dX1_takeBack_37 ?_
  obtain ⟨u4, eu4, h⟩ := bd_some h
  refine z_callV_i hC hW (rest := []) (c_X5_become (d := 0) (Nat.le_refl _) eu4) vw_X1_40 WC_1 rfl ⟨rfl, rfl⟩ (zrm_ok (by omega) (by decide)) rfl rfl hl.1 (Nat.le_of_ble_eq_true rfl) dX1_takeBack_38 (fun H locs hW => ?_)
  refine lv_pop hx hb dX1_takeBack_41 rfl ?_
  refine lv_aload_n hx hb dX1_takeBack_42 rfl (lv_at hl 0 rfl) ?_
  refine z_get hC hW fg_X1_24 4 WC_4 rfl dX1_takeBack_43 ?_
  have h := Option.some.inj h
  subst h
  exact hret _ _ _ _ _ dX1_takeBack_46 rfl rfl hW
set_option maxHeartbeats 4000000 in
set_option maxRecDepth 100000 in
theorem c_X6_undo {d : Nat} {res : Int32 × (Nat → Int32) × (Nat → Int32) × (Nat → Int32) × Int32} (hd : 2 ≤ d) (h : f_X6_undo T_price T_year T_cost C_what C_number C_before C_done = some res) : zMi l yX6_undo cX6_undo 1 .int (zrm d) [.ref (ρ 0)] D q (WC q ρ T_price T_year T_joinEnds T_wallEnds T_cost T_doors T_joins T_walls T_oldWells T_apart L_tape L_text L_fed L_length L_read L_end L_at L_fault L_d L_p L_y L_j L_o P_away P_beside P_reach P_serves P_crowds P_servedLow P_servedHigh P_crowdedLow P_crowdedHigh P_there P_must P_can C_what C_number C_before C_after C_done C_kept A_kinds A_traced A_bodies A_began A_self A_kindOfSelf S_holds S_body S_sort S_size S_elements G_grown) sz res.1 (WC q ρ res.2.1 res.2.2.1 T_joinEnds T_wallEnds res.2.2.2.1 T_doors T_joins T_walls T_oldWells T_apart L_tape L_text L_fed L_length L_read L_end L_at L_fault L_d L_p L_y L_j L_o P_away P_beside P_reach P_serves P_crowds P_servedLow P_servedHigh P_crowdedLow P_crowdedHigh P_there P_must P_can C_what C_number C_before C_after res.2.2.2.2 C_kept A_kinds A_traced A_bodies A_began A_self A_kindOfSelf S_holds S_body S_sort S_size S_elements G_grown) := by
  refine zMet_i (own := RX6) _ (by decide) rfl (Nat.le_of_ble_eq_true rfl) ?_
  intro p e s m args below meth c A ls Q hC hW hl hret
  have hx := hC.1
  have hb := hC.2.1
  have hl : lv_has ls 1 [(0, .ref (ρ 0))] := hl
  unfold f_X6_undo at h
  refine lv_aload_n hx hb dX6_undo_0 rfl (lv_at hl 0 rfl) ?_
  refine z_get hC hW fg_X6_33 0 WC_0 rfl dX6_undo_1 ?_
  refine z_get hC hW fg_X6_225 4 WC_4 rfl dX6_undo_4 ?_
  refine lv_if_ne (tgt := 15) hx hb dX6_undo_7 (by decide) (fun c1 => ?_) (fun c1 => ?_)
  · have h := ifn c1 h
    refine lv_aload_n hx hb dX6_undo_15 rfl (lv_at hl 0 rfl) ?_
    refine z_get hC hW fg_X6_33 0 WC_0 rfl dX6_undo_16 ?_
    refine lv_aload_n hx hb dX6_undo_19 rfl (lv_at hl 0 rfl) ?_
    refine z_get hC hW fg_X6_10 0 WC_0 rfl dX6_undo_20 ?_
    obtain ⟨u2, eu2, h⟩ := bd_some h
    refine z_callV_i hC hW (rest := []) (c_X1_takeBack (d := 1) (Nat.le_refl _) eu2) vw_X6_228 WC_4 rfl ⟨rfl, rfl⟩ (zrm_ok (by omega) (by decide)) rfl rfl hl.1 (Nat.le_of_ble_eq_true rfl) dX6_undo_23 (fun H locs hW => ?_)
    have h := Option.some.inj h
    subst h
    exact hret _ _ _ _ _ dX6_undo_26 rfl rfl hW
  · have h := ifp c1 h
    refine lv_bipush (v := (-5)) hx hb dX6_undo_10 (by decide) ?_
    refine lv_goto (tgt := 26) hx hb dX6_undo_12 (by decide) ?_
    have h := Option.some.inj h
    subst h
    exact hret _ _ _ _ _ dX6_undo_26 rfl rfl hW
set_option maxHeartbeats 4000000 in
set_option maxRecDepth 100000 in
theorem c_X1_doAgain {d : Nat} {res : Int32 × (Nat → Int32) × (Nat → Int32) × (Nat → Int32) × Int32} (hd : 1 ≤ d) (h : f_X1_doAgain T_price T_year T_cost C_what C_number C_after C_done C_kept = some res) : zMi l yX1_doAgain cX1_doAgain 2 .int (zrm d) [.ref (ρ 4), .ref (ρ 1)] D q (WC q ρ T_price T_year T_joinEnds T_wallEnds T_cost T_doors T_joins T_walls T_oldWells T_apart L_tape L_text L_fed L_length L_read L_end L_at L_fault L_d L_p L_y L_j L_o P_away P_beside P_reach P_serves P_crowds P_servedLow P_servedHigh P_crowdedLow P_crowdedHigh P_there P_must P_can C_what C_number C_before C_after C_done C_kept A_kinds A_traced A_bodies A_began A_self A_kindOfSelf S_holds S_body S_sort S_size S_elements G_grown) sz res.1 (WC q ρ res.2.1 res.2.2.1 T_joinEnds T_wallEnds res.2.2.2.1 T_doors T_joins T_walls T_oldWells T_apart L_tape L_text L_fed L_length L_read L_end L_at L_fault L_d L_p L_y L_j L_o P_away P_beside P_reach P_serves P_crowds P_servedLow P_servedHigh P_crowdedLow P_crowdedHigh P_there P_must P_can C_what C_number C_before C_after res.2.2.2.2 C_kept A_kinds A_traced A_bodies A_began A_self A_kindOfSelf S_holds S_body S_sort S_size S_elements G_grown) := by
  refine zMet_i (own := RX1) _ (by decide) rfl (Nat.le_of_ble_eq_true rfl) ?_
  intro p e s m args below meth c A ls Q hC hW hl hret
  have hx := hC.1
  have hb := hC.2.1
  have hl : lv_has ls 2 [(0, .ref (ρ 4)), (1, .ref (ρ 1))] := hl
  unfold f_X1_doAgain at h
  refine lv_aload_n hx hb dX1_doAgain_0 rfl (lv_at hl 1 rfl) ?_
  refine lv_aload_n hx hb dX1_doAgain_1 rfl (lv_at hl 0 rfl) ?_
  refine z_get hC hW fg_X1_9 4 WC_4 rfl dX1_doAgain_2 ?_
  refine lv_aload_n hx hb dX1_doAgain_5 rfl (lv_at hl 0 rfl) ?_
  refine z_get hC hW fg_X1_24 4 WC_4 rfl dX1_doAgain_6 ?_
  obtain ⟨g1, h⟩ := ix_some h
  refine z_iald hC hW 24 WC_24 g1 dX1_doAgain_9 ?_
  refine lv_aload_n hx hb dX1_doAgain_10 rfl (lv_at hl 0 rfl) ?_
  refine z_get hC hW fg_X1_15 4 WC_4 rfl dX1_doAgain_11 ?_
  refine lv_aload_n hx hb dX1_doAgain_14 rfl (lv_at hl 0 rfl) ?_
  refine z_get hC hW fg_X1_24 4 WC_4 rfl dX1_doAgain_15 ?_
  obtain ⟨g2, h⟩ := ix_some h
  refine z_iald hC hW 25 WC_25 g2 dX1_doAgain_18 ?_
  refine lv_aload_n hx hb dX1_doAgain_19 rfl (lv_at hl 0 rfl) ?_
  refine z_get hC hW fg_X1_21 4 WC_4 rfl dX1_doAgain_20 ?_
  refine lv_aload_n hx hb dX1_doAgain_23 rfl (lv_at hl 0 rfl) ?_
  refine z_get hC hW fg_X1_24 4 WC_4 rfl dX1_doAgain_24 ?_
  obtain ⟨g3, h⟩ := ix_some h
  refine z_iald hC hW 27 WC_27 g3 dX1_doAgain_27 ?_
  obtain ⟨u4, eu4, h⟩ := bd_some h
  refine z_callV_i hC hW (rest := []) (c_X5_become (d := 0) (Nat.le_refl _) eu4) vw_X1_40 WC_1 rfl ⟨rfl, rfl⟩ (zrm_ok (by omega) (by decide)) rfl rfl hl.1 (Nat.le_of_ble_eq_true rfl) dX1_doAgain_28 (fun H locs hW => ?_)
  refine lv_pop hx hb dX1_doAgain_31 rfl ?_
  refine lv_aload_n hx hb dX1_doAgain_32 rfl (lv_at hl 0 rfl) ?_
  refine lv_dup hx hb dX1_doAgain_33 rfl ?_
  refine z_get hC hW fg_X1_24 4 WC_4 rfl dX1_doAgain_34 ?_
  refine lv_iconst (v := 1) hx hb dX1_doAgain_37 (by decide) ?_
  refine lv_iadd hx hb dX1_doAgain_38 ?_
  refine z_put hC hW fp_X1_24 4 WC_4 (Nat.le_of_ble_eq_true rfl) rfl rfl WCs_C_done dX1_doAgain_39 (fun H locs hW => ?_)
  refine lv_aload_n hx hb dX1_doAgain_42 rfl (lv_at hl 0 rfl) ?_
  refine z_get hC hW fg_X1_31 4 WC_4 rfl dX1_doAgain_43 ?_
  refine lv_aload_n hx hb dX1_doAgain_46 rfl (lv_at hl 0 rfl) ?_
  refine z_get hC hW fg_X1_24 4 WC_4 rfl dX1_doAgain_47 ?_
  refine lv_isub hx hb dX1_doAgain_50 ?_
  have h := Option.some.inj h
  subst h
  exact hret _ _ _ _ _ dX1_doAgain_51 rfl rfl hW
set_option maxHeartbeats 4000000 in
set_option maxRecDepth 100000 in
theorem c_X6_redo {d : Nat} {res : Int32 × (Nat → Int32) × (Nat → Int32) × (Nat → Int32) × Int32} (hd : 2 ≤ d) (h : f_X6_redo T_price T_year T_cost C_what C_number C_after C_done C_kept = some res) : zMi l yX6_redo cX6_redo 1 .int (zrm d) [.ref (ρ 0)] D q (WC q ρ T_price T_year T_joinEnds T_wallEnds T_cost T_doors T_joins T_walls T_oldWells T_apart L_tape L_text L_fed L_length L_read L_end L_at L_fault L_d L_p L_y L_j L_o P_away P_beside P_reach P_serves P_crowds P_servedLow P_servedHigh P_crowdedLow P_crowdedHigh P_there P_must P_can C_what C_number C_before C_after C_done C_kept A_kinds A_traced A_bodies A_began A_self A_kindOfSelf S_holds S_body S_sort S_size S_elements G_grown) sz res.1 (WC q ρ res.2.1 res.2.2.1 T_joinEnds T_wallEnds res.2.2.2.1 T_doors T_joins T_walls T_oldWells T_apart L_tape L_text L_fed L_length L_read L_end L_at L_fault L_d L_p L_y L_j L_o P_away P_beside P_reach P_serves P_crowds P_servedLow P_servedHigh P_crowdedLow P_crowdedHigh P_there P_must P_can C_what C_number C_before C_after res.2.2.2.2 C_kept A_kinds A_traced A_bodies A_began A_self A_kindOfSelf S_holds S_body S_sort S_size S_elements G_grown) := by
  refine zMet_i (own := RX6) _ (by decide) rfl (Nat.le_of_ble_eq_true rfl) ?_
  intro p e s m args below meth c A ls Q hC hW hl hret
  have hx := hC.1
  have hb := hC.2.1
  have hl : lv_has ls 1 [(0, .ref (ρ 0))] := hl
  unfold f_X6_redo at h
  refine lv_aload_n hx hb dX6_redo_0 rfl (lv_at hl 0 rfl) ?_
  refine z_get hC hW fg_X6_33 0 WC_0 rfl dX6_redo_1 ?_
  refine z_get hC hW fg_X6_225 4 WC_4 rfl dX6_redo_4 ?_
  refine lv_aload_n hx hb dX6_redo_7 rfl (lv_at hl 0 rfl) ?_
  refine z_get hC hW fg_X6_33 0 WC_0 rfl dX6_redo_8 ?_
  refine z_get hC hW fg_X6_232 4 WC_4 rfl dX6_redo_11 ?_
  refine lv_icmp_ne (tgt := 22) hx hb dX6_redo_14 (by decide) (fun c1 => ?_) (fun c1 => ?_)
  · have h := ifn c1 h
    refine lv_aload_n hx hb dX6_redo_22 rfl (lv_at hl 0 rfl) ?_
    refine z_get hC hW fg_X6_33 0 WC_0 rfl dX6_redo_23 ?_
    refine lv_aload_n hx hb dX6_redo_26 rfl (lv_at hl 0 rfl) ?_
    refine z_get hC hW fg_X6_10 0 WC_0 rfl dX6_redo_27 ?_
    obtain ⟨u2, eu2, h⟩ := bd_some h
    refine z_callV_i hC hW (rest := []) (c_X1_doAgain (d := 1) (Nat.le_refl _) eu2) vw_X6_235 WC_4 rfl ⟨rfl, rfl⟩ (zrm_ok (by omega) (by decide)) rfl rfl hl.1 (Nat.le_of_ble_eq_true rfl) dX6_redo_30 (fun H locs hW => ?_)
    have h := Option.some.inj h
    subst h
    exact hret _ _ _ _ _ dX6_redo_33 rfl rfl hW
  · have h := ifp c1 h
    refine lv_bipush (v := (-5)) hx hb dX6_redo_17 (by decide) ?_
    refine lv_goto (tgt := 33) hx hb dX6_redo_19 (by decide) ?_
    have h := Option.some.inj h
    subst h
    exact hret _ _ _ _ _ dX6_redo_33 rfl rfl hW
set_option maxHeartbeats 4000000 in
set_option maxRecDepth 100000 in
theorem c_X6_isKind {a0 : Int32} {d : Nat} {res : Int32} (hd : 0 ≤ d) (h : f_X6_isKind a0 = some res) : zMi l yX6_isKind cX6_isKind 1 .boolean (zrm d) [.int a0] D q (WC q ρ T_price T_year T_joinEnds T_wallEnds T_cost T_doors T_joins T_walls T_oldWells T_apart L_tape L_text L_fed L_length L_read L_end L_at L_fault L_d L_p L_y L_j L_o P_away P_beside P_reach P_serves P_crowds P_servedLow P_servedHigh P_crowdedLow P_crowdedHigh P_there P_must P_can C_what C_number C_before C_after C_done C_kept A_kinds A_traced A_bodies A_began A_self A_kindOfSelf S_holds S_body S_sort S_size S_elements G_grown) sz res (WC q ρ T_price T_year T_joinEnds T_wallEnds T_cost T_doors T_joins T_walls T_oldWells T_apart L_tape L_text L_fed L_length L_read L_end L_at L_fault L_d L_p L_y L_j L_o P_away P_beside P_reach P_serves P_crowds P_servedLow P_servedHigh P_crowdedLow P_crowdedHigh P_there P_must P_can C_what C_number C_before C_after C_done C_kept A_kinds A_traced A_bodies A_began A_self A_kindOfSelf S_holds S_body S_sort S_size S_elements G_grown) := by
  refine zMet_i (own := RX6) _ (by decide) rfl (Nat.le_of_ble_eq_true rfl) ?_
  intro p e s m args below meth c A ls Q hC hW hl hret
  have hx := hC.1
  have hb := hC.2.1
  have hl : lv_has ls 1 [(0, .int a0)] := hl
  unfold f_X6_isKind at h
  refine lv_iload_n hx hb dX6_isKind_0 rfl (lv_at hl 0 rfl) ?_
  refine lv_if_lt (tgt := 14) hx hb dX6_isKind_1 (by decide) (fun c1 => ?_) (fun c1 => ?_)
  · have h := ifp c1 h
    refine lv_iconst (v := 0) hx hb dX6_isKind_14 (by decide) ?_
    have h := Option.some.inj h
    subst h
    exact hret _ _ _ _ _ dX6_isKind_15 rfl rfl hW
  · have h := ifn c1 h
    refine lv_iload_n hx hb dX6_isKind_4 rfl (lv_at hl 0 rfl) ?_
    refine lv_bipush (v := 8) hx hb dX6_isKind_5 (by decide) ?_
    refine lv_icmp_ge (tgt := 14) hx hb dX6_isKind_7 (by decide) (fun c2 => ?_) (fun c2 => ?_)
    · have h := ifp c2 h
      refine lv_iconst (v := 0) hx hb dX6_isKind_14 (by decide) ?_
      have h := Option.some.inj h
      subst h
      exact hret _ _ _ _ _ dX6_isKind_15 rfl rfl hW
    · have h := ifn c2 h
      refine lv_iconst (v := 1) hx hb dX6_isKind_10 (by decide) ?_
      refine lv_goto (tgt := 15) hx hb dX6_isKind_11 (by decide) ?_
      have h := Option.some.inj h
      subst h
      exact hret _ _ _ _ _ dX6_isKind_15 rfl rfl hW
end CT20_c15
