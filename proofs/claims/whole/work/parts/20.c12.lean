section CT20_c12
variable {l : Launch} {D : va_G} {q : Nat → ClassId} {ρ : Nat → Nat} {sz : Nat} {T_price : Nat → Int32} {T_year : Nat → Int32} {T_joinEnds : Nat → Int32} {T_wallEnds : Nat → Int32} {T_cost : Nat → Int32} {T_doors : Int32} {T_joins : Int32} {T_walls : Int32} {T_oldWells : Int32} {T_apart : Int32} {L_tape : Nat → Int32} {L_text : Nat → Int32} {L_fed : Int32} {L_length : Int32} {L_read : Nat} {L_end : Int32} {L_at : Int32} {L_fault : Int32} {L_d : Int32} {L_p : Int32} {L_y : Int32} {L_j : Int32} {L_o : Int32} {P_away : Nat → Nat → Int32} {P_beside : Nat → Int32} {P_reach : Nat → Int32} {P_serves : Nat → Int32} {P_crowds : Nat → Int32} {P_servedLow : Nat → Int32} {P_servedHigh : Nat → Int32} {P_crowdedLow : Nat → Int32} {P_crowdedHigh : Nat → Int32} {P_there : Int32} {P_must : Int32} {P_can : Int32} {C_what : Nat → Int32} {C_number : Nat → Int32} {C_before : Nat → Int32} {C_after : Nat → Int32} {C_done : Int32} {C_kept : Int32} {A_kinds : Nat → Int32} {A_traced : Nat → Int32} {A_bodies : Int32} {A_began : Int32} {A_self : Int32} {A_kindOfSelf : Int32} {S_holds : Nat → Int32} {S_body : Nat → Int32} {S_sort : Nat → Int32} {S_size : Nat → Int32} {S_elements : Nat → Nat → Int64} {G_grown : Nat → Int32}
set_option maxHeartbeats 4000000 in
set_option maxRecDepth 100000 in
theorem c_X6_greedy {a1 : Int32} {d : Nat} {res : Int32 × Nat × Int32 × Int32 × Int32 × Int32 × Int32 × Int32 × Int32 × Int32 × (Nat → Nat → Int32) × (Nat → Int32) × (Nat → Int32) × (Nat → Int32) × (Nat → Int32) × (Nat → Int32) × (Nat → Int32) × (Nat → Int32) × (Nat → Int32) × Int32 × Int32 × Int32} (hd : 84 ≤ d) (h : f_X6_greedy a1 T_price T_year T_joinEnds T_wallEnds T_doors T_joins T_walls T_oldWells T_apart L_text L_length L_read L_end L_at L_fault L_d L_p L_y L_j L_o P_away P_beside P_reach P_serves P_crowds P_servedLow P_servedHigh P_crowdedLow P_crowdedHigh P_there P_must P_can = some res) : zMi l yX6_greedy cX6_greedy 5 .int (zrm d) [.ref (ρ 0), .int a1] D q (WC q ρ T_price T_year T_joinEnds T_wallEnds T_cost T_doors T_joins T_walls T_oldWells T_apart L_tape L_text L_fed L_length L_read L_end L_at L_fault L_d L_p L_y L_j L_o P_away P_beside P_reach P_serves P_crowds P_servedLow P_servedHigh P_crowdedLow P_crowdedHigh P_there P_must P_can C_what C_number C_before C_after C_done C_kept A_kinds A_traced A_bodies A_began A_self A_kindOfSelf S_holds S_body S_sort S_size S_elements G_grown) sz res.1 (WC q ρ T_price T_year T_joinEnds T_wallEnds T_cost T_doors T_joins T_walls T_oldWells T_apart L_tape L_text L_fed L_length res.2.1 res.2.2.1 res.2.2.2.1 res.2.2.2.2.1 res.2.2.2.2.2.1 res.2.2.2.2.2.2.1 res.2.2.2.2.2.2.2.1 res.2.2.2.2.2.2.2.2.1 res.2.2.2.2.2.2.2.2.2.1 res.2.2.2.2.2.2.2.2.2.2.1 res.2.2.2.2.2.2.2.2.2.2.2.1 res.2.2.2.2.2.2.2.2.2.2.2.2.1 res.2.2.2.2.2.2.2.2.2.2.2.2.2.1 res.2.2.2.2.2.2.2.2.2.2.2.2.2.2.1 res.2.2.2.2.2.2.2.2.2.2.2.2.2.2.2.1 res.2.2.2.2.2.2.2.2.2.2.2.2.2.2.2.2.1 res.2.2.2.2.2.2.2.2.2.2.2.2.2.2.2.2.2.1 res.2.2.2.2.2.2.2.2.2.2.2.2.2.2.2.2.2.2.1 res.2.2.2.2.2.2.2.2.2.2.2.2.2.2.2.2.2.2.2.1 res.2.2.2.2.2.2.2.2.2.2.2.2.2.2.2.2.2.2.2.2.1 res.2.2.2.2.2.2.2.2.2.2.2.2.2.2.2.2.2.2.2.2.2 C_what C_number C_before C_after C_done C_kept A_kinds A_traced A_bodies A_began A_self A_kindOfSelf S_holds S_body S_sort S_size S_elements G_grown) := by
  refine zMet_i (own := RX6) _ (by decide) rfl (Nat.le_of_ble_eq_true rfl) ?_
  intro p e s m args below meth c A ls Q hC hW hl hret
  have hx := hC.1
  have hb := hC.2.1
  have hl : lv_has ls 5 [(0, .ref (ρ 0)), (1, .int a1)] := hl
  have b101 : ∀ {x1 : Int32} {x2 : Int32} {x3 : Int32} {x4 : Int32} {L_read : Nat} {L_end : Int32} {L_at : Int32} {L_fault : Int32} {L_d : Int32} {L_p : Int32} {L_y : Int32} {L_j : Int32} {L_o : Int32} {P_away : Nat → Nat → Int32} {P_beside : Nat → Int32} {P_reach : Nat → Int32} {P_serves : Nat → Int32} {P_crowds : Nat → Int32} {P_servedLow : Nat → Int32} {P_servedHigh : Nat → Int32} {P_crowdedLow : Nat → Int32} {P_crowdedHigh : Nat → Int32} {P_there : Int32} {P_must : Int32} {P_can : Int32} {k28 : Int32 → Int32 → Int32 → Option (Int32 × Nat × Int32 × Int32 × Int32 × Int32 × Int32 × Int32 × Int32 × Int32 × (Nat → Nat → Int32) × (Nat → Int32) × (Nat → Int32) × (Nat → Int32) × (Nat → Int32) × (Nat → Int32) × (Nat → Int32) × (Nat → Int32) × (Nat → Int32) × Int32 × Int32 × Int32)} (hk28 : ∀ {x2 : Int32} {x3 : Int32} {x4 : Int32} {H : Heap} {locs : List Loc} {ls : Array Slot}, k28 x2 x3 x4 = some res → zW D A s.heap (WC q ρ T_price T_year T_joinEnds T_wallEnds T_cost T_doors T_joins T_walls T_oldWells T_apart L_tape L_text L_fed L_length L_read L_end L_at L_fault L_d L_p L_y L_j L_o P_away P_beside P_reach P_serves P_crowds P_servedLow P_servedHigh P_crowdedLow P_crowdedHigh P_there P_must P_can C_what C_number C_before C_after C_done C_kept A_kinds A_traced A_bodies A_began A_self A_kindOfSelf S_holds S_body S_sort S_size S_elements G_grown) H locs → lv_has ls 5 [(0, .ref (ρ 0)), (1, .int x1), (2, .int x2), (3, .int x3), (4, .int x4)] → W p l e (zrm d) s m args below meth c H locs 0 0 Q (F0 m 28 ls [])) {H : Heap} {locs : List Loc} {ls : Array Slot}, f_X6_greedy_b101 k28 x1 x2 x3 x4 T_price T_doors L_read L_end L_at L_fault L_d L_p L_y L_j L_o P_away P_beside P_reach P_serves P_crowds P_servedLow P_servedHigh P_crowdedLow P_crowdedHigh P_there P_must P_can = some res → zW D A s.heap (WC q ρ T_price T_year T_joinEnds T_wallEnds T_cost T_doors T_joins T_walls T_oldWells T_apart L_tape L_text L_fed L_length L_read L_end L_at L_fault L_d L_p L_y L_j L_o P_away P_beside P_reach P_serves P_crowds P_servedLow P_servedHigh P_crowdedLow P_crowdedHigh P_there P_must P_can C_what C_number C_before C_after C_done C_kept A_kinds A_traced A_bodies A_began A_self A_kindOfSelf S_holds S_body S_sort S_size S_elements G_grown) H locs → lv_has ls 5 [(0, .ref (ρ 0)), (1, .int x1), (2, .int x2), (3, .int x3), (4, .int x4)] → W p l e (zrm d) s m args below meth c H locs 0 0 Q (F0 m 101 ls []) := by
    intro x1 x2 x3 x4 L_read L_end L_at L_fault L_d L_p L_y L_j L_o P_away P_beside P_reach P_serves P_crowds P_servedLow P_servedHigh P_crowdedLow P_crowdedHigh P_there P_must P_can k28 hk28 H locs ls h hW hl
    unfold f_X6_greedy_b101 at h
    refine lv_iinc (v := (x4 + 1)) (lv' := [(4, .int (x4 + 1)), (0, .ref (ρ 0)), (1, .int x1), (2, .int x2), (3, .int x3)]) hx hb dX6_greedy_101 hl (k := 4) rfl rfl (by decide) rfl (fun ls hl => ?_)
    refine lv_goto (tgt := 28) hx hb dX6_greedy_104 (by decide) ?_
    exact hk28 h hW (lv_sub hl [1, 2, 3, 4, 0] rfl)
  have b92 : ∀ {x1 : Int32} {x2 : Int32} {x3 : Int32} {x4 : Int32} {L_read : Nat} {L_end : Int32} {L_at : Int32} {L_fault : Int32} {L_d : Int32} {L_p : Int32} {L_y : Int32} {L_j : Int32} {L_o : Int32} {P_away : Nat → Nat → Int32} {P_beside : Nat → Int32} {P_reach : Nat → Int32} {P_serves : Nat → Int32} {P_crowds : Nat → Int32} {P_servedLow : Nat → Int32} {P_servedHigh : Nat → Int32} {P_crowdedLow : Nat → Int32} {P_crowdedHigh : Nat → Int32} {P_there : Int32} {P_must : Int32} {P_can : Int32} {k28 : Int32 → Int32 → Int32 → Option (Int32 × Nat × Int32 × Int32 × Int32 × Int32 × Int32 × Int32 × Int32 × Int32 × (Nat → Nat → Int32) × (Nat → Int32) × (Nat → Int32) × (Nat → Int32) × (Nat → Int32) × (Nat → Int32) × (Nat → Int32) × (Nat → Int32) × (Nat → Int32) × Int32 × Int32 × Int32)} (hk28 : ∀ {x2 : Int32} {x3 : Int32} {x4 : Int32} {H : Heap} {locs : List Loc} {ls : Array Slot}, k28 x2 x3 x4 = some res → zW D A s.heap (WC q ρ T_price T_year T_joinEnds T_wallEnds T_cost T_doors T_joins T_walls T_oldWells T_apart L_tape L_text L_fed L_length L_read L_end L_at L_fault L_d L_p L_y L_j L_o P_away P_beside P_reach P_serves P_crowds P_servedLow P_servedHigh P_crowdedLow P_crowdedHigh P_there P_must P_can C_what C_number C_before C_after C_done C_kept A_kinds A_traced A_bodies A_began A_self A_kindOfSelf S_holds S_body S_sort S_size S_elements G_grown) H locs → lv_has ls 5 [(0, .ref (ρ 0)), (1, .int x1), (2, .int x2), (3, .int x3), (4, .int x4)] → W p l e (zrm d) s m args below meth c H locs 0 0 Q (F0 m 28 ls [])) {H : Heap} {locs : List Loc} {ls : Array Slot}, f_X6_greedy_b92 k28 x1 x2 x3 x4 T_price T_doors L_read L_end L_at L_fault L_d L_p L_y L_j L_o P_away P_beside P_reach P_serves P_crowds P_servedLow P_servedHigh P_crowdedLow P_crowdedHigh P_there P_must P_can = some res → zW D A s.heap (WC q ρ T_price T_year T_joinEnds T_wallEnds T_cost T_doors T_joins T_walls T_oldWells T_apart L_tape L_text L_fed L_length L_read L_end L_at L_fault L_d L_p L_y L_j L_o P_away P_beside P_reach P_serves P_crowds P_servedLow P_servedHigh P_crowdedLow P_crowdedHigh P_there P_must P_can C_what C_number C_before C_after C_done C_kept A_kinds A_traced A_bodies A_began A_self A_kindOfSelf S_holds S_body S_sort S_size S_elements G_grown) H locs → lv_has ls 5 [(0, .ref (ρ 0)), (1, .int x1), (2, .int x2), (3, .int x3), (4, .int x4)] → W p l e (zrm d) s m args below meth c H locs 0 0 Q (F0 m 92 ls []) := by
    intro x1 x2 x3 x4 L_read L_end L_at L_fault L_d L_p L_y L_j L_o P_away P_beside P_reach P_serves P_crowds P_servedLow P_servedHigh P_crowdedLow P_crowdedHigh P_there P_must P_can k28 hk28 H locs ls h hW hl
    unfold f_X6_greedy_b92 at h
    refine lv_iload_n hx hb dX6_greedy_92 rfl (lv_at hl 3 rfl) ?_
    refine lv_bipush (v := (-2)) hx hb dX6_greedy_93 (by decide) ?_
    refine lv_icmp_ne (tgt := 101) hx hb dX6_greedy_95 (by decide) (fun c10 => ?_) (fun c10 => ?_)
    · have h := ifn c10 h
      exact b101 hk28 h hW (lv_sub hl [0, 1, 2, 3, 4] rfl)
    · have h := ifp c10 h
      refine lv_iload hx hb dX6_greedy_98 (lv_at hl 4 rfl) ?_
      refine lv_istore_n (lv' := [(3, .int x4), (0, .ref (ρ 0)), (1, .int x1), (2, .int x2), (4, .int x4)]) hx hb dX6_greedy_100 rfl hl (by decide) rfl (fun ls hl => ?_)
      exact b101 hk28 h hW (lv_sub hl [1, 2, 3, 0, 4] rfl)
  have b28 : ∀ {x1 : Int32} {L_read : Nat} {L_end : Int32} {L_at : Int32} {L_fault : Int32} {L_d : Int32} {L_p : Int32} {L_y : Int32} {L_j : Int32} {L_o : Int32} {P_away : Nat → Nat → Int32} {P_beside : Nat → Int32} {P_reach : Nat → Int32} {P_serves : Nat → Int32} {P_crowds : Nat → Int32} {P_servedLow : Nat → Int32} {P_servedHigh : Nat → Int32} {P_crowdedLow : Nat → Int32} {P_crowdedHigh : Nat → Int32} {P_there : Int32} {P_must : Int32} {P_can : Int32} {n : Nat} {x2 : Int32} {x3 : Int32} {x4 : Int32} {H : Heap} {locs : List Loc} {ls : Array Slot}, f_X6_greedy_b28 x1 T_price T_doors L_read L_end L_at L_fault L_d L_p L_y L_j L_o P_away P_beside P_reach P_serves P_crowds P_servedLow P_servedHigh P_crowdedLow P_crowdedHigh P_there P_must P_can n x2 x3 x4 = some res → zW D A s.heap (WC q ρ T_price T_year T_joinEnds T_wallEnds T_cost T_doors T_joins T_walls T_oldWells T_apart L_tape L_text L_fed L_length L_read L_end L_at L_fault L_d L_p L_y L_j L_o P_away P_beside P_reach P_serves P_crowds P_servedLow P_servedHigh P_crowdedLow P_crowdedHigh P_there P_must P_can C_what C_number C_before C_after C_done C_kept A_kinds A_traced A_bodies A_began A_self A_kindOfSelf S_holds S_body S_sort S_size S_elements G_grown) H locs → lv_has ls 5 [(0, .ref (ρ 0)), (1, .int x1), (2, .int x2), (3, .int x3), (4, .int x4)] → W p l e (zrm d) s m args below meth c H locs 0 0 Q (F0 m 28 ls []) := by
    intro x1 L_read L_end L_at L_fault L_d L_p L_y L_j L_o P_away P_beside P_reach P_serves P_crowds P_servedLow P_servedHigh P_crowdedLow P_crowdedHigh P_there P_must P_can
    intro n
    induction n with
    | zero =>
      intro x2 x3 x4 H locs ls h
      rw [f_X6_greedy_b28] at h
      cases h
    | succ n ih =>
      intro x2 x3 x4 H locs ls h hW hl
      rw [f_X6_greedy_b28] at h
      refine lv_iload hx hb dX6_greedy_28 (lv_at hl 4 rfl) ?_
      refine lv_aload_n hx hb dX6_greedy_30 rfl (lv_at hl 0 rfl) ?_
      refine z_get hC hW fg_X6_10 0 WC_0 rfl dX6_greedy_31 ?_
      refine z_get hC hW fg_X6_59 1 WC_1 rfl dX6_greedy_34 ?_
      refine lv_icmp_ge (tgt := 107) hx hb dX6_greedy_37 (by decide) (fun c4 => ?_) (fun c4 => ?_)
      · have h := ifp c4 h
        refine lv_iload_n hx hb dX6_greedy_107 rfl (lv_at hl 1 rfl) ?_
        refine lv_if_ne (tgt := 115) hx hb dX6_greedy_108 (by decide) (fun c5 => ?_) (fun c5 => ?_)
        · have h := ifn c5 h
          refine lv_iload_n hx hb dX6_greedy_115 rfl (lv_at hl 3 rfl) ?_
          have h := Option.some.inj h
          subst h
          exact hret _ _ _ _ _ dX6_greedy_116 rfl rfl hW
        · have h := ifp c5 h
          refine lv_iload_n hx hb dX6_greedy_111 rfl (lv_at hl 2 rfl) ?_
          refine lv_goto (tgt := 116) hx hb dX6_greedy_112 (by decide) ?_
          have h := Option.some.inj h
          subst h
          exact hret _ _ _ _ _ dX6_greedy_116 rfl rfl hW
      · have h := ifn c4 h
        refine lv_aload_n hx hb dX6_greedy_40 rfl (lv_at hl 0 rfl) ?_
        refine z_get hC hW fg_X6_26 0 WC_0 rfl dX6_greedy_41 ?_
        refine lv_iload hx hb dX6_greedy_44 (lv_at hl 4 rfl) ?_
        refine lv_iload_n hx hb dX6_greedy_46 rfl (lv_at hl 2 rfl) ?_
        obtain ⟨u6, eu6, h⟩ := bd_some h
        refine z_callV_i hC hW (rest := []) (c_X3_isServed (d := 1) (Nat.le_refl _) eu6) vw_X6_170 WC_3 rfl ⟨rfl, rfl⟩ (zrm_ok (by omega) (by decide)) rfl rfl hl.1 (Nat.le_of_ble_eq_true rfl) dX6_greedy_47 (fun H locs hW => ?_)
        refine lv_if_eq (tgt := 56) hx hb dX6_greedy_50 (by decide) (fun c7 => ?_) (fun c7 => ?_)
        · have h := ifp c7 h
          refine lv_aload_n hx hb dX6_greedy_56 rfl (lv_at hl 0 rfl) ?_
          refine z_get hC hW fg_X6_10 0 WC_0 rfl dX6_greedy_57 ?_
          refine z_get hC hW fg_X6_173 1 WC_1 rfl dX6_greedy_60 ?_
          refine lv_iload hx hb dX6_greedy_63 (lv_at hl 4 rfl) ?_
          obtain ⟨g8, h⟩ := ix_some h
          refine z_iald hC hW 8 WC_8 g8 dX6_greedy_65 ?_
          refine lv_if_le (tgt := 92) hx hb dX6_greedy_66 (by decide) (fun c9 => ?_) (fun c9 => ?_)
          · have h := ifp c9 h
            exact b92 ih h hW (lv_sub hl [0, 1, 2, 3, 4] rfl)
          · have h := ifn c9 h
            refine lv_aload_n hx hb dX6_greedy_69 rfl (lv_at hl 0 rfl) ?_
            refine z_get hC hW fg_X6_26 0 WC_0 rfl dX6_greedy_70 ?_
            refine lv_iload hx hb dX6_greedy_73 (lv_at hl 4 rfl) ?_
            refine lv_iload_n hx hb dX6_greedy_75 rfl (lv_at hl 2 rfl) ?_
            obtain ⟨u11, eu11, h⟩ := bd_some h
            refine z_callV_i hC hW (rest := []) (c_X3_isClear (d := 1) (Nat.le_refl _) eu11) vw_X6_176 WC_3 rfl ⟨rfl, rfl⟩ (zrm_ok (by omega) (by decide)) rfl rfl hl.1 (Nat.le_of_ble_eq_true rfl) dX6_greedy_76 (fun H locs hW => ?_)
            refine lv_if_eq (tgt := 92) hx hb dX6_greedy_79 (by decide) (fun c12 => ?_) (fun c12 => ?_)
            · have h := ifp c12 h
              exact b92 ih h hW (lv_sub hl [0, 1, 2, 3, 4] rfl)
            · have h := ifn c12 h
              refine lv_iload_n hx hb dX6_greedy_82 rfl (lv_at hl 2 rfl) ?_
              refine lv_iconst (v := 1) hx hb dX6_greedy_83 (by decide) ?_
              refine lv_iload hx hb dX6_greedy_84 (lv_at hl 4 rfl) ?_
              refine lv_ishl hx hb dX6_greedy_86 ?_
              refine lv_ior hx hb dX6_greedy_87 ?_
              refine lv_istore_n (lv' := [(2, .int (x2 ||| (1 <<< (x4 &&& 31)))), (0, .ref (ρ 0)), (1, .int x1), (3, .int x3), (4, .int x4)]) hx hb dX6_greedy_88 rfl hl (by decide) rfl (fun ls hl => ?_)
              refine lv_goto (tgt := 101) hx hb dX6_greedy_89 (by decide) ?_
              exact b101 ih h hW (lv_sub hl [1, 2, 0, 3, 4] rfl)
        · have h := ifn c7 h
          refine lv_goto (tgt := 101) hx hb dX6_greedy_53 (by decide) ?_
          exact b101 ih h hW (lv_sub hl [0, 1, 2, 3, 4] rfl)
  unfold f_X6_greedy at h
  refine lv_iload_n hx hb dX6_greedy_0 rfl (lv_at hl 1 rfl) ?_
  refine lv_iconst (v := 1) hx hb dX6_greedy_1 (by decide) ?_
  obtain ⟨u1, eu1, h⟩ := bd_some h
  refine z_callS_i hC hW (rest := []) (c_X6_isWithin (d := 0) (Nat.le_refl _) eu1) sw_X6_55 ⟨rfl, rfl⟩ (zrm_ok (by omega) (by decide)) rfl rfl hl.1 (Nat.le_of_ble_eq_true rfl) dX6_greedy_2 (fun H locs hW => ?_)
  refine lv_if_ne (tgt := 10) hx hb dX6_greedy_5 (by decide) (fun c2 => ?_) (fun c2 => ?_)
  · have h := ifn c2 h
    refine lv_aload_n hx hb dX6_greedy_10 rfl (lv_at hl 0 rfl) ?_
    obtain ⟨u3, eu3, h⟩ := bd_some h
    refine z_callV_v hC hW (rest := []) (c_X6_settle (d := 83) (Nat.le_refl _) eu3) vw_X6_147 WC_0 rfl ⟨rfl, rfl⟩ (zrm_ok (by omega) (by decide)) rfl rfl hl.1 (Nat.le_of_ble_eq_true rfl) dX6_greedy_11 (fun H locs hW => ?_)
    refine lv_aload_n hx hb dX6_greedy_14 rfl (lv_at hl 0 rfl) ?_
    refine z_get hC hW fg_X6_10 0 WC_0 rfl dX6_greedy_15 ?_
    refine z_get hC hW fg_X6_100 1 WC_1 rfl dX6_greedy_18 ?_
    refine lv_istore_n (lv' := [(2, .int T_oldWells), (0, .ref (ρ 0)), (1, .int a1)]) hx hb dX6_greedy_21 rfl hl (by decide) rfl (fun ls hl => ?_)
    refine lv_bipush (v := (-2)) hx hb dX6_greedy_22 (by decide) ?_
    refine lv_istore_n (lv' := [(3, .int (-2)), (2, .int T_oldWells), (0, .ref (ρ 0)), (1, .int a1)]) hx hb dX6_greedy_24 rfl hl (by decide) rfl (fun ls hl => ?_)
    refine lv_iconst (v := 0) hx hb dX6_greedy_25 (by decide) ?_
    refine lv_istore (lv' := [(4, .int 0), (3, .int (-2)), (2, .int T_oldWells), (0, .ref (ρ 0)), (1, .int a1)]) hx hb dX6_greedy_26 hl (by decide) rfl (fun ls hl => ?_)
    exact b28 h hW (lv_sub hl [3, 4, 2, 1, 0] rfl)
  · have h := ifp c2 h
    refine lv_iconst (v := (-1)) hx hb dX6_greedy_8 (by decide) ?_
    have h := Option.some.inj h
    subst h
    exact hret _ _ _ _ _ dX6_greedy_9 rfl rfl hW
set_option maxHeartbeats 4000000 in
set_option maxRecDepth 100000 in
theorem c_X6_hasWell {a1 : Int32} {a2 : Int32} {d : Nat} {res : Int32} (hd : 2 ≤ d) (h : f_X6_hasWell a1 a2 T_doors = some res) : zMi l yX6_hasWell cX6_hasWell 3 .boolean (zrm d) [.ref (ρ 0), .int a1, .int a2] D q (WC q ρ T_price T_year T_joinEnds T_wallEnds T_cost T_doors T_joins T_walls T_oldWells T_apart L_tape L_text L_fed L_length L_read L_end L_at L_fault L_d L_p L_y L_j L_o P_away P_beside P_reach P_serves P_crowds P_servedLow P_servedHigh P_crowdedLow P_crowdedHigh P_there P_must P_can C_what C_number C_before C_after C_done C_kept A_kinds A_traced A_bodies A_began A_self A_kindOfSelf S_holds S_body S_sort S_size S_elements G_grown) sz res (WC q ρ T_price T_year T_joinEnds T_wallEnds T_cost T_doors T_joins T_walls T_oldWells T_apart L_tape L_text L_fed L_length L_read L_end L_at L_fault L_d L_p L_y L_j L_o P_away P_beside P_reach P_serves P_crowds P_servedLow P_servedHigh P_crowdedLow P_crowdedHigh P_there P_must P_can C_what C_number C_before C_after C_done C_kept A_kinds A_traced A_bodies A_began A_self A_kindOfSelf S_holds S_body S_sort S_size S_elements G_grown) := by
  refine zMet_i (own := RX6) _ (by decide) rfl (Nat.le_of_ble_eq_true rfl) ?_
  intro p e s m args below meth c A ls Q hC hW hl hret
  have hx := hC.1
  have hb := hC.2.1
  have hl : lv_has ls 3 [(0, .ref (ρ 0)), (1, .int a1), (2, .int a2)] := hl
  unfold f_X6_hasWell at h
  refine lv_aload_n hx hb dX6_hasWell_0 rfl (lv_at hl 0 rfl) ?_
  refine z_get hC hW fg_X6_10 0 WC_0 rfl dX6_hasWell_1 ?_
  refine lv_iload_n hx hb dX6_hasWell_4 rfl (lv_at hl 1 rfl) ?_
  obtain ⟨u1, eu1, h⟩ := bd_some h
  refine z_callV_i hC hW (rest := []) (c_X5_areDoors (d := 1) (Nat.le_refl _) eu1) vw_X6_97 WC_1 rfl ⟨rfl, rfl⟩ (zrm_ok (by omega) (by decide)) rfl rfl hl.1 (Nat.le_of_ble_eq_true rfl) dX6_hasWell_5 (fun H locs hW => ?_)
  refine lv_if_eq (tgt := 34) hx hb dX6_hasWell_8 (by decide) (fun c2 => ?_) (fun c2 => ?_)
  · have h := ifp c2 h
    refine lv_iconst (v := 0) hx hb dX6_hasWell_34 (by decide) ?_
    have h := Option.some.inj h
    subst h
    exact hret _ _ _ _ _ dX6_hasWell_35 rfl rfl hW
  · have h := ifn c2 h
    refine lv_aload_n hx hb dX6_hasWell_11 rfl (lv_at hl 0 rfl) ?_
    refine z_get hC hW fg_X6_10 0 WC_0 rfl dX6_hasWell_12 ?_
    refine lv_iload_n hx hb dX6_hasWell_15 rfl (lv_at hl 2 rfl) ?_
    obtain ⟨u3, eu3, h⟩ := bd_some h
    refine z_callV_i hC hW (rest := []) (c_X5_isDoor (d := 0) (Nat.le_refl _) eu3) vw_X6_118 WC_1 rfl ⟨rfl, rfl⟩ (zrm_ok (by omega) (by decide)) rfl rfl hl.1 (Nat.le_of_ble_eq_true rfl) dX6_hasWell_16 (fun H locs hW => ?_)
    refine lv_if_eq (tgt := 34) hx hb dX6_hasWell_19 (by decide) (fun c4 => ?_) (fun c4 => ?_)
    · have h := ifp c4 h
      refine lv_iconst (v := 0) hx hb dX6_hasWell_34 (by decide) ?_
      have h := Option.some.inj h
      subst h
      exact hret _ _ _ _ _ dX6_hasWell_35 rfl rfl hW
    · have h := ifn c4 h
      refine lv_iload_n hx hb dX6_hasWell_22 rfl (lv_at hl 1 rfl) ?_
      refine lv_iload_n hx hb dX6_hasWell_23 rfl (lv_at hl 2 rfl) ?_
      refine lv_ishr hx hb dX6_hasWell_24 ?_
      refine lv_iconst (v := 1) hx hb dX6_hasWell_25 (by decide) ?_
      refine lv_iand hx hb dX6_hasWell_26 ?_
      refine lv_if_eq (tgt := 34) hx hb dX6_hasWell_27 (by decide) (fun c5 => ?_) (fun c5 => ?_)
      · have h := ifp c5 h
        refine lv_iconst (v := 0) hx hb dX6_hasWell_34 (by decide) ?_
        have h := Option.some.inj h
        subst h
        exact hret _ _ _ _ _ dX6_hasWell_35 rfl rfl hW
      · have h := ifn c5 h
        refine lv_iconst (v := 1) hx hb dX6_hasWell_30 (by decide) ?_
        refine lv_goto (tgt := 35) hx hb dX6_hasWell_31 (by decide) ?_
        have h := Option.some.inj h
        subst h
        exact hret _ _ _ _ _ dX6_hasWell_35 rfl rfl hW
set_option maxHeartbeats 4000000 in
set_option maxRecDepth 100000 in
theorem c_X6_dry {a1 : Int32} {a2 : Int32} {a3 : Int32} {d : Nat} {res : Int32 × Nat × Int32 × Int32 × Int32 × Int32 × Int32 × Int32 × Int32 × Int32 × (Nat → Nat → Int32) × (Nat → Int32) × (Nat → Int32) × (Nat → Int32) × (Nat → Int32) × (Nat → Int32) × (Nat → Int32) × (Nat → Int32) × (Nat → Int32) × Int32 × Int32 × Int32} (hd : 84 ≤ d) (h : f_X6_dry a1 a2 a3 T_price T_year T_joinEnds T_wallEnds T_doors T_joins T_walls T_oldWells T_apart L_text L_length L_read L_end L_at L_fault L_d L_p L_y L_j L_o P_away P_beside P_reach P_serves P_crowds P_servedLow P_servedHigh P_crowdedLow P_crowdedHigh P_there P_must P_can = some res) : zMi l yX6_dry cX6_dry 6 .int (zrm d) [.ref (ρ 0), .int a1, .int a2, .int a3] D q (WC q ρ T_price T_year T_joinEnds T_wallEnds T_cost T_doors T_joins T_walls T_oldWells T_apart L_tape L_text L_fed L_length L_read L_end L_at L_fault L_d L_p L_y L_j L_o P_away P_beside P_reach P_serves P_crowds P_servedLow P_servedHigh P_crowdedLow P_crowdedHigh P_there P_must P_can C_what C_number C_before C_after C_done C_kept A_kinds A_traced A_bodies A_began A_self A_kindOfSelf S_holds S_body S_sort S_size S_elements G_grown) sz res.1 (WC q ρ T_price T_year T_joinEnds T_wallEnds T_cost T_doors T_joins T_walls T_oldWells T_apart L_tape L_text L_fed L_length res.2.1 res.2.2.1 res.2.2.2.1 res.2.2.2.2.1 res.2.2.2.2.2.1 res.2.2.2.2.2.2.1 res.2.2.2.2.2.2.2.1 res.2.2.2.2.2.2.2.2.1 res.2.2.2.2.2.2.2.2.2.1 res.2.2.2.2.2.2.2.2.2.2.1 res.2.2.2.2.2.2.2.2.2.2.2.1 res.2.2.2.2.2.2.2.2.2.2.2.2.1 res.2.2.2.2.2.2.2.2.2.2.2.2.2.1 res.2.2.2.2.2.2.2.2.2.2.2.2.2.2.1 res.2.2.2.2.2.2.2.2.2.2.2.2.2.2.2.1 res.2.2.2.2.2.2.2.2.2.2.2.2.2.2.2.2.1 res.2.2.2.2.2.2.2.2.2.2.2.2.2.2.2.2.2.1 res.2.2.2.2.2.2.2.2.2.2.2.2.2.2.2.2.2.2.1 res.2.2.2.2.2.2.2.2.2.2.2.2.2.2.2.2.2.2.2.1 res.2.2.2.2.2.2.2.2.2.2.2.2.2.2.2.2.2.2.2.2.1 res.2.2.2.2.2.2.2.2.2.2.2.2.2.2.2.2.2.2.2.2.2 C_what C_number C_before C_after C_done C_kept A_kinds A_traced A_bodies A_began A_self A_kindOfSelf S_holds S_body S_sort S_size S_elements G_grown) := by
  refine zMet_i (own := RX6) _ (by decide) rfl (Nat.le_of_ble_eq_true rfl) ?_
  intro p e s m args below meth c A ls Q hC hW hl hret
  have hx := hC.1
  have hb := hC.2.1
  have hl : lv_has ls 6 [(0, .ref (ρ 0)), (1, .int a1), (2, .int a2), (3, .int a3)] := hl
  unfold f_X6_dry at h
  refine lv_aload_n hx hb dX6_dry_0 rfl (lv_at hl 0 rfl) ?_
  refine lv_iload_n hx hb dX6_dry_1 rfl (lv_at hl 1 rfl) ?_
  refine lv_iload_n hx hb dX6_dry_2 rfl (lv_at hl 2 rfl) ?_
  obtain ⟨u1, eu1, h⟩ := bd_some h
  refine z_callV_i hC hW (rest := []) (c_X6_hasWell (d := 2) (Nat.le_refl _) eu1) vw_X6_179 WC_0 rfl ⟨rfl, rfl⟩ (zrm_ok (by omega) (by decide)) rfl rfl hl.1 (Nat.le_of_ble_eq_true rfl) dX6_dry_3 (fun H locs hW => ?_)
  refine lv_if_eq (tgt := 17) hx hb dX6_dry_6 (by decide) (fun c2 => ?_) (fun c2 => ?_)
  · have h := ifp c2 h
    refine lv_iconst (v := (-1)) hx hb dX6_dry_17 (by decide) ?_
    have h := Option.some.inj h
    subst h
    exact hret _ _ _ _ _ dX6_dry_18 rfl rfl hW
  · have h := ifn c2 h
    refine lv_iload_n hx hb dX6_dry_9 rfl (lv_at hl 3 rfl) ?_
    refine lv_iconst (v := 1) hx hb dX6_dry_10 (by decide) ?_
    obtain ⟨u3, eu3, h⟩ := bd_some h
    refine z_callS_i hC hW (rest := []) (c_X6_isWithin (d := 0) (Nat.le_refl _) eu3) sw_X6_55 ⟨rfl, rfl⟩ (zrm_ok (by omega) (by decide)) rfl rfl hl.1 (Nat.le_of_ble_eq_true rfl) dX6_dry_11 (fun H locs hW => ?_)
    refine lv_if_ne (tgt := 19) hx hb dX6_dry_14 (by decide) (fun c4 => ?_) (fun c4 => ?_)
    · have h := ifn c4 h
      refine lv_aload_n hx hb dX6_dry_19 rfl (lv_at hl 0 rfl) ?_
      obtain ⟨u5, eu5, h⟩ := bd_some h
      refine z_callV_v hC hW (rest := []) (c_X6_settle (d := 83) (Nat.le_refl _) eu5) vw_X6_147 WC_0 rfl ⟨rfl, rfl⟩ (zrm_ok (by omega) (by decide)) rfl rfl hl.1 (Nat.le_of_ble_eq_true rfl) dX6_dry_20 (fun H locs hW => ?_)
      refine lv_aload_n hx hb dX6_dry_23 rfl (lv_at hl 0 rfl) ?_
      refine z_get hC hW fg_X6_26 0 WC_0 rfl dX6_dry_24 ?_
      refine lv_iload_n hx hb dX6_dry_27 rfl (lv_at hl 1 rfl) ?_
      obtain ⟨u6, eu6, h⟩ := bd_some h
      refine z_callV_i hC hW (rest := []) (c_X3_mayBe (d := 2) (Nat.le_refl _) eu6) vw_X6_164 WC_3 rfl ⟨rfl, rfl⟩ (zrm_ok (by omega) (by decide)) rfl rfl hl.1 (Nat.le_of_ble_eq_true rfl) dX6_dry_28 (fun H locs hW => ?_)
      refine lv_if_ne (tgt := 37) hx hb dX6_dry_31 (by decide) (fun c7 => ?_) (fun c7 => ?_)
      · have h := ifn c7 h
        refine lv_iload_n hx hb dX6_dry_37 rfl (lv_at hl 1 rfl) ?_
        refine lv_iconst (v := 1) hx hb dX6_dry_38 (by decide) ?_
        refine lv_iload_n hx hb dX6_dry_39 rfl (lv_at hl 2 rfl) ?_
        refine lv_ishl hx hb dX6_dry_40 ?_
        refine lv_iconst (v := (-1)) hx hb dX6_dry_41 (by decide) ?_
        refine lv_ixor hx hb dX6_dry_42 ?_
        refine lv_iand hx hb dX6_dry_43 ?_
        refine lv_istore (lv' := [(4, .int (a1 &&& ((1 <<< (a2 &&& 31)) ^^^ (-1)))), (0, .ref (ρ 0)), (1, .int a1), (2, .int a2), (3, .int a3)]) hx hb dX6_dry_44 hl (by decide) rfl (fun ls hl => ?_)
        refine lv_aload_n hx hb dX6_dry_46 rfl (lv_at hl 1 rfl) ?_
        refine z_get hC hW fg_X6_26 0 WC_0 rfl dX6_dry_47 ?_
        refine lv_aload_n hx hb dX6_dry_50 rfl (lv_at hl 1 rfl) ?_
        refine z_get hC hW fg_X6_10 0 WC_0 rfl dX6_dry_51 ?_
        refine lv_aload_n hx hb dX6_dry_54 rfl (lv_at hl 1 rfl) ?_
        refine z_get hC hW fg_X6_19 0 WC_0 rfl dX6_dry_55 ?_
        refine lv_aload_n hx hb dX6_dry_58 rfl (lv_at hl 1 rfl) ?_
        refine z_get hC hW fg_X6_10 0 WC_0 rfl dX6_dry_59 ?_
        obtain ⟨u8, eu8, h⟩ := bd_some h
        refine z_callV_i hC hW (rest := [.ref (ρ 2), .ref (ρ 1), .ref (ρ 3)]) (c_X5_everyDoor (d := 0) (Nat.le_refl _) eu8) vw_X6_182 WC_1 rfl ⟨rfl, rfl⟩ (zrm_ok (by omega) (by decide)) rfl rfl hl.1 (Nat.le_of_ble_eq_true rfl) dX6_dry_62 (fun H locs hW => ?_)
        refine lv_aload_n hx hb dX6_dry_65 rfl (lv_at hl 1 rfl) ?_
        refine z_get hC hW fg_X6_10 0 WC_0 rfl dX6_dry_66 ?_
        refine z_get hC hW fg_X6_100 1 WC_1 rfl dX6_dry_69 ?_
        refine lv_iconst (v := 1) hx hb dX6_dry_72 (by decide) ?_
        refine lv_iload_n hx hb dX6_dry_73 rfl (lv_at hl 3 rfl) ?_
        refine lv_ishl hx hb dX6_dry_74 ?_
        refine lv_iconst (v := (-1)) hx hb dX6_dry_75 (by decide) ?_
        refine lv_ixor hx hb dX6_dry_76 ?_
        refine lv_iand hx hb dX6_dry_77 ?_
        refine lv_iconst (v := (-1)) hx hb dX6_dry_78 (by decide) ?_
        obtain ⟨u9, eu9, h⟩ := bd_some h
        refine z_callV_v hC hW (rest := []) (c_X3_lay (d := 82) (Nat.le_refl _) eu9) vw_X6_185 WC_3 rfl ⟨rfl, rfl⟩ (zrm_ok (by omega) (by decide)) rfl rfl hl.1 (Nat.le_of_ble_eq_true rfl) dX6_dry_79 (fun H locs hW => ?_)
        refine lv_aload_n hx hb dX6_dry_82 rfl (lv_at hl 1 rfl) ?_
        refine z_get hC hW fg_X6_26 0 WC_0 rfl dX6_dry_83 ?_
        refine lv_dup hx hb dX6_dry_86 rfl ?_
        refine z_get hC hW fg_X6_189 3 WC_3 rfl dX6_dry_87 ?_
        refine lv_iconst (v := 1) hx hb dX6_dry_90 (by decide) ?_
        refine lv_iload_n hx hb dX6_dry_91 rfl (lv_at hl 3 rfl) ?_
        refine lv_ishl hx hb dX6_dry_92 ?_
        refine lv_iconst (v := (-1)) hx hb dX6_dry_93 (by decide) ?_
        refine lv_ixor hx hb dX6_dry_94 ?_
        refine lv_iand hx hb dX6_dry_95 ?_
        refine z_put hC hW fp_X6_189 3 WC_3 (Nat.le_of_ble_eq_true rfl) rfl rfl WCs_P_can dX6_dry_96 (fun H locs hW => ?_)
        refine lv_aload_n hx hb dX6_dry_99 rfl (lv_at hl 1 rfl) ?_
        refine z_get hC hW fg_X6_26 0 WC_0 rfl dX6_dry_100 ?_
        refine lv_aload_n hx hb dX6_dry_103 rfl (lv_at hl 1 rfl) ?_
        refine z_get hC hW fg_X6_10 0 WC_0 rfl dX6_dry_104 ?_
        refine lv_iconst (v := 3) hx hb dX6_dry_107 (by decide) ?_
        refine lv_iload hx hb dX6_dry_108 (lv_at hl 0 rfl) ?_
        obtain ⟨u10, eu10, h⟩ := bd_some h
        refine z_callV_i hC hW (rest := []) (c_X3_least (d := 3) (Nat.le_refl _) eu10) vw_X6_157 WC_3 rfl ⟨rfl, rfl⟩ (zrm_ok (by omega) (by decide)) rfl rfl hl.1 (Nat.le_of_ble_eq_true rfl) dX6_dry_110 (fun H locs hW => ?_)
        refine lv_istore (lv' := [(5, .int u10), (4, .int (a1 &&& ((1 <<< (a2 &&& 31)) ^^^ (-1)))), (0, .ref (ρ 0)), (1, .int a1), (2, .int a2), (3, .int a3)]) hx hb dX6_dry_113 hl (by decide) rfl (fun ls hl => ?_)
        refine lv_iload hx hb dX6_dry_115 (lv_at hl 0 rfl) ?_
        refine lv_if_lt (tgt := 124) hx hb dX6_dry_117 (by decide) (fun c11 => ?_) (fun c11 => ?_)
        · have h := ifp c11 h
          refine lv_iload hx hb dX6_dry_124 (lv_at hl 0 rfl) ?_
          refine lv_goto (tgt := 137) hx hb dX6_dry_126 (by decide) ?_
          have h := Option.some.inj h
          subst h
          exact hret _ _ _ _ _ dX6_dry_137 rfl rfl hW
        · have h := ifn c11 h
          refine lv_iload_n hx hb dX6_dry_120 rfl (lv_at hl 5 rfl) ?_
          refine lv_if_ne (tgt := 129) hx hb dX6_dry_121 (by decide) (fun c12 => ?_) (fun c12 => ?_)
          · have h := ifn c12 h
            refine lv_iload hx hb dX6_dry_129 (lv_at hl 0 rfl) ?_
            refine lv_iload hx hb dX6_dry_131 (lv_at hl 1 rfl) ?_
            refine lv_ixor hx hb dX6_dry_133 ?_
            obtain ⟨u13, eu13, h⟩ := bd_some h
            refine z_callS_i hC hW (rest := []) (c_J6_bitCount_0f7a4 (d := 0) (Nat.le_refl _) eu13) sw_X6_192 ⟨rfl, rfl⟩ (zrm_ok (by omega) (by decide)) rfl rfl hl.1 (Nat.le_of_ble_eq_true rfl) dX6_dry_134 (fun H locs hW => ?_)
            have h := Option.some.inj h
            subst h
            exact hret _ _ _ _ _ dX6_dry_137 rfl rfl hW
          · have h := ifp c12 h
            refine lv_iload hx hb dX6_dry_124 (lv_at hl 0 rfl) ?_
            refine lv_goto (tgt := 137) hx hb dX6_dry_126 (by decide) ?_
            have h := Option.some.inj h
            subst h
            exact hret _ _ _ _ _ dX6_dry_137 rfl rfl hW
      · have h := ifp c7 h
        refine lv_bipush (v := (-5)) hx hb dX6_dry_34 (by decide) ?_
        have h := Option.some.inj h
        subst h
        exact hret _ _ _ _ _ dX6_dry_36 rfl rfl hW
    · have h := ifp c4 h
      refine lv_iconst (v := (-1)) hx hb dX6_dry_17 (by decide) ?_
      have h := Option.some.inj h
      subst h
      exact hret _ _ _ _ _ dX6_dry_18 rfl rfl hW
set_option maxHeartbeats 4000000 in
set_option maxRecDepth 100000 in
theorem c_X6_fewestGrown {a1 : Int32} {d : Nat} {res : Int32} (hd : 1 ≤ d) (h : f_X6_fewestGrown a1 G_grown = some res) : zMi l yX6_fewestGrown cX6_fewestGrown 4 .int (zrm d) [.ref (ρ 0), .int a1] D q (WC q ρ T_price T_year T_joinEnds T_wallEnds T_cost T_doors T_joins T_walls T_oldWells T_apart L_tape L_text L_fed L_length L_read L_end L_at L_fault L_d L_p L_y L_j L_o P_away P_beside P_reach P_serves P_crowds P_servedLow P_servedHigh P_crowdedLow P_crowdedHigh P_there P_must P_can C_what C_number C_before C_after C_done C_kept A_kinds A_traced A_bodies A_began A_self A_kindOfSelf S_holds S_body S_sort S_size S_elements G_grown) sz res (WC q ρ T_price T_year T_joinEnds T_wallEnds T_cost T_doors T_joins T_walls T_oldWells T_apart L_tape L_text L_fed L_length L_read L_end L_at L_fault L_d L_p L_y L_j L_o P_away P_beside P_reach P_serves P_crowds P_servedLow P_servedHigh P_crowdedLow P_crowdedHigh P_there P_must P_can C_what C_number C_before C_after C_done C_kept A_kinds A_traced A_bodies A_began A_self A_kindOfSelf S_holds S_body S_sort S_size S_elements G_grown) := by
  refine zMet_i (own := RX6) _ (by decide) rfl (Nat.le_of_ble_eq_true rfl) ?_
  intro p e s m args below meth c A ls Q hC hW hl hret
  have hx := hC.1
  have hb := hC.2.1
  have hl : lv_has ls 4 [(0, .ref (ρ 0)), (1, .int a1)] := hl
  have b36 : ∀ {x1 : Int32} {x2 : Int32} {x3 : Int32} {k5 : Int32 → Int32 → Option (Int32)} (hk5 : ∀ {x2 : Int32} {x3 : Int32} {H : Heap} {locs : List Loc} {ls : Array Slot}, k5 x2 x3 = some res → zW D A s.heap (WC q ρ T_price T_year T_joinEnds T_wallEnds T_cost T_doors T_joins T_walls T_oldWells T_apart L_tape L_text L_fed L_length L_read L_end L_at L_fault L_d L_p L_y L_j L_o P_away P_beside P_reach P_serves P_crowds P_servedLow P_servedHigh P_crowdedLow P_crowdedHigh P_there P_must P_can C_what C_number C_before C_after C_done C_kept A_kinds A_traced A_bodies A_began A_self A_kindOfSelf S_holds S_body S_sort S_size S_elements G_grown) H locs → lv_has ls 4 [(0, .ref (ρ 0)), (1, .int x1), (2, .int x2), (3, .int x3)] → W p l e (zrm d) s m args below meth c H locs 0 0 Q (F0 m 5 ls [])) {H : Heap} {locs : List Loc} {ls : Array Slot}, f_X6_fewestGrown_b36 k5 x1 x2 x3 G_grown = some res → zW D A s.heap (WC q ρ T_price T_year T_joinEnds T_wallEnds T_cost T_doors T_joins T_walls T_oldWells T_apart L_tape L_text L_fed L_length L_read L_end L_at L_fault L_d L_p L_y L_j L_o P_away P_beside P_reach P_serves P_crowds P_servedLow P_servedHigh P_crowdedLow P_crowdedHigh P_there P_must P_can C_what C_number C_before C_after C_done C_kept A_kinds A_traced A_bodies A_began A_self A_kindOfSelf S_holds S_body S_sort S_size S_elements G_grown) H locs → lv_has ls 4 [(0, .ref (ρ 0)), (1, .int x1), (2, .int x2), (3, .int x3)] → W p l e (zrm d) s m args below meth c H locs 0 0 Q (F0 m 36 ls []) := by
    intro x1 x2 x3 k5 hk5 H locs ls h hW hl
    unfold f_X6_fewestGrown_b36 at h
    refine lv_iinc (v := (x3 + 1)) (lv' := [(3, .int (x3 + 1)), (0, .ref (ρ 0)), (1, .int x1), (2, .int x2)]) hx hb dX6_fewestGrown_36 hl (k := 3) rfl rfl (by decide) rfl (fun ls hl => ?_)
    refine lv_goto (tgt := 5) hx hb dX6_fewestGrown_39 (by decide) ?_
    exact hk5 h hW (lv_sub hl [1, 2, 3, 0] rfl)
  have b34 : ∀ {x1 : Int32} {x3 : Int32} {k5 : Int32 → Int32 → Option (Int32)} (hk5 : ∀ {x2 : Int32} {x3 : Int32} {H : Heap} {locs : List Loc} {ls : Array Slot}, k5 x2 x3 = some res → zW D A s.heap (WC q ρ T_price T_year T_joinEnds T_wallEnds T_cost T_doors T_joins T_walls T_oldWells T_apart L_tape L_text L_fed L_length L_read L_end L_at L_fault L_d L_p L_y L_j L_o P_away P_beside P_reach P_serves P_crowds P_servedLow P_servedHigh P_crowdedLow P_crowdedHigh P_there P_must P_can C_what C_number C_before C_after C_done C_kept A_kinds A_traced A_bodies A_began A_self A_kindOfSelf S_holds S_body S_sort S_size S_elements G_grown) H locs → lv_has ls 4 [(0, .ref (ρ 0)), (1, .int x1), (2, .int x2), (3, .int x3)] → W p l e (zrm d) s m args below meth c H locs 0 0 Q (F0 m 5 ls [])) {H : Heap} {locs : List Loc} {ls : Array Slot}, f_X6_fewestGrown_b34 k5 x1 x3 G_grown = some res → zW D A s.heap (WC q ρ T_price T_year T_joinEnds T_wallEnds T_cost T_doors T_joins T_walls T_oldWells T_apart L_tape L_text L_fed L_length L_read L_end L_at L_fault L_d L_p L_y L_j L_o P_away P_beside P_reach P_serves P_crowds P_servedLow P_servedHigh P_crowdedLow P_crowdedHigh P_there P_must P_can C_what C_number C_before C_after C_done C_kept A_kinds A_traced A_bodies A_began A_self A_kindOfSelf S_holds S_body S_sort S_size S_elements G_grown) H locs → lv_has ls 4 [(0, .ref (ρ 0)), (1, .int x1), (3, .int x3)] → W p l e (zrm d) s m args below meth c H locs 0 0 Q (F0 m 34 ls []) := by
    intro x1 x3 k5 hk5 H locs ls h hW hl
    unfold f_X6_fewestGrown_b34 at h
    refine lv_iload_n hx hb dX6_fewestGrown_34 rfl (lv_at hl 2 rfl) ?_
    refine lv_istore_n (lv' := [(2, .int x3), (0, .ref (ρ 0)), (1, .int x1), (3, .int x3)]) hx hb dX6_fewestGrown_35 rfl hl (by decide) rfl (fun ls hl => ?_)
    exact b36 hk5 h hW (lv_sub hl [1, 2, 0, 3] rfl)
  have b5 : ∀ {x1 : Int32} {n : Nat} {x2 : Int32} {x3 : Int32} {H : Heap} {locs : List Loc} {ls : Array Slot}, f_X6_fewestGrown_b5 x1 G_grown n x2 x3 = some res → zW D A s.heap (WC q ρ T_price T_year T_joinEnds T_wallEnds T_cost T_doors T_joins T_walls T_oldWells T_apart L_tape L_text L_fed L_length L_read L_end L_at L_fault L_d L_p L_y L_j L_o P_away P_beside P_reach P_serves P_crowds P_servedLow P_servedHigh P_crowdedLow P_crowdedHigh P_there P_must P_can C_what C_number C_before C_after C_done C_kept A_kinds A_traced A_bodies A_began A_self A_kindOfSelf S_holds S_body S_sort S_size S_elements G_grown) H locs → lv_has ls 4 [(0, .ref (ρ 0)), (1, .int x1), (2, .int x2), (3, .int x3)] → W p l e (zrm d) s m args below meth c H locs 0 0 Q (F0 m 5 ls []) := by
    intro x1
    intro n
    induction n with
    | zero =>
      intro x2 x3 H locs ls h
      rw [f_X6_fewestGrown_b5] at h
      cases h
    | succ n ih =>
      intro x2 x3 H locs ls h hW hl
      rw [f_X6_fewestGrown_b5] at h
      refine lv_iload_n hx hb dX6_fewestGrown_5 rfl (lv_at hl 3 rfl) ?_
      refine lv_iload_n hx hb dX6_fewestGrown_6 rfl (lv_at hl 1 rfl) ?_
      refine lv_icmp_ge (tgt := 42) hx hb dX6_fewestGrown_7 (by decide) (fun c1 => ?_) (fun c1 => ?_)
      · have h := ifp c1 h
        refine lv_iload_n hx hb dX6_fewestGrown_42 rfl (lv_at hl 2 rfl) ?_
        have h := Option.some.inj h
        subst h
        exact hret _ _ _ _ _ dX6_fewestGrown_43 rfl rfl hW
      · have h := ifn c1 h
        refine lv_aload_n hx hb dX6_fewestGrown_10 rfl (lv_at hl 0 rfl) ?_
        refine z_get hC hW fg_X6_50 0 WC_0 rfl dX6_fewestGrown_11 ?_
        refine lv_iload_n hx hb dX6_fewestGrown_14 rfl (lv_at hl 3 rfl) ?_
        obtain ⟨g2, h⟩ := ix_some h
        refine z_zald hC hW 7 WC_7 g2 dX6_fewestGrown_15 ?_
        refine lv_if_eq (tgt := 36) hx hb dX6_fewestGrown_16 (by decide) (fun c3 => ?_) (fun c3 => ?_)
        · have h := ifp c3 h
          exact b36 ih h hW (lv_sub hl [0, 1, 2, 3] rfl)
        · have h := ifn c3 h
          refine lv_iload_n hx hb dX6_fewestGrown_19 rfl (lv_at hl 2 rfl) ?_
          refine lv_if_lt (tgt := 34) hx hb dX6_fewestGrown_20 (by decide) (fun c4 => ?_) (fun c4 => ?_)
          · have h := ifp c4 h
            exact b34 ih h hW (lv_sub hl [0, 1, 3] rfl)
          · have h := ifn c4 h
            refine lv_iload_n hx hb dX6_fewestGrown_23 rfl (lv_at hl 3 rfl) ?_
            obtain ⟨u5, eu5, h⟩ := bd_some h
            refine z_callS_i hC hW (rest := []) (c_J6_bitCount_0f7a4 (d := 0) (Nat.le_refl _) eu5) sw_X6_192 ⟨rfl, rfl⟩ (zrm_ok (by omega) (by decide)) rfl rfl hl.1 (Nat.le_of_ble_eq_true rfl) dX6_fewestGrown_24 (fun H locs hW => ?_)
            refine lv_iload_n hx hb dX6_fewestGrown_27 rfl (lv_at hl 2 rfl) ?_
            obtain ⟨u6, eu6, h⟩ := bd_some h
            refine z_callS_i hC hW (rest := [.int u5]) (c_J6_bitCount_0f7a4 (d := 0) (Nat.le_refl _) eu6) sw_X6_192 ⟨rfl, rfl⟩ (zrm_ok (by omega) (by decide)) rfl rfl hl.1 (Nat.le_of_ble_eq_true rfl) dX6_fewestGrown_28 (fun H locs hW => ?_)
            refine lv_icmp_ge (tgt := 36) hx hb dX6_fewestGrown_31 (by decide) (fun c7 => ?_) (fun c7 => ?_)
            · have h := ifp c7 h
              exact b36 ih h hW (lv_sub hl [0, 1, 2, 3] rfl)
            · have h := ifn c7 h
              exact b34 ih h hW (lv_sub hl [0, 1, 3] rfl)
  unfold f_X6_fewestGrown at h
  refine lv_bipush (v := (-2)) hx hb dX6_fewestGrown_0 (by decide) ?_
  refine lv_istore_n (lv' := [(2, .int (-2)), (0, .ref (ρ 0)), (1, .int a1)]) hx hb dX6_fewestGrown_2 rfl hl (by decide) rfl (fun ls hl => ?_)
  refine lv_iconst (v := 0) hx hb dX6_fewestGrown_3 (by decide) ?_
  refine lv_istore_n (lv' := [(3, .int 0), (2, .int (-2)), (0, .ref (ρ 0)), (1, .int a1)]) hx hb dX6_fewestGrown_4 rfl hl (by decide) rfl (fun ls hl => ?_)
  exact b5 h hW (lv_sub hl [2, 3, 1, 0] rfl)
set_option maxHeartbeats 4000000 in
set_option maxRecDepth 100000 in
theorem c_X5_builtBy {a1 : Int32} {d : Nat} {res : Int32} (hd : 0 ≤ d) (h : f_X5_builtBy a1 T_year T_doors = some res) : zMi l yX5_builtBy cX5_builtBy 4 .int (zrm d) [.ref (ρ 1), .int a1] D q (WC q ρ T_price T_year T_joinEnds T_wallEnds T_cost T_doors T_joins T_walls T_oldWells T_apart L_tape L_text L_fed L_length L_read L_end L_at L_fault L_d L_p L_y L_j L_o P_away P_beside P_reach P_serves P_crowds P_servedLow P_servedHigh P_crowdedLow P_crowdedHigh P_there P_must P_can C_what C_number C_before C_after C_done C_kept A_kinds A_traced A_bodies A_began A_self A_kindOfSelf S_holds S_body S_sort S_size S_elements G_grown) sz res (WC q ρ T_price T_year T_joinEnds T_wallEnds T_cost T_doors T_joins T_walls T_oldWells T_apart L_tape L_text L_fed L_length L_read L_end L_at L_fault L_d L_p L_y L_j L_o P_away P_beside P_reach P_serves P_crowds P_servedLow P_servedHigh P_crowdedLow P_crowdedHigh P_there P_must P_can C_what C_number C_before C_after C_done C_kept A_kinds A_traced A_bodies A_began A_self A_kindOfSelf S_holds S_body S_sort S_size S_elements G_grown) := by
  refine zMet_i (own := RX5) _ (by decide) rfl (Nat.le_of_ble_eq_true rfl) ?_
  intro p e s m args below meth c A ls Q hC hW hl hret
  have hx := hC.1
  have hb := hC.2.1
  have hl : lv_has ls 4 [(0, .ref (ρ 1)), (1, .int a1)] := hl
  have b30 : ∀ {x1 : Int32} {x3 : Int32} {s0 : Int32} {s1 : Int32} {k4 : Int32 → Int32 → Option (Int32)} (hk4 : ∀ {x2 : Int32} {x3 : Int32} {H : Heap} {locs : List Loc} {ls : Array Slot}, k4 x2 x3 = some res → zW D A s.heap (WC q ρ T_price T_year T_joinEnds T_wallEnds T_cost T_doors T_joins T_walls T_oldWells T_apart L_tape L_text L_fed L_length L_read L_end L_at L_fault L_d L_p L_y L_j L_o P_away P_beside P_reach P_serves P_crowds P_servedLow P_servedHigh P_crowdedLow P_crowdedHigh P_there P_must P_can C_what C_number C_before C_after C_done C_kept A_kinds A_traced A_bodies A_began A_self A_kindOfSelf S_holds S_body S_sort S_size S_elements G_grown) H locs → lv_has ls 4 [(0, .ref (ρ 1)), (1, .int x1), (2, .int x2), (3, .int x3)] → W p l e (zrm d) s m args below meth c H locs 0 0 Q (F0 m 4 ls [])) {H : Heap} {locs : List Loc} {ls : Array Slot}, f_X5_builtBy_b30 k4 x1 x3 s0 s1 T_year T_doors = some res → zW D A s.heap (WC q ρ T_price T_year T_joinEnds T_wallEnds T_cost T_doors T_joins T_walls T_oldWells T_apart L_tape L_text L_fed L_length L_read L_end L_at L_fault L_d L_p L_y L_j L_o P_away P_beside P_reach P_serves P_crowds P_servedLow P_servedHigh P_crowdedLow P_crowdedHigh P_there P_must P_can C_what C_number C_before C_after C_done C_kept A_kinds A_traced A_bodies A_began A_self A_kindOfSelf S_holds S_body S_sort S_size S_elements G_grown) H locs → lv_has ls 4 [(0, .ref (ρ 1)), (1, .int x1), (3, .int x3)] → W p l e (zrm d) s m args below meth c H locs 0 0 Q (F0 m 30 ls [.int s0, .int s1]) := by
    intro x1 x3 s0 s1 k4 hk4 H locs ls h hW hl
    unfold f_X5_builtBy_b30 at h
    refine lv_ior hx hb dX5_builtBy_30 ?_
    refine lv_istore_n (lv' := [(2, .int (s1 ||| s0)), (0, .ref (ρ 1)), (1, .int x1), (3, .int x3)]) hx hb dX5_builtBy_31 rfl hl (by decide) rfl (fun ls hl => ?_)
    refine lv_iinc (v := (x3 + 1)) (lv' := [(3, .int (x3 + 1)), (2, .int (s1 ||| s0)), (0, .ref (ρ 1)), (1, .int x1)]) hx hb dX5_builtBy_32 hl (k := 3) rfl rfl (by decide) rfl (fun ls hl => ?_)
    refine lv_goto (tgt := 4) hx hb dX5_builtBy_35 (by decide) ?_
    exact hk4 h hW (lv_sub hl [2, 3, 1, 0] rfl)
  have b4 : ∀ {x1 : Int32} {n : Nat} {x2 : Int32} {x3 : Int32} {H : Heap} {locs : List Loc} {ls : Array Slot}, f_X5_builtBy_b4 x1 T_year T_doors n x2 x3 = some res → zW D A s.heap (WC q ρ T_price T_year T_joinEnds T_wallEnds T_cost T_doors T_joins T_walls T_oldWells T_apart L_tape L_text L_fed L_length L_read L_end L_at L_fault L_d L_p L_y L_j L_o P_away P_beside P_reach P_serves P_crowds P_servedLow P_servedHigh P_crowdedLow P_crowdedHigh P_there P_must P_can C_what C_number C_before C_after C_done C_kept A_kinds A_traced A_bodies A_began A_self A_kindOfSelf S_holds S_body S_sort S_size S_elements G_grown) H locs → lv_has ls 4 [(0, .ref (ρ 1)), (1, .int x1), (2, .int x2), (3, .int x3)] → W p l e (zrm d) s m args below meth c H locs 0 0 Q (F0 m 4 ls []) := by
    intro x1
    intro n
    induction n with
    | zero =>
      intro x2 x3 H locs ls h
      rw [f_X5_builtBy_b4] at h
      cases h
    | succ n ih =>
      intro x2 x3 H locs ls h hW hl
      rw [f_X5_builtBy_b4] at h
      refine lv_iload_n hx hb dX5_builtBy_4 rfl (lv_at hl 3 rfl) ?_
      refine lv_aload_n hx hb dX5_builtBy_5 rfl (lv_at hl 0 rfl) ?_
      refine z_get hC hW fg_X5_31 1 WC_1 rfl dX5_builtBy_6 ?_
      refine lv_icmp_ge (tgt := 38) hx hb dX5_builtBy_9 (by decide) (fun c1 => ?_) (fun c1 => ?_)
      · have h := ifp c1 h
        refine lv_iload_n hx hb dX5_builtBy_38 rfl (lv_at hl 2 rfl) ?_
        have h := Option.some.inj h
        subst h
        exact hret _ _ _ _ _ dX5_builtBy_39 rfl rfl hW
      · have h := ifn c1 h
        refine lv_iload_n hx hb dX5_builtBy_12 rfl (lv_at hl 2 rfl) ?_
        refine lv_aload_n hx hb dX5_builtBy_13 rfl (lv_at hl 0 rfl) ?_
        refine z_get hC hW fg_X5_15 1 WC_1 rfl dX5_builtBy_14 ?_
        refine lv_iload_n hx hb dX5_builtBy_17 rfl (lv_at hl 3 rfl) ?_
        obtain ⟨g2, h⟩ := ix_some h
        refine z_iald hC hW 9 WC_9 g2 dX5_builtBy_18 ?_
        refine lv_iload_n hx hb dX5_builtBy_19 rfl (lv_at hl 1 rfl) ?_
        refine lv_icmp_gt (tgt := 29) hx hb dX5_builtBy_20 (by decide) (fun c3 => ?_) (fun c3 => ?_)
        · have h := ifp c3 h
          refine lv_iconst (v := 0) hx hb dX5_builtBy_29 (by decide) ?_
          exact b30 ih h hW (lv_sub hl [0, 1, 3] rfl)
        · have h := ifn c3 h
          refine lv_iconst (v := 1) hx hb dX5_builtBy_23 (by decide) ?_
          refine lv_iload_n hx hb dX5_builtBy_24 rfl (lv_at hl 3 rfl) ?_
          refine lv_ishl hx hb dX5_builtBy_25 ?_
          refine lv_goto (tgt := 30) hx hb dX5_builtBy_26 (by decide) ?_
          exact b30 ih h hW (lv_sub hl [0, 1, 3] rfl)
  unfold f_X5_builtBy at h
  refine lv_iconst (v := 0) hx hb dX5_builtBy_0 (by decide) ?_
  refine lv_istore_n (lv' := [(2, .int 0), (0, .ref (ρ 1)), (1, .int a1)]) hx hb dX5_builtBy_1 rfl hl (by decide) rfl (fun ls hl => ?_)
  refine lv_iconst (v := 0) hx hb dX5_builtBy_2 (by decide) ?_
  refine lv_istore_n (lv' := [(3, .int 0), (2, .int 0), (0, .ref (ρ 1)), (1, .int a1)]) hx hb dX5_builtBy_3 rfl hl (by decide) rfl (fun ls hl => ?_)
  exact b4 h hW (lv_sub hl [2, 3, 1, 0] rfl)
end CT20_c12
