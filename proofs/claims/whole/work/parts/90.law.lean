/-- the two systems beside one another, by the invariant -/
def LW (D : va_G) (A : Nat → Prop) (H0 : Heap) (q : Nat → ClassId) (ρ1 ρ2 : Nat → Nat) (H : Heap) (locs : List Loc) : Prop := ∀ G : Prop, (∀ {T_price : Nat → Int32} {T_year : Nat → Int32} {T_joinEnds : Nat → Int32} {T_wallEnds : Nat → Int32} {T_cost : Nat → Int32} {T_doors : Int32} {T_joins : Int32} {T_walls : Int32} {T_oldWells : Int32} {T_apart : Int32} {L_tape : Nat → Int32} {L_text : Nat → Int32} {L_fed : Int32} {L_length : Int32} {L_read : Nat} {L_end : Int32} {L_at : Int32} {L_fault : Int32} {L_d : Int32} {L_p : Int32} {L_y : Int32} {L_j : Int32} {L_o : Int32} {P_away : Nat → Nat → Int32} {P_beside : Nat → Int32} {P_reach : Nat → Int32} {P_serves : Nat → Int32} {P_crowds : Nat → Int32} {P_servedLow : Nat → Int32} {P_servedHigh : Nat → Int32} {P_crowdedLow : Nat → Int32} {P_crowdedHigh : Nat → Int32} {P_there : Int32} {P_must : Int32} {P_can : Int32} {C_what : Nat → Int32} {C_number : Nat → Int32} {C_before : Nat → Int32} {C_after : Nat → Int32} {C_done : Int32} {C_kept : Int32} {A_kinds : Nat → Int32} {A_traced : Nat → Int32} {A_bodies : Int32} {A_began : Int32} {A_self : Int32} {A_kindOfSelf : Int32} {S_holds : Nat → Int32} {S_body : Nat → Int32} {S_sort : Nat → Int32} {S_size : Nat → Int32} {S_elements : Nat → Nat → Int64} {G_grown : Nat → Int32} {M_code : Int32} {M_doors : Int32} {M_price : Nat → Int32} {M_year : Nat → Int32} {M_joins : Int32} {M_joinA : Nat → Int32} {M_joinB : Nat → Int32} {M_walls : Int32} {M_wallA : Nat → Int32} {M_wallB : Nat → Int32} {M_cost : Nat → Int32} {M_olds : Int32} {M_near : Int32} {M_doneMany : Int32} {M_undoneMany : Int32} {M_changeOf : Nat → Int32} {M_changeAt : Nat → Int32} {M_before : Nat → Int32} {M_behind : Nat → Int32} {M_tape : Nat → Int32} {M_taped : Int32} {M_here : Int32} {M_fault : Int32} {M_open : Int32} {M_laid : Int32} {M_act : Nat → Int32} {M_with : Nat → Int32} {M_lineMany : Nat → Int32} {M_testEnd : Nat → Int32} {M_lineEnd : Nat → Int32} {M_facts : Nat → Int32} {M_pile : Nat → Int32} {M_hasLaw : Int32} {M_far : Nat → Int32} {M_within : Nat → Int32} {M_tooNear : Nat → Int32} {M_dried : Int32} {M_isOn : Nat → Int32} {M_wasOn : Nat → Int32} {M_bodies : Int32} {M_kind : Nat → Int32} {M_traces : Int32} {M_traced : Nat → Int32} {M_holds : Nat → Int32} {M_size : Nat → Int32} {M_elements : Nat → Int64} {M_shifted : Nat → Int64}, INV T_price T_year T_joinEnds T_wallEnds T_cost T_doors T_joins T_walls T_oldWells T_apart L_tape L_text L_fed L_length L_read L_end L_at L_fault L_d L_p L_y L_j L_o P_away P_beside P_reach P_serves P_crowds P_servedLow P_servedHigh P_crowdedLow P_crowdedHigh P_there P_must P_can C_what C_number C_before C_after C_done C_kept A_kinds A_traced A_bodies A_began A_self A_kindOfSelf S_holds S_body S_sort S_size S_elements G_grown M_code M_doors M_price M_year M_joins M_joinA M_joinB M_walls M_wallA M_wallB M_cost M_olds M_near M_doneMany M_undoneMany M_changeOf M_changeAt M_before M_behind M_tape M_taped M_here M_fault M_open M_laid M_act M_with M_lineMany M_testEnd M_lineEnd M_facts M_pile M_hasLaw M_far M_within M_tooNear M_dried M_isOn M_wasOn M_bodies M_kind M_traces M_traced M_holds M_size M_elements M_shifted → zW D A H0 (WM q ρ2 M_code M_doors M_price M_year M_joins M_joinA M_joinB M_walls M_wallA M_wallB M_cost M_olds M_near M_doneMany M_undoneMany M_changeOf M_changeAt M_before M_behind M_tape M_taped M_here M_fault M_open M_laid M_act M_with M_lineMany M_testEnd M_lineEnd M_facts M_pile M_hasLaw M_far M_within M_tooNear M_dried M_isOn M_wasOn M_bodies M_kind M_traces M_traced M_holds M_size M_elements M_shifted ++ WC q ρ1 T_price T_year T_joinEnds T_wallEnds T_cost T_doors T_joins T_walls T_oldWells T_apart L_tape L_text L_fed L_length L_read L_end L_at L_fault L_d L_p L_y L_j L_o P_away P_beside P_reach P_serves P_crowds P_servedLow P_servedHigh P_crowdedLow P_crowdedHigh P_there P_must P_can C_what C_number C_before C_after C_done C_kept A_kinds A_traced A_bodies A_began A_self A_kindOfSelf S_holds S_body S_sort S_size S_elements G_grown) H locs → G) → G
theorem LW_mk {D : va_G} {A : Nat → Prop} {H0 : Heap} {q : Nat → ClassId} {ρ1 ρ2 : Nat → Nat} {H : Heap} {locs : List Loc} {T_price : Nat → Int32} {T_year : Nat → Int32} {T_joinEnds : Nat → Int32} {T_wallEnds : Nat → Int32} {T_cost : Nat → Int32} {T_doors : Int32} {T_joins : Int32} {T_walls : Int32} {T_oldWells : Int32} {T_apart : Int32} {L_tape : Nat → Int32} {L_text : Nat → Int32} {L_fed : Int32} {L_length : Int32} {L_read : Nat} {L_end : Int32} {L_at : Int32} {L_fault : Int32} {L_d : Int32} {L_p : Int32} {L_y : Int32} {L_j : Int32} {L_o : Int32} {P_away : Nat → Nat → Int32} {P_beside : Nat → Int32} {P_reach : Nat → Int32} {P_serves : Nat → Int32} {P_crowds : Nat → Int32} {P_servedLow : Nat → Int32} {P_servedHigh : Nat → Int32} {P_crowdedLow : Nat → Int32} {P_crowdedHigh : Nat → Int32} {P_there : Int32} {P_must : Int32} {P_can : Int32} {C_what : Nat → Int32} {C_number : Nat → Int32} {C_before : Nat → Int32} {C_after : Nat → Int32} {C_done : Int32} {C_kept : Int32} {A_kinds : Nat → Int32} {A_traced : Nat → Int32} {A_bodies : Int32} {A_began : Int32} {A_self : Int32} {A_kindOfSelf : Int32} {S_holds : Nat → Int32} {S_body : Nat → Int32} {S_sort : Nat → Int32} {S_size : Nat → Int32} {S_elements : Nat → Nat → Int64} {G_grown : Nat → Int32} {M_code : Int32} {M_doors : Int32} {M_price : Nat → Int32} {M_year : Nat → Int32} {M_joins : Int32} {M_joinA : Nat → Int32} {M_joinB : Nat → Int32} {M_walls : Int32} {M_wallA : Nat → Int32} {M_wallB : Nat → Int32} {M_cost : Nat → Int32} {M_olds : Int32} {M_near : Int32} {M_doneMany : Int32} {M_undoneMany : Int32} {M_changeOf : Nat → Int32} {M_changeAt : Nat → Int32} {M_before : Nat → Int32} {M_behind : Nat → Int32} {M_tape : Nat → Int32} {M_taped : Int32} {M_here : Int32} {M_fault : Int32} {M_open : Int32} {M_laid : Int32} {M_act : Nat → Int32} {M_with : Nat → Int32} {M_lineMany : Nat → Int32} {M_testEnd : Nat → Int32} {M_lineEnd : Nat → Int32} {M_facts : Nat → Int32} {M_pile : Nat → Int32} {M_hasLaw : Int32} {M_far : Nat → Int32} {M_within : Nat → Int32} {M_tooNear : Nat → Int32} {M_dried : Int32} {M_isOn : Nat → Int32} {M_wasOn : Nat → Int32} {M_bodies : Int32} {M_kind : Nat → Int32} {M_traces : Int32} {M_traced : Nat → Int32} {M_holds : Nat → Int32} {M_size : Nat → Int32} {M_elements : Nat → Int64} {M_shifted : Nat → Int64} (hI : INV T_price T_year T_joinEnds T_wallEnds T_cost T_doors T_joins T_walls T_oldWells T_apart L_tape L_text L_fed L_length L_read L_end L_at L_fault L_d L_p L_y L_j L_o P_away P_beside P_reach P_serves P_crowds P_servedLow P_servedHigh P_crowdedLow P_crowdedHigh P_there P_must P_can C_what C_number C_before C_after C_done C_kept A_kinds A_traced A_bodies A_began A_self A_kindOfSelf S_holds S_body S_sort S_size S_elements G_grown M_code M_doors M_price M_year M_joins M_joinA M_joinB M_walls M_wallA M_wallB M_cost M_olds M_near M_doneMany M_undoneMany M_changeOf M_changeAt M_before M_behind M_tape M_taped M_here M_fault M_open M_laid M_act M_with M_lineMany M_testEnd M_lineEnd M_facts M_pile M_hasLaw M_far M_within M_tooNear M_dried M_isOn M_wasOn M_bodies M_kind M_traces M_traced M_holds M_size M_elements M_shifted) (hW : zW D A H0 (WM q ρ2 M_code M_doors M_price M_year M_joins M_joinA M_joinB M_walls M_wallA M_wallB M_cost M_olds M_near M_doneMany M_undoneMany M_changeOf M_changeAt M_before M_behind M_tape M_taped M_here M_fault M_open M_laid M_act M_with M_lineMany M_testEnd M_lineEnd M_facts M_pile M_hasLaw M_far M_within M_tooNear M_dried M_isOn M_wasOn M_bodies M_kind M_traces M_traced M_holds M_size M_elements M_shifted ++ WC q ρ1 T_price T_year T_joinEnds T_wallEnds T_cost T_doors T_joins T_walls T_oldWells T_apart L_tape L_text L_fed L_length L_read L_end L_at L_fault L_d L_p L_y L_j L_o P_away P_beside P_reach P_serves P_crowds P_servedLow P_servedHigh P_crowdedLow P_crowdedHigh P_there P_must P_can C_what C_number C_before C_after C_done C_kept A_kinds A_traced A_bodies A_began A_self A_kindOfSelf S_holds S_body S_sort S_size S_elements G_grown) H locs) : LW D A H0 q ρ1 ρ2 H locs := fun _ k => k hI hW
theorem LW_elim {D : va_G} {A : Nat → Prop} {H0 : Heap} {q : Nat → ClassId} {ρ1 ρ2 : Nat → Nat} {H : Heap} {locs : List Loc} {G : Prop} (h : LW D A H0 q ρ1 ρ2 H locs) (k : ∀ {T_price : Nat → Int32} {T_year : Nat → Int32} {T_joinEnds : Nat → Int32} {T_wallEnds : Nat → Int32} {T_cost : Nat → Int32} {T_doors : Int32} {T_joins : Int32} {T_walls : Int32} {T_oldWells : Int32} {T_apart : Int32} {L_tape : Nat → Int32} {L_text : Nat → Int32} {L_fed : Int32} {L_length : Int32} {L_read : Nat} {L_end : Int32} {L_at : Int32} {L_fault : Int32} {L_d : Int32} {L_p : Int32} {L_y : Int32} {L_j : Int32} {L_o : Int32} {P_away : Nat → Nat → Int32} {P_beside : Nat → Int32} {P_reach : Nat → Int32} {P_serves : Nat → Int32} {P_crowds : Nat → Int32} {P_servedLow : Nat → Int32} {P_servedHigh : Nat → Int32} {P_crowdedLow : Nat → Int32} {P_crowdedHigh : Nat → Int32} {P_there : Int32} {P_must : Int32} {P_can : Int32} {C_what : Nat → Int32} {C_number : Nat → Int32} {C_before : Nat → Int32} {C_after : Nat → Int32} {C_done : Int32} {C_kept : Int32} {A_kinds : Nat → Int32} {A_traced : Nat → Int32} {A_bodies : Int32} {A_began : Int32} {A_self : Int32} {A_kindOfSelf : Int32} {S_holds : Nat → Int32} {S_body : Nat → Int32} {S_sort : Nat → Int32} {S_size : Nat → Int32} {S_elements : Nat → Nat → Int64} {G_grown : Nat → Int32} {M_code : Int32} {M_doors : Int32} {M_price : Nat → Int32} {M_year : Nat → Int32} {M_joins : Int32} {M_joinA : Nat → Int32} {M_joinB : Nat → Int32} {M_walls : Int32} {M_wallA : Nat → Int32} {M_wallB : Nat → Int32} {M_cost : Nat → Int32} {M_olds : Int32} {M_near : Int32} {M_doneMany : Int32} {M_undoneMany : Int32} {M_changeOf : Nat → Int32} {M_changeAt : Nat → Int32} {M_before : Nat → Int32} {M_behind : Nat → Int32} {M_tape : Nat → Int32} {M_taped : Int32} {M_here : Int32} {M_fault : Int32} {M_open : Int32} {M_laid : Int32} {M_act : Nat → Int32} {M_with : Nat → Int32} {M_lineMany : Nat → Int32} {M_testEnd : Nat → Int32} {M_lineEnd : Nat → Int32} {M_facts : Nat → Int32} {M_pile : Nat → Int32} {M_hasLaw : Int32} {M_far : Nat → Int32} {M_within : Nat → Int32} {M_tooNear : Nat → Int32} {M_dried : Int32} {M_isOn : Nat → Int32} {M_wasOn : Nat → Int32} {M_bodies : Int32} {M_kind : Nat → Int32} {M_traces : Int32} {M_traced : Nat → Int32} {M_holds : Nat → Int32} {M_size : Nat → Int32} {M_elements : Nat → Int64} {M_shifted : Nat → Int64}, INV T_price T_year T_joinEnds T_wallEnds T_cost T_doors T_joins T_walls T_oldWells T_apart L_tape L_text L_fed L_length L_read L_end L_at L_fault L_d L_p L_y L_j L_o P_away P_beside P_reach P_serves P_crowds P_servedLow P_servedHigh P_crowdedLow P_crowdedHigh P_there P_must P_can C_what C_number C_before C_after C_done C_kept A_kinds A_traced A_bodies A_began A_self A_kindOfSelf S_holds S_body S_sort S_size S_elements G_grown M_code M_doors M_price M_year M_joins M_joinA M_joinB M_walls M_wallA M_wallB M_cost M_olds M_near M_doneMany M_undoneMany M_changeOf M_changeAt M_before M_behind M_tape M_taped M_here M_fault M_open M_laid M_act M_with M_lineMany M_testEnd M_lineEnd M_facts M_pile M_hasLaw M_far M_within M_tooNear M_dried M_isOn M_wasOn M_bodies M_kind M_traces M_traced M_holds M_size M_elements M_shifted → zW D A H0 (WM q ρ2 M_code M_doors M_price M_year M_joins M_joinA M_joinB M_walls M_wallA M_wallB M_cost M_olds M_near M_doneMany M_undoneMany M_changeOf M_changeAt M_before M_behind M_tape M_taped M_here M_fault M_open M_laid M_act M_with M_lineMany M_testEnd M_lineEnd M_facts M_pile M_hasLaw M_far M_within M_tooNear M_dried M_isOn M_wasOn M_bodies M_kind M_traces M_traced M_holds M_size M_elements M_shifted ++ WC q ρ1 T_price T_year T_joinEnds T_wallEnds T_cost T_doors T_joins T_walls T_oldWells T_apart L_tape L_text L_fed L_length L_read L_end L_at L_fault L_d L_p L_y L_j L_o P_away P_beside P_reach P_serves P_crowds P_servedLow P_servedHigh P_crowdedLow P_crowdedHigh P_there P_must P_can C_what C_number C_before C_after C_done C_kept A_kinds A_traced A_bodies A_began A_self A_kindOfSelf S_holds S_body S_sort S_size S_elements G_grown) H locs → G) : G := h G k
section ZL
variable {p : Program} {l : Launch} {e : Env} {s : State} {m : MethodId} {args : Array Value} {below : List Frame} {meth : Method} {c : Code} {H : Heap} {locs : List Loc} {Q : State → Prop}
variable {pc : Nat} {ls : Array Slot} {rest : List Value} {D : va_G} {q : Nat → ClassId} {nL : Nat} {A : Nat → Prop}
theorem zl_i {cc : ByteArray} {own : String} {wr wc wc' : va_W} (hC : zC p s m args c cc own D q nL A) (hW : zW D A s.heap (wr ++ wc) H locs) {y : MethodName} {cc' : ByteArray} {nL' idx n b ci d : Nat} {rty : FieldType} {As st : List Value} {rv : Int32} {fs : List Value} {T : u_T} {N : Nat}
    (hM : zMi l y cc' nL' rty (zrm d) (.ref b :: As) D q wc H.size rv wc') (hV : VW own idx y cc' nL' (some rty) n) (he : wc[0]? = some (b, .inr (ci, fs))) (hc : vwCl[ci]? = some (y.cls, T, N))
    (hd : d ≤ 1000) (hnl : nL' ≤ 13) (hn : As.length = n) (hst : st = As.reverse ++ .ref b :: rest) (hls : ls.size = nL) (hrs : (rest.map fun v => v.category).sum ≤ 8) (hdg : decode cc pc = .ok (.invokevirtual idx, 3))
    (kk : ∀ (H1 : Heap) (locs1 : List Loc), zW D A s.heap (wr ++ wc') H1 locs1 → W p l e room_1 s m args below meth c H1 locs1 600000 7302250 Q (F0 m (pc + 3) ls (.int rv :: rest))) : W p l e room_1 s m args below meth c H locs 600000 7302250 Q (F0 m pc ls st) := by
  have hWc := z_sub hW
  have hR : (zrm d).frames + 1 ≤ room_1.frames ∧ 8 + (nL' + 11) + (zrm d).locals ≤ room_1.locals := by
    show d + 1 ≤ 2048 ∧ 8 + (nL' + 11) + 32 * d ≤ 84000
    omega
  refine va_calli (mc := 0) (ms := 0) (va_runV (As := As) (rest := rest) ⟨hC.1, hC.2.1, hC.2.2.2.2.2.1, hC.2.2.1, hC.2.2.2.1⟩ hM (cwV n hC.2.2.2.1 hV.good rfl rfl rfl ⟨rfl, hV.2⟩ hR) ⟨zPre_blind, va_recv hC.2.2.2.2.1 hWc.1 hc he, fun U hU hw => ⟨rfl, z_pre hC hWc hU hw⟩⟩ rfl hn hls hst (lv_room hrs) hdg ⟨Nat.le_refl _, Nat.le_refl _⟩) hW.2.2.1 (fun x _ h => z_A1 hWc x h) (z_A1 hWc) (fun r u t H1 locs1 ht hvm hw hB hz hk hS => ?_)
  subst hw
  subst ht
  obtain ⟨h1, h2⟩ := z_fr hW.1 hW.2.1 hk (z_A1 hWc) hB.1 hB.2.2
  exact kk _ locs1 ⟨h1, h2, hS, hW.2.2.2⟩
theorem zl_l {cc : ByteArray} {own : String} {wr wc wc' : va_W} (hC : zC p s m args c cc own D q nL A) (hW : zW D A s.heap (wr ++ wc) H locs) {y : MethodName} {cc' : ByteArray} {nL' idx n b ci d : Nat} {As st : List Value} {rv : Int64} {fs : List Value} {T : u_T} {N : Nat}
    (hM : zMl l y cc' nL' (zrm d) (.ref b :: As) D q wc H.size rv wc') (hV : VW own idx y cc' nL' (some .long) n) (he : wc[0]? = some (b, .inr (ci, fs))) (hc : vwCl[ci]? = some (y.cls, T, N))
    (hd : d ≤ 1000) (hnl : nL' ≤ 13) (hn : As.length = n) (hst : st = As.reverse ++ .ref b :: rest) (hls : ls.size = nL) (hrs : (rest.map fun v => v.category).sum ≤ 8) (hdg : decode cc pc = .ok (.invokevirtual idx, 3))
    (kk : ∀ (H1 : Heap) (locs1 : List Loc), zW D A s.heap (wr ++ wc') H1 locs1 → W p l e room_1 s m args below meth c H1 locs1 600000 7302250 Q (F0 m (pc + 3) ls (.long rv :: rest))) : W p l e room_1 s m args below meth c H locs 600000 7302250 Q (F0 m pc ls st) := by
  have hWc := z_sub hW
  have hR : (zrm d).frames + 1 ≤ room_1.frames ∧ 8 + (nL' + 11) + (zrm d).locals ≤ room_1.locals := by
    show d + 1 ≤ 2048 ∧ 8 + (nL' + 11) + 32 * d ≤ 84000
    omega
  refine va_calll (mc := 0) (ms := 0) (va_runV (As := As) (rest := rest) ⟨hC.1, hC.2.1, hC.2.2.2.2.2.1, hC.2.2.1, hC.2.2.2.1⟩ hM (cwV n hC.2.2.2.1 hV.good rfl rfl rfl ⟨rfl, hV.2⟩ hR) ⟨zPre_blind, va_recv hC.2.2.2.2.1 hWc.1 hc he, fun U hU hw => ⟨rfl, z_pre hC hWc hU hw⟩⟩ rfl hn hls hst (lv_room hrs) hdg ⟨Nat.le_refl _, Nat.le_refl _⟩) hW.2.2.1 (fun x _ h => z_A1 hWc x h) (z_A1 hWc) (fun r u t H1 locs1 ht hvm hw hB hz hk hS => ?_)
  subst hw
  subst ht
  obtain ⟨h1, h2⟩ := z_fr hW.1 hW.2.1 hk (z_A1 hWc) hB.1 hB.2.2
  exact kk _ locs1 ⟨h1, h2, hS, hW.2.2.2⟩
end ZL
theorem zl_cmp (x : Int64) : lg_cmp x x = 0 := by
  unfold lg_cmp
  simp

set_option maxHeartbeats 4000000 in
set_option maxRecDepth 100000 in
theorem law_door {p : Program} {l : Launch} {e : Env} {s : State} {m : MethodId} {below : List Frame} {meth : Method} {c : Code} {b L : Nat} {xs : Nat → Int32} {D : va_G} {q : Nat → ClassId} {ρ1 ρ2 : Nat → Nat} (hL : L ≤ 384) (hC : zC p s m #[Value.ref b] c cL_law RL D q 4 (fun x : Nat => s.heap.size ≤ x)) (hX : va_X b L xs s s.heap) (hbl : b < s.heap.size) {i : Int32} (hi : ∀ k : Int32, (0 ≤ k ∧ k ≤ 5) → vp_in (i + k) L) {H : Heap} {locs : List Loc} {ls : Array Slot} (hLW : LW D (fun x : Nat => s.heap.size ≤ x) s.heap q ρ1 ρ2 H locs) (hl : lv_has ls 4 [(0, .ref b), (1, .ref (ρ1 0)), (2, .ref (ρ2 0)), (3, .int i)])
    (kk : ∀ (H : Heap) (locs : List Loc) (ls : Array Slot), LW D (fun x : Nat => s.heap.size ≤ x) s.heap q ρ1 ρ2 H locs → lv_has ls 4 [(0, .ref b), (1, .ref (ρ1 0)), (2, .ref (ρ2 0)), (3, .int i)] → W p l e room_1 s m #[Value.ref b] below meth c H locs 600000 7302250 (lw_Z below #[Value.ref b] s) (F0 m 1298 ls [])) : W p l e room_1 s m #[Value.ref b] below meth c H locs 600000 7302250 (lw_Z below #[Value.ref b] s) (F0 m 196 ls []) := by
  refine LW_elim hLW (fun hI hW => ?_)
  have hx := hC.1
  have hb := hC.2.1
  have hbA : ¬ (fun x : Nat => s.heap.size ≤ x) b := Nat.not_le.mpr hbl
  refine lv_aload_n hx hb dL_law_196 rfl (lv_at hl 1 rfl) ?_
  refine lv_aload_n hx hb dL_law_197 rfl (lv_at hl 0 rfl) ?_
  refine lv_iload_n hx hb dL_law_198 rfl (lv_at hl 3 rfl) ?_
  refine lv_iconst (v := 1) hx hb dL_law_199 (by decide) ?_
  refine lv_iadd hx hb dL_law_200 ?_
  refine va_sld hx hb hX hbl hbA hW.2.2.1 (hi 1 (by decide)) dL_law_201 ?_
  refine lv_aload_n hx hb dL_law_202 rfl (lv_at hl 0 rfl) ?_
  refine lv_iload_n hx hb dL_law_203 rfl (lv_at hl 3 rfl) ?_
  refine lv_iconst (v := 2) hx hb dL_law_204 (by decide) ?_
  refine lv_iadd hx hb dL_law_205 ?_
  refine va_sld hx hb hX hbl hbA hW.2.2.1 (hi 2 (by decide)) dL_law_206 ?_
  obtain ⟨rc, rm, h1, h2, h3, hI'⟩ := pu_door hI (xs (Int32.toNatClampNeg (i + 1))) (xs (Int32.toNatClampNeg (i + 2)))
  refine zl_i (rest := []) hC hW (c_X6_door (d := 1) (Nat.le_refl _) h1) vw_L_13 WC_0 rfl (Nat.le_of_ble_eq_true rfl) (Nat.le_of_ble_eq_true rfl) rfl rfl hl.1 (Nat.le_of_ble_eq_true rfl) dL_law_207 (fun H locs hW => ?_)
  have hW := z_swap hW
  refine lv_aload_n hx hb dL_law_210 rfl (lv_at hl 2 rfl) ?_
  refine lv_aload_n hx hb dL_law_211 rfl (lv_at hl 0 rfl) ?_
  refine lv_iload_n hx hb dL_law_212 rfl (lv_at hl 3 rfl) ?_
  refine lv_iconst (v := 1) hx hb dL_law_213 (by decide) ?_
  refine lv_iadd hx hb dL_law_214 ?_
  refine va_sld hx hb hX hbl hbA hW.2.2.1 (hi 1 (by decide)) dL_law_215 ?_
  refine lv_aload_n hx hb dL_law_216 rfl (lv_at hl 0 rfl) ?_
  refine lv_iload_n hx hb dL_law_217 rfl (lv_at hl 3 rfl) ?_
  refine lv_iconst (v := 2) hx hb dL_law_218 (by decide) ?_
  refine lv_iadd hx hb dL_law_219 ?_
  refine va_sld hx hb hX hbl hbA hW.2.2.1 (hi 2 (by decide)) dL_law_220 ?_
  refine zl_i (rest := [.int rc.1]) hC hW (c_X7_door (d := 1) (Nat.le_refl _) h2) vw_L_17 WM_0 rfl (Nat.le_of_ble_eq_true rfl) (Nat.le_of_ble_eq_true rfl) rfl rfl hl.1 (Nat.le_of_ble_eq_true rfl) dL_law_221 (fun H locs hW => ?_)
  have hW := z_swap hW
  refine lv_icmp_eq (tgt := 1298) hx hb dL_law_224 (by decide) (fun _ => ?_) (fun c => absurd h3 c)
  exact kk H locs ls (LW_mk hI' hW) hl
set_option maxHeartbeats 4000000 in
set_option maxRecDepth 100000 in
theorem law_join {p : Program} {l : Launch} {e : Env} {s : State} {m : MethodId} {below : List Frame} {meth : Method} {c : Code} {b L : Nat} {xs : Nat → Int32} {D : va_G} {q : Nat → ClassId} {ρ1 ρ2 : Nat → Nat} (hL : L ≤ 384) (hC : zC p s m #[Value.ref b] c cL_law RL D q 4 (fun x : Nat => s.heap.size ≤ x)) (hX : va_X b L xs s s.heap) (hbl : b < s.heap.size) {i : Int32} (hi : ∀ k : Int32, (0 ≤ k ∧ k ≤ 5) → vp_in (i + k) L) {H : Heap} {locs : List Loc} {ls : Array Slot} (hLW : LW D (fun x : Nat => s.heap.size ≤ x) s.heap q ρ1 ρ2 H locs) (hl : lv_has ls 4 [(0, .ref b), (1, .ref (ρ1 0)), (2, .ref (ρ2 0)), (3, .int i)])
    (kk : ∀ (H : Heap) (locs : List Loc) (ls : Array Slot), LW D (fun x : Nat => s.heap.size ≤ x) s.heap q ρ1 ρ2 H locs → lv_has ls 4 [(0, .ref b), (1, .ref (ρ1 0)), (2, .ref (ρ2 0)), (3, .int i)] → W p l e room_1 s m #[Value.ref b] below meth c H locs 600000 7302250 (lw_Z below #[Value.ref b] s) (F0 m 1298 ls [])) : W p l e room_1 s m #[Value.ref b] below meth c H locs 600000 7302250 (lw_Z below #[Value.ref b] s) (F0 m 229 ls []) := by
  refine LW_elim hLW (fun hI hW => ?_)
  have hx := hC.1
  have hb := hC.2.1
  have hbA : ¬ (fun x : Nat => s.heap.size ≤ x) b := Nat.not_le.mpr hbl
  refine lv_aload_n hx hb dL_law_229 rfl (lv_at hl 1 rfl) ?_
  refine lv_aload_n hx hb dL_law_230 rfl (lv_at hl 0 rfl) ?_
  refine lv_iload_n hx hb dL_law_231 rfl (lv_at hl 3 rfl) ?_
  refine lv_iconst (v := 1) hx hb dL_law_232 (by decide) ?_
  refine lv_iadd hx hb dL_law_233 ?_
  refine va_sld hx hb hX hbl hbA hW.2.2.1 (hi 1 (by decide)) dL_law_234 ?_
  obtain ⟨rc, rm, h1, h2, h3, hI'⟩ := pu_join hI (xs (Int32.toNatClampNeg (i + 1)))
  refine zl_i (rest := []) hC hW (c_X6_join (d := 2) (Nat.le_refl _) h1) vw_L_18 WC_0 rfl (Nat.le_of_ble_eq_true rfl) (Nat.le_of_ble_eq_true rfl) rfl rfl hl.1 (Nat.le_of_ble_eq_true rfl) dL_law_235 (fun H locs hW => ?_)
  have hW := z_swap hW
  refine lv_aload_n hx hb dL_law_238 rfl (lv_at hl 2 rfl) ?_
  refine lv_aload_n hx hb dL_law_239 rfl (lv_at hl 0 rfl) ?_
  refine lv_iload_n hx hb dL_law_240 rfl (lv_at hl 3 rfl) ?_
  refine lv_iconst (v := 1) hx hb dL_law_241 (by decide) ?_
  refine lv_iadd hx hb dL_law_242 ?_
  refine va_sld hx hb hX hbl hbA hW.2.2.1 (hi 1 (by decide)) dL_law_243 ?_
  refine zl_i (rest := [.int rc.1]) hC hW (c_X7_join (d := 3) (Nat.le_refl _) h2) vw_L_22 WM_0 rfl (Nat.le_of_ble_eq_true rfl) (Nat.le_of_ble_eq_true rfl) rfl rfl hl.1 (Nat.le_of_ble_eq_true rfl) dL_law_244 (fun H locs hW => ?_)
  have hW := z_swap hW
  refine lv_icmp_eq (tgt := 1298) hx hb dL_law_247 (by decide) (fun _ => ?_) (fun c => absurd h3 c)
  exact kk H locs ls (LW_mk hI' hW) hl
set_option maxHeartbeats 4000000 in
set_option maxRecDepth 100000 in
theorem law_joins {p : Program} {l : Launch} {e : Env} {s : State} {m : MethodId} {below : List Frame} {meth : Method} {c : Code} {b L : Nat} {xs : Nat → Int32} {D : va_G} {q : Nat → ClassId} {ρ1 ρ2 : Nat → Nat} (hL : L ≤ 384) (hC : zC p s m #[Value.ref b] c cL_law RL D q 4 (fun x : Nat => s.heap.size ≤ x)) (hX : va_X b L xs s s.heap) (hbl : b < s.heap.size) {i : Int32} (hi : ∀ k : Int32, (0 ≤ k ∧ k ≤ 5) → vp_in (i + k) L) {H : Heap} {locs : List Loc} {ls : Array Slot} (hLW : LW D (fun x : Nat => s.heap.size ≤ x) s.heap q ρ1 ρ2 H locs) (hl : lv_has ls 4 [(0, .ref b), (1, .ref (ρ1 0)), (2, .ref (ρ2 0)), (3, .int i)])
    (kk : ∀ (H : Heap) (locs : List Loc) (ls : Array Slot), LW D (fun x : Nat => s.heap.size ≤ x) s.heap q ρ1 ρ2 H locs → lv_has ls 4 [(0, .ref b), (1, .ref (ρ1 0)), (2, .ref (ρ2 0)), (3, .int i)] → W p l e room_1 s m #[Value.ref b] below meth c H locs 600000 7302250 (lw_Z below #[Value.ref b] s) (F0 m 1298 ls [])) : W p l e room_1 s m #[Value.ref b] below meth c H locs 600000 7302250 (lw_Z below #[Value.ref b] s) (F0 m 252 ls []) := by
  refine LW_elim hLW (fun hI hW => ?_)
  have hx := hC.1
  have hb := hC.2.1
  have hbA : ¬ (fun x : Nat => s.heap.size ≤ x) b := Nat.not_le.mpr hbl
  refine lv_aload_n hx hb dL_law_252 rfl (lv_at hl 1 rfl) ?_
  refine lv_aload_n hx hb dL_law_253 rfl (lv_at hl 0 rfl) ?_
  refine lv_iload_n hx hb dL_law_254 rfl (lv_at hl 3 rfl) ?_
  refine lv_iconst (v := 1) hx hb dL_law_255 (by decide) ?_
  refine lv_iadd hx hb dL_law_256 ?_
  refine va_sld hx hb hX hbl hbA hW.2.2.1 (hi 1 (by decide)) dL_law_257 ?_
  refine lv_aload_n hx hb dL_law_258 rfl (lv_at hl 0 rfl) ?_
  refine lv_iload_n hx hb dL_law_259 rfl (lv_at hl 3 rfl) ?_
  refine lv_iconst (v := 2) hx hb dL_law_260 (by decide) ?_
  refine lv_iadd hx hb dL_law_261 ?_
  refine va_sld hx hb hX hbl hbA hW.2.2.1 (hi 2 (by decide)) dL_law_262 ?_
  refine lv_aload_n hx hb dL_law_263 rfl (lv_at hl 0 rfl) ?_
  refine lv_iload_n hx hb dL_law_264 rfl (lv_at hl 3 rfl) ?_
  refine lv_iconst (v := 3) hx hb dL_law_265 (by decide) ?_
  refine lv_iadd hx hb dL_law_266 ?_
  refine va_sld hx hb hX hbl hbA hW.2.2.1 (hi 3 (by decide)) dL_law_267 ?_
  obtain ⟨rc, rm, h1, h2, h3, hI'⟩ := pu_joins hI (xs (Int32.toNatClampNeg (i + 1))) (xs (Int32.toNatClampNeg (i + 2))) (xs (Int32.toNatClampNeg (i + 3)))
  refine zl_i (rest := []) hC hW (c_X6_joins (d := 3) (Nat.le_refl _) h1) vw_L_23 WC_0 rfl (Nat.le_of_ble_eq_true rfl) (Nat.le_of_ble_eq_true rfl) rfl rfl hl.1 (Nat.le_of_ble_eq_true rfl) dL_law_268 (fun H locs hW => ?_)
  have hW := z_swap hW
  refine lv_aload_n hx hb dL_law_271 rfl (lv_at hl 2 rfl) ?_
  refine lv_aload_n hx hb dL_law_272 rfl (lv_at hl 0 rfl) ?_
  refine lv_iload_n hx hb dL_law_273 rfl (lv_at hl 3 rfl) ?_
  refine lv_iconst (v := 1) hx hb dL_law_274 (by decide) ?_
  refine lv_iadd hx hb dL_law_275 ?_
  refine va_sld hx hb hX hbl hbA hW.2.2.1 (hi 1 (by decide)) dL_law_276 ?_
  refine lv_aload_n hx hb dL_law_277 rfl (lv_at hl 0 rfl) ?_
  refine lv_iload_n hx hb dL_law_278 rfl (lv_at hl 3 rfl) ?_
  refine lv_iconst (v := 2) hx hb dL_law_279 (by decide) ?_
  refine lv_iadd hx hb dL_law_280 ?_
  refine va_sld hx hb hX hbl hbA hW.2.2.1 (hi 2 (by decide)) dL_law_281 ?_
  refine lv_aload_n hx hb dL_law_282 rfl (lv_at hl 0 rfl) ?_
  refine lv_iload_n hx hb dL_law_283 rfl (lv_at hl 3 rfl) ?_
  refine lv_iconst (v := 3) hx hb dL_law_284 (by decide) ?_
  refine lv_iadd hx hb dL_law_285 ?_
  refine va_sld hx hb hX hbl hbA hW.2.2.1 (hi 3 (by decide)) dL_law_286 ?_
  refine zl_i (rest := [.int rc.1]) hC hW (c_X7_joins (d := 2) (Nat.le_refl _) h2) vw_L_27 WM_0 rfl (Nat.le_of_ble_eq_true rfl) (Nat.le_of_ble_eq_true rfl) rfl rfl hl.1 (Nat.le_of_ble_eq_true rfl) dL_law_287 (fun H locs hW => ?_)
  have hW := z_swap hW
  refine lv_icmp_eq (tgt := 1298) hx hb dL_law_290 (by decide) (fun _ => ?_) (fun c => absurd h3 c)
  exact kk H locs ls (LW_mk hI' hW) hl
set_option maxHeartbeats 4000000 in
set_option maxRecDepth 100000 in
theorem law_wall {p : Program} {l : Launch} {e : Env} {s : State} {m : MethodId} {below : List Frame} {meth : Method} {c : Code} {b L : Nat} {xs : Nat → Int32} {D : va_G} {q : Nat → ClassId} {ρ1 ρ2 : Nat → Nat} (hL : L ≤ 384) (hC : zC p s m #[Value.ref b] c cL_law RL D q 4 (fun x : Nat => s.heap.size ≤ x)) (hX : va_X b L xs s s.heap) (hbl : b < s.heap.size) {i : Int32} (hi : ∀ k : Int32, (0 ≤ k ∧ k ≤ 5) → vp_in (i + k) L) {H : Heap} {locs : List Loc} {ls : Array Slot} (hLW : LW D (fun x : Nat => s.heap.size ≤ x) s.heap q ρ1 ρ2 H locs) (hl : lv_has ls 4 [(0, .ref b), (1, .ref (ρ1 0)), (2, .ref (ρ2 0)), (3, .int i)])
    (kk : ∀ (H : Heap) (locs : List Loc) (ls : Array Slot), LW D (fun x : Nat => s.heap.size ≤ x) s.heap q ρ1 ρ2 H locs → lv_has ls 4 [(0, .ref b), (1, .ref (ρ1 0)), (2, .ref (ρ2 0)), (3, .int i)] → W p l e room_1 s m #[Value.ref b] below meth c H locs 600000 7302250 (lw_Z below #[Value.ref b] s) (F0 m 1298 ls [])) : W p l e room_1 s m #[Value.ref b] below meth c H locs 600000 7302250 (lw_Z below #[Value.ref b] s) (F0 m 295 ls []) := by
  refine LW_elim hLW (fun hI hW => ?_)
  have hx := hC.1
  have hb := hC.2.1
  have hbA : ¬ (fun x : Nat => s.heap.size ≤ x) b := Nat.not_le.mpr hbl
  refine lv_aload_n hx hb dL_law_295 rfl (lv_at hl 1 rfl) ?_
  refine lv_aload_n hx hb dL_law_296 rfl (lv_at hl 0 rfl) ?_
  refine lv_iload_n hx hb dL_law_297 rfl (lv_at hl 3 rfl) ?_
  refine lv_iconst (v := 1) hx hb dL_law_298 (by decide) ?_
  refine lv_iadd hx hb dL_law_299 ?_
  refine va_sld hx hb hX hbl hbA hW.2.2.1 (hi 1 (by decide)) dL_law_300 ?_
  refine lv_aload_n hx hb dL_law_301 rfl (lv_at hl 0 rfl) ?_
  refine lv_iload_n hx hb dL_law_302 rfl (lv_at hl 3 rfl) ?_
  refine lv_iconst (v := 2) hx hb dL_law_303 (by decide) ?_
  refine lv_iadd hx hb dL_law_304 ?_
  refine va_sld hx hb hX hbl hbA hW.2.2.1 (hi 2 (by decide)) dL_law_305 ?_
  obtain ⟨rc, rm, h1, h2, h3, hI'⟩ := pu_wall hI (xs (Int32.toNatClampNeg (i + 1))) (xs (Int32.toNatClampNeg (i + 2)))
  refine zl_i (rest := []) hC hW (c_X6_wall (d := 2) (Nat.le_refl _) h1) vw_L_28 WC_0 rfl (Nat.le_of_ble_eq_true rfl) (Nat.le_of_ble_eq_true rfl) rfl rfl hl.1 (Nat.le_of_ble_eq_true rfl) dL_law_306 (fun H locs hW => ?_)
  have hW := z_swap hW
  refine lv_aload_n hx hb dL_law_309 rfl (lv_at hl 2 rfl) ?_
  refine lv_aload_n hx hb dL_law_310 rfl (lv_at hl 0 rfl) ?_
  refine lv_iload_n hx hb dL_law_311 rfl (lv_at hl 3 rfl) ?_
  refine lv_iconst (v := 1) hx hb dL_law_312 (by decide) ?_
  refine lv_iadd hx hb dL_law_313 ?_
  refine va_sld hx hb hX hbl hbA hW.2.2.1 (hi 1 (by decide)) dL_law_314 ?_
  refine lv_aload_n hx hb dL_law_315 rfl (lv_at hl 0 rfl) ?_
  refine lv_iload_n hx hb dL_law_316 rfl (lv_at hl 3 rfl) ?_
  refine lv_iconst (v := 2) hx hb dL_law_317 (by decide) ?_
  refine lv_iadd hx hb dL_law_318 ?_
  refine va_sld hx hb hX hbl hbA hW.2.2.1 (hi 2 (by decide)) dL_law_319 ?_
  refine zl_i (rest := [.int rc.1]) hC hW (c_X7_wall (d := 3) (Nat.le_refl _) h2) vw_L_31 WM_0 rfl (Nat.le_of_ble_eq_true rfl) (Nat.le_of_ble_eq_true rfl) rfl rfl hl.1 (Nat.le_of_ble_eq_true rfl) dL_law_320 (fun H locs hW => ?_)
  have hW := z_swap hW
  refine lv_icmp_eq (tgt := 1298) hx hb dL_law_323 (by decide) (fun _ => ?_) (fun c => absurd h3 c)
  exact kk H locs ls (LW_mk hI' hW) hl
set_option maxHeartbeats 4000000 in
set_option maxRecDepth 100000 in
theorem law_old {p : Program} {l : Launch} {e : Env} {s : State} {m : MethodId} {below : List Frame} {meth : Method} {c : Code} {b L : Nat} {xs : Nat → Int32} {D : va_G} {q : Nat → ClassId} {ρ1 ρ2 : Nat → Nat} (hL : L ≤ 384) (hC : zC p s m #[Value.ref b] c cL_law RL D q 4 (fun x : Nat => s.heap.size ≤ x)) (hX : va_X b L xs s s.heap) (hbl : b < s.heap.size) {i : Int32} (hi : ∀ k : Int32, (0 ≤ k ∧ k ≤ 5) → vp_in (i + k) L) {H : Heap} {locs : List Loc} {ls : Array Slot} (hLW : LW D (fun x : Nat => s.heap.size ≤ x) s.heap q ρ1 ρ2 H locs) (hl : lv_has ls 4 [(0, .ref b), (1, .ref (ρ1 0)), (2, .ref (ρ2 0)), (3, .int i)])
    (kk : ∀ (H : Heap) (locs : List Loc) (ls : Array Slot), LW D (fun x : Nat => s.heap.size ≤ x) s.heap q ρ1 ρ2 H locs → lv_has ls 4 [(0, .ref b), (1, .ref (ρ1 0)), (2, .ref (ρ2 0)), (3, .int i)] → W p l e room_1 s m #[Value.ref b] below meth c H locs 600000 7302250 (lw_Z below #[Value.ref b] s) (F0 m 1298 ls [])) : W p l e room_1 s m #[Value.ref b] below meth c H locs 600000 7302250 (lw_Z below #[Value.ref b] s) (F0 m 328 ls []) := by
  refine LW_elim hLW (fun hI hW => ?_)
  have hx := hC.1
  have hb := hC.2.1
  have hbA : ¬ (fun x : Nat => s.heap.size ≤ x) b := Nat.not_le.mpr hbl
  refine lv_aload_n hx hb dL_law_328 rfl (lv_at hl 1 rfl) ?_
  refine lv_aload_n hx hb dL_law_329 rfl (lv_at hl 0 rfl) ?_
  refine lv_iload_n hx hb dL_law_330 rfl (lv_at hl 3 rfl) ?_
  refine lv_iconst (v := 1) hx hb dL_law_331 (by decide) ?_
  refine lv_iadd hx hb dL_law_332 ?_
  refine va_sld hx hb hX hbl hbA hW.2.2.1 (hi 1 (by decide)) dL_law_333 ?_
  obtain ⟨rc, rm, h1, h2, h3, hI'⟩ := pu_old hI (xs (Int32.toNatClampNeg (i + 1)))
  refine zl_i (rest := []) hC hW (c_X6_old (d := 2) (Nat.le_refl _) h1) vw_L_32 WC_0 rfl (Nat.le_of_ble_eq_true rfl) (Nat.le_of_ble_eq_true rfl) rfl rfl hl.1 (Nat.le_of_ble_eq_true rfl) dL_law_334 (fun H locs hW => ?_)
  have hW := z_swap hW
  refine lv_aload_n hx hb dL_law_337 rfl (lv_at hl 2 rfl) ?_
  refine lv_aload_n hx hb dL_law_338 rfl (lv_at hl 0 rfl) ?_
  refine lv_iload_n hx hb dL_law_339 rfl (lv_at hl 3 rfl) ?_
  refine lv_iconst (v := 1) hx hb dL_law_340 (by decide) ?_
  refine lv_iadd hx hb dL_law_341 ?_
  refine va_sld hx hb hX hbl hbA hW.2.2.1 (hi 1 (by decide)) dL_law_342 ?_
  refine zl_i (rest := [.int rc.1]) hC hW (c_X7_old (d := 1) (Nat.le_refl _) h2) vw_L_35 WM_0 rfl (Nat.le_of_ble_eq_true rfl) (Nat.le_of_ble_eq_true rfl) rfl rfl hl.1 (Nat.le_of_ble_eq_true rfl) dL_law_343 (fun H locs hW => ?_)
  have hW := z_swap hW
  refine lv_icmp_eq (tgt := 1298) hx hb dL_law_346 (by decide) (fun _ => ?_) (fun c => absurd h3 c)
  exact kk H locs ls (LW_mk hI' hW) hl
set_option maxHeartbeats 4000000 in
set_option maxRecDepth 100000 in
theorem law_near {p : Program} {l : Launch} {e : Env} {s : State} {m : MethodId} {below : List Frame} {meth : Method} {c : Code} {b L : Nat} {xs : Nat → Int32} {D : va_G} {q : Nat → ClassId} {ρ1 ρ2 : Nat → Nat} (hL : L ≤ 384) (hC : zC p s m #[Value.ref b] c cL_law RL D q 4 (fun x : Nat => s.heap.size ≤ x)) (hX : va_X b L xs s s.heap) (hbl : b < s.heap.size) {i : Int32} (hi : ∀ k : Int32, (0 ≤ k ∧ k ≤ 5) → vp_in (i + k) L) {H : Heap} {locs : List Loc} {ls : Array Slot} (hLW : LW D (fun x : Nat => s.heap.size ≤ x) s.heap q ρ1 ρ2 H locs) (hl : lv_has ls 4 [(0, .ref b), (1, .ref (ρ1 0)), (2, .ref (ρ2 0)), (3, .int i)])
    (kk : ∀ (H : Heap) (locs : List Loc) (ls : Array Slot), LW D (fun x : Nat => s.heap.size ≤ x) s.heap q ρ1 ρ2 H locs → lv_has ls 4 [(0, .ref b), (1, .ref (ρ1 0)), (2, .ref (ρ2 0)), (3, .int i)] → W p l e room_1 s m #[Value.ref b] below meth c H locs 600000 7302250 (lw_Z below #[Value.ref b] s) (F0 m 1298 ls [])) : W p l e room_1 s m #[Value.ref b] below meth c H locs 600000 7302250 (lw_Z below #[Value.ref b] s) (F0 m 351 ls []) := by
  refine LW_elim hLW (fun hI hW => ?_)
  have hx := hC.1
  have hb := hC.2.1
  have hbA : ¬ (fun x : Nat => s.heap.size ≤ x) b := Nat.not_le.mpr hbl
  refine lv_aload_n hx hb dL_law_351 rfl (lv_at hl 1 rfl) ?_
  refine lv_aload_n hx hb dL_law_352 rfl (lv_at hl 0 rfl) ?_
  refine lv_iload_n hx hb dL_law_353 rfl (lv_at hl 3 rfl) ?_
  refine lv_iconst (v := 1) hx hb dL_law_354 (by decide) ?_
  refine lv_iadd hx hb dL_law_355 ?_
  refine va_sld hx hb hX hbl hbA hW.2.2.1 (hi 1 (by decide)) dL_law_356 ?_
  obtain ⟨rc, rm, h1, h2, h3, hI'⟩ := pu_near hI (xs (Int32.toNatClampNeg (i + 1)))
  refine zl_i (rest := []) hC hW (c_X6_near (d := 1) (Nat.le_refl _) h1) vw_L_36 WC_0 rfl (Nat.le_of_ble_eq_true rfl) (Nat.le_of_ble_eq_true rfl) rfl rfl hl.1 (Nat.le_of_ble_eq_true rfl) dL_law_357 (fun H locs hW => ?_)
  have hW := z_swap hW
  refine lv_aload_n hx hb dL_law_360 rfl (lv_at hl 2 rfl) ?_
  refine lv_aload_n hx hb dL_law_361 rfl (lv_at hl 0 rfl) ?_
  refine lv_iload_n hx hb dL_law_362 rfl (lv_at hl 3 rfl) ?_
  refine lv_iconst (v := 1) hx hb dL_law_363 (by decide) ?_
  refine lv_iadd hx hb dL_law_364 ?_
  refine va_sld hx hb hX hbl hbA hW.2.2.1 (hi 1 (by decide)) dL_law_365 ?_
  refine zl_i (rest := [.int rc.1]) hC hW (c_X7_near (d := 1) (Nat.le_refl _) h2) vw_L_39 WM_0 rfl (Nat.le_of_ble_eq_true rfl) (Nat.le_of_ble_eq_true rfl) rfl rfl hl.1 (Nat.le_of_ble_eq_true rfl) dL_law_366 (fun H locs hW => ?_)
  have hW := z_swap hW
  refine lv_icmp_eq (tgt := 1298) hx hb dL_law_369 (by decide) (fun _ => ?_) (fun c => absurd h3 c)
  exact kk H locs ls (LW_mk hI' hW) hl
set_option maxHeartbeats 4000000 in
set_option maxRecDepth 100000 in
theorem law_mend {p : Program} {l : Launch} {e : Env} {s : State} {m : MethodId} {below : List Frame} {meth : Method} {c : Code} {b L : Nat} {xs : Nat → Int32} {D : va_G} {q : Nat → ClassId} {ρ1 ρ2 : Nat → Nat} (hL : L ≤ 384) (hC : zC p s m #[Value.ref b] c cL_law RL D q 4 (fun x : Nat => s.heap.size ≤ x)) (hX : va_X b L xs s s.heap) (hbl : b < s.heap.size) {i : Int32} (hi : ∀ k : Int32, (0 ≤ k ∧ k ≤ 5) → vp_in (i + k) L) {H : Heap} {locs : List Loc} {ls : Array Slot} (hLW : LW D (fun x : Nat => s.heap.size ≤ x) s.heap q ρ1 ρ2 H locs) (hl : lv_has ls 4 [(0, .ref b), (1, .ref (ρ1 0)), (2, .ref (ρ2 0)), (3, .int i)])
    (kk : ∀ (H : Heap) (locs : List Loc) (ls : Array Slot), LW D (fun x : Nat => s.heap.size ≤ x) s.heap q ρ1 ρ2 H locs → lv_has ls 4 [(0, .ref b), (1, .ref (ρ1 0)), (2, .ref (ρ2 0)), (3, .int i)] → W p l e room_1 s m #[Value.ref b] below meth c H locs 600000 7302250 (lw_Z below #[Value.ref b] s) (F0 m 1298 ls [])) : W p l e room_1 s m #[Value.ref b] below meth c H locs 600000 7302250 (lw_Z below #[Value.ref b] s) (F0 m 374 ls []) := by
  refine LW_elim hLW (fun hI hW => ?_)
  have hx := hC.1
  have hb := hC.2.1
  have hbA : ¬ (fun x : Nat => s.heap.size ≤ x) b := Nat.not_le.mpr hbl
  refine lv_aload_n hx hb dL_law_374 rfl (lv_at hl 1 rfl) ?_
  refine lv_aload_n hx hb dL_law_375 rfl (lv_at hl 0 rfl) ?_
  refine lv_iload_n hx hb dL_law_376 rfl (lv_at hl 3 rfl) ?_
  refine lv_iconst (v := 1) hx hb dL_law_377 (by decide) ?_
  refine lv_iadd hx hb dL_law_378 ?_
  refine va_sld hx hb hX hbl hbA hW.2.2.1 (hi 1 (by decide)) dL_law_379 ?_
  refine lv_aload_n hx hb dL_law_380 rfl (lv_at hl 0 rfl) ?_
  refine lv_iload_n hx hb dL_law_381 rfl (lv_at hl 3 rfl) ?_
  refine lv_iconst (v := 2) hx hb dL_law_382 (by decide) ?_
  refine lv_iadd hx hb dL_law_383 ?_
  refine va_sld hx hb hX hbl hbA hW.2.2.1 (hi 2 (by decide)) dL_law_384 ?_
  refine lv_aload_n hx hb dL_law_385 rfl (lv_at hl 0 rfl) ?_
  refine lv_iload_n hx hb dL_law_386 rfl (lv_at hl 3 rfl) ?_
  refine lv_iconst (v := 3) hx hb dL_law_387 (by decide) ?_
  refine lv_iadd hx hb dL_law_388 ?_
  refine va_sld hx hb hX hbl hbA hW.2.2.1 (hi 3 (by decide)) dL_law_389 ?_
  obtain ⟨rc, rm, h1, h2, h3, hI'⟩ := pu_mend hI (xs (Int32.toNatClampNeg (i + 1))) (xs (Int32.toNatClampNeg (i + 2))) (xs (Int32.toNatClampNeg (i + 3)))
  refine zl_i (rest := []) hC hW (c_X6_mend (d := 3) (Nat.le_refl _) h1) vw_L_40 WC_0 rfl (Nat.le_of_ble_eq_true rfl) (Nat.le_of_ble_eq_true rfl) rfl rfl hl.1 (Nat.le_of_ble_eq_true rfl) dL_law_390 (fun H locs hW => ?_)
  have hW := z_swap hW
  refine lv_aload_n hx hb dL_law_393 rfl (lv_at hl 2 rfl) ?_
  refine lv_aload_n hx hb dL_law_394 rfl (lv_at hl 0 rfl) ?_
  refine lv_iload_n hx hb dL_law_395 rfl (lv_at hl 3 rfl) ?_
  refine lv_iconst (v := 1) hx hb dL_law_396 (by decide) ?_
  refine lv_iadd hx hb dL_law_397 ?_
  refine va_sld hx hb hX hbl hbA hW.2.2.1 (hi 1 (by decide)) dL_law_398 ?_
  refine lv_aload_n hx hb dL_law_399 rfl (lv_at hl 0 rfl) ?_
  refine lv_iload_n hx hb dL_law_400 rfl (lv_at hl 3 rfl) ?_
  refine lv_iconst (v := 2) hx hb dL_law_401 (by decide) ?_
  refine lv_iadd hx hb dL_law_402 ?_
  refine va_sld hx hb hX hbl hbA hW.2.2.1 (hi 2 (by decide)) dL_law_403 ?_
  refine lv_aload_n hx hb dL_law_404 rfl (lv_at hl 0 rfl) ?_
  refine lv_iload_n hx hb dL_law_405 rfl (lv_at hl 3 rfl) ?_
  refine lv_iconst (v := 3) hx hb dL_law_406 (by decide) ?_
  refine lv_iadd hx hb dL_law_407 ?_
  refine va_sld hx hb hX hbl hbA hW.2.2.1 (hi 3 (by decide)) dL_law_408 ?_
  refine zl_i (rest := [.int rc.1]) hC hW (c_X7_mend (d := 2) (Nat.le_refl _) h2) vw_L_43 WM_0 rfl (Nat.le_of_ble_eq_true rfl) (Nat.le_of_ble_eq_true rfl) rfl rfl hl.1 (Nat.le_of_ble_eq_true rfl) dL_law_409 (fun H locs hW => ?_)
  have hW := z_swap hW
  refine lv_icmp_eq (tgt := 1298) hx hb dL_law_412 (by decide) (fun _ => ?_) (fun c => absurd h3 c)
  exact kk H locs ls (LW_mk hI' hW) hl
set_option maxHeartbeats 4000000 in
set_option maxRecDepth 100000 in
theorem law_of {p : Program} {l : Launch} {e : Env} {s : State} {m : MethodId} {below : List Frame} {meth : Method} {c : Code} {b L : Nat} {xs : Nat → Int32} {D : va_G} {q : Nat → ClassId} {ρ1 ρ2 : Nat → Nat} (hL : L ≤ 384) (hC : zC p s m #[Value.ref b] c cL_law RL D q 4 (fun x : Nat => s.heap.size ≤ x)) (hX : va_X b L xs s s.heap) (hbl : b < s.heap.size) {i : Int32} (hi : ∀ k : Int32, (0 ≤ k ∧ k ≤ 5) → vp_in (i + k) L) {H : Heap} {locs : List Loc} {ls : Array Slot} (hLW : LW D (fun x : Nat => s.heap.size ≤ x) s.heap q ρ1 ρ2 H locs) (hl : lv_has ls 4 [(0, .ref b), (1, .ref (ρ1 0)), (2, .ref (ρ2 0)), (3, .int i)])
    (kk : ∀ (H : Heap) (locs : List Loc) (ls : Array Slot), LW D (fun x : Nat => s.heap.size ≤ x) s.heap q ρ1 ρ2 H locs → lv_has ls 4 [(0, .ref b), (1, .ref (ρ1 0)), (2, .ref (ρ2 0)), (3, .int i)] → W p l e room_1 s m #[Value.ref b] below meth c H locs 600000 7302250 (lw_Z below #[Value.ref b] s) (F0 m 1298 ls [])) : W p l e room_1 s m #[Value.ref b] below meth c H locs 600000 7302250 (lw_Z below #[Value.ref b] s) (F0 m 417 ls []) := by
  refine LW_elim hLW (fun hI hW => ?_)
  have hx := hC.1
  have hb := hC.2.1
  have hbA : ¬ (fun x : Nat => s.heap.size ≤ x) b := Nat.not_le.mpr hbl
  refine lv_aload_n hx hb dL_law_417 rfl (lv_at hl 1 rfl) ?_
  refine lv_aload_n hx hb dL_law_418 rfl (lv_at hl 0 rfl) ?_
  refine lv_iload_n hx hb dL_law_419 rfl (lv_at hl 3 rfl) ?_
  refine lv_iconst (v := 1) hx hb dL_law_420 (by decide) ?_
  refine lv_iadd hx hb dL_law_421 ?_
  refine va_sld hx hb hX hbl hbA hW.2.2.1 (hi 1 (by decide)) dL_law_422 ?_
  refine lv_aload_n hx hb dL_law_423 rfl (lv_at hl 0 rfl) ?_
  refine lv_iload_n hx hb dL_law_424 rfl (lv_at hl 3 rfl) ?_
  refine lv_iconst (v := 2) hx hb dL_law_425 (by decide) ?_
  refine lv_iadd hx hb dL_law_426 ?_
  refine va_sld hx hb hX hbl hbA hW.2.2.1 (hi 2 (by decide)) dL_law_427 ?_
  obtain ⟨rc, rm, h1, h2, h3, hI'⟩ := pu_of hI (xs (Int32.toNatClampNeg (i + 1))) (xs (Int32.toNatClampNeg (i + 2)))
  refine zl_i (rest := []) hC hW (c_X6_of (d := 83) (Nat.le_refl _) h1) vw_L_44 WC_0 rfl (Nat.le_of_ble_eq_true rfl) (Nat.le_of_ble_eq_true rfl) rfl rfl hl.1 (Nat.le_of_ble_eq_true rfl) dL_law_428 (fun H locs hW => ?_)
  have hW := z_swap hW
  refine lv_aload_n hx hb dL_law_431 rfl (lv_at hl 2 rfl) ?_
  refine lv_aload_n hx hb dL_law_432 rfl (lv_at hl 0 rfl) ?_
  refine lv_iload_n hx hb dL_law_433 rfl (lv_at hl 3 rfl) ?_
  refine lv_iconst (v := 1) hx hb dL_law_434 (by decide) ?_
  refine lv_iadd hx hb dL_law_435 ?_
  refine va_sld hx hb hX hbl hbA hW.2.2.1 (hi 1 (by decide)) dL_law_436 ?_
  refine lv_aload_n hx hb dL_law_437 rfl (lv_at hl 0 rfl) ?_
  refine lv_iload_n hx hb dL_law_438 rfl (lv_at hl 3 rfl) ?_
  refine lv_iconst (v := 2) hx hb dL_law_439 (by decide) ?_
  refine lv_iadd hx hb dL_law_440 ?_
  refine va_sld hx hb hX hbl hbA hW.2.2.1 (hi 2 (by decide)) dL_law_441 ?_
  refine zl_i (rest := [.int rc.1]) hC hW (c_X7_of (d := 4) (Nat.le_refl _) h2) vw_L_47 WM_0 rfl (Nat.le_of_ble_eq_true rfl) (Nat.le_of_ble_eq_true rfl) rfl rfl hl.1 (Nat.le_of_ble_eq_true rfl) dL_law_442 (fun H locs hW => ?_)
  have hW := z_swap hW
  refine lv_icmp_eq (tgt := 1298) hx hb dL_law_445 (by decide) (fun _ => ?_) (fun c => absurd h3 c)
  exact kk H locs ls (LW_mk hI' hW) hl
set_option maxHeartbeats 4000000 in
set_option maxRecDepth 100000 in
theorem law_feed {p : Program} {l : Launch} {e : Env} {s : State} {m : MethodId} {below : List Frame} {meth : Method} {c : Code} {b L : Nat} {xs : Nat → Int32} {D : va_G} {q : Nat → ClassId} {ρ1 ρ2 : Nat → Nat} (hL : L ≤ 384) (hC : zC p s m #[Value.ref b] c cL_law RL D q 4 (fun x : Nat => s.heap.size ≤ x)) (hX : va_X b L xs s s.heap) (hbl : b < s.heap.size) {i : Int32} (hi : ∀ k : Int32, (0 ≤ k ∧ k ≤ 5) → vp_in (i + k) L) {H : Heap} {locs : List Loc} {ls : Array Slot} (hLW : LW D (fun x : Nat => s.heap.size ≤ x) s.heap q ρ1 ρ2 H locs) (hl : lv_has ls 4 [(0, .ref b), (1, .ref (ρ1 0)), (2, .ref (ρ2 0)), (3, .int i)])
    (kk : ∀ (H : Heap) (locs : List Loc) (ls : Array Slot), LW D (fun x : Nat => s.heap.size ≤ x) s.heap q ρ1 ρ2 H locs → lv_has ls 4 [(0, .ref b), (1, .ref (ρ1 0)), (2, .ref (ρ2 0)), (3, .int i)] → W p l e room_1 s m #[Value.ref b] below meth c H locs 600000 7302250 (lw_Z below #[Value.ref b] s) (F0 m 1298 ls [])) : W p l e room_1 s m #[Value.ref b] below meth c H locs 600000 7302250 (lw_Z below #[Value.ref b] s) (F0 m 450 ls []) := by
  refine LW_elim hLW (fun hI hW => ?_)
  have hx := hC.1
  have hb := hC.2.1
  have hbA : ¬ (fun x : Nat => s.heap.size ≤ x) b := Nat.not_le.mpr hbl
  refine lv_aload_n hx hb dL_law_450 rfl (lv_at hl 1 rfl) ?_
  refine lv_aload_n hx hb dL_law_451 rfl (lv_at hl 0 rfl) ?_
  refine lv_iload_n hx hb dL_law_452 rfl (lv_at hl 3 rfl) ?_
  refine lv_iconst (v := 1) hx hb dL_law_453 (by decide) ?_
  refine lv_iadd hx hb dL_law_454 ?_
  refine va_sld hx hb hX hbl hbA hW.2.2.1 (hi 1 (by decide)) dL_law_455 ?_
  obtain ⟨rc, rm, h1, h2, h3, hI'⟩ := pu_feed hI (xs (Int32.toNatClampNeg (i + 1)))
  refine zl_i (rest := []) hC hW (c_X6_feed (d := 1) (Nat.le_refl _) h1) vw_L_48 WC_0 rfl (Nat.le_of_ble_eq_true rfl) (Nat.le_of_ble_eq_true rfl) rfl rfl hl.1 (Nat.le_of_ble_eq_true rfl) dL_law_456 (fun H locs hW => ?_)
  have hW := z_swap hW
  refine lv_aload_n hx hb dL_law_459 rfl (lv_at hl 2 rfl) ?_
  refine lv_aload_n hx hb dL_law_460 rfl (lv_at hl 0 rfl) ?_
  refine lv_iload_n hx hb dL_law_461 rfl (lv_at hl 3 rfl) ?_
  refine lv_iconst (v := 1) hx hb dL_law_462 (by decide) ?_
  refine lv_iadd hx hb dL_law_463 ?_
  refine va_sld hx hb hX hbl hbA hW.2.2.1 (hi 1 (by decide)) dL_law_464 ?_
  refine zl_i (rest := [.int rc.1]) hC hW (c_X7_feed (d := 1) (Nat.le_refl _) h2) vw_L_51 WM_0 rfl (Nat.le_of_ble_eq_true rfl) (Nat.le_of_ble_eq_true rfl) rfl rfl hl.1 (Nat.le_of_ble_eq_true rfl) dL_law_465 (fun H locs hW => ?_)
  have hW := z_swap hW
  refine lv_icmp_eq (tgt := 1298) hx hb dL_law_468 (by decide) (fun _ => ?_) (fun c => absurd h3 c)
  exact kk H locs ls (LW_mk hI' hW) hl
set_option maxHeartbeats 4000000 in
set_option maxRecDepth 100000 in
theorem law_law {p : Program} {l : Launch} {e : Env} {s : State} {m : MethodId} {below : List Frame} {meth : Method} {c : Code} {b L : Nat} {xs : Nat → Int32} {D : va_G} {q : Nat → ClassId} {ρ1 ρ2 : Nat → Nat} (hL : L ≤ 384) (hC : zC p s m #[Value.ref b] c cL_law RL D q 4 (fun x : Nat => s.heap.size ≤ x)) (hX : va_X b L xs s s.heap) (hbl : b < s.heap.size) {i : Int32} (hi : ∀ k : Int32, (0 ≤ k ∧ k ≤ 5) → vp_in (i + k) L) {H : Heap} {locs : List Loc} {ls : Array Slot} (hLW : LW D (fun x : Nat => s.heap.size ≤ x) s.heap q ρ1 ρ2 H locs) (hl : lv_has ls 4 [(0, .ref b), (1, .ref (ρ1 0)), (2, .ref (ρ2 0)), (3, .int i)])
    (kk : ∀ (H : Heap) (locs : List Loc) (ls : Array Slot), LW D (fun x : Nat => s.heap.size ≤ x) s.heap q ρ1 ρ2 H locs → lv_has ls 4 [(0, .ref b), (1, .ref (ρ1 0)), (2, .ref (ρ2 0)), (3, .int i)] → W p l e room_1 s m #[Value.ref b] below meth c H locs 600000 7302250 (lw_Z below #[Value.ref b] s) (F0 m 1298 ls [])) : W p l e room_1 s m #[Value.ref b] below meth c H locs 600000 7302250 (lw_Z below #[Value.ref b] s) (F0 m 473 ls []) := by
  refine LW_elim hLW (fun hI hW => ?_)
  have hx := hC.1
  have hb := hC.2.1
  have hbA : ¬ (fun x : Nat => s.heap.size ≤ x) b := Nat.not_le.mpr hbl
  refine lv_aload_n hx hb dL_law_473 rfl (lv_at hl 1 rfl) ?_
  obtain ⟨rc, rm, h1, h2, h3, hI'⟩ := pu_law hI
  refine zl_i (rest := []) hC hW (c_X6_law (d := 82) (Nat.le_refl _) h1) vw_L_52 WC_0 rfl (Nat.le_of_ble_eq_true rfl) (Nat.le_of_ble_eq_true rfl) rfl rfl hl.1 (Nat.le_of_ble_eq_true rfl) dL_law_474 (fun H locs hW => ?_)
  have hW := z_swap hW
  refine lv_aload_n hx hb dL_law_477 rfl (lv_at hl 2 rfl) ?_
  refine zl_i (rest := [.int rc.1]) hC hW (c_X7_law (d := 64) (Nat.le_refl _) h2) vw_L_56 WM_0 rfl (Nat.le_of_ble_eq_true rfl) (Nat.le_of_ble_eq_true rfl) rfl rfl hl.1 (Nat.le_of_ble_eq_true rfl) dL_law_478 (fun H locs hW => ?_)
  have hW := z_swap hW
  refine lv_icmp_eq (tgt := 1298) hx hb dL_law_481 (by decide) (fun _ => ?_) (fun c => absurd h3 c)
  exact kk H locs ls (LW_mk hI' hW) hl
set_option maxHeartbeats 4000000 in
set_option maxRecDepth 100000 in
theorem law_far {p : Program} {l : Launch} {e : Env} {s : State} {m : MethodId} {below : List Frame} {meth : Method} {c : Code} {b L : Nat} {xs : Nat → Int32} {D : va_G} {q : Nat → ClassId} {ρ1 ρ2 : Nat → Nat} (hL : L ≤ 384) (hC : zC p s m #[Value.ref b] c cL_law RL D q 4 (fun x : Nat => s.heap.size ≤ x)) (hX : va_X b L xs s s.heap) (hbl : b < s.heap.size) {i : Int32} (hi : ∀ k : Int32, (0 ≤ k ∧ k ≤ 5) → vp_in (i + k) L) {H : Heap} {locs : List Loc} {ls : Array Slot} (hLW : LW D (fun x : Nat => s.heap.size ≤ x) s.heap q ρ1 ρ2 H locs) (hl : lv_has ls 4 [(0, .ref b), (1, .ref (ρ1 0)), (2, .ref (ρ2 0)), (3, .int i)])
    (kk : ∀ (H : Heap) (locs : List Loc) (ls : Array Slot), LW D (fun x : Nat => s.heap.size ≤ x) s.heap q ρ1 ρ2 H locs → lv_has ls 4 [(0, .ref b), (1, .ref (ρ1 0)), (2, .ref (ρ2 0)), (3, .int i)] → W p l e room_1 s m #[Value.ref b] below meth c H locs 600000 7302250 (lw_Z below #[Value.ref b] s) (F0 m 1298 ls [])) : W p l e room_1 s m #[Value.ref b] below meth c H locs 600000 7302250 (lw_Z below #[Value.ref b] s) (F0 m 486 ls []) := by
  refine LW_elim hLW (fun hI hW => ?_)
  have hx := hC.1
  have hb := hC.2.1
  have hbA : ¬ (fun x : Nat => s.heap.size ≤ x) b := Nat.not_le.mpr hbl
  refine lv_aload_n hx hb dL_law_486 rfl (lv_at hl 1 rfl) ?_
  refine lv_aload_n hx hb dL_law_487 rfl (lv_at hl 0 rfl) ?_
  refine lv_iload_n hx hb dL_law_488 rfl (lv_at hl 3 rfl) ?_
  refine lv_iconst (v := 1) hx hb dL_law_489 (by decide) ?_
  refine lv_iadd hx hb dL_law_490 ?_
  refine va_sld hx hb hX hbl hbA hW.2.2.1 (hi 1 (by decide)) dL_law_491 ?_
  obtain ⟨rc, rm, h1, h2, h3, hI'⟩ := pu_far hI (xs (Int32.toNatClampNeg (i + 1)))
  refine zl_i (rest := []) hC hW (c_X6_far (d := 84) (Nat.le_refl _) h1) vw_L_57 WC_0 rfl (Nat.le_of_ble_eq_true rfl) (Nat.le_of_ble_eq_true rfl) rfl rfl hl.1 (Nat.le_of_ble_eq_true rfl) dL_law_492 (fun H locs hW => ?_)
  have hW := z_swap hW
  refine lv_aload_n hx hb dL_law_495 rfl (lv_at hl 2 rfl) ?_
  refine lv_aload_n hx hb dL_law_496 rfl (lv_at hl 0 rfl) ?_
  refine lv_iload_n hx hb dL_law_497 rfl (lv_at hl 3 rfl) ?_
  refine lv_iconst (v := 1) hx hb dL_law_498 (by decide) ?_
  refine lv_iadd hx hb dL_law_499 ?_
  refine va_sld hx hb hX hbl hbA hW.2.2.1 (hi 1 (by decide)) dL_law_500 ?_
  refine zl_i (rest := [.int rc.1]) hC hW (c_X7_far (d := 2) (Nat.le_refl _) h2) vw_L_60 WM_0 rfl (Nat.le_of_ble_eq_true rfl) (Nat.le_of_ble_eq_true rfl) rfl rfl hl.1 (Nat.le_of_ble_eq_true rfl) dL_law_501 (fun H locs hW => ?_)
  have hW := z_swap hW
  refine lv_icmp_eq (tgt := 1298) hx hb dL_law_504 (by decide) (fun _ => ?_) (fun c => absurd h3 c)
  exact kk H locs ls (LW_mk hI' hW) hl
set_option maxHeartbeats 4000000 in
set_option maxRecDepth 100000 in
theorem law_judge {p : Program} {l : Launch} {e : Env} {s : State} {m : MethodId} {below : List Frame} {meth : Method} {c : Code} {b L : Nat} {xs : Nat → Int32} {D : va_G} {q : Nat → ClassId} {ρ1 ρ2 : Nat → Nat} (hL : L ≤ 384) (hC : zC p s m #[Value.ref b] c cL_law RL D q 4 (fun x : Nat => s.heap.size ≤ x)) (hX : va_X b L xs s s.heap) (hbl : b < s.heap.size) {i : Int32} (hi : ∀ k : Int32, (0 ≤ k ∧ k ≤ 5) → vp_in (i + k) L) {H : Heap} {locs : List Loc} {ls : Array Slot} (hLW : LW D (fun x : Nat => s.heap.size ≤ x) s.heap q ρ1 ρ2 H locs) (hl : lv_has ls 4 [(0, .ref b), (1, .ref (ρ1 0)), (2, .ref (ρ2 0)), (3, .int i)])
    (kk : ∀ (H : Heap) (locs : List Loc) (ls : Array Slot), LW D (fun x : Nat => s.heap.size ≤ x) s.heap q ρ1 ρ2 H locs → lv_has ls 4 [(0, .ref b), (1, .ref (ρ1 0)), (2, .ref (ρ2 0)), (3, .int i)] → W p l e room_1 s m #[Value.ref b] below meth c H locs 600000 7302250 (lw_Z below #[Value.ref b] s) (F0 m 1298 ls [])) : W p l e room_1 s m #[Value.ref b] below meth c H locs 600000 7302250 (lw_Z below #[Value.ref b] s) (F0 m 509 ls []) := by
  refine LW_elim hLW (fun hI hW => ?_)
  have hx := hC.1
  have hb := hC.2.1
  have hbA : ¬ (fun x : Nat => s.heap.size ≤ x) b := Nat.not_le.mpr hbl
  refine lv_aload_n hx hb dL_law_509 rfl (lv_at hl 1 rfl) ?_
  refine lv_aload_n hx hb dL_law_510 rfl (lv_at hl 0 rfl) ?_
  refine lv_iload_n hx hb dL_law_511 rfl (lv_at hl 3 rfl) ?_
  refine lv_iconst (v := 1) hx hb dL_law_512 (by decide) ?_
  refine lv_iadd hx hb dL_law_513 ?_
  refine va_sld hx hb hX hbl hbA hW.2.2.1 (hi 1 (by decide)) dL_law_514 ?_
  obtain ⟨rc, rm, h1, h2, h3, hI'⟩ := pu_judge hI (xs (Int32.toNatClampNeg (i + 1)))
  refine zl_i (rest := []) hC hW (c_X6_judge (d := 84) (Nat.le_refl _) h1) vw_L_61 WC_0 rfl (Nat.le_of_ble_eq_true rfl) (Nat.le_of_ble_eq_true rfl) rfl rfl hl.1 (Nat.le_of_ble_eq_true rfl) dL_law_515 (fun H locs hW => ?_)
  have hW := z_swap hW
  refine lv_aload_n hx hb dL_law_518 rfl (lv_at hl 2 rfl) ?_
  refine lv_aload_n hx hb dL_law_519 rfl (lv_at hl 0 rfl) ?_
  refine lv_iload_n hx hb dL_law_520 rfl (lv_at hl 3 rfl) ?_
  refine lv_iconst (v := 1) hx hb dL_law_521 (by decide) ?_
  refine lv_iadd hx hb dL_law_522 ?_
  refine va_sld hx hb hX hbl hbA hW.2.2.1 (hi 1 (by decide)) dL_law_523 ?_
  refine zl_i (rest := [.int rc.1]) hC hW (c_X7_judge (d := 5) (Nat.le_refl _) h2) vw_L_64 WM_0 rfl (Nat.le_of_ble_eq_true rfl) (Nat.le_of_ble_eq_true rfl) rfl rfl hl.1 (Nat.le_of_ble_eq_true rfl) dL_law_524 (fun H locs hW => ?_)
  have hW := z_swap hW
  refine lv_icmp_eq (tgt := 1298) hx hb dL_law_527 (by decide) (fun _ => ?_) (fun c => absurd h3 c)
  exact kk H locs ls (LW_mk hI' hW) hl
set_option maxHeartbeats 4000000 in
set_option maxRecDepth 100000 in
theorem law_best {p : Program} {l : Launch} {e : Env} {s : State} {m : MethodId} {below : List Frame} {meth : Method} {c : Code} {b L : Nat} {xs : Nat → Int32} {D : va_G} {q : Nat → ClassId} {ρ1 ρ2 : Nat → Nat} (hL : L ≤ 384) (hC : zC p s m #[Value.ref b] c cL_law RL D q 4 (fun x : Nat => s.heap.size ≤ x)) (hX : va_X b L xs s s.heap) (hbl : b < s.heap.size) {i : Int32} (hi : ∀ k : Int32, (0 ≤ k ∧ k ≤ 5) → vp_in (i + k) L) {H : Heap} {locs : List Loc} {ls : Array Slot} (hLW : LW D (fun x : Nat => s.heap.size ≤ x) s.heap q ρ1 ρ2 H locs) (hl : lv_has ls 4 [(0, .ref b), (1, .ref (ρ1 0)), (2, .ref (ρ2 0)), (3, .int i)])
    (kk : ∀ (H : Heap) (locs : List Loc) (ls : Array Slot), LW D (fun x : Nat => s.heap.size ≤ x) s.heap q ρ1 ρ2 H locs → lv_has ls 4 [(0, .ref b), (1, .ref (ρ1 0)), (2, .ref (ρ2 0)), (3, .int i)] → W p l e room_1 s m #[Value.ref b] below meth c H locs 600000 7302250 (lw_Z below #[Value.ref b] s) (F0 m 1298 ls [])) : W p l e room_1 s m #[Value.ref b] below meth c H locs 600000 7302250 (lw_Z below #[Value.ref b] s) (F0 m 532 ls []) := by
  refine LW_elim hLW (fun hI hW => ?_)
  have hx := hC.1
  have hb := hC.2.1
  have hbA : ¬ (fun x : Nat => s.heap.size ≤ x) b := Nat.not_le.mpr hbl
  refine lv_aload_n hx hb dL_law_532 rfl (lv_at hl 1 rfl) ?_
  refine lv_aload_n hx hb dL_law_533 rfl (lv_at hl 0 rfl) ?_
  refine lv_iload_n hx hb dL_law_534 rfl (lv_at hl 3 rfl) ?_
  refine lv_iconst (v := 1) hx hb dL_law_535 (by decide) ?_
  refine lv_iadd hx hb dL_law_536 ?_
  refine va_sld hx hb hX hbl hbA hW.2.2.1 (hi 1 (by decide)) dL_law_537 ?_
  obtain ⟨rc, rm, h1, h2, h3, hI'⟩ := pu_best hI (xs (Int32.toNatClampNeg (i + 1)))
  refine zl_i (rest := []) hC hW (c_X6_best (d := 84) (Nat.le_refl _) h1) vw_L_65 WC_0 rfl (Nat.le_of_ble_eq_true rfl) (Nat.le_of_ble_eq_true rfl) rfl rfl hl.1 (Nat.le_of_ble_eq_true rfl) dL_law_538 (fun H locs hW => ?_)
  have hW := z_swap hW
  refine lv_aload_n hx hb dL_law_541 rfl (lv_at hl 2 rfl) ?_
  refine lv_aload_n hx hb dL_law_542 rfl (lv_at hl 0 rfl) ?_
  refine lv_iload_n hx hb dL_law_543 rfl (lv_at hl 3 rfl) ?_
  refine lv_iconst (v := 1) hx hb dL_law_544 (by decide) ?_
  refine lv_iadd hx hb dL_law_545 ?_
  refine va_sld hx hb hX hbl hbA hW.2.2.1 (hi 1 (by decide)) dL_law_546 ?_
  refine zl_i (rest := [.int rc.1]) hC hW (c_X7_best (d := 6) (Nat.le_refl _) h2) vw_L_68 WM_0 rfl (Nat.le_of_ble_eq_true rfl) (Nat.le_of_ble_eq_true rfl) rfl rfl hl.1 (Nat.le_of_ble_eq_true rfl) dL_law_547 (fun H locs hW => ?_)
  have hW := z_swap hW
  refine lv_icmp_eq (tgt := 1298) hx hb dL_law_550 (by decide) (fun _ => ?_) (fun c => absurd h3 c)
  exact kk H locs ls (LW_mk hI' hW) hl
set_option maxHeartbeats 4000000 in
set_option maxRecDepth 100000 in
theorem law_all {p : Program} {l : Launch} {e : Env} {s : State} {m : MethodId} {below : List Frame} {meth : Method} {c : Code} {b L : Nat} {xs : Nat → Int32} {D : va_G} {q : Nat → ClassId} {ρ1 ρ2 : Nat → Nat} (hL : L ≤ 384) (hC : zC p s m #[Value.ref b] c cL_law RL D q 4 (fun x : Nat => s.heap.size ≤ x)) (hX : va_X b L xs s s.heap) (hbl : b < s.heap.size) {i : Int32} (hi : ∀ k : Int32, (0 ≤ k ∧ k ≤ 5) → vp_in (i + k) L) {H : Heap} {locs : List Loc} {ls : Array Slot} (hLW : LW D (fun x : Nat => s.heap.size ≤ x) s.heap q ρ1 ρ2 H locs) (hl : lv_has ls 4 [(0, .ref b), (1, .ref (ρ1 0)), (2, .ref (ρ2 0)), (3, .int i)])
    (kk : ∀ (H : Heap) (locs : List Loc) (ls : Array Slot), LW D (fun x : Nat => s.heap.size ≤ x) s.heap q ρ1 ρ2 H locs → lv_has ls 4 [(0, .ref b), (1, .ref (ρ1 0)), (2, .ref (ρ2 0)), (3, .int i)] → W p l e room_1 s m #[Value.ref b] below meth c H locs 600000 7302250 (lw_Z below #[Value.ref b] s) (F0 m 1298 ls [])) : W p l e room_1 s m #[Value.ref b] below meth c H locs 600000 7302250 (lw_Z below #[Value.ref b] s) (F0 m 555 ls []) := by
  refine LW_elim hLW (fun hI hW => ?_)
  have hx := hC.1
  have hb := hC.2.1
  have hbA : ¬ (fun x : Nat => s.heap.size ≤ x) b := Nat.not_le.mpr hbl
  refine lv_aload_n hx hb dL_law_555 rfl (lv_at hl 1 rfl) ?_
  refine lv_aload_n hx hb dL_law_556 rfl (lv_at hl 0 rfl) ?_
  refine lv_iload_n hx hb dL_law_557 rfl (lv_at hl 3 rfl) ?_
  refine lv_iconst (v := 1) hx hb dL_law_558 (by decide) ?_
  refine lv_iadd hx hb dL_law_559 ?_
  refine va_sld hx hb hX hbl hbA hW.2.2.1 (hi 1 (by decide)) dL_law_560 ?_
  obtain ⟨rc, rm, h1, h2, h3, hI'⟩ := pu_all hI (xs (Int32.toNatClampNeg (i + 1)))
  refine zl_i (rest := []) hC hW (c_X6_all (d := 84) (Nat.le_refl _) h1) vw_L_69 WC_0 rfl (Nat.le_of_ble_eq_true rfl) (Nat.le_of_ble_eq_true rfl) rfl rfl hl.1 (Nat.le_of_ble_eq_true rfl) dL_law_561 (fun H locs hW => ?_)
  have hW := z_swap hW
  refine lv_aload_n hx hb dL_law_564 rfl (lv_at hl 2 rfl) ?_
  refine lv_aload_n hx hb dL_law_565 rfl (lv_at hl 0 rfl) ?_
  refine lv_iload_n hx hb dL_law_566 rfl (lv_at hl 3 rfl) ?_
  refine lv_iconst (v := 1) hx hb dL_law_567 (by decide) ?_
  refine lv_iadd hx hb dL_law_568 ?_
  refine va_sld hx hb hX hbl hbA hW.2.2.1 (hi 1 (by decide)) dL_law_569 ?_
  refine zl_i (rest := [.int rc.1]) hC hW (c_X7_all (d := 5) (Nat.le_refl _) h2) vw_L_72 WM_0 rfl (Nat.le_of_ble_eq_true rfl) (Nat.le_of_ble_eq_true rfl) rfl rfl hl.1 (Nat.le_of_ble_eq_true rfl) dL_law_570 (fun H locs hW => ?_)
  have hW := z_swap hW
  refine lv_icmp_eq (tgt := 1298) hx hb dL_law_573 (by decide) (fun _ => ?_) (fun c => absurd h3 c)
  exact kk H locs ls (LW_mk hI' hW) hl
set_option maxHeartbeats 4000000 in
set_option maxRecDepth 100000 in
theorem law_even {p : Program} {l : Launch} {e : Env} {s : State} {m : MethodId} {below : List Frame} {meth : Method} {c : Code} {b L : Nat} {xs : Nat → Int32} {D : va_G} {q : Nat → ClassId} {ρ1 ρ2 : Nat → Nat} (hL : L ≤ 384) (hC : zC p s m #[Value.ref b] c cL_law RL D q 4 (fun x : Nat => s.heap.size ≤ x)) (hX : va_X b L xs s s.heap) (hbl : b < s.heap.size) {i : Int32} (hi : ∀ k : Int32, (0 ≤ k ∧ k ≤ 5) → vp_in (i + k) L) {H : Heap} {locs : List Loc} {ls : Array Slot} (hLW : LW D (fun x : Nat => s.heap.size ≤ x) s.heap q ρ1 ρ2 H locs) (hl : lv_has ls 4 [(0, .ref b), (1, .ref (ρ1 0)), (2, .ref (ρ2 0)), (3, .int i)])
    (kk : ∀ (H : Heap) (locs : List Loc) (ls : Array Slot), LW D (fun x : Nat => s.heap.size ≤ x) s.heap q ρ1 ρ2 H locs → lv_has ls 4 [(0, .ref b), (1, .ref (ρ1 0)), (2, .ref (ρ2 0)), (3, .int i)] → W p l e room_1 s m #[Value.ref b] below meth c H locs 600000 7302250 (lw_Z below #[Value.ref b] s) (F0 m 1298 ls [])) : W p l e room_1 s m #[Value.ref b] below meth c H locs 600000 7302250 (lw_Z below #[Value.ref b] s) (F0 m 578 ls []) := by
  refine LW_elim hLW (fun hI hW => ?_)
  have hx := hC.1
  have hb := hC.2.1
  have hbA : ¬ (fun x : Nat => s.heap.size ≤ x) b := Nat.not_le.mpr hbl
  refine lv_aload_n hx hb dL_law_578 rfl (lv_at hl 1 rfl) ?_
  obtain ⟨rc, rm, h1, h2, h3, hI'⟩ := pu_even hI
  refine zl_i (rest := []) hC hW (c_X6_even (d := 84) (Nat.le_refl _) h1) vw_L_73 WC_0 rfl (Nat.le_of_ble_eq_true rfl) (Nat.le_of_ble_eq_true rfl) rfl rfl hl.1 (Nat.le_of_ble_eq_true rfl) dL_law_579 (fun H locs hW => ?_)
  have hW := z_swap hW
  refine lv_aload_n hx hb dL_law_582 rfl (lv_at hl 2 rfl) ?_
  refine zl_i (rest := [.int rc.1]) hC hW (c_X7_even (d := 5) (Nat.le_refl _) h2) vw_L_76 WM_0 rfl (Nat.le_of_ble_eq_true rfl) (Nat.le_of_ble_eq_true rfl) rfl rfl hl.1 (Nat.le_of_ble_eq_true rfl) dL_law_583 (fun H locs hW => ?_)
  have hW := z_swap hW
  refine lv_icmp_eq (tgt := 1298) hx hb dL_law_586 (by decide) (fun _ => ?_) (fun c => absurd h3 c)
  exact kk H locs ls (LW_mk hI' hW) hl
set_option maxHeartbeats 4000000 in
set_option maxRecDepth 100000 in
theorem law_greedy {p : Program} {l : Launch} {e : Env} {s : State} {m : MethodId} {below : List Frame} {meth : Method} {c : Code} {b L : Nat} {xs : Nat → Int32} {D : va_G} {q : Nat → ClassId} {ρ1 ρ2 : Nat → Nat} (hL : L ≤ 384) (hC : zC p s m #[Value.ref b] c cL_law RL D q 4 (fun x : Nat => s.heap.size ≤ x)) (hX : va_X b L xs s s.heap) (hbl : b < s.heap.size) {i : Int32} (hi : ∀ k : Int32, (0 ≤ k ∧ k ≤ 5) → vp_in (i + k) L) {H : Heap} {locs : List Loc} {ls : Array Slot} (hLW : LW D (fun x : Nat => s.heap.size ≤ x) s.heap q ρ1 ρ2 H locs) (hl : lv_has ls 4 [(0, .ref b), (1, .ref (ρ1 0)), (2, .ref (ρ2 0)), (3, .int i)])
    (kk : ∀ (H : Heap) (locs : List Loc) (ls : Array Slot), LW D (fun x : Nat => s.heap.size ≤ x) s.heap q ρ1 ρ2 H locs → lv_has ls 4 [(0, .ref b), (1, .ref (ρ1 0)), (2, .ref (ρ2 0)), (3, .int i)] → W p l e room_1 s m #[Value.ref b] below meth c H locs 600000 7302250 (lw_Z below #[Value.ref b] s) (F0 m 1298 ls [])) : W p l e room_1 s m #[Value.ref b] below meth c H locs 600000 7302250 (lw_Z below #[Value.ref b] s) (F0 m 591 ls []) := by
  refine LW_elim hLW (fun hI hW => ?_)
  have hx := hC.1
  have hb := hC.2.1
  have hbA : ¬ (fun x : Nat => s.heap.size ≤ x) b := Nat.not_le.mpr hbl
  refine lv_aload_n hx hb dL_law_591 rfl (lv_at hl 1 rfl) ?_
  refine lv_aload_n hx hb dL_law_592 rfl (lv_at hl 0 rfl) ?_
  refine lv_iload_n hx hb dL_law_593 rfl (lv_at hl 3 rfl) ?_
  refine lv_iconst (v := 1) hx hb dL_law_594 (by decide) ?_
  refine lv_iadd hx hb dL_law_595 ?_
  refine va_sld hx hb hX hbl hbA hW.2.2.1 (hi 1 (by decide)) dL_law_596 ?_
  obtain ⟨rc, rm, h1, h2, h3, hI'⟩ := pu_greedy hI (xs (Int32.toNatClampNeg (i + 1)))
  refine zl_i (rest := []) hC hW (c_X6_greedy (d := 84) (Nat.le_refl _) h1) vw_L_77 WC_0 rfl (Nat.le_of_ble_eq_true rfl) (Nat.le_of_ble_eq_true rfl) rfl rfl hl.1 (Nat.le_of_ble_eq_true rfl) dL_law_597 (fun H locs hW => ?_)
  have hW := z_swap hW
  refine lv_aload_n hx hb dL_law_600 rfl (lv_at hl 2 rfl) ?_
  refine lv_aload_n hx hb dL_law_601 rfl (lv_at hl 0 rfl) ?_
  refine lv_iload_n hx hb dL_law_602 rfl (lv_at hl 3 rfl) ?_
  refine lv_iconst (v := 1) hx hb dL_law_603 (by decide) ?_
  refine lv_iadd hx hb dL_law_604 ?_
  refine va_sld hx hb hX hbl hbA hW.2.2.1 (hi 1 (by decide)) dL_law_605 ?_
  refine zl_i (rest := [.int rc.1]) hC hW (c_X7_greedy (d := 5) (Nat.le_refl _) h2) vw_L_80 WM_0 rfl (Nat.le_of_ble_eq_true rfl) (Nat.le_of_ble_eq_true rfl) rfl rfl hl.1 (Nat.le_of_ble_eq_true rfl) dL_law_606 (fun H locs hW => ?_)
  have hW := z_swap hW
  refine lv_icmp_eq (tgt := 1298) hx hb dL_law_609 (by decide) (fun _ => ?_) (fun c => absurd h3 c)
  exact kk H locs ls (LW_mk hI' hW) hl
set_option maxHeartbeats 4000000 in
set_option maxRecDepth 100000 in
theorem law_dry {p : Program} {l : Launch} {e : Env} {s : State} {m : MethodId} {below : List Frame} {meth : Method} {c : Code} {b L : Nat} {xs : Nat → Int32} {D : va_G} {q : Nat → ClassId} {ρ1 ρ2 : Nat → Nat} (hL : L ≤ 384) (hC : zC p s m #[Value.ref b] c cL_law RL D q 4 (fun x : Nat => s.heap.size ≤ x)) (hX : va_X b L xs s s.heap) (hbl : b < s.heap.size) {i : Int32} (hi : ∀ k : Int32, (0 ≤ k ∧ k ≤ 5) → vp_in (i + k) L) {H : Heap} {locs : List Loc} {ls : Array Slot} (hLW : LW D (fun x : Nat => s.heap.size ≤ x) s.heap q ρ1 ρ2 H locs) (hl : lv_has ls 4 [(0, .ref b), (1, .ref (ρ1 0)), (2, .ref (ρ2 0)), (3, .int i)])
    (kk : ∀ (H : Heap) (locs : List Loc) (ls : Array Slot), LW D (fun x : Nat => s.heap.size ≤ x) s.heap q ρ1 ρ2 H locs → lv_has ls 4 [(0, .ref b), (1, .ref (ρ1 0)), (2, .ref (ρ2 0)), (3, .int i)] → W p l e room_1 s m #[Value.ref b] below meth c H locs 600000 7302250 (lw_Z below #[Value.ref b] s) (F0 m 1298 ls [])) : W p l e room_1 s m #[Value.ref b] below meth c H locs 600000 7302250 (lw_Z below #[Value.ref b] s) (F0 m 614 ls []) := by
  refine LW_elim hLW (fun hI hW => ?_)
  have hx := hC.1
  have hb := hC.2.1
  have hbA : ¬ (fun x : Nat => s.heap.size ≤ x) b := Nat.not_le.mpr hbl
  refine lv_aload_n hx hb dL_law_614 rfl (lv_at hl 1 rfl) ?_
  refine lv_aload_n hx hb dL_law_615 rfl (lv_at hl 0 rfl) ?_
  refine lv_iload_n hx hb dL_law_616 rfl (lv_at hl 3 rfl) ?_
  refine lv_iconst (v := 1) hx hb dL_law_617 (by decide) ?_
  refine lv_iadd hx hb dL_law_618 ?_
  refine va_sld hx hb hX hbl hbA hW.2.2.1 (hi 1 (by decide)) dL_law_619 ?_
  refine lv_aload_n hx hb dL_law_620 rfl (lv_at hl 0 rfl) ?_
  refine lv_iload_n hx hb dL_law_621 rfl (lv_at hl 3 rfl) ?_
  refine lv_iconst (v := 2) hx hb dL_law_622 (by decide) ?_
  refine lv_iadd hx hb dL_law_623 ?_
  refine va_sld hx hb hX hbl hbA hW.2.2.1 (hi 2 (by decide)) dL_law_624 ?_
  refine lv_aload_n hx hb dL_law_625 rfl (lv_at hl 0 rfl) ?_
  refine lv_iload_n hx hb dL_law_626 rfl (lv_at hl 3 rfl) ?_
  refine lv_iconst (v := 3) hx hb dL_law_627 (by decide) ?_
  refine lv_iadd hx hb dL_law_628 ?_
  refine va_sld hx hb hX hbl hbA hW.2.2.1 (hi 3 (by decide)) dL_law_629 ?_
  obtain ⟨rc, rm, h1, h2, h3, hI'⟩ := pu_dry hI (xs (Int32.toNatClampNeg (i + 1))) (xs (Int32.toNatClampNeg (i + 2))) (xs (Int32.toNatClampNeg (i + 3)))
  refine zl_i (rest := []) hC hW (c_X6_dry (d := 84) (Nat.le_refl _) h1) vw_L_81 WC_0 rfl (Nat.le_of_ble_eq_true rfl) (Nat.le_of_ble_eq_true rfl) rfl rfl hl.1 (Nat.le_of_ble_eq_true rfl) dL_law_630 (fun H locs hW => ?_)
  have hW := z_swap hW
  refine lv_aload_n hx hb dL_law_633 rfl (lv_at hl 2 rfl) ?_
  refine lv_aload_n hx hb dL_law_634 rfl (lv_at hl 0 rfl) ?_
  refine lv_iload_n hx hb dL_law_635 rfl (lv_at hl 3 rfl) ?_
  refine lv_iconst (v := 1) hx hb dL_law_636 (by decide) ?_
  refine lv_iadd hx hb dL_law_637 ?_
  refine va_sld hx hb hX hbl hbA hW.2.2.1 (hi 1 (by decide)) dL_law_638 ?_
  refine lv_aload_n hx hb dL_law_639 rfl (lv_at hl 0 rfl) ?_
  refine lv_iload_n hx hb dL_law_640 rfl (lv_at hl 3 rfl) ?_
  refine lv_iconst (v := 2) hx hb dL_law_641 (by decide) ?_
  refine lv_iadd hx hb dL_law_642 ?_
  refine va_sld hx hb hX hbl hbA hW.2.2.1 (hi 2 (by decide)) dL_law_643 ?_
  refine lv_aload_n hx hb dL_law_644 rfl (lv_at hl 0 rfl) ?_
  refine lv_iload_n hx hb dL_law_645 rfl (lv_at hl 3 rfl) ?_
  refine lv_iconst (v := 3) hx hb dL_law_646 (by decide) ?_
  refine lv_iadd hx hb dL_law_647 ?_
  refine va_sld hx hb hX hbl hbA hW.2.2.1 (hi 3 (by decide)) dL_law_648 ?_
  refine zl_i (rest := [.int rc.1]) hC hW (c_X7_dry (d := 5) (Nat.le_refl _) h2) vw_L_84 WM_0 rfl (Nat.le_of_ble_eq_true rfl) (Nat.le_of_ble_eq_true rfl) rfl rfl hl.1 (Nat.le_of_ble_eq_true rfl) dL_law_649 (fun H locs hW => ?_)
  have hW := z_swap hW
  refine lv_icmp_eq (tgt := 1298) hx hb dL_law_652 (by decide) (fun _ => ?_) (fun c => absurd h3 c)
  exact kk H locs ls (LW_mk hI' hW) hl
set_option maxHeartbeats 4000000 in
set_option maxRecDepth 100000 in
theorem law_grow {p : Program} {l : Launch} {e : Env} {s : State} {m : MethodId} {below : List Frame} {meth : Method} {c : Code} {b L : Nat} {xs : Nat → Int32} {D : va_G} {q : Nat → ClassId} {ρ1 ρ2 : Nat → Nat} (hL : L ≤ 384) (hC : zC p s m #[Value.ref b] c cL_law RL D q 4 (fun x : Nat => s.heap.size ≤ x)) (hX : va_X b L xs s s.heap) (hbl : b < s.heap.size) {i : Int32} (hi : ∀ k : Int32, (0 ≤ k ∧ k ≤ 5) → vp_in (i + k) L) {H : Heap} {locs : List Loc} {ls : Array Slot} (hLW : LW D (fun x : Nat => s.heap.size ≤ x) s.heap q ρ1 ρ2 H locs) (hl : lv_has ls 4 [(0, .ref b), (1, .ref (ρ1 0)), (2, .ref (ρ2 0)), (3, .int i)])
    (kk : ∀ (H : Heap) (locs : List Loc) (ls : Array Slot), LW D (fun x : Nat => s.heap.size ≤ x) s.heap q ρ1 ρ2 H locs → lv_has ls 4 [(0, .ref b), (1, .ref (ρ1 0)), (2, .ref (ρ2 0)), (3, .int i)] → W p l e room_1 s m #[Value.ref b] below meth c H locs 600000 7302250 (lw_Z below #[Value.ref b] s) (F0 m 1298 ls [])) : W p l e room_1 s m #[Value.ref b] below meth c H locs 600000 7302250 (lw_Z below #[Value.ref b] s) (F0 m 657 ls []) := by
  refine LW_elim hLW (fun hI hW => ?_)
  have hx := hC.1
  have hb := hC.2.1
  have hbA : ¬ (fun x : Nat => s.heap.size ≤ x) b := Nat.not_le.mpr hbl
  refine lv_aload_n hx hb dL_law_657 rfl (lv_at hl 1 rfl) ?_
  obtain ⟨rc, rm, h1, h2, h3, hI'⟩ := pu_grow hI
  refine zl_i (rest := []) hC hW (c_X6_grow (d := 83) (Nat.le_refl _) h1) vw_L_85 WC_0 rfl (Nat.le_of_ble_eq_true rfl) (Nat.le_of_ble_eq_true rfl) rfl rfl hl.1 (Nat.le_of_ble_eq_true rfl) dL_law_658 (fun H locs hW => ?_)
  have hW := z_swap hW
  refine lv_aload_n hx hb dL_law_661 rfl (lv_at hl 2 rfl) ?_
  refine zl_i (rest := [.int rc.1]) hC hW (c_X7_grow (d := 5) (Nat.le_refl _) h2) vw_L_88 WM_0 rfl (Nat.le_of_ble_eq_true rfl) (Nat.le_of_ble_eq_true rfl) rfl rfl hl.1 (Nat.le_of_ble_eq_true rfl) dL_law_662 (fun H locs hW => ?_)
  have hW := z_swap hW
  refine lv_icmp_eq (tgt := 1298) hx hb dL_law_665 (by decide) (fun _ => ?_) (fun c => absurd h3 c)
  exact kk H locs ls (LW_mk hI' hW) hl
set_option maxHeartbeats 4000000 in
set_option maxRecDepth 100000 in
theorem law_breaks {p : Program} {l : Launch} {e : Env} {s : State} {m : MethodId} {below : List Frame} {meth : Method} {c : Code} {b L : Nat} {xs : Nat → Int32} {D : va_G} {q : Nat → ClassId} {ρ1 ρ2 : Nat → Nat} (hL : L ≤ 384) (hC : zC p s m #[Value.ref b] c cL_law RL D q 4 (fun x : Nat => s.heap.size ≤ x)) (hX : va_X b L xs s s.heap) (hbl : b < s.heap.size) {i : Int32} (hi : ∀ k : Int32, (0 ≤ k ∧ k ≤ 5) → vp_in (i + k) L) {H : Heap} {locs : List Loc} {ls : Array Slot} (hLW : LW D (fun x : Nat => s.heap.size ≤ x) s.heap q ρ1 ρ2 H locs) (hl : lv_has ls 4 [(0, .ref b), (1, .ref (ρ1 0)), (2, .ref (ρ2 0)), (3, .int i)])
    (kk : ∀ (H : Heap) (locs : List Loc) (ls : Array Slot), LW D (fun x : Nat => s.heap.size ≤ x) s.heap q ρ1 ρ2 H locs → lv_has ls 4 [(0, .ref b), (1, .ref (ρ1 0)), (2, .ref (ρ2 0)), (3, .int i)] → W p l e room_1 s m #[Value.ref b] below meth c H locs 600000 7302250 (lw_Z below #[Value.ref b] s) (F0 m 1298 ls [])) : W p l e room_1 s m #[Value.ref b] below meth c H locs 600000 7302250 (lw_Z below #[Value.ref b] s) (F0 m 670 ls []) := by
  refine LW_elim hLW (fun hI hW => ?_)
  have hx := hC.1
  have hb := hC.2.1
  have hbA : ¬ (fun x : Nat => s.heap.size ≤ x) b := Nat.not_le.mpr hbl
  refine lv_aload_n hx hb dL_law_670 rfl (lv_at hl 1 rfl) ?_
  refine lv_aload_n hx hb dL_law_671 rfl (lv_at hl 0 rfl) ?_
  refine lv_iload_n hx hb dL_law_672 rfl (lv_at hl 3 rfl) ?_
  refine lv_iconst (v := 1) hx hb dL_law_673 (by decide) ?_
  refine lv_iadd hx hb dL_law_674 ?_
  refine va_sld hx hb hX hbl hbA hW.2.2.1 (hi 1 (by decide)) dL_law_675 ?_
  obtain ⟨rc, rm, h1, h2, h3, hI'⟩ := pu_breaks hI (xs (Int32.toNatClampNeg (i + 1)))
  refine zl_i (rest := []) hC hW (c_X6_breaks (d := 83) (Nat.le_refl _) h1) vw_L_89 WC_0 rfl (Nat.le_of_ble_eq_true rfl) (Nat.le_of_ble_eq_true rfl) rfl rfl hl.1 (Nat.le_of_ble_eq_true rfl) dL_law_676 (fun H locs hW => ?_)
  have hW := z_swap hW
  refine lv_aload_n hx hb dL_law_679 rfl (lv_at hl 2 rfl) ?_
  refine lv_aload_n hx hb dL_law_680 rfl (lv_at hl 0 rfl) ?_
  refine lv_iload_n hx hb dL_law_681 rfl (lv_at hl 3 rfl) ?_
  refine lv_iconst (v := 1) hx hb dL_law_682 (by decide) ?_
  refine lv_iadd hx hb dL_law_683 ?_
  refine va_sld hx hb hX hbl hbA hW.2.2.1 (hi 1 (by decide)) dL_law_684 ?_
  refine zl_i (rest := [.int rc.1]) hC hW (c_X7_breaks (d := 6) (Nat.le_refl _) h2) vw_L_92 WM_0 rfl (Nat.le_of_ble_eq_true rfl) (Nat.le_of_ble_eq_true rfl) rfl rfl hl.1 (Nat.le_of_ble_eq_true rfl) dL_law_685 (fun H locs hW => ?_)
  have hW := z_swap hW
  refine lv_icmp_eq (tgt := 1298) hx hb dL_law_688 (by decide) (fun _ => ?_) (fun c => absurd h3 c)
  exact kk H locs ls (LW_mk hI' hW) hl
set_option maxHeartbeats 4000000 in
set_option maxRecDepth 100000 in
theorem law_goes {p : Program} {l : Launch} {e : Env} {s : State} {m : MethodId} {below : List Frame} {meth : Method} {c : Code} {b L : Nat} {xs : Nat → Int32} {D : va_G} {q : Nat → ClassId} {ρ1 ρ2 : Nat → Nat} (hL : L ≤ 384) (hC : zC p s m #[Value.ref b] c cL_law RL D q 4 (fun x : Nat => s.heap.size ≤ x)) (hX : va_X b L xs s s.heap) (hbl : b < s.heap.size) {i : Int32} (hi : ∀ k : Int32, (0 ≤ k ∧ k ≤ 5) → vp_in (i + k) L) {H : Heap} {locs : List Loc} {ls : Array Slot} (hLW : LW D (fun x : Nat => s.heap.size ≤ x) s.heap q ρ1 ρ2 H locs) (hl : lv_has ls 4 [(0, .ref b), (1, .ref (ρ1 0)), (2, .ref (ρ2 0)), (3, .int i)])
    (kk : ∀ (H : Heap) (locs : List Loc) (ls : Array Slot), LW D (fun x : Nat => s.heap.size ≤ x) s.heap q ρ1 ρ2 H locs → lv_has ls 4 [(0, .ref b), (1, .ref (ρ1 0)), (2, .ref (ρ2 0)), (3, .int i)] → W p l e room_1 s m #[Value.ref b] below meth c H locs 600000 7302250 (lw_Z below #[Value.ref b] s) (F0 m 1298 ls [])) : W p l e room_1 s m #[Value.ref b] below meth c H locs 600000 7302250 (lw_Z below #[Value.ref b] s) (F0 m 693 ls []) := by
  refine LW_elim hLW (fun hI hW => ?_)
  have hx := hC.1
  have hb := hC.2.1
  have hbA : ¬ (fun x : Nat => s.heap.size ≤ x) b := Nat.not_le.mpr hbl
  refine lv_aload_n hx hb dL_law_693 rfl (lv_at hl 1 rfl) ?_
  refine lv_aload_n hx hb dL_law_694 rfl (lv_at hl 0 rfl) ?_
  refine lv_iload_n hx hb dL_law_695 rfl (lv_at hl 3 rfl) ?_
  refine lv_iconst (v := 1) hx hb dL_law_696 (by decide) ?_
  refine lv_iadd hx hb dL_law_697 ?_
  refine va_sld hx hb hX hbl hbA hW.2.2.1 (hi 1 (by decide)) dL_law_698 ?_
  refine lv_aload_n hx hb dL_law_699 rfl (lv_at hl 0 rfl) ?_
  refine lv_iload_n hx hb dL_law_700 rfl (lv_at hl 3 rfl) ?_
  refine lv_iconst (v := 2) hx hb dL_law_701 (by decide) ?_
  refine lv_iadd hx hb dL_law_702 ?_
  refine va_sld hx hb hX hbl hbA hW.2.2.1 (hi 2 (by decide)) dL_law_703 ?_
  obtain ⟨rc, rm, h1, h2, h3, hI'⟩ := pu_goes hI (xs (Int32.toNatClampNeg (i + 1))) (xs (Int32.toNatClampNeg (i + 2)))
  refine zl_i (rest := []) hC hW (c_X6_goes (d := 84) (Nat.le_refl _) h1) vw_L_93 WC_0 rfl (Nat.le_of_ble_eq_true rfl) (Nat.le_of_ble_eq_true rfl) rfl rfl hl.1 (Nat.le_of_ble_eq_true rfl) dL_law_704 (fun H locs hW => ?_)
  have hW := z_swap hW
  refine lv_aload_n hx hb dL_law_707 rfl (lv_at hl 2 rfl) ?_
  refine lv_aload_n hx hb dL_law_708 rfl (lv_at hl 0 rfl) ?_
  refine lv_iload_n hx hb dL_law_709 rfl (lv_at hl 3 rfl) ?_
  refine lv_iconst (v := 1) hx hb dL_law_710 (by decide) ?_
  refine lv_iadd hx hb dL_law_711 ?_
  refine va_sld hx hb hX hbl hbA hW.2.2.1 (hi 1 (by decide)) dL_law_712 ?_
  refine lv_aload_n hx hb dL_law_713 rfl (lv_at hl 0 rfl) ?_
  refine lv_iload_n hx hb dL_law_714 rfl (lv_at hl 3 rfl) ?_
  refine lv_iconst (v := 2) hx hb dL_law_715 (by decide) ?_
  refine lv_iadd hx hb dL_law_716 ?_
  refine va_sld hx hb hX hbl hbA hW.2.2.1 (hi 2 (by decide)) dL_law_717 ?_
  refine zl_i (rest := [.int rc.1]) hC hW (c_X7_goes (d := 2) (Nat.le_refl _) h2) vw_L_96 WM_0 rfl (Nat.le_of_ble_eq_true rfl) (Nat.le_of_ble_eq_true rfl) rfl rfl hl.1 (Nat.le_of_ble_eq_true rfl) dL_law_718 (fun H locs hW => ?_)
  have hW := z_swap hW
  refine lv_icmp_eq (tgt := 1298) hx hb dL_law_721 (by decide) (fun _ => ?_) (fun c => absurd h3 c)
  exact kk H locs ls (LW_mk hI' hW) hl
set_option maxHeartbeats 4000000 in
set_option maxRecDepth 100000 in
theorem law_worth {p : Program} {l : Launch} {e : Env} {s : State} {m : MethodId} {below : List Frame} {meth : Method} {c : Code} {b L : Nat} {xs : Nat → Int32} {D : va_G} {q : Nat → ClassId} {ρ1 ρ2 : Nat → Nat} (hL : L ≤ 384) (hC : zC p s m #[Value.ref b] c cL_law RL D q 4 (fun x : Nat => s.heap.size ≤ x)) (hX : va_X b L xs s s.heap) (hbl : b < s.heap.size) {i : Int32} (hi : ∀ k : Int32, (0 ≤ k ∧ k ≤ 5) → vp_in (i + k) L) {H : Heap} {locs : List Loc} {ls : Array Slot} (hLW : LW D (fun x : Nat => s.heap.size ≤ x) s.heap q ρ1 ρ2 H locs) (hl : lv_has ls 4 [(0, .ref b), (1, .ref (ρ1 0)), (2, .ref (ρ2 0)), (3, .int i)])
    (kk : ∀ (H : Heap) (locs : List Loc) (ls : Array Slot), LW D (fun x : Nat => s.heap.size ≤ x) s.heap q ρ1 ρ2 H locs → lv_has ls 4 [(0, .ref b), (1, .ref (ρ1 0)), (2, .ref (ρ2 0)), (3, .int i)] → W p l e room_1 s m #[Value.ref b] below meth c H locs 600000 7302250 (lw_Z below #[Value.ref b] s) (F0 m 1298 ls [])) : W p l e room_1 s m #[Value.ref b] below meth c H locs 600000 7302250 (lw_Z below #[Value.ref b] s) (F0 m 726 ls []) := by
  refine LW_elim hLW (fun hI hW => ?_)
  have hx := hC.1
  have hb := hC.2.1
  have hbA : ¬ (fun x : Nat => s.heap.size ≤ x) b := Nat.not_le.mpr hbl
  refine lv_aload_n hx hb dL_law_726 rfl (lv_at hl 1 rfl) ?_
  refine lv_aload_n hx hb dL_law_727 rfl (lv_at hl 0 rfl) ?_
  refine lv_iload_n hx hb dL_law_728 rfl (lv_at hl 3 rfl) ?_
  refine lv_iconst (v := 1) hx hb dL_law_729 (by decide) ?_
  refine lv_iadd hx hb dL_law_730 ?_
  refine va_sld hx hb hX hbl hbA hW.2.2.1 (hi 1 (by decide)) dL_law_731 ?_
  refine lv_aload_n hx hb dL_law_732 rfl (lv_at hl 0 rfl) ?_
  refine lv_iload_n hx hb dL_law_733 rfl (lv_at hl 3 rfl) ?_
  refine lv_iconst (v := 2) hx hb dL_law_734 (by decide) ?_
  refine lv_iadd hx hb dL_law_735 ?_
  refine va_sld hx hb hX hbl hbA hW.2.2.1 (hi 2 (by decide)) dL_law_736 ?_
  obtain ⟨rc, rm, h1, h2, h3, hI'⟩ := pu_worth hI (xs (Int32.toNatClampNeg (i + 1))) (xs (Int32.toNatClampNeg (i + 2)))
  refine zl_i (rest := []) hC hW (c_X6_worth (d := 84) (Nat.le_refl _) h1) vw_L_97 WC_0 rfl (Nat.le_of_ble_eq_true rfl) (Nat.le_of_ble_eq_true rfl) rfl rfl hl.1 (Nat.le_of_ble_eq_true rfl) dL_law_737 (fun H locs hW => ?_)
  have hW := z_swap hW
  refine lv_aload_n hx hb dL_law_740 rfl (lv_at hl 2 rfl) ?_
  refine lv_aload_n hx hb dL_law_741 rfl (lv_at hl 0 rfl) ?_
  refine lv_iload_n hx hb dL_law_742 rfl (lv_at hl 3 rfl) ?_
  refine lv_iconst (v := 1) hx hb dL_law_743 (by decide) ?_
  refine lv_iadd hx hb dL_law_744 ?_
  refine va_sld hx hb hX hbl hbA hW.2.2.1 (hi 1 (by decide)) dL_law_745 ?_
  refine lv_aload_n hx hb dL_law_746 rfl (lv_at hl 0 rfl) ?_
  refine lv_iload_n hx hb dL_law_747 rfl (lv_at hl 3 rfl) ?_
  refine lv_iconst (v := 2) hx hb dL_law_748 (by decide) ?_
  refine lv_iadd hx hb dL_law_749 ?_
  refine va_sld hx hb hX hbl hbA hW.2.2.1 (hi 2 (by decide)) dL_law_750 ?_
  refine zl_i (rest := [.int rc.1]) hC hW (c_X7_worth (d := 2) (Nat.le_refl _) h2) vw_L_100 WM_0 rfl (Nat.le_of_ble_eq_true rfl) (Nat.le_of_ble_eq_true rfl) rfl rfl hl.1 (Nat.le_of_ble_eq_true rfl) dL_law_751 (fun H locs hW => ?_)
  have hW := z_swap hW
  refine lv_icmp_eq (tgt := 1298) hx hb dL_law_754 (by decide) (fun _ => ?_) (fun c => absurd h3 c)
  exact kk H locs ls (LW_mk hI' hW) hl
set_option maxHeartbeats 4000000 in
set_option maxRecDepth 100000 in
theorem law_steps {p : Program} {l : Launch} {e : Env} {s : State} {m : MethodId} {below : List Frame} {meth : Method} {c : Code} {b L : Nat} {xs : Nat → Int32} {D : va_G} {q : Nat → ClassId} {ρ1 ρ2 : Nat → Nat} (hL : L ≤ 384) (hC : zC p s m #[Value.ref b] c cL_law RL D q 4 (fun x : Nat => s.heap.size ≤ x)) (hX : va_X b L xs s s.heap) (hbl : b < s.heap.size) {i : Int32} (hi : ∀ k : Int32, (0 ≤ k ∧ k ≤ 5) → vp_in (i + k) L) {H : Heap} {locs : List Loc} {ls : Array Slot} (hLW : LW D (fun x : Nat => s.heap.size ≤ x) s.heap q ρ1 ρ2 H locs) (hl : lv_has ls 4 [(0, .ref b), (1, .ref (ρ1 0)), (2, .ref (ρ2 0)), (3, .int i)])
    (kk : ∀ (H : Heap) (locs : List Loc) (ls : Array Slot), LW D (fun x : Nat => s.heap.size ≤ x) s.heap q ρ1 ρ2 H locs → lv_has ls 4 [(0, .ref b), (1, .ref (ρ1 0)), (2, .ref (ρ2 0)), (3, .int i)] → W p l e room_1 s m #[Value.ref b] below meth c H locs 600000 7302250 (lw_Z below #[Value.ref b] s) (F0 m 1298 ls [])) : W p l e room_1 s m #[Value.ref b] below meth c H locs 600000 7302250 (lw_Z below #[Value.ref b] s) (F0 m 759 ls []) := by
  refine LW_elim hLW (fun hI hW => ?_)
  have hx := hC.1
  have hb := hC.2.1
  have hbA : ¬ (fun x : Nat => s.heap.size ≤ x) b := Nat.not_le.mpr hbl
  refine lv_aload_n hx hb dL_law_759 rfl (lv_at hl 1 rfl) ?_
  refine lv_aload_n hx hb dL_law_760 rfl (lv_at hl 0 rfl) ?_
  refine lv_iload_n hx hb dL_law_761 rfl (lv_at hl 3 rfl) ?_
  refine lv_iconst (v := 1) hx hb dL_law_762 (by decide) ?_
  refine lv_iadd hx hb dL_law_763 ?_
  refine va_sld hx hb hX hbl hbA hW.2.2.1 (hi 1 (by decide)) dL_law_764 ?_
  refine lv_aload_n hx hb dL_law_765 rfl (lv_at hl 0 rfl) ?_
  refine lv_iload_n hx hb dL_law_766 rfl (lv_at hl 3 rfl) ?_
  refine lv_iconst (v := 2) hx hb dL_law_767 (by decide) ?_
  refine lv_iadd hx hb dL_law_768 ?_
  refine va_sld hx hb hX hbl hbA hW.2.2.1 (hi 2 (by decide)) dL_law_769 ?_
  obtain ⟨rc, rm, h1, h2, h3, hI'⟩ := pu_steps hI (xs (Int32.toNatClampNeg (i + 1))) (xs (Int32.toNatClampNeg (i + 2)))
  refine zl_i (rest := []) hC hW (c_X6_steps (d := 84) (Nat.le_refl _) h1) vw_L_101 WC_0 rfl (Nat.le_of_ble_eq_true rfl) (Nat.le_of_ble_eq_true rfl) rfl rfl hl.1 (Nat.le_of_ble_eq_true rfl) dL_law_770 (fun H locs hW => ?_)
  have hW := z_swap hW
  refine lv_aload_n hx hb dL_law_773 rfl (lv_at hl 2 rfl) ?_
  refine lv_aload_n hx hb dL_law_774 rfl (lv_at hl 0 rfl) ?_
  refine lv_iload_n hx hb dL_law_775 rfl (lv_at hl 3 rfl) ?_
  refine lv_iconst (v := 1) hx hb dL_law_776 (by decide) ?_
  refine lv_iadd hx hb dL_law_777 ?_
  refine va_sld hx hb hX hbl hbA hW.2.2.1 (hi 1 (by decide)) dL_law_778 ?_
  refine lv_aload_n hx hb dL_law_779 rfl (lv_at hl 0 rfl) ?_
  refine lv_iload_n hx hb dL_law_780 rfl (lv_at hl 3 rfl) ?_
  refine lv_iconst (v := 2) hx hb dL_law_781 (by decide) ?_
  refine lv_iadd hx hb dL_law_782 ?_
  refine va_sld hx hb hX hbl hbA hW.2.2.1 (hi 2 (by decide)) dL_law_783 ?_
  refine zl_i (rest := [.int rc.1]) hC hW (c_X7_steps (d := 1) (Nat.le_refl _) h2) vw_L_104 WM_0 rfl (Nat.le_of_ble_eq_true rfl) (Nat.le_of_ble_eq_true rfl) rfl rfl hl.1 (Nat.le_of_ble_eq_true rfl) dL_law_784 (fun H locs hW => ?_)
  have hW := z_swap hW
  refine lv_icmp_eq (tgt := 1298) hx hb dL_law_787 (by decide) (fun _ => ?_) (fun c => absurd h3 c)
  exact kk H locs ls (LW_mk hI' hW) hl
set_option maxHeartbeats 4000000 in
set_option maxRecDepth 100000 in
theorem law_missed {p : Program} {l : Launch} {e : Env} {s : State} {m : MethodId} {below : List Frame} {meth : Method} {c : Code} {b L : Nat} {xs : Nat → Int32} {D : va_G} {q : Nat → ClassId} {ρ1 ρ2 : Nat → Nat} (hL : L ≤ 384) (hC : zC p s m #[Value.ref b] c cL_law RL D q 4 (fun x : Nat => s.heap.size ≤ x)) (hX : va_X b L xs s s.heap) (hbl : b < s.heap.size) {i : Int32} (hi : ∀ k : Int32, (0 ≤ k ∧ k ≤ 5) → vp_in (i + k) L) {H : Heap} {locs : List Loc} {ls : Array Slot} (hLW : LW D (fun x : Nat => s.heap.size ≤ x) s.heap q ρ1 ρ2 H locs) (hl : lv_has ls 4 [(0, .ref b), (1, .ref (ρ1 0)), (2, .ref (ρ2 0)), (3, .int i)])
    (kk : ∀ (H : Heap) (locs : List Loc) (ls : Array Slot), LW D (fun x : Nat => s.heap.size ≤ x) s.heap q ρ1 ρ2 H locs → lv_has ls 4 [(0, .ref b), (1, .ref (ρ1 0)), (2, .ref (ρ2 0)), (3, .int i)] → W p l e room_1 s m #[Value.ref b] below meth c H locs 600000 7302250 (lw_Z below #[Value.ref b] s) (F0 m 1298 ls [])) : W p l e room_1 s m #[Value.ref b] below meth c H locs 600000 7302250 (lw_Z below #[Value.ref b] s) (F0 m 792 ls []) := by
  refine LW_elim hLW (fun hI hW => ?_)
  have hx := hC.1
  have hb := hC.2.1
  have hbA : ¬ (fun x : Nat => s.heap.size ≤ x) b := Nat.not_le.mpr hbl
  refine lv_aload_n hx hb dL_law_792 rfl (lv_at hl 1 rfl) ?_
  refine lv_aload_n hx hb dL_law_793 rfl (lv_at hl 0 rfl) ?_
  refine lv_iload_n hx hb dL_law_794 rfl (lv_at hl 3 rfl) ?_
  refine lv_iconst (v := 1) hx hb dL_law_795 (by decide) ?_
  refine lv_iadd hx hb dL_law_796 ?_
  refine va_sld hx hb hX hbl hbA hW.2.2.1 (hi 1 (by decide)) dL_law_797 ?_
  obtain ⟨rc, rm, h1, h2, h3, hI'⟩ := pu_missed hI (xs (Int32.toNatClampNeg (i + 1)))
  refine zl_i (rest := []) hC hW (c_X6_missed (d := 84) (Nat.le_refl _) h1) vw_L_105 WC_0 rfl (Nat.le_of_ble_eq_true rfl) (Nat.le_of_ble_eq_true rfl) rfl rfl hl.1 (Nat.le_of_ble_eq_true rfl) dL_law_798 (fun H locs hW => ?_)
  have hW := z_swap hW
  refine lv_aload_n hx hb dL_law_801 rfl (lv_at hl 2 rfl) ?_
  refine lv_aload_n hx hb dL_law_802 rfl (lv_at hl 0 rfl) ?_
  refine lv_iload_n hx hb dL_law_803 rfl (lv_at hl 3 rfl) ?_
  refine lv_iconst (v := 1) hx hb dL_law_804 (by decide) ?_
  refine lv_iadd hx hb dL_law_805 ?_
  refine va_sld hx hb hX hbl hbA hW.2.2.1 (hi 1 (by decide)) dL_law_806 ?_
  refine zl_i (rest := [.int rc.1]) hC hW (c_X7_missed (d := 5) (Nat.le_refl _) h2) vw_L_108 WM_0 rfl (Nat.le_of_ble_eq_true rfl) (Nat.le_of_ble_eq_true rfl) rfl rfl hl.1 (Nat.le_of_ble_eq_true rfl) dL_law_807 (fun H locs hW => ?_)
  have hW := z_swap hW
  refine lv_icmp_eq (tgt := 1298) hx hb dL_law_810 (by decide) (fun _ => ?_) (fun c => absurd h3 c)
  exact kk H locs ls (LW_mk hI' hW) hl
set_option maxHeartbeats 4000000 in
set_option maxRecDepth 100000 in
theorem law_stood {p : Program} {l : Launch} {e : Env} {s : State} {m : MethodId} {below : List Frame} {meth : Method} {c : Code} {b L : Nat} {xs : Nat → Int32} {D : va_G} {q : Nat → ClassId} {ρ1 ρ2 : Nat → Nat} (hL : L ≤ 384) (hC : zC p s m #[Value.ref b] c cL_law RL D q 4 (fun x : Nat => s.heap.size ≤ x)) (hX : va_X b L xs s s.heap) (hbl : b < s.heap.size) {i : Int32} (hi : ∀ k : Int32, (0 ≤ k ∧ k ≤ 5) → vp_in (i + k) L) {H : Heap} {locs : List Loc} {ls : Array Slot} (hLW : LW D (fun x : Nat => s.heap.size ≤ x) s.heap q ρ1 ρ2 H locs) (hl : lv_has ls 4 [(0, .ref b), (1, .ref (ρ1 0)), (2, .ref (ρ2 0)), (3, .int i)])
    (kk : ∀ (H : Heap) (locs : List Loc) (ls : Array Slot), LW D (fun x : Nat => s.heap.size ≤ x) s.heap q ρ1 ρ2 H locs → lv_has ls 4 [(0, .ref b), (1, .ref (ρ1 0)), (2, .ref (ρ2 0)), (3, .int i)] → W p l e room_1 s m #[Value.ref b] below meth c H locs 600000 7302250 (lw_Z below #[Value.ref b] s) (F0 m 1298 ls [])) : W p l e room_1 s m #[Value.ref b] below meth c H locs 600000 7302250 (lw_Z below #[Value.ref b] s) (F0 m 815 ls []) := by
  refine LW_elim hLW (fun hI hW => ?_)
  have hx := hC.1
  have hb := hC.2.1
  have hbA : ¬ (fun x : Nat => s.heap.size ≤ x) b := Nat.not_le.mpr hbl
  refine lv_aload_n hx hb dL_law_815 rfl (lv_at hl 1 rfl) ?_
  refine lv_aload_n hx hb dL_law_816 rfl (lv_at hl 0 rfl) ?_
  refine lv_iload_n hx hb dL_law_817 rfl (lv_at hl 3 rfl) ?_
  refine lv_iconst (v := 1) hx hb dL_law_818 (by decide) ?_
  refine lv_iadd hx hb dL_law_819 ?_
  refine va_sld hx hb hX hbl hbA hW.2.2.1 (hi 1 (by decide)) dL_law_820 ?_
  refine lv_aload_n hx hb dL_law_821 rfl (lv_at hl 0 rfl) ?_
  refine lv_iload_n hx hb dL_law_822 rfl (lv_at hl 3 rfl) ?_
  refine lv_iconst (v := 2) hx hb dL_law_823 (by decide) ?_
  refine lv_iadd hx hb dL_law_824 ?_
  refine va_sld hx hb hX hbl hbA hW.2.2.1 (hi 2 (by decide)) dL_law_825 ?_
  obtain ⟨rc, rm, h1, h2, h3, hI'⟩ := pu_stood hI (xs (Int32.toNatClampNeg (i + 1))) (xs (Int32.toNatClampNeg (i + 2)))
  refine zl_i (rest := []) hC hW (c_X6_stood (d := 84) (Nat.le_refl _) h1) vw_L_109 WC_0 rfl (Nat.le_of_ble_eq_true rfl) (Nat.le_of_ble_eq_true rfl) rfl rfl hl.1 (Nat.le_of_ble_eq_true rfl) dL_law_826 (fun H locs hW => ?_)
  have hW := z_swap hW
  refine lv_aload_n hx hb dL_law_829 rfl (lv_at hl 2 rfl) ?_
  refine lv_aload_n hx hb dL_law_830 rfl (lv_at hl 0 rfl) ?_
  refine lv_iload_n hx hb dL_law_831 rfl (lv_at hl 3 rfl) ?_
  refine lv_iconst (v := 1) hx hb dL_law_832 (by decide) ?_
  refine lv_iadd hx hb dL_law_833 ?_
  refine va_sld hx hb hX hbl hbA hW.2.2.1 (hi 1 (by decide)) dL_law_834 ?_
  refine lv_aload_n hx hb dL_law_835 rfl (lv_at hl 0 rfl) ?_
  refine lv_iload_n hx hb dL_law_836 rfl (lv_at hl 3 rfl) ?_
  refine lv_iconst (v := 2) hx hb dL_law_837 (by decide) ?_
  refine lv_iadd hx hb dL_law_838 ?_
  refine va_sld hx hb hX hbl hbA hW.2.2.1 (hi 2 (by decide)) dL_law_839 ?_
  refine zl_i (rest := [.int rc.1]) hC hW (c_X7_stood (d := 2) (Nat.le_refl _) h2) vw_L_112 WM_0 rfl (Nat.le_of_ble_eq_true rfl) (Nat.le_of_ble_eq_true rfl) rfl rfl hl.1 (Nat.le_of_ble_eq_true rfl) dL_law_840 (fun H locs hW => ?_)
  have hW := z_swap hW
  refine lv_icmp_eq (tgt := 1298) hx hb dL_law_843 (by decide) (fun _ => ?_) (fun c => absurd h3 c)
  exact kk H locs ls (LW_mk hI' hW) hl
set_option maxHeartbeats 4000000 in
set_option maxRecDepth 100000 in
theorem law_turn {p : Program} {l : Launch} {e : Env} {s : State} {m : MethodId} {below : List Frame} {meth : Method} {c : Code} {b L : Nat} {xs : Nat → Int32} {D : va_G} {q : Nat → ClassId} {ρ1 ρ2 : Nat → Nat} (hL : L ≤ 384) (hC : zC p s m #[Value.ref b] c cL_law RL D q 4 (fun x : Nat => s.heap.size ≤ x)) (hX : va_X b L xs s s.heap) (hbl : b < s.heap.size) {i : Int32} (hi : ∀ k : Int32, (0 ≤ k ∧ k ≤ 5) → vp_in (i + k) L) {H : Heap} {locs : List Loc} {ls : Array Slot} (hLW : LW D (fun x : Nat => s.heap.size ≤ x) s.heap q ρ1 ρ2 H locs) (hl : lv_has ls 4 [(0, .ref b), (1, .ref (ρ1 0)), (2, .ref (ρ2 0)), (3, .int i)])
    (kk : ∀ (H : Heap) (locs : List Loc) (ls : Array Slot), LW D (fun x : Nat => s.heap.size ≤ x) s.heap q ρ1 ρ2 H locs → lv_has ls 4 [(0, .ref b), (1, .ref (ρ1 0)), (2, .ref (ρ2 0)), (3, .int i)] → W p l e room_1 s m #[Value.ref b] below meth c H locs 600000 7302250 (lw_Z below #[Value.ref b] s) (F0 m 1298 ls [])) : W p l e room_1 s m #[Value.ref b] below meth c H locs 600000 7302250 (lw_Z below #[Value.ref b] s) (F0 m 848 ls []) := by
  refine LW_elim hLW (fun hI hW => ?_)
  have hx := hC.1
  have hb := hC.2.1
  have hbA : ¬ (fun x : Nat => s.heap.size ≤ x) b := Nat.not_le.mpr hbl
  refine lv_aload_n hx hb dL_law_848 rfl (lv_at hl 1 rfl) ?_
  refine lv_aload_n hx hb dL_law_849 rfl (lv_at hl 0 rfl) ?_
  refine lv_iload_n hx hb dL_law_850 rfl (lv_at hl 3 rfl) ?_
  refine lv_iconst (v := 1) hx hb dL_law_851 (by decide) ?_
  refine lv_iadd hx hb dL_law_852 ?_
  refine va_sld hx hb hX hbl hbA hW.2.2.1 (hi 1 (by decide)) dL_law_853 ?_
  refine lv_aload_n hx hb dL_law_854 rfl (lv_at hl 0 rfl) ?_
  refine lv_iload_n hx hb dL_law_855 rfl (lv_at hl 3 rfl) ?_
  refine lv_iconst (v := 2) hx hb dL_law_856 (by decide) ?_
  refine lv_iadd hx hb dL_law_857 ?_
  refine va_sld hx hb hX hbl hbA hW.2.2.1 (hi 2 (by decide)) dL_law_858 ?_
  obtain ⟨rc, rm, h1, h2, h3, hI'⟩ := pu_turn hI (xs (Int32.toNatClampNeg (i + 1))) (xs (Int32.toNatClampNeg (i + 2)))
  refine zl_i (rest := []) hC hW (c_X6_turn (d := 84) (Nat.le_refl _) h1) vw_L_113 WC_0 rfl (Nat.le_of_ble_eq_true rfl) (Nat.le_of_ble_eq_true rfl) rfl rfl hl.1 (Nat.le_of_ble_eq_true rfl) dL_law_859 (fun H locs hW => ?_)
  have hW := z_swap hW
  refine lv_aload_n hx hb dL_law_862 rfl (lv_at hl 2 rfl) ?_
  refine lv_aload_n hx hb dL_law_863 rfl (lv_at hl 0 rfl) ?_
  refine lv_iload_n hx hb dL_law_864 rfl (lv_at hl 3 rfl) ?_
  refine lv_iconst (v := 1) hx hb dL_law_865 (by decide) ?_
  refine lv_iadd hx hb dL_law_866 ?_
  refine va_sld hx hb hX hbl hbA hW.2.2.1 (hi 1 (by decide)) dL_law_867 ?_
  refine lv_aload_n hx hb dL_law_868 rfl (lv_at hl 0 rfl) ?_
  refine lv_iload_n hx hb dL_law_869 rfl (lv_at hl 3 rfl) ?_
  refine lv_iconst (v := 2) hx hb dL_law_870 (by decide) ?_
  refine lv_iadd hx hb dL_law_871 ?_
  refine va_sld hx hb hX hbl hbA hW.2.2.1 (hi 2 (by decide)) dL_law_872 ?_
  refine zl_i (rest := [.int rc.1]) hC hW (c_X7_turn (d := 5) (Nat.le_refl _) h2) vw_L_116 WM_0 rfl (Nat.le_of_ble_eq_true rfl) (Nat.le_of_ble_eq_true rfl) rfl rfl hl.1 (Nat.le_of_ble_eq_true rfl) dL_law_873 (fun H locs hW => ?_)
  have hW := z_swap hW
  refine lv_icmp_eq (tgt := 1298) hx hb dL_law_876 (by decide) (fun _ => ?_) (fun c => absurd h3 c)
  exact kk H locs ls (LW_mk hI' hW) hl
set_option maxHeartbeats 4000000 in
set_option maxRecDepth 100000 in
theorem law_undo {p : Program} {l : Launch} {e : Env} {s : State} {m : MethodId} {below : List Frame} {meth : Method} {c : Code} {b L : Nat} {xs : Nat → Int32} {D : va_G} {q : Nat → ClassId} {ρ1 ρ2 : Nat → Nat} (hL : L ≤ 384) (hC : zC p s m #[Value.ref b] c cL_law RL D q 4 (fun x : Nat => s.heap.size ≤ x)) (hX : va_X b L xs s s.heap) (hbl : b < s.heap.size) {i : Int32} (hi : ∀ k : Int32, (0 ≤ k ∧ k ≤ 5) → vp_in (i + k) L) {H : Heap} {locs : List Loc} {ls : Array Slot} (hLW : LW D (fun x : Nat => s.heap.size ≤ x) s.heap q ρ1 ρ2 H locs) (hl : lv_has ls 4 [(0, .ref b), (1, .ref (ρ1 0)), (2, .ref (ρ2 0)), (3, .int i)])
    (kk : ∀ (H : Heap) (locs : List Loc) (ls : Array Slot), LW D (fun x : Nat => s.heap.size ≤ x) s.heap q ρ1 ρ2 H locs → lv_has ls 4 [(0, .ref b), (1, .ref (ρ1 0)), (2, .ref (ρ2 0)), (3, .int i)] → W p l e room_1 s m #[Value.ref b] below meth c H locs 600000 7302250 (lw_Z below #[Value.ref b] s) (F0 m 1298 ls [])) : W p l e room_1 s m #[Value.ref b] below meth c H locs 600000 7302250 (lw_Z below #[Value.ref b] s) (F0 m 881 ls []) := by
  refine LW_elim hLW (fun hI hW => ?_)
  have hx := hC.1
  have hb := hC.2.1
  have hbA : ¬ (fun x : Nat => s.heap.size ≤ x) b := Nat.not_le.mpr hbl
  refine lv_aload_n hx hb dL_law_881 rfl (lv_at hl 1 rfl) ?_
  obtain ⟨rc, rm, h1, h2, h3, hI'⟩ := pu_undo hI
  refine zl_i (rest := []) hC hW (c_X6_undo (d := 2) (Nat.le_refl _) h1) vw_L_117 WC_0 rfl (Nat.le_of_ble_eq_true rfl) (Nat.le_of_ble_eq_true rfl) rfl rfl hl.1 (Nat.le_of_ble_eq_true rfl) dL_law_882 (fun H locs hW => ?_)
  have hW := z_swap hW
  refine lv_aload_n hx hb dL_law_885 rfl (lv_at hl 2 rfl) ?_
  refine zl_i (rest := [.int rc.1]) hC hW (c_X7_undo (d := 1) (Nat.le_refl _) h2) vw_L_120 WM_0 rfl (Nat.le_of_ble_eq_true rfl) (Nat.le_of_ble_eq_true rfl) rfl rfl hl.1 (Nat.le_of_ble_eq_true rfl) dL_law_886 (fun H locs hW => ?_)
  have hW := z_swap hW
  refine lv_icmp_eq (tgt := 1298) hx hb dL_law_889 (by decide) (fun _ => ?_) (fun c => absurd h3 c)
  exact kk H locs ls (LW_mk hI' hW) hl
set_option maxHeartbeats 4000000 in
set_option maxRecDepth 100000 in
theorem law_redo {p : Program} {l : Launch} {e : Env} {s : State} {m : MethodId} {below : List Frame} {meth : Method} {c : Code} {b L : Nat} {xs : Nat → Int32} {D : va_G} {q : Nat → ClassId} {ρ1 ρ2 : Nat → Nat} (hL : L ≤ 384) (hC : zC p s m #[Value.ref b] c cL_law RL D q 4 (fun x : Nat => s.heap.size ≤ x)) (hX : va_X b L xs s s.heap) (hbl : b < s.heap.size) {i : Int32} (hi : ∀ k : Int32, (0 ≤ k ∧ k ≤ 5) → vp_in (i + k) L) {H : Heap} {locs : List Loc} {ls : Array Slot} (hLW : LW D (fun x : Nat => s.heap.size ≤ x) s.heap q ρ1 ρ2 H locs) (hl : lv_has ls 4 [(0, .ref b), (1, .ref (ρ1 0)), (2, .ref (ρ2 0)), (3, .int i)])
    (kk : ∀ (H : Heap) (locs : List Loc) (ls : Array Slot), LW D (fun x : Nat => s.heap.size ≤ x) s.heap q ρ1 ρ2 H locs → lv_has ls 4 [(0, .ref b), (1, .ref (ρ1 0)), (2, .ref (ρ2 0)), (3, .int i)] → W p l e room_1 s m #[Value.ref b] below meth c H locs 600000 7302250 (lw_Z below #[Value.ref b] s) (F0 m 1298 ls [])) : W p l e room_1 s m #[Value.ref b] below meth c H locs 600000 7302250 (lw_Z below #[Value.ref b] s) (F0 m 894 ls []) := by
  refine LW_elim hLW (fun hI hW => ?_)
  have hx := hC.1
  have hb := hC.2.1
  have hbA : ¬ (fun x : Nat => s.heap.size ≤ x) b := Nat.not_le.mpr hbl
  refine lv_aload_n hx hb dL_law_894 rfl (lv_at hl 1 rfl) ?_
  obtain ⟨rc, rm, h1, h2, h3, hI'⟩ := pu_redo hI
  refine zl_i (rest := []) hC hW (c_X6_redo (d := 2) (Nat.le_refl _) h1) vw_L_121 WC_0 rfl (Nat.le_of_ble_eq_true rfl) (Nat.le_of_ble_eq_true rfl) rfl rfl hl.1 (Nat.le_of_ble_eq_true rfl) dL_law_895 (fun H locs hW => ?_)
  have hW := z_swap hW
  refine lv_aload_n hx hb dL_law_898 rfl (lv_at hl 2 rfl) ?_
  refine zl_i (rest := [.int rc.1]) hC hW (c_X7_redo (d := 1) (Nat.le_refl _) h2) vw_L_124 WM_0 rfl (Nat.le_of_ble_eq_true rfl) (Nat.le_of_ble_eq_true rfl) rfl rfl hl.1 (Nat.le_of_ble_eq_true rfl) dL_law_899 (fun H locs hW => ?_)
  have hW := z_swap hW
  refine lv_icmp_eq (tgt := 1298) hx hb dL_law_902 (by decide) (fun _ => ?_) (fun c => absurd h3 c)
  exact kk H locs ls (LW_mk hI' hW) hl
set_option maxHeartbeats 4000000 in
set_option maxRecDepth 100000 in
theorem law_body {p : Program} {l : Launch} {e : Env} {s : State} {m : MethodId} {below : List Frame} {meth : Method} {c : Code} {b L : Nat} {xs : Nat → Int32} {D : va_G} {q : Nat → ClassId} {ρ1 ρ2 : Nat → Nat} (hL : L ≤ 384) (hC : zC p s m #[Value.ref b] c cL_law RL D q 4 (fun x : Nat => s.heap.size ≤ x)) (hX : va_X b L xs s s.heap) (hbl : b < s.heap.size) {i : Int32} (hi : ∀ k : Int32, (0 ≤ k ∧ k ≤ 5) → vp_in (i + k) L) {H : Heap} {locs : List Loc} {ls : Array Slot} (hLW : LW D (fun x : Nat => s.heap.size ≤ x) s.heap q ρ1 ρ2 H locs) (hl : lv_has ls 4 [(0, .ref b), (1, .ref (ρ1 0)), (2, .ref (ρ2 0)), (3, .int i)])
    (kk : ∀ (H : Heap) (locs : List Loc) (ls : Array Slot), LW D (fun x : Nat => s.heap.size ≤ x) s.heap q ρ1 ρ2 H locs → lv_has ls 4 [(0, .ref b), (1, .ref (ρ1 0)), (2, .ref (ρ2 0)), (3, .int i)] → W p l e room_1 s m #[Value.ref b] below meth c H locs 600000 7302250 (lw_Z below #[Value.ref b] s) (F0 m 1298 ls [])) : W p l e room_1 s m #[Value.ref b] below meth c H locs 600000 7302250 (lw_Z below #[Value.ref b] s) (F0 m 907 ls []) := by
  refine LW_elim hLW (fun hI hW => ?_)
  have hx := hC.1
  have hb := hC.2.1
  have hbA : ¬ (fun x : Nat => s.heap.size ≤ x) b := Nat.not_le.mpr hbl
  refine lv_aload_n hx hb dL_law_907 rfl (lv_at hl 1 rfl) ?_
  refine lv_aload_n hx hb dL_law_908 rfl (lv_at hl 0 rfl) ?_
  refine lv_iload_n hx hb dL_law_909 rfl (lv_at hl 3 rfl) ?_
  refine lv_iconst (v := 1) hx hb dL_law_910 (by decide) ?_
  refine lv_iadd hx hb dL_law_911 ?_
  refine va_sld hx hb hX hbl hbA hW.2.2.1 (hi 1 (by decide)) dL_law_912 ?_
  obtain ⟨rc, rm, h1, h2, h3, hI'⟩ := pu_body hI (xs (Int32.toNatClampNeg (i + 1)))
  refine zl_i (rest := []) hC hW (c_X6_body (d := 1) (Nat.le_refl _) h1) vw_L_125 WC_0 rfl (Nat.le_of_ble_eq_true rfl) (Nat.le_of_ble_eq_true rfl) rfl rfl hl.1 (Nat.le_of_ble_eq_true rfl) dL_law_913 (fun H locs hW => ?_)
  have hW := z_swap hW
  refine lv_aload_n hx hb dL_law_916 rfl (lv_at hl 2 rfl) ?_
  refine lv_aload_n hx hb dL_law_917 rfl (lv_at hl 0 rfl) ?_
  refine lv_iload_n hx hb dL_law_918 rfl (lv_at hl 3 rfl) ?_
  refine lv_iconst (v := 1) hx hb dL_law_919 (by decide) ?_
  refine lv_iadd hx hb dL_law_920 ?_
  refine va_sld hx hb hX hbl hbA hW.2.2.1 (hi 1 (by decide)) dL_law_921 ?_
  refine zl_i (rest := [.int rc.1]) hC hW (c_X7_body (d := 1) (Nat.le_refl _) h2) vw_L_128 WM_0 rfl (Nat.le_of_ble_eq_true rfl) (Nat.le_of_ble_eq_true rfl) rfl rfl hl.1 (Nat.le_of_ble_eq_true rfl) dL_law_922 (fun H locs hW => ?_)
  have hW := z_swap hW
  refine lv_icmp_eq (tgt := 1298) hx hb dL_law_925 (by decide) (fun _ => ?_) (fun c => absurd h3 c)
  exact kk H locs ls (LW_mk hI' hW) hl
set_option maxHeartbeats 4000000 in
set_option maxRecDepth 100000 in
theorem law_act {p : Program} {l : Launch} {e : Env} {s : State} {m : MethodId} {below : List Frame} {meth : Method} {c : Code} {b L : Nat} {xs : Nat → Int32} {D : va_G} {q : Nat → ClassId} {ρ1 ρ2 : Nat → Nat} (hL : L ≤ 384) (hC : zC p s m #[Value.ref b] c cL_law RL D q 4 (fun x : Nat => s.heap.size ≤ x)) (hX : va_X b L xs s s.heap) (hbl : b < s.heap.size) {i : Int32} (hi : ∀ k : Int32, (0 ≤ k ∧ k ≤ 5) → vp_in (i + k) L) {H : Heap} {locs : List Loc} {ls : Array Slot} (hLW : LW D (fun x : Nat => s.heap.size ≤ x) s.heap q ρ1 ρ2 H locs) (hl : lv_has ls 4 [(0, .ref b), (1, .ref (ρ1 0)), (2, .ref (ρ2 0)), (3, .int i)])
    (kk : ∀ (H : Heap) (locs : List Loc) (ls : Array Slot), LW D (fun x : Nat => s.heap.size ≤ x) s.heap q ρ1 ρ2 H locs → lv_has ls 4 [(0, .ref b), (1, .ref (ρ1 0)), (2, .ref (ρ2 0)), (3, .int i)] → W p l e room_1 s m #[Value.ref b] below meth c H locs 600000 7302250 (lw_Z below #[Value.ref b] s) (F0 m 1298 ls [])) : W p l e room_1 s m #[Value.ref b] below meth c H locs 600000 7302250 (lw_Z below #[Value.ref b] s) (F0 m 930 ls []) := by
  refine LW_elim hLW (fun hI hW => ?_)
  have hx := hC.1
  have hb := hC.2.1
  have hbA : ¬ (fun x : Nat => s.heap.size ≤ x) b := Nat.not_le.mpr hbl
  refine lv_aload_n hx hb dL_law_930 rfl (lv_at hl 1 rfl) ?_
  refine lv_aload_n hx hb dL_law_931 rfl (lv_at hl 0 rfl) ?_
  refine lv_iload_n hx hb dL_law_932 rfl (lv_at hl 3 rfl) ?_
  refine lv_iconst (v := 1) hx hb dL_law_933 (by decide) ?_
  refine lv_iadd hx hb dL_law_934 ?_
  refine va_sld hx hb hX hbl hbA hW.2.2.1 (hi 1 (by decide)) dL_law_935 ?_
  refine lv_aload_n hx hb dL_law_936 rfl (lv_at hl 0 rfl) ?_
  refine lv_iload_n hx hb dL_law_937 rfl (lv_at hl 3 rfl) ?_
  refine lv_iconst (v := 2) hx hb dL_law_938 (by decide) ?_
  refine lv_iadd hx hb dL_law_939 ?_
  refine va_sld hx hb hX hbl hbA hW.2.2.1 (hi 2 (by decide)) dL_law_940 ?_
  refine lv_aload_n hx hb dL_law_941 rfl (lv_at hl 0 rfl) ?_
  refine lv_iload_n hx hb dL_law_942 rfl (lv_at hl 3 rfl) ?_
  refine lv_iconst (v := 3) hx hb dL_law_943 (by decide) ?_
  refine lv_iadd hx hb dL_law_944 ?_
  refine va_sld hx hb hX hbl hbA hW.2.2.1 (hi 3 (by decide)) dL_law_945 ?_
  obtain ⟨rc, rm, h1, h2, h3, hI'⟩ := pu_act hI (xs (Int32.toNatClampNeg (i + 1))) (xs (Int32.toNatClampNeg (i + 2))) (xs (Int32.toNatClampNeg (i + 3)))
  refine zl_i (rest := []) hC hW (c_X6_act (d := 42) (Nat.le_refl _) h1) vw_L_129 WC_0 rfl (Nat.le_of_ble_eq_true rfl) (Nat.le_of_ble_eq_true rfl) rfl rfl hl.1 (Nat.le_of_ble_eq_true rfl) dL_law_946 (fun H locs hW => ?_)
  have hW := z_swap hW
  refine lv_aload_n hx hb dL_law_949 rfl (lv_at hl 2 rfl) ?_
  refine lv_aload_n hx hb dL_law_950 rfl (lv_at hl 0 rfl) ?_
  refine lv_iload_n hx hb dL_law_951 rfl (lv_at hl 3 rfl) ?_
  refine lv_iconst (v := 1) hx hb dL_law_952 (by decide) ?_
  refine lv_iadd hx hb dL_law_953 ?_
  refine va_sld hx hb hX hbl hbA hW.2.2.1 (hi 1 (by decide)) dL_law_954 ?_
  refine lv_aload_n hx hb dL_law_955 rfl (lv_at hl 0 rfl) ?_
  refine lv_iload_n hx hb dL_law_956 rfl (lv_at hl 3 rfl) ?_
  refine lv_iconst (v := 2) hx hb dL_law_957 (by decide) ?_
  refine lv_iadd hx hb dL_law_958 ?_
  refine va_sld hx hb hX hbl hbA hW.2.2.1 (hi 2 (by decide)) dL_law_959 ?_
  refine lv_aload_n hx hb dL_law_960 rfl (lv_at hl 0 rfl) ?_
  refine lv_iload_n hx hb dL_law_961 rfl (lv_at hl 3 rfl) ?_
  refine lv_iconst (v := 3) hx hb dL_law_962 (by decide) ?_
  refine lv_iadd hx hb dL_law_963 ?_
  refine va_sld hx hb hX hbl hbA hW.2.2.1 (hi 3 (by decide)) dL_law_964 ?_
  refine zl_i (rest := [.int rc.1]) hC hW (c_X7_act (d := 10) (Nat.le_refl _) h2) vw_L_132 WM_0 rfl (Nat.le_of_ble_eq_true rfl) (Nat.le_of_ble_eq_true rfl) rfl rfl hl.1 (Nat.le_of_ble_eq_true rfl) dL_law_965 (fun H locs hW => ?_)
  have hW := z_swap hW
  refine lv_icmp_eq (tgt := 1298) hx hb dL_law_968 (by decide) (fun _ => ?_) (fun c => absurd h3 c)
  exact kk H locs ls (LW_mk hI' hW) hl
set_option maxHeartbeats 4000000 in
set_option maxRecDepth 100000 in
theorem law_trace {p : Program} {l : Launch} {e : Env} {s : State} {m : MethodId} {below : List Frame} {meth : Method} {c : Code} {b L : Nat} {xs : Nat → Int32} {D : va_G} {q : Nat → ClassId} {ρ1 ρ2 : Nat → Nat} (hL : L ≤ 384) (hC : zC p s m #[Value.ref b] c cL_law RL D q 4 (fun x : Nat => s.heap.size ≤ x)) (hX : va_X b L xs s s.heap) (hbl : b < s.heap.size) {i : Int32} (hi : ∀ k : Int32, (0 ≤ k ∧ k ≤ 5) → vp_in (i + k) L) {H : Heap} {locs : List Loc} {ls : Array Slot} (hLW : LW D (fun x : Nat => s.heap.size ≤ x) s.heap q ρ1 ρ2 H locs) (hl : lv_has ls 4 [(0, .ref b), (1, .ref (ρ1 0)), (2, .ref (ρ2 0)), (3, .int i)])
    (kk : ∀ (H : Heap) (locs : List Loc) (ls : Array Slot), LW D (fun x : Nat => s.heap.size ≤ x) s.heap q ρ1 ρ2 H locs → lv_has ls 4 [(0, .ref b), (1, .ref (ρ1 0)), (2, .ref (ρ2 0)), (3, .int i)] → W p l e room_1 s m #[Value.ref b] below meth c H locs 600000 7302250 (lw_Z below #[Value.ref b] s) (F0 m 1298 ls [])) : W p l e room_1 s m #[Value.ref b] below meth c H locs 600000 7302250 (lw_Z below #[Value.ref b] s) (F0 m 973 ls []) := by
  refine LW_elim hLW (fun hI hW => ?_)
  have hx := hC.1
  have hb := hC.2.1
  have hbA : ¬ (fun x : Nat => s.heap.size ≤ x) b := Nat.not_le.mpr hbl
  refine lv_aload_n hx hb dL_law_973 rfl (lv_at hl 1 rfl) ?_
  refine lv_aload_n hx hb dL_law_974 rfl (lv_at hl 0 rfl) ?_
  refine lv_iload_n hx hb dL_law_975 rfl (lv_at hl 3 rfl) ?_
  refine lv_iconst (v := 1) hx hb dL_law_976 (by decide) ?_
  refine lv_iadd hx hb dL_law_977 ?_
  refine va_sld hx hb hX hbl hbA hW.2.2.1 (hi 1 (by decide)) dL_law_978 ?_
  obtain ⟨rc, rm, h1, h2, h3, hI'⟩ := pu_trace hI (xs (Int32.toNatClampNeg (i + 1)))
  refine zl_i (rest := []) hC hW (c_X6_trace (d := 0) (Nat.le_refl _) h1) vw_L_133 WC_0 rfl (Nat.le_of_ble_eq_true rfl) (Nat.le_of_ble_eq_true rfl) rfl rfl hl.1 (Nat.le_of_ble_eq_true rfl) dL_law_979 (fun H locs hW => ?_)
  have hW := z_swap hW
  refine lv_aload_n hx hb dL_law_982 rfl (lv_at hl 2 rfl) ?_
  refine lv_aload_n hx hb dL_law_983 rfl (lv_at hl 0 rfl) ?_
  refine lv_iload_n hx hb dL_law_984 rfl (lv_at hl 3 rfl) ?_
  refine lv_iconst (v := 1) hx hb dL_law_985 (by decide) ?_
  refine lv_iadd hx hb dL_law_986 ?_
  refine va_sld hx hb hX hbl hbA hW.2.2.1 (hi 1 (by decide)) dL_law_987 ?_
  refine zl_i (rest := [.int rc]) hC hW (c_X7_trace (d := 0) (Nat.le_refl _) h2) vw_L_136 WM_0 rfl (Nat.le_of_ble_eq_true rfl) (Nat.le_of_ble_eq_true rfl) rfl rfl hl.1 (Nat.le_of_ble_eq_true rfl) dL_law_988 (fun H locs hW => ?_)
  have hW := z_swap hW
  refine lv_icmp_eq (tgt := 1298) hx hb dL_law_991 (by decide) (fun _ => ?_) (fun c => absurd h3 c)
  exact kk H locs ls (LW_mk hI' hW) hl
set_option maxHeartbeats 4000000 in
set_option maxRecDepth 100000 in
theorem law_keep {p : Program} {l : Launch} {e : Env} {s : State} {m : MethodId} {below : List Frame} {meth : Method} {c : Code} {b L : Nat} {xs : Nat → Int32} {D : va_G} {q : Nat → ClassId} {ρ1 ρ2 : Nat → Nat} (hL : L ≤ 384) (hC : zC p s m #[Value.ref b] c cL_law RL D q 4 (fun x : Nat => s.heap.size ≤ x)) (hX : va_X b L xs s s.heap) (hbl : b < s.heap.size) {i : Int32} (hi : ∀ k : Int32, (0 ≤ k ∧ k ≤ 5) → vp_in (i + k) L) {H : Heap} {locs : List Loc} {ls : Array Slot} (hLW : LW D (fun x : Nat => s.heap.size ≤ x) s.heap q ρ1 ρ2 H locs) (hl : lv_has ls 4 [(0, .ref b), (1, .ref (ρ1 0)), (2, .ref (ρ2 0)), (3, .int i)])
    (kk : ∀ (H : Heap) (locs : List Loc) (ls : Array Slot), LW D (fun x : Nat => s.heap.size ≤ x) s.heap q ρ1 ρ2 H locs → lv_has ls 4 [(0, .ref b), (1, .ref (ρ1 0)), (2, .ref (ρ2 0)), (3, .int i)] → W p l e room_1 s m #[Value.ref b] below meth c H locs 600000 7302250 (lw_Z below #[Value.ref b] s) (F0 m 1298 ls [])) : W p l e room_1 s m #[Value.ref b] below meth c H locs 600000 7302250 (lw_Z below #[Value.ref b] s) (F0 m 996 ls []) := by
  refine LW_elim hLW (fun hI hW => ?_)
  have hx := hC.1
  have hb := hC.2.1
  have hbA : ¬ (fun x : Nat => s.heap.size ≤ x) b := Nat.not_le.mpr hbl
  refine lv_aload_n hx hb dL_law_996 rfl (lv_at hl 1 rfl) ?_
  refine lv_aload_n hx hb dL_law_997 rfl (lv_at hl 0 rfl) ?_
  refine lv_iload_n hx hb dL_law_998 rfl (lv_at hl 3 rfl) ?_
  refine lv_iconst (v := 1) hx hb dL_law_999 (by decide) ?_
  refine lv_iadd hx hb dL_law_1000 ?_
  refine va_sld hx hb hX hbl hbA hW.2.2.1 (hi 1 (by decide)) dL_law_1001 ?_
  refine lv_aload_n hx hb dL_law_1002 rfl (lv_at hl 0 rfl) ?_
  refine lv_iload_n hx hb dL_law_1003 rfl (lv_at hl 3 rfl) ?_
  refine lv_iconst (v := 2) hx hb dL_law_1004 (by decide) ?_
  refine lv_iadd hx hb dL_law_1005 ?_
  refine va_sld hx hb hX hbl hbA hW.2.2.1 (hi 2 (by decide)) dL_law_1006 ?_
  obtain ⟨rc, rm, h1, h2, h3, hI'⟩ := pu_keep hI (xs (Int32.toNatClampNeg (i + 1))) (xs (Int32.toNatClampNeg (i + 2)))
  refine zl_i (rest := []) hC hW (c_X6_keep (d := 1) (Nat.le_refl _) h1) vw_L_137 WC_0 rfl (Nat.le_of_ble_eq_true rfl) (Nat.le_of_ble_eq_true rfl) rfl rfl hl.1 (Nat.le_of_ble_eq_true rfl) dL_law_1007 (fun H locs hW => ?_)
  have hW := z_swap hW
  refine lv_aload_n hx hb dL_law_1010 rfl (lv_at hl 2 rfl) ?_
  refine lv_aload_n hx hb dL_law_1011 rfl (lv_at hl 0 rfl) ?_
  refine lv_iload_n hx hb dL_law_1012 rfl (lv_at hl 3 rfl) ?_
  refine lv_iconst (v := 1) hx hb dL_law_1013 (by decide) ?_
  refine lv_iadd hx hb dL_law_1014 ?_
  refine va_sld hx hb hX hbl hbA hW.2.2.1 (hi 1 (by decide)) dL_law_1015 ?_
  refine lv_aload_n hx hb dL_law_1016 rfl (lv_at hl 0 rfl) ?_
  refine lv_iload_n hx hb dL_law_1017 rfl (lv_at hl 3 rfl) ?_
  refine lv_iconst (v := 2) hx hb dL_law_1018 (by decide) ?_
  refine lv_iadd hx hb dL_law_1019 ?_
  refine va_sld hx hb hX hbl hbA hW.2.2.1 (hi 2 (by decide)) dL_law_1020 ?_
  refine zl_i (rest := [.int rc.1]) hC hW (c_X7_keep (d := 2) (Nat.le_refl _) h2) vw_L_140 WM_0 rfl (Nat.le_of_ble_eq_true rfl) (Nat.le_of_ble_eq_true rfl) rfl rfl hl.1 (Nat.le_of_ble_eq_true rfl) dL_law_1021 (fun H locs hW => ?_)
  have hW := z_swap hW
  refine lv_icmp_eq (tgt := 1298) hx hb dL_law_1024 (by decide) (fun _ => ?_) (fun c => absurd h3 c)
  exact kk H locs ls (LW_mk hI' hW) hl
set_option maxHeartbeats 4000000 in
set_option maxRecDepth 100000 in
theorem law_row {p : Program} {l : Launch} {e : Env} {s : State} {m : MethodId} {below : List Frame} {meth : Method} {c : Code} {b L : Nat} {xs : Nat → Int32} {D : va_G} {q : Nat → ClassId} {ρ1 ρ2 : Nat → Nat} (hL : L ≤ 384) (hC : zC p s m #[Value.ref b] c cL_law RL D q 4 (fun x : Nat => s.heap.size ≤ x)) (hX : va_X b L xs s s.heap) (hbl : b < s.heap.size) {i : Int32} (hi : ∀ k : Int32, (0 ≤ k ∧ k ≤ 5) → vp_in (i + k) L) {H : Heap} {locs : List Loc} {ls : Array Slot} (hLW : LW D (fun x : Nat => s.heap.size ≤ x) s.heap q ρ1 ρ2 H locs) (hl : lv_has ls 4 [(0, .ref b), (1, .ref (ρ1 0)), (2, .ref (ρ2 0)), (3, .int i)])
    (kk : ∀ (H : Heap) (locs : List Loc) (ls : Array Slot), LW D (fun x : Nat => s.heap.size ≤ x) s.heap q ρ1 ρ2 H locs → lv_has ls 4 [(0, .ref b), (1, .ref (ρ1 0)), (2, .ref (ρ2 0)), (3, .int i)] → W p l e room_1 s m #[Value.ref b] below meth c H locs 600000 7302250 (lw_Z below #[Value.ref b] s) (F0 m 1298 ls [])) : W p l e room_1 s m #[Value.ref b] below meth c H locs 600000 7302250 (lw_Z below #[Value.ref b] s) (F0 m 1029 ls []) := by
  refine LW_elim hLW (fun hI hW => ?_)
  have hx := hC.1
  have hb := hC.2.1
  have hbA : ¬ (fun x : Nat => s.heap.size ≤ x) b := Nat.not_le.mpr hbl
  refine lv_aload_n hx hb dL_law_1029 rfl (lv_at hl 1 rfl) ?_
  refine lv_aload_n hx hb dL_law_1030 rfl (lv_at hl 0 rfl) ?_
  refine lv_iload_n hx hb dL_law_1031 rfl (lv_at hl 3 rfl) ?_
  refine lv_iconst (v := 1) hx hb dL_law_1032 (by decide) ?_
  refine lv_iadd hx hb dL_law_1033 ?_
  refine va_sld hx hb hX hbl hbA hW.2.2.1 (hi 1 (by decide)) dL_law_1034 ?_
  refine lv_aload_n hx hb dL_law_1035 rfl (lv_at hl 0 rfl) ?_
  refine lv_iload_n hx hb dL_law_1036 rfl (lv_at hl 3 rfl) ?_
  refine lv_iconst (v := 2) hx hb dL_law_1037 (by decide) ?_
  refine lv_iadd hx hb dL_law_1038 ?_
  refine va_sld hx hb hX hbl hbA hW.2.2.1 (hi 2 (by decide)) dL_law_1039 ?_
  refine lv_aload_n hx hb dL_law_1040 rfl (lv_at hl 0 rfl) ?_
  refine lv_iload_n hx hb dL_law_1041 rfl (lv_at hl 3 rfl) ?_
  refine lv_iconst (v := 3) hx hb dL_law_1042 (by decide) ?_
  refine lv_iadd hx hb dL_law_1043 ?_
  refine va_sld hx hb hX hbl hbA hW.2.2.1 (hi 3 (by decide)) dL_law_1044 ?_
  obtain ⟨rc, rm, h1, h2, h3, hI'⟩ := pu_row hI (xs (Int32.toNatClampNeg (i + 1))) (xs (Int32.toNatClampNeg (i + 2))) (xs (Int32.toNatClampNeg (i + 3)))
  refine zl_i (rest := []) hC hW (c_X6_row (d := 1) (Nat.le_refl _) h1) vw_L_141 WC_0 rfl (Nat.le_of_ble_eq_true rfl) (Nat.le_of_ble_eq_true rfl) rfl rfl hl.1 (Nat.le_of_ble_eq_true rfl) dL_law_1045 (fun H locs hW => ?_)
  have hW := z_swap hW
  refine lv_aload_n hx hb dL_law_1048 rfl (lv_at hl 2 rfl) ?_
  refine lv_aload_n hx hb dL_law_1049 rfl (lv_at hl 0 rfl) ?_
  refine lv_iload_n hx hb dL_law_1050 rfl (lv_at hl 3 rfl) ?_
  refine lv_iconst (v := 1) hx hb dL_law_1051 (by decide) ?_
  refine lv_iadd hx hb dL_law_1052 ?_
  refine va_sld hx hb hX hbl hbA hW.2.2.1 (hi 1 (by decide)) dL_law_1053 ?_
  refine lv_aload_n hx hb dL_law_1054 rfl (lv_at hl 0 rfl) ?_
  refine lv_iload_n hx hb dL_law_1055 rfl (lv_at hl 3 rfl) ?_
  refine lv_iconst (v := 2) hx hb dL_law_1056 (by decide) ?_
  refine lv_iadd hx hb dL_law_1057 ?_
  refine va_sld hx hb hX hbl hbA hW.2.2.1 (hi 2 (by decide)) dL_law_1058 ?_
  refine lv_aload_n hx hb dL_law_1059 rfl (lv_at hl 0 rfl) ?_
  refine lv_iload_n hx hb dL_law_1060 rfl (lv_at hl 3 rfl) ?_
  refine lv_iconst (v := 3) hx hb dL_law_1061 (by decide) ?_
  refine lv_iadd hx hb dL_law_1062 ?_
  refine va_sld hx hb hX hbl hbA hW.2.2.1 (hi 3 (by decide)) dL_law_1063 ?_
  refine zl_i (rest := [.int rc.1]) hC hW (c_X7_row (d := 2) (Nat.le_refl _) h2) vw_L_144 WM_0 rfl (Nat.le_of_ble_eq_true rfl) (Nat.le_of_ble_eq_true rfl) rfl rfl hl.1 (Nat.le_of_ble_eq_true rfl) dL_law_1064 (fun H locs hW => ?_)
  have hW := z_swap hW
  refine lv_icmp_eq (tgt := 1298) hx hb dL_law_1067 (by decide) (fun _ => ?_) (fun c => absurd h3 c)
  exact kk H locs ls (LW_mk hI' hW) hl
set_option maxHeartbeats 4000000 in
set_option maxRecDepth 100000 in
theorem law_put {p : Program} {l : Launch} {e : Env} {s : State} {m : MethodId} {below : List Frame} {meth : Method} {c : Code} {b L : Nat} {xs : Nat → Int32} {D : va_G} {q : Nat → ClassId} {ρ1 ρ2 : Nat → Nat} (hL : L ≤ 384) (hC : zC p s m #[Value.ref b] c cL_law RL D q 4 (fun x : Nat => s.heap.size ≤ x)) (hX : va_X b L xs s s.heap) (hbl : b < s.heap.size) {i : Int32} (hi : ∀ k : Int32, (0 ≤ k ∧ k ≤ 5) → vp_in (i + k) L) {H : Heap} {locs : List Loc} {ls : Array Slot} (hLW : LW D (fun x : Nat => s.heap.size ≤ x) s.heap q ρ1 ρ2 H locs) (hl : lv_has ls 4 [(0, .ref b), (1, .ref (ρ1 0)), (2, .ref (ρ2 0)), (3, .int i)])
    (kk : ∀ (H : Heap) (locs : List Loc) (ls : Array Slot), LW D (fun x : Nat => s.heap.size ≤ x) s.heap q ρ1 ρ2 H locs → lv_has ls 4 [(0, .ref b), (1, .ref (ρ1 0)), (2, .ref (ρ2 0)), (3, .int i)] → W p l e room_1 s m #[Value.ref b] below meth c H locs 600000 7302250 (lw_Z below #[Value.ref b] s) (F0 m 1298 ls [])) : W p l e room_1 s m #[Value.ref b] below meth c H locs 600000 7302250 (lw_Z below #[Value.ref b] s) (F0 m 1072 ls []) := by
  refine LW_elim hLW (fun hI hW => ?_)
  have hx := hC.1
  have hb := hC.2.1
  have hbA : ¬ (fun x : Nat => s.heap.size ≤ x) b := Nat.not_le.mpr hbl
  refine lv_aload_n hx hb dL_law_1072 rfl (lv_at hl 1 rfl) ?_
  refine lv_aload_n hx hb dL_law_1073 rfl (lv_at hl 0 rfl) ?_
  refine lv_iload_n hx hb dL_law_1074 rfl (lv_at hl 3 rfl) ?_
  refine lv_iconst (v := 1) hx hb dL_law_1075 (by decide) ?_
  refine lv_iadd hx hb dL_law_1076 ?_
  refine va_sld hx hb hX hbl hbA hW.2.2.1 (hi 1 (by decide)) dL_law_1077 ?_
  refine lv_aload_n hx hb dL_law_1078 rfl (lv_at hl 0 rfl) ?_
  refine lv_iload_n hx hb dL_law_1079 rfl (lv_at hl 3 rfl) ?_
  refine lv_iconst (v := 2) hx hb dL_law_1080 (by decide) ?_
  refine lv_iadd hx hb dL_law_1081 ?_
  refine va_sld hx hb hX hbl hbA hW.2.2.1 (hi 2 (by decide)) dL_law_1082 ?_
  refine lv_aload_n hx hb dL_law_1083 rfl (lv_at hl 0 rfl) ?_
  refine lv_iload_n hx hb dL_law_1084 rfl (lv_at hl 3 rfl) ?_
  refine lv_iconst (v := 3) hx hb dL_law_1085 (by decide) ?_
  refine lv_iadd hx hb dL_law_1086 ?_
  refine va_sld hx hb hX hbl hbA hW.2.2.1 (hi 3 (by decide)) dL_law_1087 ?_
  refine lv_i2l hx hb dL_law_1088 rfl ?_
  refine lv_bipush (v := 32) hx hb dL_law_1089 (by decide) ?_
  refine lv_lshl hx hb dL_law_1091 rfl ?_
  refine lv_aload_n hx hb dL_law_1092 rfl (lv_at hl 0 rfl) ?_
  refine lv_iload_n hx hb dL_law_1093 rfl (lv_at hl 3 rfl) ?_
  refine lv_iconst (v := 4) hx hb dL_law_1094 (by decide) ?_
  refine lv_iadd hx hb dL_law_1095 ?_
  refine va_sld hx hb hX hbl hbA hW.2.2.1 (hi 4 (by decide)) dL_law_1096 ?_
  refine lv_i2l hx hb dL_law_1097 rfl ?_
  refine lv_ldc2 (v := 4294967295) hx hb hC.2.2.1 (hC.2.2.2.1 _ wd_1333) dL_law_1098 ?_
  refine lv_land hx hb dL_law_1101 ?_
  refine lv_lor hx hb dL_law_1102 ?_
  obtain ⟨rc, rm, h1, h2, h3, hI'⟩ := pu_put hI (xs (Int32.toNatClampNeg (i + 1))) (xs (Int32.toNatClampNeg (i + 2))) (((Int32.toInt64 (xs (Int32.toNatClampNeg (i + 3)))) <<< (Int32.toInt64 32 &&& 63)) ||| ((Int32.toInt64 (xs (Int32.toNatClampNeg (i + 4)))) &&& (4294967295 : Int64)))
  refine zl_i (rest := []) hC hW (c_X6_put (d := 2) (Nat.le_refl _) h1) vw_L_147 WC_0 rfl (Nat.le_of_ble_eq_true rfl) (Nat.le_of_ble_eq_true rfl) rfl rfl hl.1 (Nat.le_of_ble_eq_true rfl) dL_law_1103 (fun H locs hW => ?_)
  have hW := z_swap hW
  refine lv_aload_n hx hb dL_law_1106 rfl (lv_at hl 2 rfl) ?_
  refine lv_aload_n hx hb dL_law_1107 rfl (lv_at hl 0 rfl) ?_
  refine lv_iload_n hx hb dL_law_1108 rfl (lv_at hl 3 rfl) ?_
  refine lv_iconst (v := 1) hx hb dL_law_1109 (by decide) ?_
  refine lv_iadd hx hb dL_law_1110 ?_
  refine va_sld hx hb hX hbl hbA hW.2.2.1 (hi 1 (by decide)) dL_law_1111 ?_
  refine lv_aload_n hx hb dL_law_1112 rfl (lv_at hl 0 rfl) ?_
  refine lv_iload_n hx hb dL_law_1113 rfl (lv_at hl 3 rfl) ?_
  refine lv_iconst (v := 2) hx hb dL_law_1114 (by decide) ?_
  refine lv_iadd hx hb dL_law_1115 ?_
  refine va_sld hx hb hX hbl hbA hW.2.2.1 (hi 2 (by decide)) dL_law_1116 ?_
  refine lv_aload_n hx hb dL_law_1117 rfl (lv_at hl 0 rfl) ?_
  refine lv_iload_n hx hb dL_law_1118 rfl (lv_at hl 3 rfl) ?_
  refine lv_iconst (v := 3) hx hb dL_law_1119 (by decide) ?_
  refine lv_iadd hx hb dL_law_1120 ?_
  refine va_sld hx hb hX hbl hbA hW.2.2.1 (hi 3 (by decide)) dL_law_1121 ?_
  refine lv_i2l hx hb dL_law_1122 rfl ?_
  refine lv_bipush (v := 32) hx hb dL_law_1123 (by decide) ?_
  refine lv_lshl hx hb dL_law_1125 rfl ?_
  refine lv_aload_n hx hb dL_law_1126 rfl (lv_at hl 0 rfl) ?_
  refine lv_iload_n hx hb dL_law_1127 rfl (lv_at hl 3 rfl) ?_
  refine lv_iconst (v := 4) hx hb dL_law_1128 (by decide) ?_
  refine lv_iadd hx hb dL_law_1129 ?_
  refine va_sld hx hb hX hbl hbA hW.2.2.1 (hi 4 (by decide)) dL_law_1130 ?_
  refine lv_i2l hx hb dL_law_1131 rfl ?_
  refine lv_ldc2 (v := 4294967295) hx hb hC.2.2.1 (hC.2.2.2.1 _ wd_1333) dL_law_1132 ?_
  refine lv_land hx hb dL_law_1135 ?_
  refine lv_lor hx hb dL_law_1136 ?_
  refine zl_i (rest := [.int rc.1]) hC hW (c_X7_put (d := 3) (Nat.le_refl _) h2) vw_L_151 WM_0 rfl (Nat.le_of_ble_eq_true rfl) (Nat.le_of_ble_eq_true rfl) rfl rfl hl.1 (Nat.le_of_ble_eq_true rfl) dL_law_1137 (fun H locs hW => ?_)
  have hW := z_swap hW
  refine lv_icmp_eq (tgt := 1298) hx hb dL_law_1140 (by decide) (fun _ => ?_) (fun c => absurd h3 c)
  exact kk H locs ls (LW_mk hI' hW) hl
set_option maxHeartbeats 4000000 in
set_option maxRecDepth 100000 in
theorem law_element {p : Program} {l : Launch} {e : Env} {s : State} {m : MethodId} {below : List Frame} {meth : Method} {c : Code} {b L : Nat} {xs : Nat → Int32} {D : va_G} {q : Nat → ClassId} {ρ1 ρ2 : Nat → Nat} (hL : L ≤ 384) (hC : zC p s m #[Value.ref b] c cL_law RL D q 4 (fun x : Nat => s.heap.size ≤ x)) (hX : va_X b L xs s s.heap) (hbl : b < s.heap.size) {i : Int32} (hi : ∀ k : Int32, (0 ≤ k ∧ k ≤ 5) → vp_in (i + k) L) {H : Heap} {locs : List Loc} {ls : Array Slot} (hLW : LW D (fun x : Nat => s.heap.size ≤ x) s.heap q ρ1 ρ2 H locs) (hl : lv_has ls 4 [(0, .ref b), (1, .ref (ρ1 0)), (2, .ref (ρ2 0)), (3, .int i)])
    (kk : ∀ (H : Heap) (locs : List Loc) (ls : Array Slot), LW D (fun x : Nat => s.heap.size ≤ x) s.heap q ρ1 ρ2 H locs → lv_has ls 4 [(0, .ref b), (1, .ref (ρ1 0)), (2, .ref (ρ2 0)), (3, .int i)] → W p l e room_1 s m #[Value.ref b] below meth c H locs 600000 7302250 (lw_Z below #[Value.ref b] s) (F0 m 1298 ls [])) : W p l e room_1 s m #[Value.ref b] below meth c H locs 600000 7302250 (lw_Z below #[Value.ref b] s) (F0 m 1145 ls []) := by
  refine LW_elim hLW (fun hI hW => ?_)
  have hx := hC.1
  have hb := hC.2.1
  have hbA : ¬ (fun x : Nat => s.heap.size ≤ x) b := Nat.not_le.mpr hbl
  refine lv_aload_n hx hb dL_law_1145 rfl (lv_at hl 1 rfl) ?_
  refine lv_aload_n hx hb dL_law_1146 rfl (lv_at hl 0 rfl) ?_
  refine lv_iload_n hx hb dL_law_1147 rfl (lv_at hl 3 rfl) ?_
  refine lv_iconst (v := 1) hx hb dL_law_1148 (by decide) ?_
  refine lv_iadd hx hb dL_law_1149 ?_
  refine va_sld hx hb hX hbl hbA hW.2.2.1 (hi 1 (by decide)) dL_law_1150 ?_
  refine lv_aload_n hx hb dL_law_1151 rfl (lv_at hl 0 rfl) ?_
  refine lv_iload_n hx hb dL_law_1152 rfl (lv_at hl 3 rfl) ?_
  refine lv_iconst (v := 2) hx hb dL_law_1153 (by decide) ?_
  refine lv_iadd hx hb dL_law_1154 ?_
  refine va_sld hx hb hX hbl hbA hW.2.2.1 (hi 2 (by decide)) dL_law_1155 ?_
  obtain ⟨rc, rm, h1, h2, h3, hI'⟩ := pu_element hI (xs (Int32.toNatClampNeg (i + 1))) (xs (Int32.toNatClampNeg (i + 2)))
  refine zl_l (rest := []) hC hW (c_X6_element (d := 2) (Nat.le_refl _) h1) vw_L_152 WC_0 rfl (Nat.le_of_ble_eq_true rfl) (Nat.le_of_ble_eq_true rfl) rfl rfl hl.1 (Nat.le_of_ble_eq_true rfl) dL_law_1156 (fun H locs hW => ?_)
  have hW := z_swap hW
  refine lv_aload_n hx hb dL_law_1159 rfl (lv_at hl 2 rfl) ?_
  refine lv_aload_n hx hb dL_law_1160 rfl (lv_at hl 0 rfl) ?_
  refine lv_iload_n hx hb dL_law_1161 rfl (lv_at hl 3 rfl) ?_
  refine lv_iconst (v := 1) hx hb dL_law_1162 (by decide) ?_
  refine lv_iadd hx hb dL_law_1163 ?_
  refine va_sld hx hb hX hbl hbA hW.2.2.1 (hi 1 (by decide)) dL_law_1164 ?_
  refine lv_aload_n hx hb dL_law_1165 rfl (lv_at hl 0 rfl) ?_
  refine lv_iload_n hx hb dL_law_1166 rfl (lv_at hl 3 rfl) ?_
  refine lv_iconst (v := 2) hx hb dL_law_1167 (by decide) ?_
  refine lv_iadd hx hb dL_law_1168 ?_
  refine va_sld hx hb hX hbl hbA hW.2.2.1 (hi 2 (by decide)) dL_law_1169 ?_
  refine zl_l (rest := [.long rc]) hC hW (c_X7_element (d := 3) (Nat.le_refl _) h2) vw_L_156 WM_0 rfl (Nat.le_of_ble_eq_true rfl) (Nat.le_of_ble_eq_true rfl) rfl rfl hl.1 (Nat.le_of_ble_eq_true rfl) dL_law_1170 (fun H locs hW => ?_)
  have hW := z_swap hW
  refine W.lcmp hx hb dL_law_1173 ?_
  rw [h3, zl_cmp]
  refine lv_if_eq (tgt := 1298) hx hb dL_law_1174 (by decide) (fun _ => ?_) (fun c => absurd rfl c)
  exact kk H locs ls (LW_mk hI' hW) hl
set_option maxHeartbeats 4000000 in
set_option maxRecDepth 100000 in
theorem law_shift {p : Program} {l : Launch} {e : Env} {s : State} {m : MethodId} {below : List Frame} {meth : Method} {c : Code} {b L : Nat} {xs : Nat → Int32} {D : va_G} {q : Nat → ClassId} {ρ1 ρ2 : Nat → Nat} (hL : L ≤ 384) (hC : zC p s m #[Value.ref b] c cL_law RL D q 4 (fun x : Nat => s.heap.size ≤ x)) (hX : va_X b L xs s s.heap) (hbl : b < s.heap.size) {i : Int32} (hi : ∀ k : Int32, (0 ≤ k ∧ k ≤ 5) → vp_in (i + k) L) {H : Heap} {locs : List Loc} {ls : Array Slot} (hLW : LW D (fun x : Nat => s.heap.size ≤ x) s.heap q ρ1 ρ2 H locs) (hl : lv_has ls 4 [(0, .ref b), (1, .ref (ρ1 0)), (2, .ref (ρ2 0)), (3, .int i)])
    (kk : ∀ (H : Heap) (locs : List Loc) (ls : Array Slot), LW D (fun x : Nat => s.heap.size ≤ x) s.heap q ρ1 ρ2 H locs → lv_has ls 4 [(0, .ref b), (1, .ref (ρ1 0)), (2, .ref (ρ2 0)), (3, .int i)] → W p l e room_1 s m #[Value.ref b] below meth c H locs 600000 7302250 (lw_Z below #[Value.ref b] s) (F0 m 1298 ls [])) : W p l e room_1 s m #[Value.ref b] below meth c H locs 600000 7302250 (lw_Z below #[Value.ref b] s) (F0 m 1179 ls []) := by
  refine LW_elim hLW (fun hI hW => ?_)
  have hx := hC.1
  have hb := hC.2.1
  have hbA : ¬ (fun x : Nat => s.heap.size ≤ x) b := Nat.not_le.mpr hbl
  refine lv_aload_n hx hb dL_law_1179 rfl (lv_at hl 1 rfl) ?_
  refine lv_aload_n hx hb dL_law_1180 rfl (lv_at hl 0 rfl) ?_
  refine lv_iload_n hx hb dL_law_1181 rfl (lv_at hl 3 rfl) ?_
  refine lv_iconst (v := 1) hx hb dL_law_1182 (by decide) ?_
  refine lv_iadd hx hb dL_law_1183 ?_
  refine va_sld hx hb hX hbl hbA hW.2.2.1 (hi 1 (by decide)) dL_law_1184 ?_
  refine lv_aload_n hx hb dL_law_1185 rfl (lv_at hl 0 rfl) ?_
  refine lv_iload_n hx hb dL_law_1186 rfl (lv_at hl 3 rfl) ?_
  refine lv_iconst (v := 2) hx hb dL_law_1187 (by decide) ?_
  refine lv_iadd hx hb dL_law_1188 ?_
  refine va_sld hx hb hX hbl hbA hW.2.2.1 (hi 2 (by decide)) dL_law_1189 ?_
  refine lv_aload_n hx hb dL_law_1190 rfl (lv_at hl 0 rfl) ?_
  refine lv_iload_n hx hb dL_law_1191 rfl (lv_at hl 3 rfl) ?_
  refine lv_iconst (v := 3) hx hb dL_law_1192 (by decide) ?_
  refine lv_iadd hx hb dL_law_1193 ?_
  refine va_sld hx hb hX hbl hbA hW.2.2.1 (hi 3 (by decide)) dL_law_1194 ?_
  refine lv_aload_n hx hb dL_law_1195 rfl (lv_at hl 0 rfl) ?_
  refine lv_iload_n hx hb dL_law_1196 rfl (lv_at hl 3 rfl) ?_
  refine lv_iconst (v := 4) hx hb dL_law_1197 (by decide) ?_
  refine lv_iadd hx hb dL_law_1198 ?_
  refine va_sld hx hb hX hbl hbA hW.2.2.1 (hi 4 (by decide)) dL_law_1199 ?_
  refine lv_aload_n hx hb dL_law_1200 rfl (lv_at hl 0 rfl) ?_
  refine lv_iload_n hx hb dL_law_1201 rfl (lv_at hl 3 rfl) ?_
  refine lv_iconst (v := 5) hx hb dL_law_1202 (by decide) ?_
  refine lv_iadd hx hb dL_law_1203 ?_
  refine va_sld hx hb hX hbl hbA hW.2.2.1 (hi 5 (by decide)) dL_law_1204 ?_
  obtain ⟨rc, rm, h1, h2, h3, hI'⟩ := pu_shift hI (xs (Int32.toNatClampNeg (i + 1))) (xs (Int32.toNatClampNeg (i + 2))) (xs (Int32.toNatClampNeg (i + 3))) (xs (Int32.toNatClampNeg (i + 4))) (xs (Int32.toNatClampNeg (i + 5)))
  refine zl_i (rest := []) hC hW (c_X6_shift (d := 1) (Nat.le_refl _) h1) vw_L_157 WC_0 rfl (Nat.le_of_ble_eq_true rfl) (Nat.le_of_ble_eq_true rfl) rfl rfl hl.1 (Nat.le_of_ble_eq_true rfl) dL_law_1205 (fun H locs hW => ?_)
  have hW := z_swap hW
  refine lv_aload_n hx hb dL_law_1208 rfl (lv_at hl 2 rfl) ?_
  refine lv_aload_n hx hb dL_law_1209 rfl (lv_at hl 0 rfl) ?_
  refine lv_iload_n hx hb dL_law_1210 rfl (lv_at hl 3 rfl) ?_
  refine lv_iconst (v := 1) hx hb dL_law_1211 (by decide) ?_
  refine lv_iadd hx hb dL_law_1212 ?_
  refine va_sld hx hb hX hbl hbA hW.2.2.1 (hi 1 (by decide)) dL_law_1213 ?_
  refine lv_aload_n hx hb dL_law_1214 rfl (lv_at hl 0 rfl) ?_
  refine lv_iload_n hx hb dL_law_1215 rfl (lv_at hl 3 rfl) ?_
  refine lv_iconst (v := 2) hx hb dL_law_1216 (by decide) ?_
  refine lv_iadd hx hb dL_law_1217 ?_
  refine va_sld hx hb hX hbl hbA hW.2.2.1 (hi 2 (by decide)) dL_law_1218 ?_
  refine lv_aload_n hx hb dL_law_1219 rfl (lv_at hl 0 rfl) ?_
  refine lv_iload_n hx hb dL_law_1220 rfl (lv_at hl 3 rfl) ?_
  refine lv_iconst (v := 3) hx hb dL_law_1221 (by decide) ?_
  refine lv_iadd hx hb dL_law_1222 ?_
  refine va_sld hx hb hX hbl hbA hW.2.2.1 (hi 3 (by decide)) dL_law_1223 ?_
  refine lv_aload_n hx hb dL_law_1224 rfl (lv_at hl 0 rfl) ?_
  refine lv_iload_n hx hb dL_law_1225 rfl (lv_at hl 3 rfl) ?_
  refine lv_iconst (v := 4) hx hb dL_law_1226 (by decide) ?_
  refine lv_iadd hx hb dL_law_1227 ?_
  refine va_sld hx hb hX hbl hbA hW.2.2.1 (hi 4 (by decide)) dL_law_1228 ?_
  refine lv_aload_n hx hb dL_law_1229 rfl (lv_at hl 0 rfl) ?_
  refine lv_iload_n hx hb dL_law_1230 rfl (lv_at hl 3 rfl) ?_
  refine lv_iconst (v := 5) hx hb dL_law_1231 (by decide) ?_
  refine lv_iadd hx hb dL_law_1232 ?_
  refine va_sld hx hb hX hbl hbA hW.2.2.1 (hi 5 (by decide)) dL_law_1233 ?_
  refine zl_i (rest := [.int rc.1]) hC hW (c_X7_shift (d := 2) (Nat.le_refl _) h2) vw_L_161 WM_0 rfl (Nat.le_of_ble_eq_true rfl) (Nat.le_of_ble_eq_true rfl) rfl rfl hl.1 (Nat.le_of_ble_eq_true rfl) dL_law_1234 (fun H locs hW => ?_)
  have hW := z_swap hW
  refine lv_icmp_eq (tgt := 1298) hx hb dL_law_1237 (by decide) (fun _ => ?_) (fun c => absurd h3 c)
  exact kk H locs ls (LW_mk hI' hW) hl
set_option maxHeartbeats 4000000 in
set_option maxRecDepth 100000 in
theorem law_taken {p : Program} {l : Launch} {e : Env} {s : State} {m : MethodId} {below : List Frame} {meth : Method} {c : Code} {b L : Nat} {xs : Nat → Int32} {D : va_G} {q : Nat → ClassId} {ρ1 ρ2 : Nat → Nat} (hL : L ≤ 384) (hC : zC p s m #[Value.ref b] c cL_law RL D q 4 (fun x : Nat => s.heap.size ≤ x)) (hX : va_X b L xs s s.heap) (hbl : b < s.heap.size) {i : Int32} (hi : ∀ k : Int32, (0 ≤ k ∧ k ≤ 5) → vp_in (i + k) L) {H : Heap} {locs : List Loc} {ls : Array Slot} (hLW : LW D (fun x : Nat => s.heap.size ≤ x) s.heap q ρ1 ρ2 H locs) (hl : lv_has ls 4 [(0, .ref b), (1, .ref (ρ1 0)), (2, .ref (ρ2 0)), (3, .int i)])
    (kk : ∀ (H : Heap) (locs : List Loc) (ls : Array Slot), LW D (fun x : Nat => s.heap.size ≤ x) s.heap q ρ1 ρ2 H locs → lv_has ls 4 [(0, .ref b), (1, .ref (ρ1 0)), (2, .ref (ρ2 0)), (3, .int i)] → W p l e room_1 s m #[Value.ref b] below meth c H locs 600000 7302250 (lw_Z below #[Value.ref b] s) (F0 m 1298 ls [])) : W p l e room_1 s m #[Value.ref b] below meth c H locs 600000 7302250 (lw_Z below #[Value.ref b] s) (F0 m 1242 ls []) := by
  refine LW_elim hLW (fun hI hW => ?_)
  have hx := hC.1
  have hb := hC.2.1
  have hbA : ¬ (fun x : Nat => s.heap.size ≤ x) b := Nat.not_le.mpr hbl
  refine lv_aload_n hx hb dL_law_1242 rfl (lv_at hl 1 rfl) ?_
  refine lv_aload_n hx hb dL_law_1243 rfl (lv_at hl 0 rfl) ?_
  refine lv_iload_n hx hb dL_law_1244 rfl (lv_at hl 3 rfl) ?_
  refine lv_iconst (v := 1) hx hb dL_law_1245 (by decide) ?_
  refine lv_iadd hx hb dL_law_1246 ?_
  refine va_sld hx hb hX hbl hbA hW.2.2.1 (hi 1 (by decide)) dL_law_1247 ?_
  refine lv_aload_n hx hb dL_law_1248 rfl (lv_at hl 0 rfl) ?_
  refine lv_iload_n hx hb dL_law_1249 rfl (lv_at hl 3 rfl) ?_
  refine lv_iconst (v := 2) hx hb dL_law_1250 (by decide) ?_
  refine lv_iadd hx hb dL_law_1251 ?_
  refine va_sld hx hb hX hbl hbA hW.2.2.1 (hi 2 (by decide)) dL_law_1252 ?_
  obtain ⟨rc, rm, h1, h2, h3, hI'⟩ := pu_taken hI (xs (Int32.toNatClampNeg (i + 1))) (xs (Int32.toNatClampNeg (i + 2)))
  refine zl_i (rest := []) hC hW (c_X6_taken (d := 1) (Nat.le_refl _) h1) vw_L_162 WC_0 rfl (Nat.le_of_ble_eq_true rfl) (Nat.le_of_ble_eq_true rfl) rfl rfl hl.1 (Nat.le_of_ble_eq_true rfl) dL_law_1253 (fun H locs hW => ?_)
  have hW := z_swap hW
  refine lv_aload_n hx hb dL_law_1256 rfl (lv_at hl 2 rfl) ?_
  refine lv_aload_n hx hb dL_law_1257 rfl (lv_at hl 0 rfl) ?_
  refine lv_iload_n hx hb dL_law_1258 rfl (lv_at hl 3 rfl) ?_
  refine lv_iconst (v := 1) hx hb dL_law_1259 (by decide) ?_
  refine lv_iadd hx hb dL_law_1260 ?_
  refine va_sld hx hb hX hbl hbA hW.2.2.1 (hi 1 (by decide)) dL_law_1261 ?_
  refine lv_aload_n hx hb dL_law_1262 rfl (lv_at hl 0 rfl) ?_
  refine lv_iload_n hx hb dL_law_1263 rfl (lv_at hl 3 rfl) ?_
  refine lv_iconst (v := 2) hx hb dL_law_1264 (by decide) ?_
  refine lv_iadd hx hb dL_law_1265 ?_
  refine va_sld hx hb hX hbl hbA hW.2.2.1 (hi 2 (by decide)) dL_law_1266 ?_
  refine zl_i (rest := [.int rc]) hC hW (c_X7_taken (d := 2) (Nat.le_refl _) h2) vw_L_165 WM_0 rfl (Nat.le_of_ble_eq_true rfl) (Nat.le_of_ble_eq_true rfl) rfl rfl hl.1 (Nat.le_of_ble_eq_true rfl) dL_law_1267 (fun H locs hW => ?_)
  have hW := z_swap hW
  refine lv_icmp_eq (tgt := 1298) hx hb dL_law_1270 (by decide) (fun _ => ?_) (fun c => absurd h3 c)
  exact kk H locs ls (LW_mk hI' hW) hl
set_option maxHeartbeats 4000000 in
set_option maxRecDepth 100000 in
theorem law_count {p : Program} {l : Launch} {e : Env} {s : State} {m : MethodId} {below : List Frame} {meth : Method} {c : Code} {b L : Nat} {xs : Nat → Int32} {D : va_G} {q : Nat → ClassId} {ρ1 ρ2 : Nat → Nat} (hL : L ≤ 384) (hC : zC p s m #[Value.ref b] c cL_law RL D q 4 (fun x : Nat => s.heap.size ≤ x)) (hX : va_X b L xs s s.heap) (hbl : b < s.heap.size) {i : Int32} (hi : ∀ k : Int32, (0 ≤ k ∧ k ≤ 5) → vp_in (i + k) L) {H : Heap} {locs : List Loc} {ls : Array Slot} (hLW : LW D (fun x : Nat => s.heap.size ≤ x) s.heap q ρ1 ρ2 H locs) (hl : lv_has ls 4 [(0, .ref b), (1, .ref (ρ1 0)), (2, .ref (ρ2 0)), (3, .int i)])
    (kk : ∀ (H : Heap) (locs : List Loc) (ls : Array Slot), LW D (fun x : Nat => s.heap.size ≤ x) s.heap q ρ1 ρ2 H locs → lv_has ls 4 [(0, .ref b), (1, .ref (ρ1 0)), (2, .ref (ρ2 0)), (3, .int i)] → W p l e room_1 s m #[Value.ref b] below meth c H locs 600000 7302250 (lw_Z below #[Value.ref b] s) (F0 m 1298 ls [])) : W p l e room_1 s m #[Value.ref b] below meth c H locs 600000 7302250 (lw_Z below #[Value.ref b] s) (F0 m 1275 ls []) := by
  refine LW_elim hLW (fun hI hW => ?_)
  have hx := hC.1
  have hb := hC.2.1
  have hbA : ¬ (fun x : Nat => s.heap.size ≤ x) b := Nat.not_le.mpr hbl
  refine lv_aload_n hx hb dL_law_1275 rfl (lv_at hl 1 rfl) ?_
  refine lv_aload_n hx hb dL_law_1276 rfl (lv_at hl 0 rfl) ?_
  refine lv_iload_n hx hb dL_law_1277 rfl (lv_at hl 3 rfl) ?_
  refine lv_iconst (v := 1) hx hb dL_law_1278 (by decide) ?_
  refine lv_iadd hx hb dL_law_1279 ?_
  refine va_sld hx hb hX hbl hbA hW.2.2.1 (hi 1 (by decide)) dL_law_1280 ?_
  obtain ⟨rc, rm, h1, h2, h3, hI'⟩ := pu_count hI (xs (Int32.toNatClampNeg (i + 1)))
  refine zl_i (rest := []) hC hW (c_X6_count (d := 0) (Nat.le_refl _) h1) vw_L_166 WC_0 rfl (Nat.le_of_ble_eq_true rfl) (Nat.le_of_ble_eq_true rfl) rfl rfl hl.1 (Nat.le_of_ble_eq_true rfl) dL_law_1281 (fun H locs hW => ?_)
  have hW := z_swap hW
  refine lv_aload_n hx hb dL_law_1284 rfl (lv_at hl 2 rfl) ?_
  refine lv_aload_n hx hb dL_law_1285 rfl (lv_at hl 0 rfl) ?_
  refine lv_iload_n hx hb dL_law_1286 rfl (lv_at hl 3 rfl) ?_
  refine lv_iconst (v := 1) hx hb dL_law_1287 (by decide) ?_
  refine lv_iadd hx hb dL_law_1288 ?_
  refine va_sld hx hb hX hbl hbA hW.2.2.1 (hi 1 (by decide)) dL_law_1289 ?_
  refine zl_i (rest := [.int rc]) hC hW (c_X7_count (d := 0) (Nat.le_refl _) h2) vw_L_169 WM_0 rfl (Nat.le_of_ble_eq_true rfl) (Nat.le_of_ble_eq_true rfl) rfl rfl hl.1 (Nat.le_of_ble_eq_true rfl) dL_law_1290 (fun H locs hW => ?_)
  have hW := z_swap hW
  refine lv_icmp_eq (tgt := 1298) hx hb dL_law_1293 (by decide) (fun _ => ?_) (fun c => absurd h3 c)
  exact kk H locs ls (LW_mk hI' hW) hl
