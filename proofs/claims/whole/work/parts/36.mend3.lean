theorem C_put {n kw d : Nat} {A B C D A' B' C' D' : Nat → Int32} {wt x pb pe : Nat} (hv1 : c_val n kw wt x pb) (hv2 : c_val n kw wt x pe)
    (h : ∀ i, i < d → A i = A' i ∧ B i = B' i ∧ C i = C' i ∧ D i = D' i ∧ chg_ok n kw (A' i) (B' i) (C' i) (D' i)) :
    ∀ i, i < d + 1 → upd A d (nI wt) i = upd A' d (nI wt) i ∧ upd B d (nI x) i = upd B' d (nI x) i ∧ upd C d (nI pb) i = upd C' d (nI pb) i ∧ upd D d (nI pe) i = upd D' d (nI pe) i ∧ chg_ok n kw (upd A' d (nI wt) i) (upd B' d (nI x) i) (upd C' d (nI pb) i) (upd D' d (nI pe) i) := by
  intro i hi
  by_cases e : i = d
  · subst e
    simp only [upd_eq (α := Nat)]
    refine ⟨trivial, trivial, trivial, trivial, wt, x, pb, pe, rfl, rfl, rfl, rfl, ?_⟩
    unfold c_val at hv1 hv2
    omega
  · simp only [upd_ne e]
    exact h i (by omega)
set_option maxHeartbeats 2000000 in
theorem pu_mend {T_price : Nat → Int32} {T_year : Nat → Int32} {T_joinEnds : Nat → Int32} {T_wallEnds : Nat → Int32} {T_cost : Nat → Int32} {T_doors : Int32} {T_joins : Int32} {T_walls : Int32} {T_oldWells : Int32} {T_apart : Int32} {L_tape : Nat → Int32} {L_text : Nat → Int32} {L_fed : Int32} {L_length : Int32} {L_read : Nat} {L_end : Int32} {L_at : Int32} {L_fault : Int32} {L_d : Int32} {L_p : Int32} {L_y : Int32} {L_j : Int32} {L_o : Int32} {P_away : Nat → Nat → Int32} {P_beside : Nat → Int32} {P_reach : Nat → Int32} {P_serves : Nat → Int32} {P_crowds : Nat → Int32} {P_servedLow : Nat → Int32} {P_servedHigh : Nat → Int32} {P_crowdedLow : Nat → Int32} {P_crowdedHigh : Nat → Int32} {P_there : Int32} {P_must : Int32} {P_can : Int32} {C_what : Nat → Int32} {C_number : Nat → Int32} {C_before : Nat → Int32} {C_after : Nat → Int32} {C_done : Int32} {C_kept : Int32} {A_kinds : Nat → Int32} {A_traced : Nat → Int32} {A_bodies : Int32} {A_began : Int32} {A_self : Int32} {A_kindOfSelf : Int32} {S_holds : Nat → Int32} {S_body : Nat → Int32} {S_sort : Nat → Int32} {S_size : Nat → Int32} {S_elements : Nat → Nat → Int64} {G_grown : Nat → Int32} {M_code : Int32} {M_doors : Int32} {M_price : Nat → Int32} {M_year : Nat → Int32} {M_joins : Int32} {M_joinA : Nat → Int32} {M_joinB : Nat → Int32} {M_walls : Int32} {M_wallA : Nat → Int32} {M_wallB : Nat → Int32} {M_cost : Nat → Int32} {M_olds : Int32} {M_near : Int32} {M_doneMany : Int32} {M_undoneMany : Int32} {M_changeOf : Nat → Int32} {M_changeAt : Nat → Int32} {M_before : Nat → Int32} {M_behind : Nat → Int32} {M_tape : Nat → Int32} {M_taped : Int32} {M_here : Int32} {M_fault : Int32} {M_open : Int32} {M_laid : Int32} {M_act : Nat → Int32} {M_with : Nat → Int32} {M_lineMany : Nat → Int32} {M_testEnd : Nat → Int32} {M_lineEnd : Nat → Int32} {M_facts : Nat → Int32} {M_pile : Nat → Int32} {M_hasLaw : Int32} {M_far : Nat → Int32} {M_within : Nat → Int32} {M_tooNear : Nat → Int32} {M_dried : Int32} {M_isOn : Nat → Int32} {M_wasOn : Nat → Int32} {M_bodies : Int32} {M_kind : Nat → Int32} {M_traces : Int32} {M_traced : Nat → Int32} {M_holds : Nat → Int32} {M_size : Nat → Int32} {M_elements : Nat → Int64} {M_shifted : Nat → Int64} (hI : INV T_price T_year T_joinEnds T_wallEnds T_cost T_doors T_joins T_walls T_oldWells T_apart L_tape L_text L_fed L_length L_read L_end L_at L_fault L_d L_p L_y L_j L_o P_away P_beside P_reach P_serves P_crowds P_servedLow P_servedHigh P_crowdedLow P_crowdedHigh P_there P_must P_can C_what C_number C_before C_after C_done C_kept A_kinds A_traced A_bodies A_began A_self A_kindOfSelf S_holds S_body S_sort S_size S_elements G_grown M_code M_doors M_price M_year M_joins M_joinA M_joinB M_walls M_wallA M_wallB M_cost M_olds M_near M_doneMany M_undoneMany M_changeOf M_changeAt M_before M_behind M_tape M_taped M_here M_fault M_open M_laid M_act M_with M_lineMany M_testEnd M_lineEnd M_facts M_pile M_hasLaw M_far M_within M_tooNear M_dried M_isOn M_wasOn M_bodies M_kind M_traces M_traced M_holds M_size M_elements M_shifted) (a1 : Int32) (a2 : Int32) (a3 : Int32) : ∃ (rc : Int32 × (Nat → Int32) × (Nat → Int32) × (Nat → Int32) × (Nat → Int32) × (Nat → Int32) × (Nat → Int32) × (Nat → Int32) × Int32 × Int32) (rm : Int32 × (Nat → Int32) × (Nat → Int32) × (Nat → Int32) × Int32 × Int32 × (Nat → Int32) × (Nat → Int32) × (Nat → Int32) × (Nat → Int32)), f_X6_mend a1 a2 a3 T_price T_year T_cost T_doors T_walls C_what C_number C_before C_after C_done C_kept = some rc ∧ f_X7_mend a1 a2 a3 M_doors M_price M_year M_walls M_cost M_doneMany M_undoneMany M_changeOf M_changeAt M_before M_behind = some rm ∧ rc.1 = rm.1 ∧ INV rc.2.1 rc.2.2.1 T_joinEnds T_wallEnds rc.2.2.2.1 T_doors T_joins T_walls T_oldWells T_apart L_tape L_text L_fed L_length L_read L_end L_at L_fault L_d L_p L_y L_j L_o P_away P_beside P_reach P_serves P_crowds P_servedLow P_servedHigh P_crowdedLow P_crowdedHigh P_there P_must P_can rc.2.2.2.2.1 rc.2.2.2.2.2.1 rc.2.2.2.2.2.2.1 rc.2.2.2.2.2.2.2.1 rc.2.2.2.2.2.2.2.2.1 rc.2.2.2.2.2.2.2.2.2 A_kinds A_traced A_bodies A_began A_self A_kindOfSelf S_holds S_body S_sort S_size S_elements G_grown M_code M_doors rm.2.1 rm.2.2.1 M_joins M_joinA M_joinB M_walls M_wallA M_wallB rm.2.2.2.1 M_olds M_near rm.2.2.2.2.1 rm.2.2.2.2.2.1 rm.2.2.2.2.2.2.1 rm.2.2.2.2.2.2.2.1 rm.2.2.2.2.2.2.2.2.1 rm.2.2.2.2.2.2.2.2.2 M_tape M_taped M_here M_fault M_open M_laid M_act M_with M_lineMany M_testEnd M_lineEnd M_facts M_pile M_hasLaw M_far M_within M_tooNear M_dried M_isOn M_wasOn M_bodies M_kind M_traces M_traced M_holds M_size M_elements M_shifted := by
  have hI0 := hI
  obtain ⟨n, kj, kw, o, v, nb, hT, hL, ⟨d, kp, h1, h2, rfl, rfl, rfl, rfl, hc⟩, hA, hS⟩ := hI
  have hT0 := hT
  obtain ⟨⟨b1, b2, b3, b4, b5⟩, ⟨rfl, rfl, e3, e4, rfl, rfl, -⟩, -⟩ := hT
  unfold f_X6_mend
  rcases s_can a1 a2 a3 n kw b1 b3 with ⟨g1, g2⟩ | ⟨g1, wt, x, p, hv, rfl, rfl, rfl, g2⟩
  · rw [g1, g2]
    exact ⟨_, _, rfl, rfl, rfl, hI0⟩
  obtain ⟨pb, P, Y, K, P', Y', K', hvb, t1, t2, t3, t4, t5⟩ := T_lays hT0 hv
  have hpb : pb ≤ 99 := by unfold c_val at hvb; omega
  have hp : p ≤ 99 := by unfold c_val at hv; omega
  rw [g1, g2]
  unfold f_X7_changes
  have z1 : ¬ (1 : Int32) = 0 := by decide
  simp only [bd_of, if_neg z1, t1, t2, eq_nI (show pb < 2 ^ 31 by omega) (show p < 2 ^ 31 by omega)]
  by_cases h3 : pb = p
  · simp only [if_pos h3]
    exact ⟨_, _, rfl, rfl, rfl, n, kj, kw, o, v, nb, t5 h3, hL, ⟨d, kp, h1, h2, rfl, rfl, rfl, rfl, hc⟩, hA, hS⟩
  simp only [if_neg h3]
  unfold f_X1_note
  simp only [L_40, lt_nI (show d < 2 ^ 31 by omega) (show 40 < 2 ^ 31 by decide), eq_nI (show d < 2 ^ 31 by omega) (show 40 < 2 ^ 31 by decide)]
  by_cases h4 : d < 40
  · simp only [if_pos h4, if_neg (show ¬ d = 40 by omega)]
    unfold f_X1_note_b13 f_X7_changes_b121
    simp only [ix_nI h4 (by decide), cl_nI (show d < 2 ^ 31 by omega), t3, bd_of, nI_1]
    refine ⟨_, _, rfl, rfl, rfl, n, kj, kw, o, v, nb, t4, hL, ⟨d + 1, d + 1, by omega, by omega, rfl, rfl, rfl, ?_, C_put hvb hv fun i hi => hc i (by omega)⟩, hA, hS⟩
    dsimp only
    rw [L_0]
    congr 1
    omega
  · have e : d = 40 := by omega
    subst e
    simp only [if_neg h4, if_true]
    unfold f_X1_forgetFirst
    have k1 : ∀ (f : Nat → Int32) (α : Type) (z : Option α), cpg 1 0 39 40 40 f false z = z := by
      intro f α z
      unfold cpg
      rw [if_pos ⟨by decide, fun h => by cases h⟩]
    have k2 : Int32.toNatClampNeg (nI 1) = 1 := rfl
    have k3 : Int32.toNatClampNeg 0 = 0 := rfl
    have k4 : Int32.toNatClampNeg 39 = 39 := rfl
    have k5 : (39 : Int32) = nI 39 := rfl
    have k6 : ∀ f : Nat → Int32, f = dn f 1 := by
      intro f
      funext i
      unfold dn
      rw [if_neg (by omega)]
    have k7 : nI 40 - 1 = nI 39 := rfl
    have sd := s_down (nI wt) (nI x) (nI p) (nI pb) M_price M_year M_cost (nI 40) 0 M_changeOf M_changeAt M_before M_behind 39 fuel 1 (by omega) (by omega) (by unfold fuel; omega)
    rw [← k6, ← k6, ← k6, ← k6, k7] at sd
    simp only [k1, bd_of, L_1, sd, k2, k3, k4]
    unfold f_X1_note_b13 f_X7_changes_b121
    simp only [k5, ix_nI (show 39 < 40 by decide) (show 40 < 2 ^ 31 by decide), cl_nI (show 39 < 2 ^ 31 by decide), t3, bd_of]
    refine ⟨_, _, rfl, rfl, rfl, n, kj, kw, o, v, nb, t4, hL, ⟨40, 40, by omega, by omega, rfl, rfl, rfl, rfl, ?_⟩, hA, hS⟩
    refine C_put (d := 39) hvb hv fun i hi => ?_
    simp only [dn_cpy, dn]
    simp only [show i + 1 < 40 by omega, if_true]
    exact hc (i + 1) (by omega)
