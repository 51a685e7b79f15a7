/-! of -/
theorem in_0 (x : Int32) (n : Nat) (hn : n < 2 ^ 31) : f_X7_in x 0 (nI n - 1) = some (if x < 0 ∨ nI n ≤ x then 0 else 1) := s_isWall7 x n hn
set_option maxHeartbeats 2000000 in
theorem pu_of {T_price : Nat → Int32} {T_year : Nat → Int32} {T_joinEnds : Nat → Int32} {T_wallEnds : Nat → Int32} {T_cost : Nat → Int32} {T_doors : Int32} {T_joins : Int32} {T_walls : Int32} {T_oldWells : Int32} {T_apart : Int32} {L_tape : Nat → Int32} {L_text : Nat → Int32} {L_fed : Int32} {L_length : Int32} {L_read : Nat} {L_end : Int32} {L_at : Int32} {L_fault : Int32} {L_d : Int32} {L_p : Int32} {L_y : Int32} {L_j : Int32} {L_o : Int32} {P_away : Nat → Nat → Int32} {P_beside : Nat → Int32} {P_reach : Nat → Int32} {P_serves : Nat → Int32} {P_crowds : Nat → Int32} {P_servedLow : Nat → Int32} {P_servedHigh : Nat → Int32} {P_crowdedLow : Nat → Int32} {P_crowdedHigh : Nat → Int32} {P_there : Int32} {P_must : Int32} {P_can : Int32} {C_what : Nat → Int32} {C_number : Nat → Int32} {C_before : Nat → Int32} {C_after : Nat → Int32} {C_done : Int32} {C_kept : Int32} {A_kinds : Nat → Int32} {A_traced : Nat → Int32} {A_bodies : Int32} {A_began : Int32} {A_self : Int32} {A_kindOfSelf : Int32} {S_holds : Nat → Int32} {S_body : Nat → Int32} {S_sort : Nat → Int32} {S_size : Nat → Int32} {S_elements : Nat → Nat → Int64} {G_grown : Nat → Int32} {M_code : Int32} {M_doors : Int32} {M_price : Nat → Int32} {M_year : Nat → Int32} {M_joins : Int32} {M_joinA : Nat → Int32} {M_joinB : Nat → Int32} {M_walls : Int32} {M_wallA : Nat → Int32} {M_wallB : Nat → Int32} {M_cost : Nat → Int32} {M_olds : Int32} {M_near : Int32} {M_doneMany : Int32} {M_undoneMany : Int32} {M_changeOf : Nat → Int32} {M_changeAt : Nat → Int32} {M_before : Nat → Int32} {M_behind : Nat → Int32} {M_tape : Nat → Int32} {M_taped : Int32} {M_here : Int32} {M_fault : Int32} {M_open : Int32} {M_laid : Int32} {M_act : Nat → Int32} {M_with : Nat → Int32} {M_lineMany : Nat → Int32} {M_testEnd : Nat → Int32} {M_lineEnd : Nat → Int32} {M_facts : Nat → Int32} {M_pile : Nat → Int32} {M_hasLaw : Int32} {M_far : Nat → Int32} {M_within : Nat → Int32} {M_tooNear : Nat → Int32} {M_dried : Int32} {M_isOn : Nat → Int32} {M_wasOn : Nat → Int32} {M_bodies : Int32} {M_kind : Nat → Int32} {M_traces : Int32} {M_traced : Nat → Int32} {M_holds : Nat → Int32} {M_size : Nat → Int32} {M_elements : Nat → Int64} {M_shifted : Nat → Int64} (hI : INV T_price T_year T_joinEnds T_wallEnds T_cost T_doors T_joins T_walls T_oldWells T_apart L_tape L_text L_fed L_length L_read L_end L_at L_fault L_d L_p L_y L_j L_o P_away P_beside P_reach P_serves P_crowds P_servedLow P_servedHigh P_crowdedLow P_crowdedHigh P_there P_must P_can C_what C_number C_before C_after C_done C_kept A_kinds A_traced A_bodies A_began A_self A_kindOfSelf S_holds S_body S_sort S_size S_elements G_grown M_code M_doors M_price M_year M_joins M_joinA M_joinB M_walls M_wallA M_wallB M_cost M_olds M_near M_doneMany M_undoneMany M_changeOf M_changeAt M_before M_behind M_tape M_taped M_here M_fault M_open M_laid M_act M_with M_lineMany M_testEnd M_lineEnd M_facts M_pile M_hasLaw M_far M_within M_tooNear M_dried M_isOn M_wasOn M_bodies M_kind M_traces M_traced M_holds M_size M_elements M_shifted) (a1 : Int32) (a2 : Int32) : ∃ (rc : Int32 × Nat × Int32 × Int32 × Int32 × Int32 × Int32 × Int32 × Int32 × Int32) (rm : Int32 × (Nat → Int32) × (Nat → Int32)), f_X6_of a1 a2 T_price T_year T_joinEnds T_wallEnds T_cost T_doors T_joins T_walls T_oldWells L_text L_length L_read L_end L_at L_fault L_d L_p L_y L_j L_o = some rc ∧ f_X7_of a1 a2 M_doors M_price M_year M_joins M_joinA M_joinB M_walls M_wallA M_wallB M_cost M_olds M_act M_with M_lineMany M_testEnd M_lineEnd M_facts M_pile M_hasLaw = some rm ∧ rc.1 = rm.1 ∧ INV T_price T_year T_joinEnds T_wallEnds T_cost T_doors T_joins T_walls T_oldWells T_apart L_tape L_text L_fed L_length rc.2.1 rc.2.2.1 rc.2.2.2.1 rc.2.2.2.2.1 rc.2.2.2.2.2.1 rc.2.2.2.2.2.2.1 rc.2.2.2.2.2.2.2.1 rc.2.2.2.2.2.2.2.2.1 rc.2.2.2.2.2.2.2.2.2 P_away P_beside P_reach P_serves P_crowds P_servedLow P_servedHigh P_crowdedLow P_crowdedHigh P_there P_must P_can C_what C_number C_before C_after C_done C_kept A_kinds A_traced A_bodies A_began A_self A_kindOfSelf S_holds S_body S_sort S_size S_elements G_grown M_code M_doors M_price M_year M_joins M_joinA M_joinB M_walls M_wallA M_wallB M_cost M_olds M_near M_doneMany M_undoneMany M_changeOf M_changeAt M_before M_behind M_tape M_taped M_here M_fault M_open M_laid M_act M_with M_lineMany M_testEnd M_lineEnd rm.2.1 rm.2.2 M_hasLaw M_far M_within M_tooNear M_dried M_isOn M_wasOn M_bodies M_kind M_traces M_traced M_holds M_size M_elements M_shifted := by
  have hI0 := hI
  obtain ⟨n, kj, kw, o, v, nb, hT, hL, hC, hA, hS⟩ := hI
  obtain ⟨A, B, rch, hset⟩ := SET_ex hT hL o
  have hT0 := hT
  obtain ⟨⟨b1, b2, b3, b4, b5⟩, ⟨rfl, rfl, rfl, rfl, rfl, rfl, rfl, rfl, rfl, rfl, rfl⟩, h1, h2, h3, h4, h5⟩ := hT
  have z1 : ¬ (1 : Int32) = 0 := by decide
  unfold f_X6_of f_X7_of
  rw [s_in, bd_of, i01]
  by_cases q : a2 < 0 ∨ 3 < a2
  · have e6 : ∀ {α : Type} {a b : α}, (if a2 < 0 then a else if 3 < a2 then a else b) = a := by
      intro α a b
      rcases q with q | q
      · rw [if_pos q]
      · by_cases z : a2 < 0
        · rw [if_pos z]
        · rw [if_neg z, if_pos q]
    rw [e6, if_pos q]
    unfold f_X6_of_b31 f_X6_of_b78
    by_cases q10 : a2 = 10
    · rw [if_pos q10, if_pos q10, in_0 _ _ (by omega), bd_of, i01]
      by_cases q3 : a1 < 0 ∨ nI kj ≤ a1
      · rw [if_pos q3]
        rcases q3 with q3 | q3
        · rw [if_pos q3]
          exact ⟨_, _, rfl, rfl, rfl, hI0⟩
        · by_cases z : a1 < 0
          · rw [if_pos z]
            exact ⟨_, _, rfl, rfl, rfl, hI0⟩
          · rw [if_neg z, if_pos q3]
            exact ⟨_, _, rfl, rfl, rfl, hI0⟩
      · obtain ⟨i, hi, rfl⟩ := nI_lt_of (show kj < 2 ^ 31 by omega) q3
        obtain ⟨a, b, e1, e2, e3, e4, e5, e7⟩ := h3 i hi
        rw [if_neg q3, if_neg (fun z => q3 (Or.inl z)), if_neg (fun z => q3 (Or.inr z)), ix_nI (show i < 40 by omega) (by decide), ix_nI (show i < 41 by omega) (by decide), ix_nI (show i < 41 by omega) (by decide), cl_nI (by omega), e4, e5, e7, L_100, pk_mul, nI_add]
        exact ⟨_, _, rfl, rfl, rfl, hI0⟩
    rw [if_neg q10, if_neg q10, s_in, bd_of, i01, in_0 _ _ (by omega), bd_of, i01, s_isWall5, bd_of, i01]
    have hcase : (a2 = 20 ∨ a2 = 21) ∨ (a2 < 20 ∨ 21 < a2) := by
      by_cases z : a2 < 20 ∨ 21 < a2
      · exact Or.inr z
      · refine Or.inl ?_
        have z2 : ¬ a2 < 0 := fun y => z (Or.inl (Int32.lt_trans y (by decide)))
        obtain ⟨k, hk, rfl⟩ := nI_of z2
        have e20 : (20 : Int32) = nI 20 := rfl
        have e21 : (21 : Int32) = nI 21 := rfl
        rw [e20, e21, lt_nI hk (by decide), lt_nI (by decide) hk] at z
        have : k = 20 ∨ k = 21 := by omega
        rcases this with rfl | rfl
        · exact Or.inl rfl
        · exact Or.inr rfl
    rcases hcase with hcase | hcase
    · have n1 : ¬ (a2 < 20 ∨ 21 < a2) := by
        rcases hcase with rfl | rfl <;> decide
      rw [if_neg n1]
      by_cases q3 : a1 < 0 ∨ nI kw ≤ a1
      · rw [if_pos q3, if_pos q3]
        rcases hcase with rfl | rfl
        · rw [if_pos rfl]
          exact ⟨_, _, rfl, rfl, rfl, hI0⟩
        · rw [if_neg (by decide), if_pos rfl]
          exact ⟨_, _, rfl, rfl, rfl, hI0⟩
      · obtain ⟨i, hi, rfl⟩ := nI_lt_of (show kw < 2 ^ 31 by omega) q3
        obtain ⟨a, b, e1, e2, e3, e4, e5, e7⟩ := h4 i hi
        rw [if_neg q3, if_neg q3]
        simp only [ix_nI (show i < 10 by omega) (show 10 < 2 ^ 31 by decide), cl_nI (show i < 2 ^ 31 by omega), e4, e5, e7]
        rcases hcase with rfl | rfl
        · rw [if_pos rfl, if_pos rfl, if_pos rfl, L_100, pk_mul, nI_add]
          exact ⟨_, _, rfl, rfl, rfl, hI0⟩
        · have n2 : ¬ (21 : Int32) = 20 := by decide
          rw [if_neg n2, if_pos rfl, if_neg n2, if_neg n2]
          exact ⟨_, _, rfl, rfl, (h5 i hi).1, hI0⟩
    · have n20 : ¬ a2 = 20 := by
        rintro rfl
        exact absurd hcase (by decide)
      have n21 : ¬ a2 = 21 := by
        rintro rfl
        exact absurd hcase (by decide)
      rw [if_pos hcase, if_neg n20, if_neg n21]
      exact ⟨_, _, rfl, rfl, rfl, hI0⟩
  · rw [if_neg (fun z => q (Or.inl z)), if_neg (fun z => q (Or.inr z)), if_neg q, s_isDoor5, bd_of, i01, s_isDoor7 _ n (by omega), bd_of, i01]
    by_cases q3 : a1 < 0 ∨ nI n ≤ a1
    · rw [if_pos q3, if_pos q3]
      exact ⟨_, _, rfl, rfl, rfl, hI0⟩
    rw [if_neg q3, if_neg q3]
    obtain ⟨i, hi, rfl⟩ := nI_lt_of (show n < 2 ^ 31 by omega) q3
    unfold f_X6_ofDoor
    obtain ⟨rd, e, a, f, d', p', y', j', o', g⟩ := hset.2.2.2.1 i hi L_read L_end L_at L_fault L_d L_p L_y L_j L_o
    obtain ⟨f7, p7, g7⟩ := hset.2.2.2.2 i hi M_facts M_pile
    rw [s_joinsAt b1 (show i < 14 by omega) hset.2.1, s_joinsOf b1 (show i < 14 by omega) hset.2.2.1, g, g7]
    simp only [ix_nI (show i < 14 by omega) (show 14 < 2 ^ 31 by decide), cl_nI (show i < 2 ^ 31 by omega)]
    by_cases q4 : a2 = 0
    · rw [if_pos q4, if_pos q4]
      exact ⟨_, _, rfl, rfl, (h1 i hi).1, hI0⟩
    by_cases q5 : a2 = 1
    · rw [if_neg q4, if_neg q4, if_pos q5, if_pos q5]
      exact ⟨_, _, rfl, rfl, (h2 i hi).1, hI0⟩
    by_cases q6 : a2 = 2
    · rw [if_neg q4, if_neg q4, if_neg q5, if_neg q5, if_pos q6, if_pos q6]
      exact ⟨_, _, rfl, rfl, rfl, hI0⟩
    · rw [if_neg q4, if_neg q4, if_neg q5, if_neg q5, if_neg q6, if_neg q6]
      exact ⟨_, _, rfl, rfl, rfl, n, kj, kw, o, v, nb, hT0, hL, hC, hA, hS⟩
