/-! putting, reading, moving on shelves -/
theorem neg2 : ∀ t, t ≤ 4 → (-2 : Int32) - (-2 - nI t) = nI t ∧ (-2 - nI t) < 0 ∧ ¬ (-2 - nI t) = -1 ∧ ¬ 0 ≤ (-2 - nI t) := by decide +kernel
theorem neg2_inj : ∀ t, t ≤ 4 → ∀ s, s ≤ 4 → (-2 - nI t) = (-2 - nI s) → t = s := by decide +kernel
theorem ns_le {k a : Nat} (hk : k ≤ 60) {x : Int32} (hx : x = nI a) (ha : a < 2 ^ 31) : (x < 0 ∨ (nI k - 1) < x) = (k ≤ a) := by
  subst hx
  rw [in_below _ _ (by omega), lt0_nI ha, le_nI (by omega) ha]
  simp
/-- a place of a row: the same refusal, or the same row -/
theorem s_place {nb : Nat} {S_holds S_body S_sort S_size : Nat → Int32} {S_elements : Nat → Nat → Int64} {M_holds M_size : Nat → Int32} {M_elements : Nat → Int64} (hS : IShelf nb S_holds S_body S_sort S_size S_elements M_holds M_size M_elements) (hb : nb ≤ 50) (a1 a2 : Int32) :
    (∃ r : Int32, ¬ r = 0 ∧ ¬ 0 ≤ r ∧ f_X6_refusalOf a1 a2 S_holds S_size = some r ∧ f_X7_whyNoPlace a1 a2 M_holds M_size = some r) ∨
    (f_X6_refusalOf a1 a2 S_holds S_size = some 0 ∧ f_X7_whyNoPlace a1 a2 M_holds M_size = some 0 ∧ ∃ x q t k, x < 6 ∧ q < k ∧ k ≤ 60 ∧ t ≤ 4 ∧ a1 = nI x ∧ a2 = nI q ∧ S_holds x = 2 ∧ S_sort x = nI t ∧ M_holds x = -2 - nI t ∧ S_size x = nI k ∧ M_size x = nI k ∧ ∀ i, i < 60 → S_elements x i = M_elements (60 * x + i)) := by
  unfold f_X6_refusalOf f_X7_whyNoPlace
  simp only [s_isShelf6, s_isShelf7, bd_of, i01, s_in]
  by_cases h1 : a1 < 0 ∨ nI 6 ≤ a1
  · simp only [if_pos h1]
    exact Or.inl ⟨-1, by decide, by decide, rfl, rfl⟩
  simp only [if_neg h1]
  obtain ⟨x, hx, rfl⟩ := nI_lt_of (k := 6) (by decide) h1
  simp only [ix_nI hx (by decide), cl_nI (show x < 2 ^ 31 by omega)]
  have z2 : ¬ (2 : Int32) = 0 := by decide
  have z3 : ¬ (1 : Int32) = 0 := by decide
  have z4 : ¬ (1 : Int32) = 2 := by decide
  rcases hS x hx with ⟨g1, g2⟩ | ⟨g1, p, hp, g2, g3⟩ | ⟨g1, t, k, ht, hk, g2, g3, g4, g5, g6⟩
  · simp only [g1, g2, if_true]
    exact Or.inl ⟨-11, by decide, by decide, rfl, rfl⟩
  · have n1 : ¬ nI p = -1 := by
      intro e
      have := nI_pos (n := p) (by omega)
      rw [e] at this
      exact this (by decide)
    simp only [g1, g3, if_neg z3, if_neg z4, if_neg n1, if_neg (nI_pos (n := p) (by omega))]
    exact Or.inl ⟨-12, by decide, by decide, rfl, rfl⟩
  · obtain ⟨-, n1, n2, -⟩ := neg2 t ht
    simp only [g1, g3, g4, g5, if_neg z2, if_true, if_neg n2, if_pos n1, in_below _ k (show k < 2 ^ 31 by omega)]
    by_cases h2 : a2 < 0
    · simp only [if_pos h2, if_pos (show a2 < 0 ∨ nI k ≤ a2 from Or.inl h2)]
      exact Or.inl ⟨-13, by decide, by decide, rfl, rfl⟩
    · by_cases h3 : nI k ≤ a2
      · simp only [if_neg h2, if_pos h3, if_pos (show a2 < 0 ∨ nI k ≤ a2 from Or.inr h3)]
        exact Or.inl ⟨-13, by decide, by decide, rfl, rfl⟩
      · obtain ⟨q, hq, rfl⟩ := nI_lt_of (show k < 2 ^ 31 by omega) (show ¬ (a2 < 0 ∨ nI k ≤ a2) from fun z => z.elim h2 h3)
        simp only [if_neg h2, if_neg h3, if_neg (show ¬ (nI q < 0 ∨ nI k ≤ nI q) from fun z => z.elim h2 h3)]
        exact Or.inr ⟨trivial, trivial, x, q, t, k, hx, hq, hk, ht, rfl, rfl, g1, g2, g3, g4, g5, g6⟩
theorem pu_element {T_price : Nat → Int32} {T_year : Nat → Int32} {T_joinEnds : Nat → Int32} {T_wallEnds : Nat → Int32} {T_cost : Nat → Int32} {T_doors : Int32} {T_joins : Int32} {T_walls : Int32} {T_oldWells : Int32} {T_apart : Int32} {L_tape : Nat → Int32} {L_text : Nat → Int32} {L_fed : Int32} {L_length : Int32} {L_read : Nat} {L_end : Int32} {L_at : Int32} {L_fault : Int32} {L_d : Int32} {L_p : Int32} {L_y : Int32} {L_j : Int32} {L_o : Int32} {P_away : Nat → Nat → Int32} {P_beside : Nat → Int32} {P_reach : Nat → Int32} {P_serves : Nat → Int32} {P_crowds : Nat → Int32} {P_servedLow : Nat → Int32} {P_servedHigh : Nat → Int32} {P_crowdedLow : Nat → Int32} {P_crowdedHigh : Nat → Int32} {P_there : Int32} {P_must : Int32} {P_can : Int32} {C_what : Nat → Int32} {C_number : Nat → Int32} {C_before : Nat → Int32} {C_after : Nat → Int32} {C_done : Int32} {C_kept : Int32} {A_kinds : Nat → Int32} {A_traced : Nat → Int32} {A_bodies : Int32} {A_began : Int32} {A_self : Int32} {A_kindOfSelf : Int32} {S_holds : Nat → Int32} {S_body : Nat → Int32} {S_sort : Nat → Int32} {S_size : Nat → Int32} {S_elements : Nat → Nat → Int64} {G_grown : Nat → Int32} {M_code : Int32} {M_doors : Int32} {M_price : Nat → Int32} {M_year : Nat → Int32} {M_joins : Int32} {M_joinA : Nat → Int32} {M_joinB : Nat → Int32} {M_walls : Int32} {M_wallA : Nat → Int32} {M_wallB : Nat → Int32} {M_cost : Nat → Int32} {M_olds : Int32} {M_near : Int32} {M_doneMany : Int32} {M_undoneMany : Int32} {M_changeOf : Nat → Int32} {M_changeAt : Nat → Int32} {M_before : Nat → Int32} {M_behind : Nat → Int32} {M_tape : Nat → Int32} {M_taped : Int32} {M_here : Int32} {M_fault : Int32} {M_open : Int32} {M_laid : Int32} {M_act : Nat → Int32} {M_with : Nat → Int32} {M_lineMany : Nat → Int32} {M_testEnd : Nat → Int32} {M_lineEnd : Nat → Int32} {M_facts : Nat → Int32} {M_pile : Nat → Int32} {M_hasLaw : Int32} {M_far : Nat → Int32} {M_within : Nat → Int32} {M_tooNear : Nat → Int32} {M_dried : Int32} {M_isOn : Nat → Int32} {M_wasOn : Nat → Int32} {M_bodies : Int32} {M_kind : Nat → Int32} {M_traces : Int32} {M_traced : Nat → Int32} {M_holds : Nat → Int32} {M_size : Nat → Int32} {M_elements : Nat → Int64} {M_shifted : Nat → Int64} (hI : INV T_price T_year T_joinEnds T_wallEnds T_cost T_doors T_joins T_walls T_oldWells T_apart L_tape L_text L_fed L_length L_read L_end L_at L_fault L_d L_p L_y L_j L_o P_away P_beside P_reach P_serves P_crowds P_servedLow P_servedHigh P_crowdedLow P_crowdedHigh P_there P_must P_can C_what C_number C_before C_after C_done C_kept A_kinds A_traced A_bodies A_began A_self A_kindOfSelf S_holds S_body S_sort S_size S_elements G_grown M_code M_doors M_price M_year M_joins M_joinA M_joinB M_walls M_wallA M_wallB M_cost M_olds M_near M_doneMany M_undoneMany M_changeOf M_changeAt M_before M_behind M_tape M_taped M_here M_fault M_open M_laid M_act M_with M_lineMany M_testEnd M_lineEnd M_facts M_pile M_hasLaw M_far M_within M_tooNear M_dried M_isOn M_wasOn M_bodies M_kind M_traces M_traced M_holds M_size M_elements M_shifted) (a1 : Int32) (a2 : Int32) : ∃ (rc : Int64) (rm : Int64), f_X6_element a1 a2 S_holds S_size S_elements = some rc ∧ f_X7_element a1 a2 M_holds M_size M_elements = some rm ∧ rc = rm ∧ INV T_price T_year T_joinEnds T_wallEnds T_cost T_doors T_joins T_walls T_oldWells T_apart L_tape L_text L_fed L_length L_read L_end L_at L_fault L_d L_p L_y L_j L_o P_away P_beside P_reach P_serves P_crowds P_servedLow P_servedHigh P_crowdedLow P_crowdedHigh P_there P_must P_can C_what C_number C_before C_after C_done C_kept A_kinds A_traced A_bodies A_began A_self A_kindOfSelf S_holds S_body S_sort S_size S_elements G_grown M_code M_doors M_price M_year M_joins M_joinA M_joinB M_walls M_wallA M_wallB M_cost M_olds M_near M_doneMany M_undoneMany M_changeOf M_changeAt M_before M_behind M_tape M_taped M_here M_fault M_open M_laid M_act M_with M_lineMany M_testEnd M_lineEnd M_facts M_pile M_hasLaw M_far M_within M_tooNear M_dried M_isOn M_wasOn M_bodies M_kind M_traces M_traced M_holds M_size M_elements M_shifted := by
  have hI0 := hI
  obtain ⟨n, kj, kw, o, v, nb, hT, hL, hC, hA, hS⟩ := hI
  obtain ⟨hb, -⟩ := hA
  unfold f_X6_element f_X7_element
  rcases s_place hS hb a1 a2 with ⟨r, r0, r1, g1, g2⟩ | ⟨g1, g2, x, q, t, k, hx, hq, hk, ht, rfl, rfl, s1, s2, s3, s4, s5, s6⟩
  · simp only [g1, g2, bd_of, if_neg r0, if_neg r1]
    exact ⟨_, _, rfl, rfl, rfl, hI0⟩
  · have h0 : (0 : Int32) ≤ 0 := by decide
    simp only [g1, g2, bd_of, if_true, if_pos h0, ix_nI hx (by decide), ix_nI (show q < 60 by omega) (by decide), cl_nI (show x < 2 ^ 31 by omega), cl_nI (show q < 2 ^ 31 by omega), L_60, pk_mul, nI_add, ix_nI (show 60 * x + q < 360 by omega) (by decide), cl_nI (show 60 * x + q < 2 ^ 31 by omega)]
    exact ⟨_, _, rfl, rfl, s6 q (by omega), hI0⟩
theorem IShelf_put {nb : Nat} {S_holds S_body S_sort S_size : Nat → Int32} {S_elements : Nat → Nat → Int64} {M_holds M_size : Nat → Int32} {M_elements : Nat → Int64} (hS : IShelf nb S_holds S_body S_sort S_size S_elements M_holds M_size M_elements) {x q : Nat} (hx : x < 6) (hq : q < 60) (e : Int64) :
    IShelf nb S_holds S_body S_sort S_size (updR S_elements x (vp_updL (S_elements x) q e)) M_holds M_size (vp_updL M_elements (60 * x + q) e) := by
  intro j hj
  have key : (∀ i, i < 60 → S_elements j i = M_elements (60 * j + i)) → ∀ i, i < 60 → updR S_elements x (vp_updL (S_elements x) q e) j i = vp_updL M_elements (60 * x + q) e (60 * j + i) := by
    intro h i hi
    unfold updR
    by_cases hjx : j = x
    · subst hjx
      rw [if_pos rfl]
      by_cases hiq : i = q
      · subst hiq
        rw [pk_uLs, pk_uLs]
      · rw [pk_uLn hiq, pk_uLn (by omega)]
        exact h i hi
    · rw [if_neg hjx, pk_uLn (by omega)]
      exact h i hi
  rcases hS j hj with z | z | ⟨z1, t', k', z2, z3, z4, z5, z6, z7, z8⟩
  · exact Or.inl z
  · exact Or.inr (Or.inl z)
  · exact Or.inr (Or.inr ⟨z1, t', k', z2, z3, z4, z5, z6, z7, key z8⟩)
set_option maxHeartbeats 1000000 in
theorem pu_put {T_price : Nat → Int32} {T_year : Nat → Int32} {T_joinEnds : Nat → Int32} {T_wallEnds : Nat → Int32} {T_cost : Nat → Int32} {T_doors : Int32} {T_joins : Int32} {T_walls : Int32} {T_oldWells : Int32} {T_apart : Int32} {L_tape : Nat → Int32} {L_text : Nat → Int32} {L_fed : Int32} {L_length : Int32} {L_read : Nat} {L_end : Int32} {L_at : Int32} {L_fault : Int32} {L_d : Int32} {L_p : Int32} {L_y : Int32} {L_j : Int32} {L_o : Int32} {P_away : Nat → Nat → Int32} {P_beside : Nat → Int32} {P_reach : Nat → Int32} {P_serves : Nat → Int32} {P_crowds : Nat → Int32} {P_servedLow : Nat → Int32} {P_servedHigh : Nat → Int32} {P_crowdedLow : Nat → Int32} {P_crowdedHigh : Nat → Int32} {P_there : Int32} {P_must : Int32} {P_can : Int32} {C_what : Nat → Int32} {C_number : Nat → Int32} {C_before : Nat → Int32} {C_after : Nat → Int32} {C_done : Int32} {C_kept : Int32} {A_kinds : Nat → Int32} {A_traced : Nat → Int32} {A_bodies : Int32} {A_began : Int32} {A_self : Int32} {A_kindOfSelf : Int32} {S_holds : Nat → Int32} {S_body : Nat → Int32} {S_sort : Nat → Int32} {S_size : Nat → Int32} {S_elements : Nat → Nat → Int64} {G_grown : Nat → Int32} {M_code : Int32} {M_doors : Int32} {M_price : Nat → Int32} {M_year : Nat → Int32} {M_joins : Int32} {M_joinA : Nat → Int32} {M_joinB : Nat → Int32} {M_walls : Int32} {M_wallA : Nat → Int32} {M_wallB : Nat → Int32} {M_cost : Nat → Int32} {M_olds : Int32} {M_near : Int32} {M_doneMany : Int32} {M_undoneMany : Int32} {M_changeOf : Nat → Int32} {M_changeAt : Nat → Int32} {M_before : Nat → Int32} {M_behind : Nat → Int32} {M_tape : Nat → Int32} {M_taped : Int32} {M_here : Int32} {M_fault : Int32} {M_open : Int32} {M_laid : Int32} {M_act : Nat → Int32} {M_with : Nat → Int32} {M_lineMany : Nat → Int32} {M_testEnd : Nat → Int32} {M_lineEnd : Nat → Int32} {M_facts : Nat → Int32} {M_pile : Nat → Int32} {M_hasLaw : Int32} {M_far : Nat → Int32} {M_within : Nat → Int32} {M_tooNear : Nat → Int32} {M_dried : Int32} {M_isOn : Nat → Int32} {M_wasOn : Nat → Int32} {M_bodies : Int32} {M_kind : Nat → Int32} {M_traces : Int32} {M_traced : Nat → Int32} {M_holds : Nat → Int32} {M_size : Nat → Int32} {M_elements : Nat → Int64} {M_shifted : Nat → Int64} (hI : INV T_price T_year T_joinEnds T_wallEnds T_cost T_doors T_joins T_walls T_oldWells T_apart L_tape L_text L_fed L_length L_read L_end L_at L_fault L_d L_p L_y L_j L_o P_away P_beside P_reach P_serves P_crowds P_servedLow P_servedHigh P_crowdedLow P_crowdedHigh P_there P_must P_can C_what C_number C_before C_after C_done C_kept A_kinds A_traced A_bodies A_began A_self A_kindOfSelf S_holds S_body S_sort S_size S_elements G_grown M_code M_doors M_price M_year M_joins M_joinA M_joinB M_walls M_wallA M_wallB M_cost M_olds M_near M_doneMany M_undoneMany M_changeOf M_changeAt M_before M_behind M_tape M_taped M_here M_fault M_open M_laid M_act M_with M_lineMany M_testEnd M_lineEnd M_facts M_pile M_hasLaw M_far M_within M_tooNear M_dried M_isOn M_wasOn M_bodies M_kind M_traces M_traced M_holds M_size M_elements M_shifted) (a1 : Int32) (a2 : Int32) (a3 : Int64) : ∃ (rc : Int32 × (Nat → Nat → Int64)) (rm : Int32 × (Nat → Int64)), f_X6_put a1 a2 a3 S_holds S_sort S_size S_elements = some rc ∧ f_X7_put a1 a2 a3 M_holds M_size M_elements = some rm ∧ rc.1 = rm.1 ∧ INV T_price T_year T_joinEnds T_wallEnds T_cost T_doors T_joins T_walls T_oldWells T_apart L_tape L_text L_fed L_length L_read L_end L_at L_fault L_d L_p L_y L_j L_o P_away P_beside P_reach P_serves P_crowds P_servedLow P_servedHigh P_crowdedLow P_crowdedHigh P_there P_must P_can C_what C_number C_before C_after C_done C_kept A_kinds A_traced A_bodies A_began A_self A_kindOfSelf S_holds S_body S_sort S_size rc.2 G_grown M_code M_doors M_price M_year M_joins M_joinA M_joinB M_walls M_wallA M_wallB M_cost M_olds M_near M_doneMany M_undoneMany M_changeOf M_changeAt M_before M_behind M_tape M_taped M_here M_fault M_open M_laid M_act M_with M_lineMany M_testEnd M_lineEnd M_facts M_pile M_hasLaw M_far M_within M_tooNear M_dried M_isOn M_wasOn M_bodies M_kind M_traces M_traced M_holds M_size rm.2 M_shifted := by
  have hI0 := hI
  obtain ⟨n, kj, kw, o, v, nb, hT, hL, hC, hA, hS⟩ := hI
  have hb := hA.1
  unfold f_X6_put f_X7_put
  rcases s_place hS hb a1 a2 with ⟨r, r0, r1, g1, g2⟩ | ⟨g1, g2, x, q, t, k, hx, hq, hk, ht, rfl, rfl, s1, s2, s3, s4, s5, s6⟩
  · simp only [g1, g2, bd_of, if_neg r0, if_neg r1]
    exact ⟨_, _, rfl, rfl, rfl, hI0⟩
  · have h0 : (0 : Int32) ≤ 0 := by decide
    unfold f_X4_lowestBits f_X7_put_b95
    obtain ⟨n0, -⟩ := neg2 t ht
    simp only [g1, g2, bd_of, if_true, if_pos h0, ix_nI hx (by decide), ix_nI (show q < 60 by omega) (by decide), cl_nI (show x < 2 ^ 31 by omega), cl_nI (show q < 2 ^ 31 by omega), L_60, pk_mul, nI_add, ix_nI (show 60 * x + q < 360 by omega) (by decide), cl_nI (show 60 * x + q < 2 ^ 31 by omega), s2, s3, n0]
    have fin : ∀ e : Int64, ∃ (rc : Int32 × (Nat → Nat → Int64)) (rm : Int32 × (Nat → Int64)), some ((1 : Int32), updR S_elements x (vp_updL (S_elements x) q e)) = some rc ∧ some ((1 : Int32), vp_updL M_elements (60 * x + q) e) = some rm ∧ rc.1 = rm.1 ∧ ∃ n kj kw o v nb : Nat, ITown n kj kw o v T_price T_year T_joinEnds T_wallEnds T_cost T_doors T_joins T_walls T_oldWells T_apart M_doors M_price M_year M_joins M_joinA M_joinB M_walls M_wallA M_wallB M_cost M_olds M_near M_dried ∧ ILaw L_tape L_text L_fed L_length M_tape M_taped M_act M_with M_lineMany M_testEnd M_lineEnd M_hasLaw ∧ IChg n kw C_what C_number C_before C_after C_done C_kept M_doneMany M_undoneMany M_changeOf M_changeAt M_before M_behind ∧ IAct nb A_kinds A_traced A_bodies A_began M_bodies M_kind M_traces M_traced ∧ IShelf nb S_holds S_body S_sort S_size rc.2 M_holds M_size rm.2 :=
      fun e => ⟨_, _, rfl, rfl, rfl, n, kj, kw, o, v, nb, hT, hL, hC, hA, IShelf_put hS hx (by omega) e⟩
    by_cases t0 : nI t = 0
    · simp only [if_pos t0, bd_of]; exact fin _
    by_cases t1 : nI t = 1
    · simp only [if_neg t0, if_pos t1, bd_of]; exact fin _
    by_cases t2 : nI t = 2
    · simp only [if_neg t0, if_neg t1, if_pos t2, bd_of]; exact fin _
    by_cases t3 : nI t = 3
    · simp only [if_neg t0, if_neg t1, if_neg t2, if_pos t3, bd_of]; exact fin _
    by_cases t4 : lg_cmp a3 0 = 0
    · simp only [if_neg t0, if_neg t1, if_neg t2, if_neg t3, if_pos t4, bd_of]; exact fin _
    · simp only [if_neg t0, if_neg t1, if_neg t2, if_neg t3, if_neg t4, bd_of]; exact fin _
