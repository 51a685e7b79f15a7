/-! act -/
theorem IAct_ran {nb : Nat} {A_kinds A_traced M_kind M_traced : Nat → Int32} {A_bodies A_began M_bodies M_traces : Int32} (hA : IAct nb A_kinds A_traced A_bodies A_began M_bodies M_kind M_traces M_traced) {l : List Int32} {k : Nat} (hl : l.length = k) (hk : k ≤ 24) :
    IAct nb A_kinds (putl A_traced 0 l) A_bodies (nI k) M_bodies M_kind (nI k) (putl M_traced 0 l) := by
  obtain ⟨h1, h2, h3, h4, -⟩ := hA
  exact ⟨h1, h2, h3, h4, k, by omega, rfl, rfl, fun i hi _ => putl_ag l _ _ 0 (fun j hj => by omega) i (by omega)⟩
/-- the acts of all bodies, told with one list -/
theorem ac_all (a : Int32) {x p : Nat} (hx : x < 50) (hp : p ≤ 7) (K : Nat → Int32) (hk : K x = nI p) : (∃ (v : Int32) (l : List Int32) (k : Nat), l.length = k ∧ k ≤ 24 ∧ (∀ tr, t_run (nI p) (nI 0) a (nI 0) tr (nI 0) (nI x) (nI p) = some (v, putl tr 0 l, nI k)) ∧ ∀ tr, f_X7_digs (nI x) a K (nI 0) tr = some (v, nI k, putl tr 0 l)) ∧
    (∃ (v : Int32) (l : List Int32) (k : Nat), l.length = k ∧ k ≤ 24 ∧ (∀ tr, t_run (nI p) (nI 1) a (nI 0) tr (nI 0) (nI x) (nI p) = some (v, putl tr 0 l, nI k)) ∧ ∀ tr, f_X7_reaches (nI x) a K (nI 0) tr = some (v, nI k, putl tr 0 l)) ∧
    (∃ (v : Int32) (l : List Int32) (k : Nat), l.length = k ∧ k ≤ 24 ∧ (∀ tr, t_run (nI p) (nI 2) a (nI 0) tr (nI 0) (nI x) (nI p) = some (v, putl tr 0 l, nI k)) ∧ ∀ tr, f_X7_nears (nI x) a K (nI 0) tr = some (v, nI k, putl tr 0 l)) ∧
    (∃ (v : Int32) (l : List Int32) (k : Nat), l.length = k ∧ k ≤ 24 ∧ (∀ tr, t_run (nI p) (nI 3) a (nI 0) tr (nI 0) (nI x) (nI p) = some (v, putl tr 0 l, nI k)) ∧ ∀ tr, f_X7_telling (nI x) a K (nI 0) tr = some (v, nI k, putl tr 0 l)) := by
  have hq : p = 0 ∨ p = 1 ∨ p = 2 ∨ p = 3 ∨ p = 4 ∨ p = 5 ∨ p = 6 ∨ p = 7 := by omega
  rcases hq with rfl | rfl | rfl | rfl | rfl | rfl | rfl | rfl
  · exact ⟨(let ⟨v, h1, h2⟩ := ac_0_0 a hx K hk; ⟨v, _, 1, rfl, by decide, h1, h2⟩), (let ⟨v, h1, h2⟩ := ac_0_1 a hx K hk; ⟨v, _, 2, rfl, by decide, h1, h2⟩), (let ⟨v, h1, h2⟩ := ac_0_2 a hx K hk; ⟨v, _, 1, rfl, by decide, h1, h2⟩), (let ⟨v, h1, h2⟩ := ac_0_3 a hx K hk; ⟨v, _, 4, rfl, by decide, h1, h2⟩)⟩
  · exact ⟨(let ⟨v, h1, h2⟩ := ac_1_0 a hx K hk; ⟨v, _, 2, rfl, by decide, h1, h2⟩), (let ⟨v, h1, h2⟩ := ac_1_1 a hx K hk; ⟨v, _, 3, rfl, by decide, h1, h2⟩), (let ⟨v, h1, h2⟩ := ac_1_2 a hx K hk; ⟨v, _, 1, rfl, by decide, h1, h2⟩), (let ⟨v, h1, h2⟩ := ac_1_3 a hx K hk; ⟨v, _, 5, rfl, by decide, h1, h2⟩)⟩
  · exact ⟨(let ⟨v, h1, h2⟩ := ac_2_0 a hx K hk; ⟨v, _, 1, rfl, by decide, h1, h2⟩), (let ⟨v, h1, h2⟩ := ac_2_1 a hx K hk; ⟨v, _, 3, rfl, by decide, h1, h2⟩), (let ⟨v, h1, h2⟩ := ac_2_2 a hx K hk; ⟨v, _, 1, rfl, by decide, h1, h2⟩), (let ⟨v, h1, h2⟩ := ac_2_3 a hx K hk; ⟨v, _, 5, rfl, by decide, h1, h2⟩)⟩
  · exact ⟨(let ⟨v, h1, h2⟩ := ac_3_0 a hx K hk; ⟨v, _, 1, rfl, by decide, h1, h2⟩), (let ⟨v, h1, h2⟩ := ac_3_1 a hx K hk; ⟨v, _, 4, rfl, by decide, h1, h2⟩), (let ⟨v, h1, h2⟩ := ac_3_2 a hx K hk; ⟨v, _, 2, rfl, by decide, h1, h2⟩), (let ⟨v, h1, h2⟩ := ac_3_3 a hx K hk; ⟨v, _, 7, rfl, by decide, h1, h2⟩)⟩
  · exact ⟨(let ⟨v, h1, h2⟩ := ac_4_0 a hx K hk; ⟨v, _, 2, rfl, by decide, h1, h2⟩), (let ⟨v, h1, h2⟩ := ac_4_1 a hx K hk; ⟨v, _, 3, rfl, by decide, h1, h2⟩), (let ⟨v, h1, h2⟩ := ac_4_2 a hx K hk; ⟨v, _, 1, rfl, by decide, h1, h2⟩), (let ⟨v, h1, h2⟩ := ac_4_3 a hx K hk; ⟨v, _, 6, rfl, by decide, h1, h2⟩)⟩
  · exact ⟨(let ⟨v, h1, h2⟩ := ac_5_0 a hx K hk; ⟨v, _, 2, rfl, by decide, h1, h2⟩), (let ⟨v, h1, h2⟩ := ac_5_1 a hx K hk; ⟨v, _, 3, rfl, by decide, h1, h2⟩), (let ⟨v, h1, h2⟩ := ac_5_2 a hx K hk; ⟨v, _, 4, rfl, by decide, h1, h2⟩), (let ⟨v, h1, h2⟩ := ac_5_3 a hx K hk; ⟨v, _, 10, rfl, by decide, h1, h2⟩)⟩
  · exact ⟨(let ⟨v, h1, h2⟩ := ac_6_0 a hx K hk; ⟨v, _, 2, rfl, by decide, h1, h2⟩), (let ⟨v, h1, h2⟩ := ac_6_1 a hx K hk; ⟨v, _, 3, rfl, by decide, h1, h2⟩), (let ⟨v, h1, h2⟩ := ac_6_2 a hx K hk; ⟨v, _, 1, rfl, by decide, h1, h2⟩), (let ⟨v, h1, h2⟩ := ac_6_3 a hx K hk; ⟨v, _, 5, rfl, by decide, h1, h2⟩)⟩
  · exact ⟨(let ⟨v, h1, h2⟩ := ac_7_0 a hx K hk; ⟨v, _, 3, rfl, by decide, h1, h2⟩), (let ⟨v, h1, h2⟩ := ac_7_1 a hx K hk; ⟨v, _, 6, rfl, by decide, h1, h2⟩), (let ⟨v, h1, h2⟩ := ac_7_2 a hx K hk; ⟨v, _, 1, rfl, by decide, h1, h2⟩), (let ⟨v, h1, h2⟩ := ac_7_3 a hx K hk; ⟨v, _, 8, rfl, by decide, h1, h2⟩)⟩
set_option maxHeartbeats 1000000 in
theorem pu_act {T_price : Nat → Int32} {T_year : Nat → Int32} {T_joinEnds : Nat → Int32} {T_wallEnds : Nat → Int32} {T_cost : Nat → Int32} {T_doors : Int32} {T_joins : Int32} {T_walls : Int32} {T_oldWells : Int32} {T_apart : Int32} {L_tape : Nat → Int32} {L_text : Nat → Int32} {L_fed : Int32} {L_length : Int32} {L_read : Nat} {L_end : Int32} {L_at : Int32} {L_fault : Int32} {L_d : Int32} {L_p : Int32} {L_y : Int32} {L_j : Int32} {L_o : Int32} {P_away : Nat → Nat → Int32} {P_beside : Nat → Int32} {P_reach : Nat → Int32} {P_serves : Nat → Int32} {P_crowds : Nat → Int32} {P_servedLow : Nat → Int32} {P_servedHigh : Nat → Int32} {P_crowdedLow : Nat → Int32} {P_crowdedHigh : Nat → Int32} {P_there : Int32} {P_must : Int32} {P_can : Int32} {C_what : Nat → Int32} {C_number : Nat → Int32} {C_before : Nat → Int32} {C_after : Nat → Int32} {C_done : Int32} {C_kept : Int32} {A_kinds : Nat → Int32} {A_traced : Nat → Int32} {A_bodies : Int32} {A_began : Int32} {A_self : Int32} {A_kindOfSelf : Int32} {S_holds : Nat → Int32} {S_body : Nat → Int32} {S_sort : Nat → Int32} {S_size : Nat → Int32} {S_elements : Nat → Nat → Int64} {G_grown : Nat → Int32} {M_code : Int32} {M_doors : Int32} {M_price : Nat → Int32} {M_year : Nat → Int32} {M_joins : Int32} {M_joinA : Nat → Int32} {M_joinB : Nat → Int32} {M_walls : Int32} {M_wallA : Nat → Int32} {M_wallB : Nat → Int32} {M_cost : Nat → Int32} {M_olds : Int32} {M_near : Int32} {M_doneMany : Int32} {M_undoneMany : Int32} {M_changeOf : Nat → Int32} {M_changeAt : Nat → Int32} {M_before : Nat → Int32} {M_behind : Nat → Int32} {M_tape : Nat → Int32} {M_taped : Int32} {M_here : Int32} {M_fault : Int32} {M_open : Int32} {M_laid : Int32} {M_act : Nat → Int32} {M_with : Nat → Int32} {M_lineMany : Nat → Int32} {M_testEnd : Nat → Int32} {M_lineEnd : Nat → Int32} {M_facts : Nat → Int32} {M_pile : Nat → Int32} {M_hasLaw : Int32} {M_far : Nat → Int32} {M_within : Nat → Int32} {M_tooNear : Nat → Int32} {M_dried : Int32} {M_isOn : Nat → Int32} {M_wasOn : Nat → Int32} {M_bodies : Int32} {M_kind : Nat → Int32} {M_traces : Int32} {M_traced : Nat → Int32} {M_holds : Nat → Int32} {M_size : Nat → Int32} {M_elements : Nat → Int64} {M_shifted : Nat → Int64} (hI : INV T_price T_year T_joinEnds T_wallEnds T_cost T_doors T_joins T_walls T_oldWells T_apart L_tape L_text L_fed L_length L_read L_end L_at L_fault L_d L_p L_y L_j L_o P_away P_beside P_reach P_serves P_crowds P_servedLow P_servedHigh P_crowdedLow P_crowdedHigh P_there P_must P_can C_what C_number C_before C_after C_done C_kept A_kinds A_traced A_bodies A_began A_self A_kindOfSelf S_holds S_body S_sort S_size S_elements G_grown M_code M_doors M_price M_year M_joins M_joinA M_joinB M_walls M_wallA M_wallB M_cost M_olds M_near M_doneMany M_undoneMany M_changeOf M_changeAt M_before M_behind M_tape M_taped M_here M_fault M_open M_laid M_act M_with M_lineMany M_testEnd M_lineEnd M_facts M_pile M_hasLaw M_far M_within M_tooNear M_dried M_isOn M_wasOn M_bodies M_kind M_traces M_traced M_holds M_size M_elements M_shifted) (a1 : Int32) (a2 : Int32) (a3 : Int32) : ∃ (rc : Int32 × (Nat → Int32) × Int32 × Int32 × Int32) (rm : Int32 × Int32 × (Nat → Int32)), f_X6_act a1 a2 a3 A_kinds A_traced A_bodies A_began A_self A_kindOfSelf = some rc ∧ f_X7_act a1 a2 a3 M_bodies M_kind M_traces M_traced = some rm ∧ rc.1 = rm.1 ∧ INV T_price T_year T_joinEnds T_wallEnds T_cost T_doors T_joins T_walls T_oldWells T_apart L_tape L_text L_fed L_length L_read L_end L_at L_fault L_d L_p L_y L_j L_o P_away P_beside P_reach P_serves P_crowds P_servedLow P_servedHigh P_crowdedLow P_crowdedHigh P_there P_must P_can C_what C_number C_before C_after C_done C_kept A_kinds rc.2.1 A_bodies rc.2.2.1 rc.2.2.2.1 rc.2.2.2.2 S_holds S_body S_sort S_size S_elements G_grown M_code M_doors M_price M_year M_joins M_joinA M_joinB M_walls M_wallA M_wallB M_cost M_olds M_near M_doneMany M_undoneMany M_changeOf M_changeAt M_before M_behind M_tape M_taped M_here M_fault M_open M_laid M_act M_with M_lineMany M_testEnd M_lineEnd M_facts M_pile M_hasLaw M_far M_within M_tooNear M_dried M_isOn M_wasOn M_bodies M_kind rm.2.1 rm.2.2 M_holds M_size M_elements M_shifted := by
  have hI0 := hI
  obtain ⟨n, kj, kw, o, v, nb, hT, hL, hC, hA, hS⟩ := hI
  have hA0 := hA
  obtain ⟨hb, rfl, rfl, hk, hr⟩ := hA
  unfold f_X6_act f_X0_start f_X7_act f_X7_isBody
  simp only [s_isWall7 _ nb (show nb < 2 ^ 31 by omega), s_in, bd_of, bz_if, i01]
  have h0 : IAct nb A_kinds A_traced (nI nb) 0 (nI nb) M_kind 0 M_traced := ⟨hb, rfl, rfl, hk, 0, by omega, rfl, rfl, fun i hi => by omega⟩
  by_cases h1 : a1 < 0
  · simp only [if_pos h1, if_pos (show a1 < 0 ∨ nI nb ≤ a1 from Or.inl h1)]
    exact ⟨_, _, rfl, rfl, rfl, n, kj, kw, o, v, nb, hT, hL, hC, h0, hS⟩
  by_cases h2 : nI nb ≤ a1
  · simp only [if_neg h1, if_pos h2, if_pos (show a1 < 0 ∨ nI nb ≤ a1 from Or.inr h2)]
    exact ⟨_, _, rfl, rfl, rfl, n, kj, kw, o, v, nb, hT, hL, hC, h0, hS⟩
  obtain ⟨x, hx, rfl⟩ := nI_lt_of (show nb < 2 ^ 31 by omega) (show ¬ (a1 < 0 ∨ nI nb ≤ a1) from fun z => z.elim h1 h2)
  simp only [if_neg h1, if_neg h2, if_neg (show ¬ (nI x < 0 ∨ nI nb ≤ nI x) from fun z => z.elim h1 h2)]
  by_cases h3 : a2 < 0
  · simp only [if_pos h3, if_pos (show a2 < 0 ∨ 3 < a2 from Or.inl h3)]
    exact ⟨_, _, rfl, rfl, rfl, n, kj, kw, o, v, nb, hT, hL, hC, h0, hS⟩
  obtain ⟨q, hq, rfl⟩ := nI_of h3
  have e3 : (3 : Int32) = nI 3 := rfl
  have e4 : (4 : Int32) = nI 4 := rfl
  simp only [h3, if_false, false_or, e3, e4, lt_nI hq (show 4 < 2 ^ 31 by decide), lt_nI (show 3 < 2 ^ 31 by decide) hq]
  by_cases h4 : q < 4
  · obtain ⟨kd, p, hp, e⟩ := hk x hx
    obtain ⟨⟨v0, l0, k0, a0, b0, c0, d0⟩, ⟨v1, l1, k1, a1, b1, c1, d1⟩, ⟨v2, l2, k2, a2, b2, c2, d2⟩, ⟨v3, l3, k3, a3', b3, c3, d3⟩⟩ := ac_all a3 (show x < 50 by omega) hp M_kind e
    have hA1 : IAct nb A_kinds A_traced (nI nb) A_began (nI nb) M_kind M_traces M_traced := hA0
    have z0 : (0 : Int32) = nI 0 := rfl
    have z1 : (1 : Int32) = nI 1 := rfl
    have z2 : (2 : Int32) = nI 2 := rfl
    have hq' : q = 0 ∨ q = 1 ∨ q = 2 ∨ q = 3 := by omega
    simp only [if_pos h4, if_neg (show ¬ 3 < q by omega), ix_nI (show x < 50 by omega) (by decide), cl_nI (show x < 2 ^ 31 by omega), kd, e, z0, z1, z2]
    rcases hq' with rfl | rfl | rfl | rfl
    · simp only [c0, d0, bd_of, if_true]
      exact ⟨_, _, rfl, rfl, rfl, n, kj, kw, o, v, nb, hT, hL, hC, IAct_ran hA1 a0 b0, hS⟩
    · simp only [c1, d1, bd_of, if_true, if_neg (show ¬ nI 1 = nI 0 by decide)]
      exact ⟨_, _, rfl, rfl, rfl, n, kj, kw, o, v, nb, hT, hL, hC, IAct_ran hA1 a1 b1, hS⟩
    · simp only [c2, d2, bd_of, if_true, if_neg (show ¬ nI 2 = nI 0 by decide), if_neg (show ¬ nI 2 = nI 1 by decide)]
      exact ⟨_, _, rfl, rfl, rfl, n, kj, kw, o, v, nb, hT, hL, hC, IAct_ran hA1 a2 b2, hS⟩
    · simp only [c3, d3, bd_of, if_neg (show ¬ nI 3 = nI 0 by decide), if_neg (show ¬ nI 3 = nI 1 by decide), if_neg (show ¬ nI 3 = nI 2 by decide)]
      exact ⟨_, _, rfl, rfl, rfl, n, kj, kw, o, v, nb, hT, hL, hC, IAct_ran hA1 a3' b3, hS⟩
  · simp only [if_neg h4, if_pos (show 3 < q by omega)]
    exact ⟨_, _, rfl, rfl, rfl, n, kj, kw, o, v, nb, hT, hL, hC, h0, hS⟩
