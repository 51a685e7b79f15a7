/-! joins out of a row -/
def JOK (n kj : Nat) (E A B : Nat → Int32) : Prop := ∀ i, i < kj → ∃ a b, a < n ∧ b < n ∧ a ≠ b ∧ A i = nI a ∧ B i = nI b ∧ E i = nI (100 * a + b)
theorem JOK_put {n kj : Nat} {E A B : Nat → Int32} (h : JOK n kj E A B) {a b : Nat} (ha : a < n) (hb : b < n) (hab : a ≠ b) : JOK n (kj + 1) (upd E kj (nI (100 * a + b))) (upd A kj (nI a)) (upd B kj (nI b)) := by
  intro i hi
  by_cases e : i = kj
  · subst e
    rw [upd_eq (α := Nat), upd_eq (α := Nat), upd_eq (α := Nat)]
    exact ⟨a, b, ha, hb, hab, rfl, rfl, rfl⟩
  · rw [upd_ne e, upd_ne e, upd_ne e]
    exact h i (by omega)
theorem s_left {k m q : Nat} (hk : k ≤ 60) (hm : m ≤ 30) (hq : q < 2 ^ 31) : (nI k - nI (2 * m) - 1 ≤ nI q) = (k ≤ 2 * m + 1 + q) := by
  have e : (nI k - nI (2 * m) - 1).toInt = (k : Int) - (2 * m : Nat) - 1 := by
    rw [Int32.toInt_sub, s_sub hk (by omega)]
    exact Int.bmod_eq_of_le (by have : (1 : Int32).toInt = 1 := by decide
                                omega) (by have : (1 : Int32).toInt = 1 := by decide
                                           omega)
  rw [Int32.le_iff_toInt_le, e, nI_toInt hq]
  apply propext
  omega
set_option maxHeartbeats 1000000 in
theorem s_joins {n q c x k : Nat} (hn : n ≤ 14) (hc : c ≤ 30) (hq : q < 2 ^ 31) (hx : x < 6) (hk : k ≤ 60) {S_size M_size : Nat → Int32} {S_elements : Nat → Nat → Int64} {M_elements : Nat → Int64} (hs : S_size x = nI k) (hs2 : M_size x = nI k) (he : ∀ i, i < 60 → S_elements x i = M_elements (60 * x + i)) :
    ∀ (r f g m kj : Nat) (E A B : Nat → Int32), r + m = c → f ≥ r + 1 → g ≥ r + 1 → kj ≤ 40 → JOK n kj E A B →
    ∃ m' kj' E' A' B', f_X6_joinsCome_b3 x (nI q) (nI c) (nI n) S_size S_elements f (nI m) E (nI kj) = some (nI m', E', nI kj') ∧ f_X7_joins_b58 (nI x) (nI q) (nI c) (nI n) M_size M_elements g (nI m) (nI kj) A B = some (nI m', nI kj', A', B') ∧ kj' ≤ 40 ∧ JOK n kj' E' A' B'
  | 0, f + 1, g + 1, m, kj, E, A, B, h, hf, hg, hkj, hJ => by
    have e : m = c := by omega
    subst e
    refine ⟨m, kj, E, A, B, ?_, ?_, hkj, hJ⟩
    · rw [f_X6_joinsCome_b3, if_pos]
      rw [le_nI (by omega) (by omega)]
      omega
    · rw [f_X7_joins_b58, if_pos]
      rw [le_nI (by omega) (by omega)]
      omega
  | r + 1, f + 1, g + 1, m, kj, E, A, B, h, hf, hg, hkj, hJ => by
    have c1 : ¬ nI c ≤ nI m := by rw [le_nI (by omega) (by omega)]; omega
    have c0 : ¬ lg_cmp (lN (q + 2 * m)) 0 < 0 := by
      rw [lg_cmp_lt]
      have e0 : (0 : Int64) = lN 0 := rfl
      rw [e0, pk_lLT (by omega) (by omega)]
      omega
    have e1 : (1 : Int64) = lN 1 := rfl
    rw [f_X6_joinsCome_b3, f_X7_joins_b58]
    simp only [if_neg c1, hs, hs2, ix_nI hx (by decide), cl_nI (show x < 2 ^ 31 by omega), L_2, pk_mul, s_left hk (show m ≤ 30 by omega) hq, nI_l hq, nI_l (show 2 * m < 2 ^ 31 by omega), nI_l (show k < 2 ^ 31 by omega), lN_add, if_neg c0, e1, lg_cmp_ge, pk_lLE (show k < 2 ^ 63 by omega) (show q + 2 * m + 1 < 2 ^ 63 by omega), L_40, eq_nI (show kj < 2 ^ 31 by omega) (show 40 < 2 ^ 31 by decide), le_nI (show 40 < 2 ^ 31 by decide) (show kj < 2 ^ 31 by omega)]
    by_cases c2 : k ≤ 2 * m + 1 + q
    · simp only [if_pos c2, if_pos (show k ≤ q + 2 * m + 1 by omega)]
      exact ⟨m, kj, E, A, B, rfl, rfl, hkj, hJ⟩
    simp only [if_neg c2, if_neg (show ¬ k ≤ q + 2 * m + 1 by omega)]
    have he' : S_elements x (q + 2 * m + 1) = M_elements (60 * x + (q + 2 * m) + 1) := he (q + 2 * m + 1) (by omega)
    by_cases c3 : kj = 40
    · simp only [if_pos c3, if_pos (show 40 ≤ kj by omega)]
      exact ⟨m, kj, E, A, B, rfl, rfl, hkj, hJ⟩
    simp only [if_neg c3, if_neg (show ¬ 40 ≤ kj by omega), L_60, pk_mul, lN_i, nI_add, nI_1, ix_nI (show q + 2 * m < 60 by omega) (by decide), ix_nI (show q + 2 * m + 1 < 60 by omega) (by decide), ix_nI (show 60 * x + (q + 2 * m) < 360 by omega) (by decide), ix_nI (show 60 * x + (q + 2 * m) + 1 < 360 by omega) (by decide), cl_nI (show q + 2 * m < 2 ^ 31 by omega), cl_nI (show q + 2 * m + 1 < 2 ^ 31 by omega), cl_nI (show 60 * x + (q + 2 * m) < 2 ^ 31 by omega), cl_nI (show 60 * x + (q + 2 * m) + 1 < 2 ^ 31 by omega), he (q + 2 * m) (by omega), he', s_isDoor7 _ n (show n < 2 ^ 31 by omega), bd_of, i01]
    generalize (M_elements (60 * x + (q + 2 * m))).toInt32 = u
    generalize (M_elements (60 * x + (q + 2 * m) + 1)).toInt32 = w
    have z1 : ¬ (1 : Int32) = 0 := by decide
    rcases s_areUnlike u w n (by omega) with ⟨g1, a, b, ha, hb, hab, rfl, rfl⟩ | ⟨g1, g2⟩
    · have d1 : ¬ (nI a < 0 ∨ nI n ≤ nI a) := by
        rw [lt0_nI (by omega), le_nI (by omega) (by omega)]
        simp
        omega
      have d2 : ¬ (nI b < 0 ∨ nI n ≤ nI b) := by
        rw [lt0_nI (by omega), le_nI (by omega) (by omega)]
        simp
        omega
      have d3 : ¬ nI a = nI b := by rw [eq_nI (by omega) (by omega)]; exact hab
      obtain ⟨m', kj', E', A', B', t1, t2, t3, t4⟩ := s_joins hn hc hq hx hk hs hs2 he r f g (m + 1) (kj + 1) _ _ _ (by omega) (by omega) (by omega) (by omega) (JOK_put hJ ha hb hab)
      refine ⟨m', kj', E', A', B', ?_, ?_, t3, t4⟩
      · unfold f_X5_addJoin
        simp only [g1, bd_of, if_neg z1, ix_nI (show kj < 40 by omega) (by decide), cl_nI (show kj < 2 ^ 31 by omega), nI_1, L_100, pk_mul, nI_add]
        exact t1
      · unfold f_X7_addJoin
        simp only [if_neg d1, if_neg d2, if_neg d3, bd_of, ix_nI (show kj < 41 by omega) (by decide), cl_nI (show kj < 2 ^ 31 by omega), nI_1]
        exact t2
    · simp only [g1, bd_of, if_true]
      refine ⟨m, kj, E, A, B, rfl, ?_, hkj, hJ⟩
      by_cases d1 : u < 0 ∨ nI n ≤ u
      · rw [if_pos d1]
      by_cases d2 : w < 0 ∨ nI n ≤ w
      · rw [if_neg d1, if_pos d2]
      by_cases d3 : u = w
      · rw [if_neg d1, if_neg d2, if_pos d3]
      exfalso
      apply g2
      obtain ⟨a, ha, rfl⟩ := nI_lt_of (by omega) d1
      obtain ⟨b, hb, rfl⟩ := nI_lt_of (by omega) d2
      exact ⟨a, b, ha, hb, fun e => d3 (by rw [e]), rfl, rfl⟩
  | _, 0, _, _, _, _, _, _, _, hf, _, _, _ => by omega
  | _, _, 0, _, _, _, _, _, _, _, hg, _, _ => by omega
set_option maxHeartbeats 1000000 in
theorem pu_joins {T_price : Nat → Int32} {T_year : Nat → Int32} {T_joinEnds : Nat → Int32} {T_wallEnds : Nat → Int32} {T_cost : Nat → Int32} {T_doors : Int32} {T_joins : Int32} {T_walls : Int32} {T_oldWells : Int32} {T_apart : Int32} {L_tape : Nat → Int32} {L_text : Nat → Int32} {L_fed : Int32} {L_length : Int32} {L_read : Nat} {L_end : Int32} {L_at : Int32} {L_fault : Int32} {L_d : Int32} {L_p : Int32} {L_y : Int32} {L_j : Int32} {L_o : Int32} {P_away : Nat → Nat → Int32} {P_beside : Nat → Int32} {P_reach : Nat → Int32} {P_serves : Nat → Int32} {P_crowds : Nat → Int32} {P_servedLow : Nat → Int32} {P_servedHigh : Nat → Int32} {P_crowdedLow : Nat → Int32} {P_crowdedHigh : Nat → Int32} {P_there : Int32} {P_must : Int32} {P_can : Int32} {C_what : Nat → Int32} {C_number : Nat → Int32} {C_before : Nat → Int32} {C_after : Nat → Int32} {C_done : Int32} {C_kept : Int32} {A_kinds : Nat → Int32} {A_traced : Nat → Int32} {A_bodies : Int32} {A_began : Int32} {A_self : Int32} {A_kindOfSelf : Int32} {S_holds : Nat → Int32} {S_body : Nat → Int32} {S_sort : Nat → Int32} {S_size : Nat → Int32} {S_elements : Nat → Nat → Int64} {G_grown : Nat → Int32} {M_code : Int32} {M_doors : Int32} {M_price : Nat → Int32} {M_year : Nat → Int32} {M_joins : Int32} {M_joinA : Nat → Int32} {M_joinB : Nat → Int32} {M_walls : Int32} {M_wallA : Nat → Int32} {M_wallB : Nat → Int32} {M_cost : Nat → Int32} {M_olds : Int32} {M_near : Int32} {M_doneMany : Int32} {M_undoneMany : Int32} {M_changeOf : Nat → Int32} {M_changeAt : Nat → Int32} {M_before : Nat → Int32} {M_behind : Nat → Int32} {M_tape : Nat → Int32} {M_taped : Int32} {M_here : Int32} {M_fault : Int32} {M_open : Int32} {M_laid : Int32} {M_act : Nat → Int32} {M_with : Nat → Int32} {M_lineMany : Nat → Int32} {M_testEnd : Nat → Int32} {M_lineEnd : Nat → Int32} {M_facts : Nat → Int32} {M_pile : Nat → Int32} {M_hasLaw : Int32} {M_far : Nat → Int32} {M_within : Nat → Int32} {M_tooNear : Nat → Int32} {M_dried : Int32} {M_isOn : Nat → Int32} {M_wasOn : Nat → Int32} {M_bodies : Int32} {M_kind : Nat → Int32} {M_traces : Int32} {M_traced : Nat → Int32} {M_holds : Nat → Int32} {M_size : Nat → Int32} {M_elements : Nat → Int64} {M_shifted : Nat → Int64} (hI : INV T_price T_year T_joinEnds T_wallEnds T_cost T_doors T_joins T_walls T_oldWells T_apart L_tape L_text L_fed L_length L_read L_end L_at L_fault L_d L_p L_y L_j L_o P_away P_beside P_reach P_serves P_crowds P_servedLow P_servedHigh P_crowdedLow P_crowdedHigh P_there P_must P_can C_what C_number C_before C_after C_done C_kept A_kinds A_traced A_bodies A_began A_self A_kindOfSelf S_holds S_body S_sort S_size S_elements G_grown M_code M_doors M_price M_year M_joins M_joinA M_joinB M_walls M_wallA M_wallB M_cost M_olds M_near M_doneMany M_undoneMany M_changeOf M_changeAt M_before M_behind M_tape M_taped M_here M_fault M_open M_laid M_act M_with M_lineMany M_testEnd M_lineEnd M_facts M_pile M_hasLaw M_far M_within M_tooNear M_dried M_isOn M_wasOn M_bodies M_kind M_traces M_traced M_holds M_size M_elements M_shifted) (a1 : Int32) (a2 : Int32) (a3 : Int32) : ∃ (rc : Int32 × (Nat → Int32) × Int32) (rm : Int32 × Int32 × (Nat → Int32) × (Nat → Int32)), f_X6_joins a1 a2 a3 T_joinEnds T_doors T_joins S_holds S_sort S_size S_elements = some rc ∧ f_X7_joins a1 a2 a3 M_doors M_joins M_joinA M_joinB M_holds M_size M_elements = some rm ∧ rc.1 = rm.1 ∧ INV T_price T_year rc.2.1 T_wallEnds T_cost T_doors rc.2.2 T_walls T_oldWells T_apart L_tape L_text L_fed L_length L_read L_end L_at L_fault L_d L_p L_y L_j L_o P_away P_beside P_reach P_serves P_crowds P_servedLow P_servedHigh P_crowdedLow P_crowdedHigh P_there P_must P_can C_what C_number C_before C_after C_done C_kept A_kinds A_traced A_bodies A_began A_self A_kindOfSelf S_holds S_body S_sort S_size S_elements G_grown M_code M_doors M_price M_year rm.2.1 rm.2.2.1 rm.2.2.2 M_walls M_wallA M_wallB M_cost M_olds M_near M_doneMany M_undoneMany M_changeOf M_changeAt M_before M_behind M_tape M_taped M_here M_fault M_open M_laid M_act M_with M_lineMany M_testEnd M_lineEnd M_facts M_pile M_hasLaw M_far M_within M_tooNear M_dried M_isOn M_wasOn M_bodies M_kind M_traces M_traced M_holds M_size M_elements M_shifted := by
  have hI0 := hI
  obtain ⟨n, kj, kw, o, v, nb, hT, hL, hC, hA, hS⟩ := hI
  have hb := hA.1
  obtain ⟨⟨b1, b2, b3, b4, b5⟩, ⟨rfl, rfl, rfl, rfl, e5, e6, e7, e8, e9, e10, e11⟩, hp, hy, hj, hw, hc⟩ := hT
  unfold f_X6_joins f_X7_joins
  simp only [s_isShelf6, s_isShelf7, s_in, bd_of, i01]
  by_cases h1 : a1 < 0 ∨ nI 6 ≤ a1
  · simp only [if_pos h1]
    exact ⟨_, _, rfl, rfl, rfl, hI0⟩
  simp only [if_neg h1]
  obtain ⟨x, hx, rfl⟩ := nI_lt_of (k := 6) (by decide) h1
  by_cases h2 : a3 < 1
  · simp only [if_pos h2, if_pos (show a3 < 1 ∨ 30 < a3 from Or.inl h2)]
    exact ⟨_, _, rfl, rfl, rfl, hI0⟩
  simp only [if_neg h2]
  by_cases h3 : a3 ≤ 30
  · have h4 : ¬ (a3 < 1 ∨ 30 < a3) := fun z => z.elim h2 (Int32.not_lt.mpr h3)
    obtain ⟨c, hc30, rfl⟩ := nI_of2 (M := 30) (n := 30) (by decide) (fun z => h2 (Int32.lt_trans z (by decide))) h3
    have hc1 : 1 ≤ c := by
      rw [L_1, lt_nI (by omega) (by decide)] at h2
      omega
    unfold f_X4_isRowOf f_X7_joins_b43
    have z3 : ¬ (1 : Int32) = 0 := by decide
    have z2 : ¬ (2 : Int32) = 0 := by decide
    have z4 : ¬ (1 : Int32) = 2 := by decide
    simp only [if_pos h3, if_neg h4, ix_nI hx (by decide), cl_nI (show x < 2 ^ 31 by omega)]
    rcases hS x hx with ⟨g1, g2⟩ | ⟨g1, p, hp', g2, g3⟩ | ⟨g1, t, k, ht, hk, g2, g3, g4, g5, g6⟩
    · simp only [g1, g2, if_true]
      exact ⟨_, _, rfl, rfl, rfl, hI0⟩
    · have n1 : ¬ nI p = -1 := by
        intro e
        have := nI_pos (n := p) (by omega)
        rw [e] at this
        exact this (by decide)
      have n2 : ¬ nI p = -2 := by
        intro e
        have := nI_pos (n := p) (by omega)
        rw [e] at this
        exact this (by decide)
      simp only [g1, g3, if_neg z3, if_neg z4, if_neg n1, if_neg n2, bd_of, if_true]
      exact ⟨_, _, rfl, rfl, rfl, hI0⟩
    · obtain ⟨-, n1, n2, n3⟩ := neg2 t ht
      by_cases ht0 : t = 0
      · subst ht0
        have m2 : (-2 - nI 0) = -2 := by decide
        have m3 : ¬ (-2 : Int32) = -1 := by decide
        rw [m2] at g3
        have g2' : S_sort x = 0 := g2
        simp only [g1, g2', g3, if_neg z2, if_neg z3, if_true, if_neg m3, bd_of]
        by_cases h5 : a2 < 0
        · have h6 : ¬ (0 ≤ a2) := fun z => absurd h5 (Int32.not_lt.mpr z)
          have h7 : ¬ nI c ≤ 0 := by rw [L_0, le_nI (by omega) (by decide)]; omega
          have h8 : lg_cmp (a2.toInt64 + (2 * 0 : Int32).toInt64) 0 < 0 := by
            rw [lg_cmp_lt]
            have e : (2 * 0 : Int32).toInt64 = 0 := rfl
            rw [e, Int64.add_zero, Int64.lt_iff_toInt_lt, Int32.toInt_toInt64]
            exact Int32.lt_iff_toInt_lt.mp h5
          have fu : fuel = 99999 + 1 := rfl
          rw [fu, f_X7_joins_b58, if_neg h7, if_pos h8, if_neg h6]
          exact ⟨_, _, rfl, rfl, rfl, hI0⟩
        · have h6 : 0 ≤ a2 := Int32.not_lt.mp h5
          obtain ⟨q, hq, rfl⟩ := nI_of h5
          unfold f_X6_joinsCome
          obtain ⟨m', kj', E', A', B', t1, t2, t3, t4⟩ := s_joins b1 hc30 hq hx hk g4 g5 g6 c fuel fuel 0 kj _ _ _ (by omega) (by unfold fuel; omega) (by unfold fuel; omega) b2 hj
          have t1' : f_X6_joinsCome_b3 x (nI q) (nI c) (nI n) S_size S_elements fuel 0 T_joinEnds (nI kj) = some (nI m', E', nI kj') := t1
          have t2' : f_X7_joins_b58 (nI x) (nI q) (nI c) (nI n) M_size M_elements fuel 0 (nI kj) M_joinA M_joinB = some (nI m', nI kj', A', B') := t2
          rw [if_pos h6, t1', t2']
          exact ⟨_, _, rfl, rfl, rfl, n, kj', kw, o, v, nb, ⟨⟨b1, t3, b3, b4, b5⟩, ⟨rfl, rfl, rfl, rfl, e5, e6, e7, e8, e9, e10, e11⟩, hp, hy, t4, hw, hc⟩, hL, hC, hA, hS⟩
      · have m2 : ¬ (-2 - nI t) = -2 := by
          intro e
          have e2 : (-2 : Int32) = -2 - nI 0 := by decide
          rw [e2] at e
          exact ht0 (neg2_inj t ht 0 (by omega) e)
        have m4 : ¬ nI t = 0 := by rw [L_0, eq_nI (by omega) (by decide)]; exact ht0
        simp only [g1, g2, g3, if_neg z2, if_true, if_neg n2, if_neg m2, if_neg m4, bd_of]
        exact ⟨_, _, rfl, rfl, rfl, hI0⟩
  · simp only [if_neg h3, if_pos (show a3 < 1 ∨ 30 < a3 from Or.inr (Int32.not_le.mp h3))]
    exact ⟨_, _, rfl, rfl, rfl, hI0⟩
