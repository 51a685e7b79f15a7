/-! judge -/
section JUDGE
variable {n v : Nat} {R : Nat → Nat → Prop} {rch : Nat → Nat} {M_far M_within M_tooNear : Nat → Int32} {mst cn : Nat → Prop} {P_away : Nat → Nat → Int32} {P_serves P_crowds P_servedLow P_servedHigh P_crowdedLow P_crowdedHigh : Nat → Int32} {P_there P_must P_can : Int32}
theorem jd_in0 {w x2 : Nat} {near : Int32} {N : Nat → Prop} (hN : isBt near N) (hNn : ∀ d, N d → d < n) (P : Nat → Int32) (k35 : Int32 → Option Int32) :
    ∀ (r f x4 : Nat), n ≤ x4 → r + x4 = 14 → f ≥ r + 1 → f_X3_judged_b67 k35 (nI w) (nI x2) near P f (nI x4) = k35 (nI (x2 + 1))
  | 0, f + 1, x4, h1, h, hf => by
    have e : x4 = 14 := by omega
    subst e
    rw [f_X3_judged_b67, if_pos (by decide), nI_1]
  | r + 1, f + 1, x4, h1, h, hf => by
    rw [f_X3_judged_b67, if_neg (by rw [L_14, le_nI (by decide) (by omega)]; omega), if_pos (by rw [isB_t0 hN (by omega)]; intro z; have := hNn x4 z; omega), nI_1]
    exact jd_in0 hN hNn P k35 r f (x4 + 1) (by omega) (by omega) (by omega)
  | _, 0, _, _, _, hf => by omega
theorem jd_in {w x2 : Nat} (hn : n ≤ 14) (hw : w < 2 ^ n) (hF : zFound n R rch v M_far M_within M_tooNear) (h2 : x2 < n) {near : Int32} {N : Nat → Prop} (hN : isBt near N) (hNd : ∀ d, x2 < d → (N d ↔ w.testBit x2 = true ∧ w.testBit d = true ∧ dd R x2 d < v)) (hNn : ∀ d, N d → d < n) (P fa pi : Nat → Int32) (k35 : Int32 → Option Int32) (k49 : Int32 → Option (Int32 × (Nat → Int32) × (Nat → Int32) × (Nat → Int32) × (Nat → Int32) × (Nat → Int32))) :
    ∀ (r f f7 x4 : Nat), x2 < x4 → r + x4 = n → f ≥ r + 15 → f7 ≥ r + 1 →
    (∃ y, f_X3_judged_b67 k35 (nI w) (nI x2) near P f (nI x4) = some y ∧ f_X7_judge_b61 k49 (nI w) (nI x2) (nI n) fa pi M_far M_within M_tooNear f7 (nI x4) = some (y, fa, pi, M_far, M_within, M_tooNear)) ∨
    (f_X3_judged_b67 k35 (nI w) (nI x2) near P f (nI x4) = k35 (nI (x2 + 1)) ∧ f_X7_judge_b61 k49 (nI w) (nI x2) (nI n) fa pi M_far M_within M_tooNear f7 (nI x4) = k49 (nI (x2 + 1)))
  | 0, f, f7 + 1, x4, hx, h, hf, hf7 => by
    have e : x4 = n := by omega
    subst e
    refine Or.inr ⟨jd_in0 hN hNn P k35 (14 - x4) f x4 (Nat.le_refl _) (by omega) (by omega), ?_⟩
    rw [f_X7_judge_b61, if_pos (by rw [le_nI (by omega) (by omega)]; omega), nI_1]
  | r + 1, f + 1, f7 + 1, x4, hx, h, hf, hf7 => by
    have h4 : x4 < n := by omega
    have hw14 := lt14 hn hw
    have ih := jd_in hn hw hF h2 hN hNd hNn P fa pi k35 k49 r f f7 (x4 + 1) (by omega) (by omega) (by omega) (by omega)
    rw [f_X7_judge_b61, if_neg (by rw [le_nI (by omega) (by omega)]; omega), f_X3_judged_b67, if_neg (by rw [L_14, le_nI (by decide) (by omega)]; omega), ite_eqc (isB_t0 hN (by omega))]
    unfold f_X7_judge_b111
    rw [ite_eqc (isB_t1 (isB_n hw14) (show x2 < 14 by omega)), ite_eqc (isB_t1 (isB_n hw14) (show x4 < 14 by omega)), ix_nI (show x2 < 14 by omega) (by decide), cl_nI (by omega), ite_eqc (isB_t1 (hF.2.2 x2 h2) (show x4 < 14 by omega)), nI_1]
    by_cases q : N x4
    · obtain ⟨q1, q2, q3⟩ := (hNd x4 hx).mp q
      rw [if_neg (fun z => z q), if_pos q1, if_pos q2, if_pos ⟨h4, by omega, q3⟩]
      exact Or.inl ⟨_, rfl, rfl⟩
    · rw [if_pos q]
      by_cases q1 : w.testBit x2 = true
      · rw [if_pos q1]
        by_cases q2 : w.testBit x4 = true
        · rw [if_pos q2, if_neg (show ¬ (x4 < n ∧ x2 ≠ x4 ∧ dd R x2 x4 < v) from fun z => q ((hNd x4 hx).mpr ⟨q1, q2, z.2.2⟩))]
          exact ih
        · rw [if_neg q2]
          exact ih
      · rw [if_neg q1]
        exact ih
  | _, 0, _, _, _, _, hf, _ => by omega
  | _, _ + 1, 0, _, _, _, _, hf => by omega
theorem jd_near (hL : zLaid (2 ^ n - 1) R rch v mst cn P_away P_serves P_crowds P_servedLow P_servedHigh P_crowdedLow P_crowdedHigh P_there P_must P_can) {w x2 : Nat} (hw : w < 2 ^ 14) (h2 : x2 < 14) : isBt (P_crowds x2 &&& nI w) (fun d => CWd (2 ^ n - 1) R v x2 d ∧ w.testBit d = true) := isB_and (hL.2.2.1 x2 h2) (isB_n hw)
theorem jd_two0 {w : Nat} (hn : n ≤ 14) (hw : w < 2 ^ n) (P : Nat → Int32) :
    ∀ (r f x2 : Nat), n ≤ x2 → r + x2 = 14 → f ≥ r + 1 → f_X3_judged_b35 (nI w) P f (nI x2) = some (-2)
  | 0, f + 1, x2, h1, h, hf => by
    have e : x2 = 14 := by omega
    subst e
    rw [f_X3_judged_b35, if_pos (by decide)]
  | r + 1, f + 1, x2, h1, h, hf => by
    rw [f_X3_judged_b35, if_neg (by rw [L_14, le_nI (by decide) (by omega)]; omega), if_pos (by rw [isB_t0 (isB_n (lt14 hn hw)) (by omega)]; intro z; have := tb_lt hw z; omega)]
    unfold f_X3_judged_b61
    rw [nI_1]
    have := jd_in0 (n := 0) (w := w) (x2 := x2) isB_0 (fun d => False.elim) P (f_X3_judged_b35 (nI w) P f) (14 - (x2 + 1)) fuel (x2 + 1) (by omega) (by omega) (by unfold fuel; omega)
    rw [this]
    exact jd_two0 hn hw P r f (x2 + 1) (by omega) (by omega) (by omega)
  | _, 0, _, _, _, hf => by omega
theorem jd_two {w : Nat} (hn : n ≤ 14) (hw : w < 2 ^ n) (hF : zFound n R rch v M_far M_within M_tooNear) (hL : zLaid (2 ^ n - 1) R rch v mst cn P_away P_serves P_crowds P_servedLow P_servedHigh P_crowdedLow P_crowdedHigh P_there P_must P_can) (hsym : ∀ a b, dd R a b = dd R b a) (fa pi : Nat → Int32) :
    ∀ (r f f7 x2 : Nat), r + x2 = n → f ≥ r + 15 → f7 ≥ r + 1 →
    ∃ y, f_X3_judged_b35 (nI w) P_crowds f (nI x2) = some y ∧ f_X7_judge_b49 (nI w) (nI n) fa pi M_far M_within M_tooNear f7 (nI x2) = some (y, fa, pi, M_far, M_within, M_tooNear)
  | 0, f, f7 + 1, x2, h, hf, hf7 => by
    have e : x2 = n := by omega
    subst e
    refine ⟨-2, jd_two0 hn hw P_crowds (14 - x2) f x2 (Nat.le_refl _) (by omega) (by omega), ?_⟩
    rw [f_X7_judge_b49, if_pos (by rw [le_nI (by omega) (by omega)]; omega)]
  | r + 1, f + 1, f7 + 1, x2, h, hf, hf7 => by
    have h2 : x2 < n := by omega
    have hw14 := lt14 hn hw
    obtain ⟨y, i1, i2⟩ := jd_two hn hw hF hL hsym fa pi r f f7 (x2 + 1) (by omega) (by omega) (by omega)
    rw [f_X7_judge_b49, if_neg (by rw [le_nI (by omega) (by omega)]; omega), f_X3_judged_b35, if_neg (by rw [L_14, le_nI (by decide) (by omega)]; omega), ite_eqc (isB_t0 (isB_n hw14) (show x2 < 14 by omega))]
    unfold f_X3_judged_b61
    rw [nI_1]
    by_cases q : w.testBit x2 = true
    · rw [if_neg (fun z => z q), ix_nI (show x2 < 14 by omega) (by decide), cl_nI (by omega)]
      rcases jd_in hn hw hF h2 (jd_near hL hw14 (show x2 < 14 by omega)) (fun d hd => ⟨fun z => ⟨q, z.2, by rw [hsym]; exact z.1.2.2⟩, fun z => ⟨⟨tb_all.mpr h2, by omega, by rw [hsym]; exact z.2.2⟩, z.2.1⟩⟩) (fun d z => tb_lt hw z.2) P_crowds fa pi (f_X3_judged_b35 (nI w) P_crowds f) (f_X7_judge_b49 (nI w) (nI n) fa pi M_far M_within M_tooNear f7) (n - (x2 + 1)) fuel fuel (x2 + 1) (by omega) (by omega) (by unfold fuel; omega) (by unfold fuel; omega) with ⟨y2, g1, g2⟩ | ⟨g1, g2⟩
      · exact ⟨y2, g1, g2⟩
      · rw [g1, g2]
        exact ⟨y, i1, i2⟩
    · rw [if_pos q]
      rcases jd_in hn hw hF h2 isB_0 (fun d hd => ⟨False.elim, fun z => q z.1⟩) (fun d => False.elim) P_crowds fa pi (f_X3_judged_b35 (nI w) P_crowds f) (f_X7_judge_b49 (nI w) (nI n) fa pi M_far M_within M_tooNear f7) (n - (x2 + 1)) fuel fuel (x2 + 1) (by omega) (by omega) (by unfold fuel; omega) (by unfold fuel; omega) with ⟨y2, g1, g2⟩ | ⟨g1, g2⟩
      · exact ⟨y2, g1, g2⟩
      · rw [g1, g2]
        exact ⟨y, i1, i2⟩
  | _, 0, _, _, _, hf, _ => by omega
  | _, _ + 1, 0, _, _, _, hf => by omega
theorem jd_one0 {w : Nat} (hL : zLaid (2 ^ n - 1) R rch v mst cn P_away P_serves P_crowds P_servedLow P_servedHigh P_crowdedLow P_crowdedHigh P_there P_must P_can) (hn : n ≤ 14) :
    ∀ (r f x2 : Nat), n ≤ x2 → r + x2 = 14 → f ≥ r + 1 → f_X3_judged_b2 (nI w) P_crowds P_servedLow P_servedHigh P_there f (nI x2) = f_X3_judged_b35 (nI w) P_crowds fuel 0
  | 0, f + 1, x2, h1, h, hf => by
    have e : x2 = 14 := by omega
    subst e
    rw [f_X3_judged_b2, if_pos (by decide)]
  | r + 1, f + 1, x2, h1, h, hf => by
    have hth := hL.2.2.2.2.2.2.2.1
    rw [f_X3_judged_b2, if_neg (by rw [L_14, le_nI (by decide) (by omega)]; omega), hth, s_isThere (isB_n (lt14 hn (all_lt n))) (show x2 < 14 by omega), bd_of, b01_f (by rw [tb_all]; omega), if_pos rfl]
    unfold f_X3_judged_b27
    rw [nI_1, ← hth]
    exact jd_one0 hL hn r f (x2 + 1) (by omega) (by omega) (by omega)
  | _, 0, _, _, _, hf => by omega
theorem jd_one {w : Nat} (hn : n ≤ 14) (hw : w < 2 ^ n) (hF : zFound n R rch v M_far M_within M_tooNear) (hL : zLaid (2 ^ n - 1) R rch v mst cn P_away P_serves P_crowds P_servedLow P_servedHigh P_crowdedLow P_crowdedHigh P_there P_must P_can) (hsym : ∀ a b, dd R a b = dd R b a) (fa pi : Nat → Int32) :
    ∀ (r f f7 x2 : Nat), r + x2 = n → f ≥ r + 15 → f7 ≥ r + 1 →
    ∃ y, f_X3_judged_b2 (nI w) P_crowds P_servedLow P_servedHigh P_there f (nI x2) = some y ∧ f_X7_judge_b20 (nI w) (nI n) fa pi M_far M_within M_tooNear f7 (nI x2) = some (y, fa, pi, M_far, M_within, M_tooNear)
  | 0, f, f7 + 1, x2, h, hf, hf7 => by
    have e : x2 = n := by omega
    subst e
    obtain ⟨y, g1, g2⟩ := jd_two hn hw hF hL hsym fa pi x2 fuel fuel 0 (by omega) (by unfold fuel; omega) (by unfold fuel; omega)
    refine ⟨y, (jd_one0 hL hn (14 - x2) f x2 (Nat.le_refl _) (by omega) (by omega)).trans g1, ?_⟩
    rw [f_X7_judge_b20, if_pos (by rw [le_nI (by omega) (by omega)]; omega)]
    exact g2
  | r + 1, f + 1, f7 + 1, x2, h, hf, hf7 => by
    have h2 : x2 < n := by omega
    have hw14 := lt14 hn hw
    have hth := hL.2.2.2.2.2.2.2.1
    have hws : ∀ b, w.testBit b = true → (2 ^ n - 1).testBit b = true := fun b hb => tb_all.mpr (tb_lt hw hb)
    obtain ⟨y, i1, i2⟩ := jd_one hn hw hF hL hsym fa pi r f f7 (x2 + 1) (by omega) (by omega) (by omega)
    rw [f_X7_judge_b20, if_neg (by rw [le_nI (by omega) (by omega)]; omega), f_X3_judged_b2, if_neg (by rw [L_14, le_nI (by decide) (by omega)]; omega), hth, s_isThere (isB_n (lt14 hn (all_lt n))) (show x2 < 14 by omega), bd_of, b01_t (tb_all.mpr h2), if_neg (by decide), ← hth, l_isServed hL hw14 (show x2 < 14 by omega), bd_of, b01_if, ix_nI (show x2 < 14 by omega) (by decide), cl_nI (by omega), ite_eqc (m_srv hF hn hw14 h2)]
    unfold f_X3_judged_b27
    rw [nI_1]
    by_cases q : Srv n R rch w x2
    · rw [if_pos ((US_srv (rch := rch) (R := R) (all_lt n) hn hws (tb_all.mpr h2)).mpr q), if_neg (show ¬ ¬ Srv n R rch w x2 from fun z => z q)]
      exact ⟨y, i1, i2⟩
    · rw [if_neg (show ¬ zUS (SVd (2 ^ n - 1) R rch) w x2 from fun z => q ((US_srv (all_lt n) hn hws (tb_all.mpr h2)).mp z)), if_pos q]
      exact ⟨_, rfl, rfl⟩
  | _, 0, _, _, _, hf, _ => by omega
  | _, _ + 1, 0, _, _, _, hf => by omega
end JUDGE
set_option maxHeartbeats 1000000 in
theorem pu_judge {T_price : Nat → Int32} {T_year : Nat → Int32} {T_joinEnds : Nat → Int32} {T_wallEnds : Nat → Int32} {T_cost : Nat → Int32} {T_doors : Int32} {T_joins : Int32} {T_walls : Int32} {T_oldWells : Int32} {T_apart : Int32} {L_tape : Nat → Int32} {L_text : Nat → Int32} {L_fed : Int32} {L_length : Int32} {L_read : Nat} {L_end : Int32} {L_at : Int32} {L_fault : Int32} {L_d : Int32} {L_p : Int32} {L_y : Int32} {L_j : Int32} {L_o : Int32} {P_away : Nat → Nat → Int32} {P_beside : Nat → Int32} {P_reach : Nat → Int32} {P_serves : Nat → Int32} {P_crowds : Nat → Int32} {P_servedLow : Nat → Int32} {P_servedHigh : Nat → Int32} {P_crowdedLow : Nat → Int32} {P_crowdedHigh : Nat → Int32} {P_there : Int32} {P_must : Int32} {P_can : Int32} {C_what : Nat → Int32} {C_number : Nat → Int32} {C_before : Nat → Int32} {C_after : Nat → Int32} {C_done : Int32} {C_kept : Int32} {A_kinds : Nat → Int32} {A_traced : Nat → Int32} {A_bodies : Int32} {A_began : Int32} {A_self : Int32} {A_kindOfSelf : Int32} {S_holds : Nat → Int32} {S_body : Nat → Int32} {S_sort : Nat → Int32} {S_size : Nat → Int32} {S_elements : Nat → Nat → Int64} {G_grown : Nat → Int32} {M_code : Int32} {M_doors : Int32} {M_price : Nat → Int32} {M_year : Nat → Int32} {M_joins : Int32} {M_joinA : Nat → Int32} {M_joinB : Nat → Int32} {M_walls : Int32} {M_wallA : Nat → Int32} {M_wallB : Nat → Int32} {M_cost : Nat → Int32} {M_olds : Int32} {M_near : Int32} {M_doneMany : Int32} {M_undoneMany : Int32} {M_changeOf : Nat → Int32} {M_changeAt : Nat → Int32} {M_before : Nat → Int32} {M_behind : Nat → Int32} {M_tape : Nat → Int32} {M_taped : Int32} {M_here : Int32} {M_fault : Int32} {M_open : Int32} {M_laid : Int32} {M_act : Nat → Int32} {M_with : Nat → Int32} {M_lineMany : Nat → Int32} {M_testEnd : Nat → Int32} {M_lineEnd : Nat → Int32} {M_facts : Nat → Int32} {M_pile : Nat → Int32} {M_hasLaw : Int32} {M_far : Nat → Int32} {M_within : Nat → Int32} {M_tooNear : Nat → Int32} {M_dried : Int32} {M_isOn : Nat → Int32} {M_wasOn : Nat → Int32} {M_bodies : Int32} {M_kind : Nat → Int32} {M_traces : Int32} {M_traced : Nat → Int32} {M_holds : Nat → Int32} {M_size : Nat → Int32} {M_elements : Nat → Int64} {M_shifted : Nat → Int64} (hI : INV T_price T_year T_joinEnds T_wallEnds T_cost T_doors T_joins T_walls T_oldWells T_apart L_tape L_text L_fed L_length L_read L_end L_at L_fault L_d L_p L_y L_j L_o P_away P_beside P_reach P_serves P_crowds P_servedLow P_servedHigh P_crowdedLow P_crowdedHigh P_there P_must P_can C_what C_number C_before C_after C_done C_kept A_kinds A_traced A_bodies A_began A_self A_kindOfSelf S_holds S_body S_sort S_size S_elements G_grown M_code M_doors M_price M_year M_joins M_joinA M_joinB M_walls M_wallA M_wallB M_cost M_olds M_near M_doneMany M_undoneMany M_changeOf M_changeAt M_before M_behind M_tape M_taped M_here M_fault M_open M_laid M_act M_with M_lineMany M_testEnd M_lineEnd M_facts M_pile M_hasLaw M_far M_within M_tooNear M_dried M_isOn M_wasOn M_bodies M_kind M_traces M_traced M_holds M_size M_elements M_shifted) (a1 : Int32) : ∃ (rc : Int32 × Nat × Int32 × Int32 × Int32 × Int32 × Int32 × Int32 × Int32 × Int32 × (Nat → Nat → Int32) × (Nat → Int32) × (Nat → Int32) × (Nat → Int32) × (Nat → Int32) × (Nat → Int32) × (Nat → Int32) × (Nat → Int32) × (Nat → Int32) × Int32 × Int32 × Int32) (rm : Int32 × (Nat → Int32) × (Nat → Int32) × (Nat → Int32) × (Nat → Int32) × (Nat → Int32)), f_X6_judge a1 T_price T_year T_joinEnds T_wallEnds T_doors T_joins T_walls T_oldWells T_apart L_text L_length L_read L_end L_at L_fault L_d L_p L_y L_j L_o P_away P_beside P_reach P_serves P_crowds P_servedLow P_servedHigh P_crowdedLow P_crowdedHigh P_there P_must P_can = some rc ∧ f_X7_judge a1 M_doors M_price M_year M_joins M_joinA M_joinB M_olds M_near M_act M_with M_lineMany M_testEnd M_lineEnd M_facts M_pile M_hasLaw M_far M_within M_tooNear = some rm ∧ rc.1 = rm.1 ∧ INV T_price T_year T_joinEnds T_wallEnds T_cost T_doors T_joins T_walls T_oldWells T_apart L_tape L_text L_fed L_length rc.2.1 rc.2.2.1 rc.2.2.2.1 rc.2.2.2.2.1 rc.2.2.2.2.2.1 rc.2.2.2.2.2.2.1 rc.2.2.2.2.2.2.2.1 rc.2.2.2.2.2.2.2.2.1 rc.2.2.2.2.2.2.2.2.2.1 rc.2.2.2.2.2.2.2.2.2.2.1 rc.2.2.2.2.2.2.2.2.2.2.2.1 rc.2.2.2.2.2.2.2.2.2.2.2.2.1 rc.2.2.2.2.2.2.2.2.2.2.2.2.2.1 rc.2.2.2.2.2.2.2.2.2.2.2.2.2.2.1 rc.2.2.2.2.2.2.2.2.2.2.2.2.2.2.2.1 rc.2.2.2.2.2.2.2.2.2.2.2.2.2.2.2.2.1 rc.2.2.2.2.2.2.2.2.2.2.2.2.2.2.2.2.2.1 rc.2.2.2.2.2.2.2.2.2.2.2.2.2.2.2.2.2.2.1 rc.2.2.2.2.2.2.2.2.2.2.2.2.2.2.2.2.2.2.2.1 rc.2.2.2.2.2.2.2.2.2.2.2.2.2.2.2.2.2.2.2.2.1 rc.2.2.2.2.2.2.2.2.2.2.2.2.2.2.2.2.2.2.2.2.2 C_what C_number C_before C_after C_done C_kept A_kinds A_traced A_bodies A_began A_self A_kindOfSelf S_holds S_body S_sort S_size S_elements G_grown M_code M_doors M_price M_year M_joins M_joinA M_joinB M_walls M_wallA M_wallB M_cost M_olds M_near M_doneMany M_undoneMany M_changeOf M_changeAt M_before M_behind M_tape M_taped M_here M_fault M_open M_laid M_act M_with M_lineMany M_testEnd M_lineEnd rm.2.1 rm.2.2.1 M_hasLaw rm.2.2.2.1 rm.2.2.2.2.1 rm.2.2.2.2.2 M_dried M_isOn M_wasOn M_bodies M_kind M_traces M_traced M_holds M_size M_elements M_shifted := by
  have hI0 := hI
  obtain ⟨n, kj, kw, o, v, nb, hT, hL, hC, hA, hS⟩ := hI
  obtain ⟨A, B, rch, hset⟩ := SET_ex hT hL o
  have hT0 := hT
  obtain ⟨⟨b1, b2, b3, b4, b5⟩, ⟨rfl, rfl, rfl, rfl, rfl, rfl, rfl, rfl, rfl, rfl, rfl⟩, h1, h2, h3, h4, h5⟩ := hT
  unfold f_X6_judge f_X7_judge
  rcases s_areDoors a1 n b1 with ⟨q1, q2, w, hw, rfl⟩ | ⟨q1, q2⟩
  · have z1 : ¬ (1 : Int32) = 0 := by decide
    rw [q1, bd_of, if_neg z1, q2, bd_of, if_neg z1]
    obtain ⟨rd, e, a', f', d, p, y, j, o', W', Be', P', sv', cw', sl', sh', cl', ch', mu, ca, t1, t2⟩ := s_settle hset b1 b4 b5 h1 L_read L_end L_at L_fault L_d L_p L_y L_j L_o P_away P_beside P_reach P_serves P_crowds P_servedLow P_servedHigh P_crowdedLow P_crowdedHigh P_there P_must P_can
    obtain ⟨fa', pi', far', wi', tn', g1, g2⟩ := s_findAll b1 (all_lt n) b5 hset.1 hset.2.2.1 hset.2.2.2.2 M_facts M_pile M_far M_within M_tooNear
    have hR := RJ_lt (s := 2 ^ n - 1) (fun i hi => (hset.2.2.1.2 i hi).1)
    obtain ⟨y0, j1, j2⟩ := jd_one b1 hw g2 t2 (dd_sym b1 hR (fun a b => RJ_sym)) fa' pi' n fuel fuel 0 (by omega) (by unfold fuel; omega) (by unfold fuel; omega)
    rw [t1, bd_of, s_allDoors b1, bd_of, g1, bd_of]
    unfold f_X3_judged
    refine ⟨_, _, congrArg (fun z => bd z _) j1, j2, rfl, n, kj, kw, o, v, nb, hT0, hL, hC, hA, hS⟩
  · rw [q1, bd_of, if_pos rfl, q2, bd_of, if_pos rfl]
    exact ⟨_, _, rfl, rfl, rfl, hI0⟩
