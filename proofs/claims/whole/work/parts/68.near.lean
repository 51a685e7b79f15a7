/-! the well to which a door goes; goes, worth, steps, missed -/
section NEAR
variable {n v : Nat} {R : Nat → Nat → Prop} {M_far : Nat → Int32} {P_away : Nat → Nat → Int32}
/-- both sides' well so far -/
def NWl (n : Nat) (R : Nat → Nat → Prop) (d : Nat) (x3 x4 y3 : Int32) : Prop := (x3 = -2 ∧ x4 = 99 ∧ y3 = -1) ∨ ∃ c, c < n ∧ x3 = nI c ∧ x4 = nI (dd R d c) ∧ y3 = nI c ∧ dd R d c < 99
theorem nw_tail {w d : Nat} (hn : n ≤ 14) (hw : w < 2 ^ n) : ∀ (r f m : Nat) (x3 x4 : Int32), n ≤ m → r + m = 14 → f ≥ r + 1 → f_X3_nearest_b10 (nI w) (nI d) P_away f x3 x4 (nI m) = some x3
  | 0, f + 1, m, x3, x4, h1, h, hf => by
    have e : m = 14 := by omega
    subst e
    rw [f_X3_nearest_b10, if_pos (by decide)]
  | r + 1, f + 1, m, x3, x4, h1, h, hf => by
    rw [f_X3_nearest_b10, if_neg (by rw [L_14, le_nI (by decide) (by omega)]; omega), if_pos (by rw [isB_t0 (isB_n (lt14 hn hw)) (by omega)]; intro z; have := tb_lt hw z; omega)]
    unfold f_X3_nearest_b54
    rw [nI_1]
    exact nw_tail hn hw r f (m + 1) x3 x4 (by omega) (by omega) (by omega)
  | _, 0, _, _, _, _, _, hf => by omega
theorem nw_loop {w d : Nat} (hn : n ≤ 14) (hw : w < 2 ^ n) (hd : d < n) (hA : ∀ a b, a < 14 → b < 14 → P_away a b = nI (dd R a b)) (hF : ∀ a b, a < n → b < n → M_far (14 * a + b) = nI (dd R a b)) (h99 : ∀ a b, dd R a b ≤ 99) :
    ∀ (r f f7 m : Nat) (x3 x4 y3 : Int32), r + m = n → f ≥ r + 15 → f7 ≥ r + 1 → NWl n R d x3 x4 y3 →
    ∃ x3' x4' y3', f_X3_nearest_b10 (nI w) (nI d) P_away f x3 x4 (nI m) = some x3' ∧ f_X7_wellOf_b5 (nI w) (nI d) (nI n) M_far f7 y3 (nI m) = some y3' ∧ NWl n R d x3' x4' y3'
  | 0, f, f7 + 1, m, x3, x4, y3, h, hf, hf7, hx => by
    have e : m = n := by omega
    subst e
    exact ⟨x3, x4, y3, nw_tail hn hw (14 - m) f m x3 x4 (Nat.le_refl _) (by omega) (by omega), by rw [f_X7_wellOf_b5, if_pos (by rw [le_nI (by omega) (by omega)]; omega)], hx⟩
  | r + 1, f + 1, f7 + 1, m, x3, x4, y3, h, hf, hf7, hx => by
    have hm : m < n := by omega
    have h9 := h99 d m
    have ih := fun x3 x4 y3 hx => nw_loop hn hw hd hA hF h99 r f f7 (m + 1) x3 x4 y3 (by omega) (by omega) (by omega) hx
    rw [f_X7_wellOf_b5, if_neg (by rw [le_nI (by omega) (by omega)]; omega), f_X3_nearest_b10, if_neg (by rw [L_14, le_nI (by decide) (by omega)]; omega), ite_eqc (isB_t0 (isB_n (lt14 hn hw)) (show m < 14 by omega)), ite_eqc (isB_t1 (isB_n (lt14 hn hw)) (show m < 14 by omega))]
    unfold f_X3_nearest_b54 f_X7_wellOf_b74 f_X7_wellOf_b71 f_X7_wellOf_b74
    rw [nI_1]
    by_cases q : w.testBit m = true
    · rw [if_neg (fun z => z q), if_pos q, ix_nI (show d < 14 by omega) (by decide), ix_nI (show m < 14 by omega) (by decide), ix_nI (show d < 14 by omega) (by decide), ix_nI (show m < 14 by omega) (by decide), cl_nI (by omega), cl_nI (by omega), hA d m (by omega) (by omega), L_14, pk_mul, nI_add, ix_nI (show 14 * d + m < 196 by omega) (by decide), ix_nI (show 14 * d + m < 196 by omega) (by decide), cl_nI (by omega), hF d m hd hm]
      rcases hx with ⟨rfl, rfl, rfl⟩ | ⟨c, hc, rfl, rfl, rfl, hcd⟩
      · rw [if_pos (show (-1 : Int32) < 0 by decide), L_99, ite_eqc (le_nI (by omega) (by omega)), ite_eqc (le_nI (by omega) (by omega))]
        by_cases q2 : 99 ≤ dd R d m
        · rw [if_pos q2, if_pos q2]
          exact ih _ _ _ (Or.inl ⟨rfl, rfl, rfl⟩)
        · rw [if_neg q2, if_neg q2]
          exact ih _ _ _ (Or.inr ⟨m, hm, rfl, rfl, rfl, by omega⟩)
      · rw [if_neg (nI_pos (n := c) (by omega)), L_99, ite_eqc (le_nI (by omega) (by omega)), ite_eqc (le_nI (by omega) (by omega)), nI_add, ix_nI (show 14 * d + c < 196 by omega) (by decide), cl_nI (by omega), hF d c hd hc, ite_eqc (le_nI (by omega) (by omega))]
        by_cases q2 : 99 ≤ dd R d m
        · rw [if_pos q2, if_pos (show dd R d c ≤ dd R d m by omega)]
          exact ih _ _ _ (Or.inr ⟨c, hc, rfl, rfl, rfl, hcd⟩)
        · rw [if_neg q2]
          by_cases q3 : dd R d c ≤ dd R d m
          · rw [if_pos q3, if_pos q3]
            exact ih _ _ _ (Or.inr ⟨c, hc, rfl, rfl, rfl, hcd⟩)
          · rw [if_neg q3, if_neg q3]
            exact ih _ _ _ (Or.inr ⟨m, hm, rfl, rfl, rfl, by omega⟩)
    · rw [if_pos q, if_neg q]
      exact ih _ _ _ hx
  | _, 0, _, _, _, _, _, _, hf, _, _ => by omega
  | _, _ + 1, 0, _, _, _, _, _, _, hf, _ => by omega
theorem s_near {w d : Nat} (hn : n ≤ 14) (hw : w < 2 ^ n) (hd : d < n) (hA : ∀ a b, a < 14 → b < 14 → P_away a b = nI (dd R a b)) (hF : ∀ a b, a < n → b < n → M_far (14 * a + b) = nI (dd R a b)) (h99 : ∀ a b, dd R a b ≤ 99) :
    (f_X3_nearest (nI w) (nI d) P_away = some (-2) ∧ f_X7_wellOf (nI w) (nI d) (nI n) M_far = some (-1)) ∨ ∃ c, c < n ∧ f_X3_nearest (nI w) (nI d) P_away = some (nI c) ∧ f_X7_wellOf (nI w) (nI d) (nI n) M_far = some (nI c) := by
  obtain ⟨x, y, z, g1, g2, ⟨rfl, -, rfl⟩ | ⟨c, hc, rfl, -, rfl, -⟩⟩ := nw_loop hn hw hd hA hF h99 n fuel fuel 0 (-2) 99 (-1) (by omega) (by unfold fuel; omega) (by unfold fuel; omega) (Or.inl ⟨rfl, rfl, rfl⟩)
  · exact Or.inl ⟨g1, g2⟩
  · exact Or.inr ⟨c, hc, g1, g2⟩
variable {L_read : Nat} {L_end L_at L_fault L_d L_p L_y L_j L_o : Int32} {Be P sv cw sl sh cl ch : Nat → Int32} {th mu ca : Int32}
theorem wo_loop {w e : Nat} (hn : n ≤ 14) (hw : w < 2 ^ n) (he : e < n) (hA : ∀ a b, a < 14 → b < 14 → P_away a b = nI (dd R a b)) (hF : ∀ a b, a < n → b < n → M_far (14 * a + b) = nI (dd R a b)) (h99 : ∀ a b, dd R a b ≤ 99) :
    ∀ (r f f7 m : Nat) (x3 : Int32), r + m = n → f ≥ r + 1 → f7 ≥ r + 1 →
    ∃ y, f_X6_worth_b20 (nI w) (nI e) (nI n) L_read L_end L_at L_fault L_d L_p L_y L_j L_o P_away Be P sv cw sl sh cl ch th mu ca f x3 (nI m) = some (y, L_read, L_end, L_at, L_fault, L_d, L_p, L_y, L_j, L_o, P_away, Be, P, sv, cw, sl, sh, cl, ch, th, mu, ca) ∧ f_X7_worth_b39 (nI w) (nI e) (nI n) M_far f7 x3 (nI m) = some (y, M_far)
  | 0, f + 1, f7 + 1, m, x3, h, hf, hf7 => by
    have e : m = n := by omega
    subst e
    rw [f_X7_worth_b39, if_pos (by rw [le_nI (by omega) (by omega)]; omega), f_X6_worth_b20, if_pos (by rw [le_nI (by omega) (by omega)]; omega)]
    exact ⟨_, rfl, rfl⟩
  | r + 1, f + 1, f7 + 1, m, x3, h, hf, hf7 => by
    have ih := fun x3 => wo_loop hn hw he hA hF h99 r f f7 (m + 1) x3 (by omega) (by omega) (by omega)
    rw [f_X7_worth_b39, if_neg (by rw [le_nI (by omega) (by omega)]; omega), f_X6_worth_b20, if_neg (by rw [le_nI (by omega) (by omega)]; omega)]
    unfold f_X6_worth_b49 f_X7_worth_b62
    rw [nI_1]
    rcases s_near hn hw (show m < n by omega) hA hF h99 with ⟨g1, g2⟩ | ⟨c, hc, g1, g2⟩
    · have n1 : ¬ (-2 : Int32) = nI e := fun z => nI_pos (n := e) (by omega) (by rw [← z]; decide)
      have n2 : ¬ (-1 : Int32) = nI e := fun z => nI_pos (n := e) (by omega) (by rw [← z]; decide)
      rw [g1, bd_of, if_neg n1, g2, bd_of, if_neg n2]
      exact ih x3
    · rw [g1, bd_of, g2, bd_of]
      by_cases q : nI c = nI e
      · rw [if_pos q, if_pos q]
        exact ih _
      · rw [if_neg q, if_neg q]
        exact ih _
  | _, 0, _, _, _, _, hf, _ => by omega
  | _, _ + 1, 0, _, _, _, _, hf => by omega
theorem st_loop {w : Nat} {x2 : Int32} (hn : n ≤ 14) (hw : w < 2 ^ n) (hA : ∀ a b, a < 14 → b < 14 → P_away a b = nI (dd R a b)) (hF : ∀ a b, a < n → b < n → M_far (14 * a + b) = nI (dd R a b)) (h99 : ∀ a b, dd R a b ≤ 99) :
    ∀ (r f f7 m : Nat) (x3 x4 : Int32), r + m = n → f ≥ r + 1 → f7 ≥ r + 1 →
    ∃ y, f_X6_steps_b33 (nI w) x2 (nI n) L_read L_end L_at L_fault L_d L_p L_y L_j L_o P_away Be P sv cw sl sh cl ch th mu ca f x3 x4 (nI m) = some (y, L_read, L_end, L_at, L_fault, L_d, L_p, L_y, L_j, L_o, P_away, Be, P, sv, cw, sl, sh, cl, ch, th, mu, ca) ∧ f_X7_steps_b35 (nI w) x2 (nI n) M_far f7 x3 x4 (nI m) = some (y, M_far)
  | 0, f + 1, f7 + 1, m, x3, x4, h, hf, hf7 => by
    have e : m = n := by omega
    subst e
    rw [f_X7_steps_b35, if_pos (by rw [le_nI (by omega) (by omega)]; omega), f_X6_steps_b33, if_pos (by rw [le_nI (by omega) (by omega)]; omega)]
    by_cases q : x2 = 0
    · rw [if_pos q, if_pos q]
      exact ⟨_, rfl, rfl⟩
    · rw [if_neg q, if_neg q]
      exact ⟨_, rfl, rfl⟩
  | r + 1, f + 1, f7 + 1, m, x3, x4, h, hf, hf7 => by
    have hm : m < n := by omega
    have ih := fun x3 x4 => st_loop (x2 := x2) hn hw hA hF h99 r f f7 (m + 1) x3 x4 (by omega) (by omega) (by omega)
    have mx : ∀ {α : Type} (K : Int32 → Int32 → α) (a b : Int32), (if b ≤ x4 then K a x4 else K a b) = K a (if x4 < b then b else x4) := by
      intro α K a b
      by_cases q : b ≤ x4
      · rw [if_pos q, if_neg (Int32.not_lt.mpr q)]
      · rw [if_neg q, if_pos (Int32.not_le.mp q)]
    rw [f_X7_steps_b35, if_neg (by rw [le_nI (by omega) (by omega)]; omega), f_X6_steps_b33, if_neg (by rw [le_nI (by omega) (by omega)]; omega)]
    unfold f_X6_steps_b80 f_X6_steps_b94 f_X7_steps_b76 f_X7_steps_b88 f_X7_steps_b99
    rw [nI_1]
    rcases s_near hn hw hm hA hF h99 with ⟨g1, g2⟩ | ⟨c, hc, g1, g2⟩
    · have n1 : ¬ (0 : Int32) ≤ -2 := by decide
      have n2 : ¬ (0 : Int32) ≤ -1 := by decide
      have n3 : (-1 : Int32) < 0 := by decide
      rw [g1, bd_of, g2, bd_of, if_neg n1, if_neg n1, if_neg n2, if_pos n3, mx (fun a b => f_X7_steps_b35 (nI w) x2 (nI n) M_far f7 a b (nI (m + 1))) x3 99, Int32.add_zero]
      exact ih _ _
    · have n1 : (0 : Int32) ≤ nI c := by
        rw [L_0, le_nI (by decide) (by omega)]
        omega
      rw [g1, bd_of, g2, bd_of, if_pos n1, if_pos n1, if_pos n1, if_neg (nI_pos (n := c) (by omega)), ix_nI (show m < 14 by omega) (by decide), ix_nI (show c < 14 by omega) (by decide), cl_nI (by omega), cl_nI (by omega), hA m c (by omega) (by omega), L_14, pk_mul, nI_add, ix_nI (show 14 * m + c < 196 by omega) (by decide), cl_nI (by omega), hF m c hm hc, mx (fun a b => f_X7_steps_b35 (nI w) x2 (nI n) M_far f7 a b (nI (m + 1)))]
      exact ih _ _
  | _, 0, _, _, _, _, _, hf, _ => by omega
  | _, _ + 1, 0, _, _, _, _, _, hf => by omega
end NEAR
theorem s_hasWell (x y : Int32) (n : Nat) (hn : n ≤ 14) : (f_X6_hasWell x y (nI n) = some 0 ∧ (f_X7_isLaying x (nI n) = some 0 ∨ (f_X7_isLaying x (nI n) = some 1 ∧ f_X7_isDoor y (nI n) = some 0) ∨ (f_X7_isLaying x (nI n) = some 1 ∧ f_X7_isDoor y (nI n) = some 1 ∧ (x >>> (y &&& 31)) &&& 1 = 0))) ∨
    (f_X6_hasWell x y (nI n) = some 1 ∧ f_X7_isLaying x (nI n) = some 1 ∧ f_X7_isDoor y (nI n) = some 1 ∧ ¬ (x >>> (y &&& 31)) &&& 1 = 0 ∧ ∃ w e, w < 2 ^ n ∧ e < n ∧ x = nI w ∧ y = nI e ∧ w.testBit e = true) := by
  have z1 : ¬ (1 : Int32) = 0 := by decide
  unfold f_X6_hasWell
  rcases s_areDoors x n hn with ⟨q1, q2, w, hw, rfl⟩ | ⟨q1, q2⟩
  · rw [q1, bd_of, if_neg z1, s_isDoor5, bd_of, i01, s_isDoor7 _ _ (by omega), q2]
    by_cases h : y < 0 ∨ nI n ≤ y
    · rw [if_pos h, if_pos h]
      exact Or.inl ⟨rfl, Or.inr (Or.inl ⟨rfl, rfl⟩)⟩
    · rw [if_neg h, if_neg h]
      obtain ⟨e, he, rfl⟩ := nI_lt_of (show n < 2 ^ 31 by omega) h
      by_cases h2 : (nI w >>> (nI e &&& 31)) &&& 1 = 0
      · rw [if_pos h2]
        exact Or.inl ⟨rfl, Or.inr (Or.inr ⟨rfl, rfl, h2⟩)⟩
      · rw [if_neg h2]
        refine Or.inr ⟨rfl, rfl, rfl, h2, w, e, hw, he, rfl, rfl, ?_⟩
        rw [isB_t0 (isB_n (lt14 hn hw)) (by omega)] at h2
        exact Classical.byContradiction h2
  · rw [q1, bd_of, if_pos rfl]
    exact Or.inl ⟨rfl, Or.inl q2⟩
set_option maxHeartbeats 1000000 in
theorem pu_goes {T_price : Nat → Int32} {T_year : Nat → Int32} {T_joinEnds : Nat → Int32} {T_wallEnds : Nat → Int32} {T_cost : Nat → Int32} {T_doors : Int32} {T_joins : Int32} {T_walls : Int32} {T_oldWells : Int32} {T_apart : Int32} {L_tape : Nat → Int32} {L_text : Nat → Int32} {L_fed : Int32} {L_length : Int32} {L_read : Nat} {L_end : Int32} {L_at : Int32} {L_fault : Int32} {L_d : Int32} {L_p : Int32} {L_y : Int32} {L_j : Int32} {L_o : Int32} {P_away : Nat → Nat → Int32} {P_beside : Nat → Int32} {P_reach : Nat → Int32} {P_serves : Nat → Int32} {P_crowds : Nat → Int32} {P_servedLow : Nat → Int32} {P_servedHigh : Nat → Int32} {P_crowdedLow : Nat → Int32} {P_crowdedHigh : Nat → Int32} {P_there : Int32} {P_must : Int32} {P_can : Int32} {C_what : Nat → Int32} {C_number : Nat → Int32} {C_before : Nat → Int32} {C_after : Nat → Int32} {C_done : Int32} {C_kept : Int32} {A_kinds : Nat → Int32} {A_traced : Nat → Int32} {A_bodies : Int32} {A_began : Int32} {A_self : Int32} {A_kindOfSelf : Int32} {S_holds : Nat → Int32} {S_body : Nat → Int32} {S_sort : Nat → Int32} {S_size : Nat → Int32} {S_elements : Nat → Nat → Int64} {G_grown : Nat → Int32} {M_code : Int32} {M_doors : Int32} {M_price : Nat → Int32} {M_year : Nat → Int32} {M_joins : Int32} {M_joinA : Nat → Int32} {M_joinB : Nat → Int32} {M_walls : Int32} {M_wallA : Nat → Int32} {M_wallB : Nat → Int32} {M_cost : Nat → Int32} {M_olds : Int32} {M_near : Int32} {M_doneMany : Int32} {M_undoneMany : Int32} {M_changeOf : Nat → Int32} {M_changeAt : Nat → Int32} {M_before : Nat → Int32} {M_behind : Nat → Int32} {M_tape : Nat → Int32} {M_taped : Int32} {M_here : Int32} {M_fault : Int32} {M_open : Int32} {M_laid : Int32} {M_act : Nat → Int32} {M_with : Nat → Int32} {M_lineMany : Nat → Int32} {M_testEnd : Nat → Int32} {M_lineEnd : Nat → Int32} {M_facts : Nat → Int32} {M_pile : Nat → Int32} {M_hasLaw : Int32} {M_far : Nat → Int32} {M_within : Nat → Int32} {M_tooNear : Nat → Int32} {M_dried : Int32} {M_isOn : Nat → Int32} {M_wasOn : Nat → Int32} {M_bodies : Int32} {M_kind : Nat → Int32} {M_traces : Int32} {M_traced : Nat → Int32} {M_holds : Nat → Int32} {M_size : Nat → Int32} {M_elements : Nat → Int64} {M_shifted : Nat → Int64} (hI : INV T_price T_year T_joinEnds T_wallEnds T_cost T_doors T_joins T_walls T_oldWells T_apart L_tape L_text L_fed L_length L_read L_end L_at L_fault L_d L_p L_y L_j L_o P_away P_beside P_reach P_serves P_crowds P_servedLow P_servedHigh P_crowdedLow P_crowdedHigh P_there P_must P_can C_what C_number C_before C_after C_done C_kept A_kinds A_traced A_bodies A_began A_self A_kindOfSelf S_holds S_body S_sort S_size S_elements G_grown M_code M_doors M_price M_year M_joins M_joinA M_joinB M_walls M_wallA M_wallB M_cost M_olds M_near M_doneMany M_undoneMany M_changeOf M_changeAt M_before M_behind M_tape M_taped M_here M_fault M_open M_laid M_act M_with M_lineMany M_testEnd M_lineEnd M_facts M_pile M_hasLaw M_far M_within M_tooNear M_dried M_isOn M_wasOn M_bodies M_kind M_traces M_traced M_holds M_size M_elements M_shifted) (a1 : Int32) (a2 : Int32) : ∃ (rc : Int32 × Nat × Int32 × Int32 × Int32 × Int32 × Int32 × Int32 × Int32 × Int32 × (Nat → Nat → Int32) × (Nat → Int32) × (Nat → Int32) × (Nat → Int32) × (Nat → Int32) × (Nat → Int32) × (Nat → Int32) × (Nat → Int32) × (Nat → Int32) × Int32 × Int32 × Int32) (rm : Int32 × (Nat → Int32)), f_X6_goes a1 a2 T_price T_year T_joinEnds T_wallEnds T_doors T_joins T_walls T_oldWells T_apart L_text L_length L_read L_end L_at L_fault L_d L_p L_y L_j L_o P_away P_beside P_reach P_serves P_crowds P_servedLow P_servedHigh P_crowdedLow P_crowdedHigh P_there P_must P_can = some rc ∧ f_X7_goes a1 a2 M_doors M_joins M_joinA M_joinB M_far = some rm ∧ rc.1 = rm.1 ∧ INV T_price T_year T_joinEnds T_wallEnds T_cost T_doors T_joins T_walls T_oldWells T_apart L_tape L_text L_fed L_length rc.2.1 rc.2.2.1 rc.2.2.2.1 rc.2.2.2.2.1 rc.2.2.2.2.2.1 rc.2.2.2.2.2.2.1 rc.2.2.2.2.2.2.2.1 rc.2.2.2.2.2.2.2.2.1 rc.2.2.2.2.2.2.2.2.2.1 rc.2.2.2.2.2.2.2.2.2.2.1 rc.2.2.2.2.2.2.2.2.2.2.2.1 rc.2.2.2.2.2.2.2.2.2.2.2.2.1 rc.2.2.2.2.2.2.2.2.2.2.2.2.2.1 rc.2.2.2.2.2.2.2.2.2.2.2.2.2.2.1 rc.2.2.2.2.2.2.2.2.2.2.2.2.2.2.2.1 rc.2.2.2.2.2.2.2.2.2.2.2.2.2.2.2.2.1 rc.2.2.2.2.2.2.2.2.2.2.2.2.2.2.2.2.2.1 rc.2.2.2.2.2.2.2.2.2.2.2.2.2.2.2.2.2.2.1 rc.2.2.2.2.2.2.2.2.2.2.2.2.2.2.2.2.2.2.2.1 rc.2.2.2.2.2.2.2.2.2.2.2.2.2.2.2.2.2.2.2.2.1 rc.2.2.2.2.2.2.2.2.2.2.2.2.2.2.2.2.2.2.2.2.2 C_what C_number C_before C_after C_done C_kept A_kinds A_traced A_bodies A_began A_self A_kindOfSelf S_holds S_body S_sort S_size S_elements G_grown M_code M_doors M_price M_year M_joins M_joinA M_joinB M_walls M_wallA M_wallB M_cost M_olds M_near M_doneMany M_undoneMany M_changeOf M_changeAt M_before M_behind M_tape M_taped M_here M_fault M_open M_laid M_act M_with M_lineMany M_testEnd M_lineEnd M_facts M_pile M_hasLaw rm.2 M_within M_tooNear M_dried M_isOn M_wasOn M_bodies M_kind M_traces M_traced M_holds M_size M_elements M_shifted := by
  have hI0 := hI
  obtain ⟨n, kj, kw, o, v, nb, hT, hL, hC, hA, hS⟩ := hI
  obtain ⟨A, B, rch, hset⟩ := SET_ex hT hL o
  have hT0 := hT
  obtain ⟨⟨b1, b2, b3, b4, b5⟩, ⟨rfl, rfl, rfl, rfl, rfl, rfl, rfl, rfl, rfl, rfl, rfl⟩, h1, h2, h3, h4, h5⟩ := hT
  have hp := p14 b1
  have z1 : ¬ (1 : Int32) = 0 := by decide
  have hR := RJ_lt (s := 2 ^ n - 1) (fun i hi => (hset.2.2.1.2 i hi).1)
  obtain ⟨rd, e, a', f', d, p, y, j, o', W', Be', P', sv', cw', sl', sh', cl', ch', mu, ca, t1, t2⟩ := s_settle hset b1 b4 b5 h1 L_read L_end L_at L_fault L_d L_p L_y L_j L_o P_away P_beside P_reach P_serves P_crowds P_servedLow P_servedHigh P_crowdedLow P_crowdedHigh P_there P_must P_can
  obtain ⟨far', g1, g2⟩ := s_findFar b1 (all_lt n) hset.2.2.1 M_far
  unfold f_X6_goes f_X7_goes
  rw [t1, bd_of, s_allDoors b1, bd_of, g1, bd_of, s_isDoor5, bd_of, i01, s_isDoor7 _ n (by omega), bd_of, i01]
  rcases s_areDoors a1 n b1 with ⟨q1, q2, w, hw, rfl⟩ | ⟨q1, q2⟩
  · rw [q1, bd_of, if_neg z1, q2, bd_of, if_neg z1]
    by_cases q : a2 < 0 ∨ nI n ≤ a2
    · rw [if_pos q, if_pos q]
      exact ⟨_, _, rfl, rfl, rfl, hI0⟩
    rw [if_neg q, if_neg q]
    obtain ⟨c, hc, rfl⟩ := nI_lt_of (show n < 2 ^ 31 by omega) q
    dsimp only
    rcases s_near b1 hw hc t2.1 g2 (dd_le b1 hR) with ⟨k1, k2⟩ | ⟨m, hm, k1, k2⟩
    · rw [k1, bd_of, k2, bd_of, if_neg (by decide)]
      exact ⟨_, _, rfl, rfl, rfl, n, kj, kw, o, v, nb, hT0, hL, hC, hA, hS⟩
    · rw [k1, bd_of, k2, bd_of, if_pos (by rw [L_0, le_nI (by decide) (by omega)]; omega)]
      exact ⟨_, _, rfl, rfl, rfl, n, kj, kw, o, v, nb, hT0, hL, hC, hA, hS⟩
  · rw [q1, bd_of, if_pos rfl, q2, bd_of, if_pos rfl]
    exact ⟨_, _, rfl, rfl, rfl, hI0⟩
set_option maxHeartbeats 1000000 in
theorem pu_worth {T_price : Nat → Int32} {T_year : Nat → Int32} {T_joinEnds : Nat → Int32} {T_wallEnds : Nat → Int32} {T_cost : Nat → Int32} {T_doors : Int32} {T_joins : Int32} {T_walls : Int32} {T_oldWells : Int32} {T_apart : Int32} {L_tape : Nat → Int32} {L_text : Nat → Int32} {L_fed : Int32} {L_length : Int32} {L_read : Nat} {L_end : Int32} {L_at : Int32} {L_fault : Int32} {L_d : Int32} {L_p : Int32} {L_y : Int32} {L_j : Int32} {L_o : Int32} {P_away : Nat → Nat → Int32} {P_beside : Nat → Int32} {P_reach : Nat → Int32} {P_serves : Nat → Int32} {P_crowds : Nat → Int32} {P_servedLow : Nat → Int32} {P_servedHigh : Nat → Int32} {P_crowdedLow : Nat → Int32} {P_crowdedHigh : Nat → Int32} {P_there : Int32} {P_must : Int32} {P_can : Int32} {C_what : Nat → Int32} {C_number : Nat → Int32} {C_before : Nat → Int32} {C_after : Nat → Int32} {C_done : Int32} {C_kept : Int32} {A_kinds : Nat → Int32} {A_traced : Nat → Int32} {A_bodies : Int32} {A_began : Int32} {A_self : Int32} {A_kindOfSelf : Int32} {S_holds : Nat → Int32} {S_body : Nat → Int32} {S_sort : Nat → Int32} {S_size : Nat → Int32} {S_elements : Nat → Nat → Int64} {G_grown : Nat → Int32} {M_code : Int32} {M_doors : Int32} {M_price : Nat → Int32} {M_year : Nat → Int32} {M_joins : Int32} {M_joinA : Nat → Int32} {M_joinB : Nat → Int32} {M_walls : Int32} {M_wallA : Nat → Int32} {M_wallB : Nat → Int32} {M_cost : Nat → Int32} {M_olds : Int32} {M_near : Int32} {M_doneMany : Int32} {M_undoneMany : Int32} {M_changeOf : Nat → Int32} {M_changeAt : Nat → Int32} {M_before : Nat → Int32} {M_behind : Nat → Int32} {M_tape : Nat → Int32} {M_taped : Int32} {M_here : Int32} {M_fault : Int32} {M_open : Int32} {M_laid : Int32} {M_act : Nat → Int32} {M_with : Nat → Int32} {M_lineMany : Nat → Int32} {M_testEnd : Nat → Int32} {M_lineEnd : Nat → Int32} {M_facts : Nat → Int32} {M_pile : Nat → Int32} {M_hasLaw : Int32} {M_far : Nat → Int32} {M_within : Nat → Int32} {M_tooNear : Nat → Int32} {M_dried : Int32} {M_isOn : Nat → Int32} {M_wasOn : Nat → Int32} {M_bodies : Int32} {M_kind : Nat → Int32} {M_traces : Int32} {M_traced : Nat → Int32} {M_holds : Nat → Int32} {M_size : Nat → Int32} {M_elements : Nat → Int64} {M_shifted : Nat → Int64} (hI : INV T_price T_year T_joinEnds T_wallEnds T_cost T_doors T_joins T_walls T_oldWells T_apart L_tape L_text L_fed L_length L_read L_end L_at L_fault L_d L_p L_y L_j L_o P_away P_beside P_reach P_serves P_crowds P_servedLow P_servedHigh P_crowdedLow P_crowdedHigh P_there P_must P_can C_what C_number C_before C_after C_done C_kept A_kinds A_traced A_bodies A_began A_self A_kindOfSelf S_holds S_body S_sort S_size S_elements G_grown M_code M_doors M_price M_year M_joins M_joinA M_joinB M_walls M_wallA M_wallB M_cost M_olds M_near M_doneMany M_undoneMany M_changeOf M_changeAt M_before M_behind M_tape M_taped M_here M_fault M_open M_laid M_act M_with M_lineMany M_testEnd M_lineEnd M_facts M_pile M_hasLaw M_far M_within M_tooNear M_dried M_isOn M_wasOn M_bodies M_kind M_traces M_traced M_holds M_size M_elements M_shifted) (a1 : Int32) (a2 : Int32) : ∃ (rc : Int32 × Nat × Int32 × Int32 × Int32 × Int32 × Int32 × Int32 × Int32 × Int32 × (Nat → Nat → Int32) × (Nat → Int32) × (Nat → Int32) × (Nat → Int32) × (Nat → Int32) × (Nat → Int32) × (Nat → Int32) × (Nat → Int32) × (Nat → Int32) × Int32 × Int32 × Int32) (rm : Int32 × (Nat → Int32)), f_X6_worth a1 a2 T_price T_year T_joinEnds T_wallEnds T_doors T_joins T_walls T_oldWells T_apart L_text L_length L_read L_end L_at L_fault L_d L_p L_y L_j L_o P_away P_beside P_reach P_serves P_crowds P_servedLow P_servedHigh P_crowdedLow P_crowdedHigh P_there P_must P_can = some rc ∧ f_X7_worth a1 a2 M_doors M_joins M_joinA M_joinB M_far = some rm ∧ rc.1 = rm.1 ∧ INV T_price T_year T_joinEnds T_wallEnds T_cost T_doors T_joins T_walls T_oldWells T_apart L_tape L_text L_fed L_length rc.2.1 rc.2.2.1 rc.2.2.2.1 rc.2.2.2.2.1 rc.2.2.2.2.2.1 rc.2.2.2.2.2.2.1 rc.2.2.2.2.2.2.2.1 rc.2.2.2.2.2.2.2.2.1 rc.2.2.2.2.2.2.2.2.2.1 rc.2.2.2.2.2.2.2.2.2.2.1 rc.2.2.2.2.2.2.2.2.2.2.2.1 rc.2.2.2.2.2.2.2.2.2.2.2.2.1 rc.2.2.2.2.2.2.2.2.2.2.2.2.2.1 rc.2.2.2.2.2.2.2.2.2.2.2.2.2.2.1 rc.2.2.2.2.2.2.2.2.2.2.2.2.2.2.2.1 rc.2.2.2.2.2.2.2.2.2.2.2.2.2.2.2.2.1 rc.2.2.2.2.2.2.2.2.2.2.2.2.2.2.2.2.2.1 rc.2.2.2.2.2.2.2.2.2.2.2.2.2.2.2.2.2.2.1 rc.2.2.2.2.2.2.2.2.2.2.2.2.2.2.2.2.2.2.2.1 rc.2.2.2.2.2.2.2.2.2.2.2.2.2.2.2.2.2.2.2.2.1 rc.2.2.2.2.2.2.2.2.2.2.2.2.2.2.2.2.2.2.2.2.2 C_what C_number C_before C_after C_done C_kept A_kinds A_traced A_bodies A_began A_self A_kindOfSelf S_holds S_body S_sort S_size S_elements G_grown M_code M_doors M_price M_year M_joins M_joinA M_joinB M_walls M_wallA M_wallB M_cost M_olds M_near M_doneMany M_undoneMany M_changeOf M_changeAt M_before M_behind M_tape M_taped M_here M_fault M_open M_laid M_act M_with M_lineMany M_testEnd M_lineEnd M_facts M_pile M_hasLaw rm.2 M_within M_tooNear M_dried M_isOn M_wasOn M_bodies M_kind M_traces M_traced M_holds M_size M_elements M_shifted := by
  have hI0 := hI
  obtain ⟨n, kj, kw, o, v, nb, hT, hL, hC, hA, hS⟩ := hI
  obtain ⟨A, B, rch, hset⟩ := SET_ex hT hL o
  have hT0 := hT
  obtain ⟨⟨b1, b2, b3, b4, b5⟩, ⟨rfl, rfl, rfl, rfl, rfl, rfl, rfl, rfl, rfl, rfl, rfl⟩, h1, h2, h3, h4, h5⟩ := hT
  have hp := p14 b1
  have z1 : ¬ (1 : Int32) = 0 := by decide
  have hR := RJ_lt (s := 2 ^ n - 1) (fun i hi => (hset.2.2.1.2 i hi).1)
  obtain ⟨rd, e, a', f', d, p, y, j, o', W', Be', P', sv', cw', sl', sh', cl', ch', mu, ca, t1, t2⟩ := s_settle hset b1 b4 b5 h1 L_read L_end L_at L_fault L_d L_p L_y L_j L_o P_away P_beside P_reach P_serves P_crowds P_servedLow P_servedHigh P_crowdedLow P_crowdedHigh P_there P_must P_can
  obtain ⟨far', g1, g2⟩ := s_findFar b1 (all_lt n) hset.2.2.1 M_far
  unfold f_X6_worth f_X7_worth
  rw [t1, bd_of, s_allDoors b1, bd_of, g1, bd_of]
  rcases s_hasWell a1 a2 n b1 with ⟨k0, k1 | ⟨k1, k2⟩ | ⟨k1, k2, k3⟩⟩ | ⟨k0, k1, k2, k3, w, c, hw, hc, rfl, rfl, -⟩
  · rw [k0, bd_of, if_pos rfl, k1, bd_of, if_pos rfl]
    exact ⟨_, _, rfl, rfl, rfl, hI0⟩
  · rw [k0, bd_of, if_pos rfl, k1, bd_of, if_neg z1, k2, bd_of, if_pos rfl]
    exact ⟨_, _, rfl, rfl, rfl, hI0⟩
  · rw [k0, bd_of, if_pos rfl, k1, bd_of, if_neg z1, k2, bd_of, if_neg z1, if_pos k3]
    exact ⟨_, _, rfl, rfl, rfl, hI0⟩
  · rw [k0, bd_of, if_neg z1, k1, bd_of, if_neg z1, k2, bd_of, if_neg z1, if_neg k3]
    obtain ⟨y0, j1, j2⟩ := wo_loop (L_read := rd) (L_end := e) (L_at := a') (L_fault := f') (L_d := d) (L_p := p) (L_y := y) (L_j := j) (L_o := o') (Be := Be') (P := P') (sv := sv') (cw := cw') (sl := sl') (sh := sh') (cl := cl') (ch := ch') (th := nI (2 ^ n - 1)) (mu := mu) (ca := ca) b1 hw hc t2.1 g2 (dd_le b1 hR) n fuel fuel 0 0 (by omega) (by unfold fuel; omega) (by unfold fuel; omega)
    exact ⟨_, _, j1, j2, rfl, n, kj, kw, o, v, nb, hT0, hL, hC, hA, hS⟩
set_option maxHeartbeats 1000000 in
theorem pu_steps {T_price : Nat → Int32} {T_year : Nat → Int32} {T_joinEnds : Nat → Int32} {T_wallEnds : Nat → Int32} {T_cost : Nat → Int32} {T_doors : Int32} {T_joins : Int32} {T_walls : Int32} {T_oldWells : Int32} {T_apart : Int32} {L_tape : Nat → Int32} {L_text : Nat → Int32} {L_fed : Int32} {L_length : Int32} {L_read : Nat} {L_end : Int32} {L_at : Int32} {L_fault : Int32} {L_d : Int32} {L_p : Int32} {L_y : Int32} {L_j : Int32} {L_o : Int32} {P_away : Nat → Nat → Int32} {P_beside : Nat → Int32} {P_reach : Nat → Int32} {P_serves : Nat → Int32} {P_crowds : Nat → Int32} {P_servedLow : Nat → Int32} {P_servedHigh : Nat → Int32} {P_crowdedLow : Nat → Int32} {P_crowdedHigh : Nat → Int32} {P_there : Int32} {P_must : Int32} {P_can : Int32} {C_what : Nat → Int32} {C_number : Nat → Int32} {C_before : Nat → Int32} {C_after : Nat → Int32} {C_done : Int32} {C_kept : Int32} {A_kinds : Nat → Int32} {A_traced : Nat → Int32} {A_bodies : Int32} {A_began : Int32} {A_self : Int32} {A_kindOfSelf : Int32} {S_holds : Nat → Int32} {S_body : Nat → Int32} {S_sort : Nat → Int32} {S_size : Nat → Int32} {S_elements : Nat → Nat → Int64} {G_grown : Nat → Int32} {M_code : Int32} {M_doors : Int32} {M_price : Nat → Int32} {M_year : Nat → Int32} {M_joins : Int32} {M_joinA : Nat → Int32} {M_joinB : Nat → Int32} {M_walls : Int32} {M_wallA : Nat → Int32} {M_wallB : Nat → Int32} {M_cost : Nat → Int32} {M_olds : Int32} {M_near : Int32} {M_doneMany : Int32} {M_undoneMany : Int32} {M_changeOf : Nat → Int32} {M_changeAt : Nat → Int32} {M_before : Nat → Int32} {M_behind : Nat → Int32} {M_tape : Nat → Int32} {M_taped : Int32} {M_here : Int32} {M_fault : Int32} {M_open : Int32} {M_laid : Int32} {M_act : Nat → Int32} {M_with : Nat → Int32} {M_lineMany : Nat → Int32} {M_testEnd : Nat → Int32} {M_lineEnd : Nat → Int32} {M_facts : Nat → Int32} {M_pile : Nat → Int32} {M_hasLaw : Int32} {M_far : Nat → Int32} {M_within : Nat → Int32} {M_tooNear : Nat → Int32} {M_dried : Int32} {M_isOn : Nat → Int32} {M_wasOn : Nat → Int32} {M_bodies : Int32} {M_kind : Nat → Int32} {M_traces : Int32} {M_traced : Nat → Int32} {M_holds : Nat → Int32} {M_size : Nat → Int32} {M_elements : Nat → Int64} {M_shifted : Nat → Int64} (hI : INV T_price T_year T_joinEnds T_wallEnds T_cost T_doors T_joins T_walls T_oldWells T_apart L_tape L_text L_fed L_length L_read L_end L_at L_fault L_d L_p L_y L_j L_o P_away P_beside P_reach P_serves P_crowds P_servedLow P_servedHigh P_crowdedLow P_crowdedHigh P_there P_must P_can C_what C_number C_before C_after C_done C_kept A_kinds A_traced A_bodies A_began A_self A_kindOfSelf S_holds S_body S_sort S_size S_elements G_grown M_code M_doors M_price M_year M_joins M_joinA M_joinB M_walls M_wallA M_wallB M_cost M_olds M_near M_doneMany M_undoneMany M_changeOf M_changeAt M_before M_behind M_tape M_taped M_here M_fault M_open M_laid M_act M_with M_lineMany M_testEnd M_lineEnd M_facts M_pile M_hasLaw M_far M_within M_tooNear M_dried M_isOn M_wasOn M_bodies M_kind M_traces M_traced M_holds M_size M_elements M_shifted) (a1 : Int32) (a2 : Int32) : ∃ (rc : Int32 × Nat × Int32 × Int32 × Int32 × Int32 × Int32 × Int32 × Int32 × Int32 × (Nat → Nat → Int32) × (Nat → Int32) × (Nat → Int32) × (Nat → Int32) × (Nat → Int32) × (Nat → Int32) × (Nat → Int32) × (Nat → Int32) × (Nat → Int32) × Int32 × Int32 × Int32) (rm : Int32 × (Nat → Int32)), f_X6_steps a1 a2 T_price T_year T_joinEnds T_wallEnds T_doors T_joins T_walls T_oldWells T_apart L_text L_length L_read L_end L_at L_fault L_d L_p L_y L_j L_o P_away P_beside P_reach P_serves P_crowds P_servedLow P_servedHigh P_crowdedLow P_crowdedHigh P_there P_must P_can = some rc ∧ f_X7_steps a1 a2 M_doors M_joins M_joinA M_joinB M_far = some rm ∧ rc.1 = rm.1 ∧ INV T_price T_year T_joinEnds T_wallEnds T_cost T_doors T_joins T_walls T_oldWells T_apart L_tape L_text L_fed L_length rc.2.1 rc.2.2.1 rc.2.2.2.1 rc.2.2.2.2.1 rc.2.2.2.2.2.1 rc.2.2.2.2.2.2.1 rc.2.2.2.2.2.2.2.1 rc.2.2.2.2.2.2.2.2.1 rc.2.2.2.2.2.2.2.2.2.1 rc.2.2.2.2.2.2.2.2.2.2.1 rc.2.2.2.2.2.2.2.2.2.2.2.1 rc.2.2.2.2.2.2.2.2.2.2.2.2.1 rc.2.2.2.2.2.2.2.2.2.2.2.2.2.1 rc.2.2.2.2.2.2.2.2.2.2.2.2.2.2.1 rc.2.2.2.2.2.2.2.2.2.2.2.2.2.2.2.1 rc.2.2.2.2.2.2.2.2.2.2.2.2.2.2.2.2.1 rc.2.2.2.2.2.2.2.2.2.2.2.2.2.2.2.2.2.1 rc.2.2.2.2.2.2.2.2.2.2.2.2.2.2.2.2.2.2.1 rc.2.2.2.2.2.2.2.2.2.2.2.2.2.2.2.2.2.2.2.1 rc.2.2.2.2.2.2.2.2.2.2.2.2.2.2.2.2.2.2.2.2.1 rc.2.2.2.2.2.2.2.2.2.2.2.2.2.2.2.2.2.2.2.2.2 C_what C_number C_before C_after C_done C_kept A_kinds A_traced A_bodies A_began A_self A_kindOfSelf S_holds S_body S_sort S_size S_elements G_grown M_code M_doors M_price M_year M_joins M_joinA M_joinB M_walls M_wallA M_wallB M_cost M_olds M_near M_doneMany M_undoneMany M_changeOf M_changeAt M_before M_behind M_tape M_taped M_here M_fault M_open M_laid M_act M_with M_lineMany M_testEnd M_lineEnd M_facts M_pile M_hasLaw rm.2 M_within M_tooNear M_dried M_isOn M_wasOn M_bodies M_kind M_traces M_traced M_holds M_size M_elements M_shifted := by
  have hI0 := hI
  obtain ⟨n, kj, kw, o, v, nb, hT, hL, hC, hA, hS⟩ := hI
  obtain ⟨A, B, rch, hset⟩ := SET_ex hT hL o
  have hT0 := hT
  obtain ⟨⟨b1, b2, b3, b4, b5⟩, ⟨rfl, rfl, rfl, rfl, rfl, rfl, rfl, rfl, rfl, rfl, rfl⟩, h1, h2, h3, h4, h5⟩ := hT
  have hp := p14 b1
  have z1 : ¬ (1 : Int32) = 0 := by decide
  have hR := RJ_lt (s := 2 ^ n - 1) (fun i hi => (hset.2.2.1.2 i hi).1)
  obtain ⟨rd, e, a', f', d, p, y, j, o', W', Be', P', sv', cw', sl', sh', cl', ch', mu, ca, t1, t2⟩ := s_settle hset b1 b4 b5 h1 L_read L_end L_at L_fault L_d L_p L_y L_j L_o P_away P_beside P_reach P_serves P_crowds P_servedLow P_servedHigh P_crowdedLow P_crowdedHigh P_there P_must P_can
  obtain ⟨far', g1, g2⟩ := s_findFar b1 (all_lt n) hset.2.2.1 M_far
  unfold f_X6_steps f_X7_steps
  rw [t1, bd_of, s_allDoors b1, bd_of, g1, bd_of, s_isWithin, bd_of, i01, s_in, bd_of, i01]
  rcases s_areDoors a1 n b1 with ⟨q1, q2, w, hw, rfl⟩ | ⟨q1, q2⟩
  · rw [q1, bd_of, if_neg z1, q2, bd_of, if_neg z1]
    by_cases q : a2 < 0 ∨ 1 < a2
    · rw [if_pos q, if_pos q]
      exact ⟨_, _, rfl, rfl, rfl, hI0⟩
    rw [if_neg q, if_neg q]
    obtain ⟨y0, j1, j2⟩ := st_loop (x2 := a2) (L_read := rd) (L_end := e) (L_at := a') (L_fault := f') (L_d := d) (L_p := p) (L_y := y) (L_j := j) (L_o := o') (Be := Be') (P := P') (sv := sv') (cw := cw') (sl := sl') (sh := sh') (cl := cl') (ch := ch') (th := nI (2 ^ n - 1)) (mu := mu) (ca := ca) b1 hw t2.1 g2 (dd_le b1 hR) n fuel fuel 0 0 0 (by omega) (by unfold fuel; omega) (by unfold fuel; omega)
    exact ⟨_, _, j1, j2, rfl, n, kj, kw, o, v, nb, hT0, hL, hC, hA, hS⟩
  · rw [q1, bd_of, if_pos rfl, q2, bd_of, if_pos rfl]
    exact ⟨_, _, rfl, rfl, rfl, hI0⟩
