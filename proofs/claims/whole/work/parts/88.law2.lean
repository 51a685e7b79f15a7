/-! the call law -/
/-- the facts as a row -/
def fac (d p y j o : Int32) : Nat → Int32 := fun k => if k = 0 then d else if k = 1 then p else if k = 2 then y else if k = 3 then j else o
theorem wk_tape (a2 : Int32) (Tc : Nat → Int32) (L_read : Nat) (L_end L_at L_fault d p y j o : Int32) : f_X2_worked_tape a2 Tc L_read L_end L_at L_fault d p y j o = f_X2_worked_tape_b31 Tc a2 d p y j o fuel 0 0 1 0 0 (-1) := by
  unfold f_X2_worked_tape
  rfl
theorem wk_text (a2 : Int32) (Tc : Nat → Int32) (L_read : Nat) (L_end L_at L_fault d p y j o : Int32) : f_X2_worked_text a2 Tc L_read L_end L_at L_fault d p y j o = f_X2_worked_text_b31 Tc a2 d p y j o fuel 0 0 1 0 0 (-1) := by
  unfold f_X2_worked_text
  rfl
theorem IGives_half {L_text : Nat → Int32} {L_length : Int32} {A W L E N A' W' L' E' N' : Nat → Int32} (h : IGives L_text L_length A W L E N) (h1 : ∀ i, i < 130 → A' i = A i ∧ W' i = W i) (h2 : L' 0 = L 0) (h3 : ∀ i, i < 61 → E' i = E i ∧ N' i = N i) : IGives L_text L_length A' W' L' E' N' := by
  intro act wth lm te le g1 g2 g3 g4 g5
  exact h act wth lm te le (fun i hi => (g1 i hi).trans (h1 i hi).1) (fun i hi => (g2 i hi).trans (h1 i hi).2) (g3.trans h2) (fun i hi => (g4 i hi).trans (h3 i hi).1) (fun i hi => (g5 i hi).trans (h3 i hi).2)
set_option maxHeartbeats 2000000 in
theorem pu_law {T_price : Nat → Int32} {T_year : Nat → Int32} {T_joinEnds : Nat → Int32} {T_wallEnds : Nat → Int32} {T_cost : Nat → Int32} {T_doors : Int32} {T_joins : Int32} {T_walls : Int32} {T_oldWells : Int32} {T_apart : Int32} {L_tape : Nat → Int32} {L_text : Nat → Int32} {L_fed : Int32} {L_length : Int32} {L_read : Nat} {L_end : Int32} {L_at : Int32} {L_fault : Int32} {L_d : Int32} {L_p : Int32} {L_y : Int32} {L_j : Int32} {L_o : Int32} {P_away : Nat → Nat → Int32} {P_beside : Nat → Int32} {P_reach : Nat → Int32} {P_serves : Nat → Int32} {P_crowds : Nat → Int32} {P_servedLow : Nat → Int32} {P_servedHigh : Nat → Int32} {P_crowdedLow : Nat → Int32} {P_crowdedHigh : Nat → Int32} {P_there : Int32} {P_must : Int32} {P_can : Int32} {C_what : Nat → Int32} {C_number : Nat → Int32} {C_before : Nat → Int32} {C_after : Nat → Int32} {C_done : Int32} {C_kept : Int32} {A_kinds : Nat → Int32} {A_traced : Nat → Int32} {A_bodies : Int32} {A_began : Int32} {A_self : Int32} {A_kindOfSelf : Int32} {S_holds : Nat → Int32} {S_body : Nat → Int32} {S_sort : Nat → Int32} {S_size : Nat → Int32} {S_elements : Nat → Nat → Int64} {G_grown : Nat → Int32} {M_code : Int32} {M_doors : Int32} {M_price : Nat → Int32} {M_year : Nat → Int32} {M_joins : Int32} {M_joinA : Nat → Int32} {M_joinB : Nat → Int32} {M_walls : Int32} {M_wallA : Nat → Int32} {M_wallB : Nat → Int32} {M_cost : Nat → Int32} {M_olds : Int32} {M_near : Int32} {M_doneMany : Int32} {M_undoneMany : Int32} {M_changeOf : Nat → Int32} {M_changeAt : Nat → Int32} {M_before : Nat → Int32} {M_behind : Nat → Int32} {M_tape : Nat → Int32} {M_taped : Int32} {M_here : Int32} {M_fault : Int32} {M_open : Int32} {M_laid : Int32} {M_act : Nat → Int32} {M_with : Nat → Int32} {M_lineMany : Nat → Int32} {M_testEnd : Nat → Int32} {M_lineEnd : Nat → Int32} {M_facts : Nat → Int32} {M_pile : Nat → Int32} {M_hasLaw : Int32} {M_far : Nat → Int32} {M_within : Nat → Int32} {M_tooNear : Nat → Int32} {M_dried : Int32} {M_isOn : Nat → Int32} {M_wasOn : Nat → Int32} {M_bodies : Int32} {M_kind : Nat → Int32} {M_traces : Int32} {M_traced : Nat → Int32} {M_holds : Nat → Int32} {M_size : Nat → Int32} {M_elements : Nat → Int64} {M_shifted : Nat → Int64} (hI : INV T_price T_year T_joinEnds T_wallEnds T_cost T_doors T_joins T_walls T_oldWells T_apart L_tape L_text L_fed L_length L_read L_end L_at L_fault L_d L_p L_y L_j L_o P_away P_beside P_reach P_serves P_crowds P_servedLow P_servedHigh P_crowdedLow P_crowdedHigh P_there P_must P_can C_what C_number C_before C_after C_done C_kept A_kinds A_traced A_bodies A_began A_self A_kindOfSelf S_holds S_body S_sort S_size S_elements G_grown M_code M_doors M_price M_year M_joins M_joinA M_joinB M_walls M_wallA M_wallB M_cost M_olds M_near M_doneMany M_undoneMany M_changeOf M_changeAt M_before M_behind M_tape M_taped M_here M_fault M_open M_laid M_act M_with M_lineMany M_testEnd M_lineEnd M_facts M_pile M_hasLaw M_far M_within M_tooNear M_dried M_isOn M_wasOn M_bodies M_kind M_traces M_traced M_holds M_size M_elements M_shifted) : ∃ (rc : Int32 × (Nat → Int32) × Int32 × Int32 × Nat × Int32 × Int32 × Int32) (rm : Int32 × Int32 × Int32 × Int32 × Int32 × Int32 × (Nat → Int32) × (Nat → Int32) × (Nat → Int32) × (Nat → Int32) × (Nat → Int32) × Int32), f_X6_law L_tape L_text L_fed L_length L_read L_end L_at L_fault L_d L_p L_y L_j L_o = some rc ∧ f_X7_law M_tape M_taped M_here M_fault M_open M_laid M_act M_with M_lineMany M_testEnd M_lineEnd M_hasLaw = some rm ∧ rc.1 = rm.1 ∧ INV T_price T_year T_joinEnds T_wallEnds T_cost T_doors T_joins T_walls T_oldWells T_apart L_tape rc.2.1 rc.2.2.1 rc.2.2.2.1 rc.2.2.2.2.1 rc.2.2.2.2.2.1 rc.2.2.2.2.2.2.1 rc.2.2.2.2.2.2.2 L_d L_p L_y L_j L_o P_away P_beside P_reach P_serves P_crowds P_servedLow P_servedHigh P_crowdedLow P_crowdedHigh P_there P_must P_can C_what C_number C_before C_after C_done C_kept A_kinds A_traced A_bodies A_began A_self A_kindOfSelf S_holds S_body S_sort S_size S_elements G_grown M_code M_doors M_price M_year M_joins M_joinA M_joinB M_walls M_wallA M_wallB M_cost M_olds M_near M_doneMany M_undoneMany M_changeOf M_changeAt M_before M_behind M_tape rm.2.1 rm.2.2.1 rm.2.2.2.1 rm.2.2.2.2.1 rm.2.2.2.2.2.1 rm.2.2.2.2.2.2.1 rm.2.2.2.2.2.2.2.1 rm.2.2.2.2.2.2.2.2.1 rm.2.2.2.2.2.2.2.2.2.1 rm.2.2.2.2.2.2.2.2.2.2.1 M_facts M_pile rm.2.2.2.2.2.2.2.2.2.2.2 M_far M_within M_tooNear M_dried M_isOn M_wasOn M_bodies M_kind M_traces M_traced M_holds M_size M_elements M_shifted := by
  have hI0 := hI
  obtain ⟨n, kj, kw, o, v, nb, hT, hL, hC, hA, hS⟩ := hI
  obtain ⟨⟨t, ht, rfl, rfl, hbt⟩, hlaw⟩ := hL
  have hb : byT M_tape t := fun i hi => (hbt i hi).2
  have hag : agr M_tape L_tape t := fun i hi => (hbt i hi).1
  have q1 : ∀ {α : Type} {k : Option α}, ix 1 2 k = k := ix_nI (i := 1) (by decide) (by decide)
  have q0 : ∀ {α : Type} {k : Option α}, ix 0 2 k = k := ix_0 (by decide) (by decide)
  have e1 : Int32.toNatClampNeg 1 = 1 := by decide
  have e0 : Int32.toNatClampNeg 0 = 0 := by decide
  have mod : f_X7_readText 0 M_tape (nI t) M_here M_fault M_open M_laid M_act M_with M_lineMany M_testEnd M_lineEnd = ML M_tape t 0 fuel (nI 0) (-1) (nI 0) (nI 0) M_act M_with (upd M_lineMany 1 0) M_testEnd M_lineEnd := by
    unfold f_X7_readText ML
    rw [q1, e1]
    rfl
  have hlm : upd M_lineMany 1 0 1 = nI 0 := upd_eq (α := Nat)
  unfold f_X6_law f_X7_law f_X2_enact
  rw [wk_tape, mod]
  have kbt := KB_tape L_tape (fac L_d L_p L_y L_j L_o) t
  rcases s_text hb ht 0 t 0 0 0 fuel M_act M_with (upd M_lineMany 1 0) M_testEnd M_lineEnd (by omega) (Nat.le_refl _) (by omega) hlm (by unfold fuel; omega) with ⟨ls, act1, wth1, lm1, te1, le1, h0, h1, h2, h3, h4, h5, h6, h7, h8, h9, h10⟩ | ⟨p, h, l', o', act1, wth1, lm1, te1, le1, h1, h2, h3, h4, h5, h6⟩
  · rw [Nat.zero_add] at h2 h7 h8
    rw [Nat.zero_add] at h9
    obtain ⟨v0, -, k2⟩ := h10 L_tape (fac L_d L_p L_y L_j L_o) hag
    have k3 : f_X2_worked_tape_b31 L_tape (nI t) L_d L_p L_y L_j L_o fuel 0 0 1 0 0 (-1) = some (v0, 13, nI t, nI t, -1) := (k2 _ 13 kbt fuel 0 0 (by unfold fuel; omega) (Nat.le_refl _)).1
    rw [k3, bd_of]
    dsimp only
    have hcpg : ∀ {α : Type} (k : Option α), cpg 0 0 (nI t) 120 120 L_tape true k = k := by
      intro α k
      unfold cpg
      rw [if_pos]
      refine ⟨⟨⟨by decide, by decide, nI_pos (n := t) (by omega)⟩, ?_, ?_⟩, fun _ i hi => ?_⟩
      · rw [e0, cl_nI (by omega)]
        omega
      · rw [e0, cl_nI (by omega)]
        omega
      · rw [cl_nI (by omega)] at hi
        rw [e0, Nat.zero_add, (hbt i hi).1]
        exact (hbt i hi).2
    rw [if_neg (show ¬ (0 : Int32) ≤ -1 by decide), hcpg]
    unfold f_X2_enact_b45
    rw [bd_of, e0, cl_nI (show t < 2 ^ 31 by omega)]
    dsimp only
    rw [if_neg (show ¬ (0 : Int32) ≤ -1 by decide), h9]
    unfold f_X7_readText_b86
    rw [if_pos (show (-1 : Int32) < 0 by decide)]
    obtain ⟨act2, wth2, c1, c2⟩ := cp_act (h := nI t) (fl := -1) (o := nI 0) (lm := lm1) (te := te1) (le := le1) (act0 := act1) (wth0 := wth1) (n := lnl ls) rfl (by omega) (lnl ls) fuel 0 act1 wth1 (by omega) (by unfold fuel; omega) (fun i hi => by omega) (fun i _ => ⟨rfl, rfl⟩)
    have hlm2 : upd lm1 0 (nI ls.length) 0 = nI ls.length := upd_eq (α := Nat)
    obtain ⟨te2, le2, d1, d2⟩ := cp_le (h := nI t) (fl := -1) (o := nI 0) (L := nI (lnl ls)) (act := act2) (wth := wth2) (te0 := te1) (le0 := le1) hlm2 (by omega) ls.length fuel 0 te1 le1 (by omega) (by unfold fuel; omega) (fun i hi => by omega) (fun i _ => ⟨rfl, rfl⟩)
    have c1' : f_X7_readText_b105 0 0 (nI t) (-1) (nI 0) (nI (lnl ls)) lm1 te1 le1 fuel 0 act1 wth1 = _ := c1
    have d1' : f_X7_readText_b177 0 0 (nI t) (-1) (nI 0) (nI (lnl ls)) act2 wth2 (upd lm1 0 (nI ls.length)) fuel 0 te1 le1 = _ := d1
    rw [c1', q1, q0, e0, e1, h2, d1', bd_of]
    dsimp only
    rw [if_pos (show (-1 : Int32) < 0 by decide)]
    refine ⟨_, _, rfl, rfl, rfl, n, kj, kw, o, v, nb, hT, ⟨⟨0, by decide, rfl, rfl, fun i hi => by omega⟩, Or.inr ⟨?_, rfl, ?_⟩⟩, hC, hA, hS⟩
    · show ¬ nI t = 0
      rw [L_0, eq_nI (by omega) (by decide)]
      omega
    · intro act wth lm te le g1 g2 g3 g4 g5 facts pile L_read2 L_end2 L_at2 L_fault2 d2' p2 y2 j2 o2 f0 f1 f2 f3 f4
      dsimp only at g1 g2 g3 g4 g5
      have hagx : agr M_tape (va_cpy L_tape L_text 0 0 t) t := by
        intro i hi
        rw [pk_cpy_in (by omega) (by omega)]
        show L_tape (0 + (i - 0)) = _
        rw [Nat.zero_add, Nat.sub_zero]
        exact (hbt i hi).1
      obtain ⟨w, x1, x2⟩ := h10 (va_cpy L_tape L_text 0 0 t) facts hagx
      have x3 := (x2 _ 14 (KB_text (va_cpy L_tape L_text 0 0 t) facts t) fuel 0 0 (by unfold fuel; omega) (Nat.le_refl _)).1
      rw [f0, f1, f2, f3, f4] at x3
      have hla : LinesAt act wth te le 0 0 0 ls := by
        have hl2 := Lines_copy (act' := act2) (wth' := wth2) (te' := te2) (le' := le2) ls 0 0 h6 (by omega) (fun i hi => c2 i (by omega)) (fun i hi => d2 i (by omega)) h5
        exact LinesAt_move ls 0 0 (fun i hi => by rw [Nat.zero_add]; exact ⟨g1 i (by omega), g2 i (by omega)⟩) (fun i hi => ⟨g4 i (by omega), g5 i (by omega)⟩) hl2
      obtain ⟨pl, x4⟩ := s_gives (by omega) (g3.trans hlm2) hla x1 (by omega) pile
      refine ⟨w, 14, nI t, nI t, -1, pl, ?_, x4⟩
      show f_X2_worked_text (nI t) (va_cpy L_tape L_text 0 0 t) L_read2 L_end2 L_at2 L_fault2 d2' p2 y2 j2 o2 = _
      rw [wk_text]
      exact x3
  · obtain ⟨v0, b0, k2⟩ := h6 L_tape (fac L_d L_p L_y L_j L_o) hag _ 13 kbt fuel 0 0 0 (by unfold fuel; omega) (Nat.le_refl _)
    have k3 : f_X2_worked_tape_b31 L_tape (nI t) L_d L_p L_y L_j L_o fuel 0 0 1 0 0 (-1) = some (v0, 13, nI t, b0, nI p) := k2
    rw [k3, bd_of]
    dsimp only
    rw [if_pos (nI_0le (by omega))]
    unfold f_X2_enact_b45
    rw [bd_of]
    dsimp only
    rw [if_pos (nI_0le (by omega)), h5]
    unfold f_X7_readText_b86
    rw [if_neg (nI_pos (n := p) (by omega)), bd_of]
    dsimp only
    rw [if_neg (nI_pos (n := p) (by omega))]
    refine ⟨_, _, rfl, rfl, rfl, n, kj, kw, o, v, nb, hT, ⟨⟨0, by decide, rfl, rfl, fun i hi => by omega⟩, ?_⟩, hC, hA, hS⟩
    rcases hlaw with ⟨z1, z2⟩ | ⟨z1, z2, z3⟩
    · exact Or.inl ⟨z1, z2⟩
    · exact Or.inr ⟨z1, z2, IGives_half z3 h3 (h2.trans u1_0) h4⟩
