/-! grow: the ten years -/
section GROW4
variable {n kj kw v o : Nat} {A B : Nat → Nat} {rch : Nat → Nat} {T_price T_year T_joinEnds T_wallEnds M_price M_year : Nat → Int32} {L_text : Nat → Int32} {L_length : Int32} {M_joinA M_joinB M_act M_with M_lineMany M_testEnd M_lineEnd : Nat → Int32} {M_hasLaw : Int32}
theorem gy_loop (hn : n ≤ 9) (b4 : o < 2 ^ n) (b5 : v ≤ 9) (h1 : ∀ i, i < n → T_price i = M_price i ∧ le_ (M_price i) 99) (h2 : ∀ i, i < n → T_year i = M_year i ∧ le_ (M_year i) 9)
    (hset : SET n kj o A B rch T_price T_year T_joinEnds T_wallEnds (nI kw) L_text L_length M_price M_year M_joinA M_joinB M_act M_with M_lineMany M_testEnd M_lineEnd M_hasLaw) :
    ∀ (r f f7 y : Nat) (G M : Nat → Prop) (L_read : Nat) (L_end L_at L_fault L_d L_p L_y L_j L_o : Int32) (P_away : Nat → Nat → Int32) (P_beside P_reach P_serves P_crowds P_servedLow P_servedHigh P_crowdedLow P_crowdedHigh : Nat → Int32) (P_there P_must P_can : Int32) (g fa pi far wi tn on wo : Nat → Int32), r + y = 10 → f ≥ r + 1 → f7 ≥ r + 1 →
    (∀ w, w < 2 ^ n → g w = b01 (G w)) → (∀ w, w < 2 ^ n → on w = b01 (M w)) → (∀ w, w < 2 ^ n → (Up G w ↔ Up M w)) → (0 < y → ∀ w, w < 2 ^ n → (G w ↔ M w)) →
    ∃ z c fa' pi' far' wi' tn' on' wo', f_X6_grow_b47 (nI (2 ^ n)) T_price T_year T_joinEnds T_wallEnds (nI n) (nI kj) (nI kw) (nI o) (nI v) L_text L_length f (nI y) L_read L_end L_at L_fault L_d L_p L_y L_j L_o P_away P_beside P_reach P_serves P_crowds P_servedLow P_servedHigh P_crowdedLow P_crowdedHigh P_there P_must P_can g = some (z, c) ∧
      f_X7_grow_b44 (nI n) M_price M_year (nI kj) M_joinA M_joinB (nI o) (nI v) M_act M_with M_lineMany M_testEnd M_lineEnd M_hasLaw 0 f7 (nI y) fa pi far wi tn on wo = some (z, fa', pi', far', wi', tn', on', wo')
  | 0, f + 1, f7 + 1, y, G, M, L_read, L_end, L_at, L_fault, L_d, L_p, L_y, L_j, L_o, P_away, P_beside, P_reach, P_serves, P_crowds, P_servedLow, P_servedHigh, P_crowdedLow, P_crowdedHigh, P_there, P_must, P_can, g, fa, pi, far, wi, tn, on, wo, h, hf, hf7, hg, hon, hUp, hGM => by
    have hp : 2 ^ n ≤ 512 := Nat.pow_le_pow_right (n := 2) (by decide) hn
    have e : y = 10 := by omega
    subst e
    obtain ⟨z, j1, j2⟩ := fw_loop (H := G) (on := on) (fa := fa) (pi := pi) (far := far) (wi := wi) (tn := tn) (wo := wo) hn hg (fun w hw => by
      rw [hon w hw]
      congr 1
      exact propext (hGM (by decide) w hw).symm) (2 ^ n) fuel fuel 0 (-2) (by omega) (by unfold fuel; omega) (by unfold fuel; omega) (Or.inl rfl)
    have j1' : f_X6_fewestGrown (nI (2 ^ n)) g = some z := j1
    rw [f_X7_grow_b44, if_pos (by decide), f_X6_grow_b47, if_pos (by decide), j1', bd_of]
    exact ⟨z, _, fa, pi, far, wi, tn, on, wo, rfl, j2⟩
  | r + 1, f + 1, f7 + 1, y, G, M, L_read, L_end, L_at, L_fault, L_d, L_p, L_y, L_j, L_o, P_away, P_beside, P_reach, P_serves, P_crowds, P_servedLow, P_servedHigh, P_crowdedLow, P_crowdedHigh, P_there, P_must, P_can, g, fa, pi, far, wi, tn, on, wo, h, hf, hf7, hg, hon, hUp, hGM => by
    have hp : 2 ^ n ≤ 512 := Nat.pow_le_pow_right (n := 2) (by decide) hn
    have hn14 : n ≤ 14 := by omega
    obtain ⟨s, hs, s1, s2⟩ := s_there (x1 := nI y) hn14 (fun i hi => (h2 i hi).1)
    obtain ⟨rd, e, a, f', d, p, y', j, o', W', Be', P', sv', cw', sl', sh', cl', ch', mu, ca, t1, t2⟩ := s_lay hs (lt14 hn14 b4) b5 hn14 hset.2.1 hset.1 hset.2.2.2.1 (fun i hi => by rw [(h1 i hi).1]; exact (h1 i hi).2) L_read L_end L_at L_fault L_d L_p L_y L_j L_o P_away P_beside P_reach P_serves P_crowds P_servedLow P_servedHigh P_crowdedLow P_crowdedHigh P_there P_must P_can
    obtain ⟨fa', pi', far', wi', tn', g1, g2⟩ := s_findAll hn14 hs b5 hset.1 hset.2.2.1 hset.2.2.2.2 fa pi far wi tn
    obtain ⟨gl, u1, u2⟩ := s_growLonger hn hg
    have m6 : ∀ w, w < 2 ^ n → f_X3_mayBe (nI w) sl' sh' cl' ch' (nI s) mu ca = some (b01 (MayP n s o (fun d => M_price d = 0) (RJ s kj A B) rch v w)) := by
      intro w hw
      refine l_mayBe t2 hn14 hs (fun d hd => Iff.rfl) (fun d hd => ?_) hw
      rw [(h1 d hd).1]
      constructor
      · rintro (⟨x1, x2⟩ | ⟨⟨x1, x2⟩, x3⟩)
        · exact ⟨x2, Or.inl x1⟩
        · exact ⟨x3, Or.inr x2⟩
      · rintro ⟨x1, x2 | x2⟩
        · exact Or.inl ⟨x2, x1⟩
        · exact Or.inr ⟨⟨hd, x2⟩, x1⟩
    obtain ⟨gl2, v1, v2⟩ := c91_loop (y := y) (T_price := T_price) (T_year := T_year) (T_joinEnds := T_joinEnds) (T_wallEnds := T_wallEnds) (T_joins := nI kj) (T_walls := nI kw) (T_oldWells := nI o) (T_apart := nI v) (L_text := L_text) (L_length := L_length) (L_read := rd) (L_end := e) (L_at := a) (L_fault := f') (L_d := d) (L_p := p) (L_y := y') (L_j := j) (L_o := o') (W := W') (Be := Be') (P := P') (sv := sv') (cw := cw') hn m6 (f_X6_grow_b47 (nI (2 ^ n)) T_price T_year T_joinEnds T_wallEnds (nI n) (nI kj) (nI kw) (nI o) (nI v) L_text L_length f) (2 ^ n) fuel 0 gl (by omega) (by unfold fuel; omega) (fun w hw => by omega) (fun w _ hw => u2 w hw)
    obtain ⟨wo1, w1, w2⟩ := m63_loop (n := n) (o := o) (s := s) (y := y) (on := on) (M_price := M_price) (M_year := M_year) (M_joins := nI kj) (M_joinA := M_joinA) (M_joinB := M_joinB) (M_near := nI v) (M_act := M_act) (M_with := M_with) (M_lineMany := M_lineMany) (M_testEnd := M_testEnd) (M_lineEnd := M_lineEnd) (fa := fa') (pi := pi') (M_hasLaw := M_hasLaw) (far := far') (wi := wi') (tn := tn') (f_X7_grow_b44 (nI n) M_price M_year (nI kj) M_joinA M_joinB (nI o) (nI v) M_act M_with M_lineMany M_testEnd M_lineEnd M_hasLaw 0 f7) 512 fuel 0 wo (by omega) (by unfold fuel; omega) (fun w hw => by omega)
    have hwo : ∀ w, w < 2 ^ n → wo1 w = b01 (M w) := by
      intro w hw
      rw [w2 w (by omega), hon w hw, nar_b01]
    obtain ⟨on2, x1, x2⟩ := m90_loop (y := y) (M := M) (M_year := M_year) (M_joins := nI kj) (M_joinA := M_joinA) (M_joinB := M_joinB) (M_near := nI v) (M_act := M_act) (M_with := M_with) (M_lineMany := M_lineMany) (M_testEnd := M_testEnd) (M_lineEnd := M_lineEnd) (fa := fa') (pi := pi') (M_hasLaw := M_hasLaw) hn hs b4 g2 hwo (f_X7_grow_b44 (nI n) M_price M_year (nI kj) M_joinA M_joinB (nI o) (nI v) M_act M_with M_lineMany M_testEnd M_lineEnd M_hasLaw 0 f7) (2 ^ n) fuel 0 on (by omega) (by unfold fuel; omega) (fun w hw => by omega)
    have hGM2 : ∀ w, w < 2 ^ n → ((MayP n s o (fun d => M_price d = 0) (RJ s kj A B) rch v w ∧ Up G w) ↔ (MayP n s o (fun d => M_price d = 0) (RJ s kj A B) rch v w ∧ Up M w)) := by
      intro w hw
      rw [hUp w hw]
    obtain ⟨z, c, fa2, pi2, far2, wi2, tn2, on3, wo3, y1, y2⟩ := gy_loop hn b4 b5 h1 h2 hset r f f7 (y + 1) _ _ rd e a f' d p y' j o' W' Be' P' sv' cw' sl' sh' cl' ch' (nI s) mu ca gl2 fa' pi' far' wi' tn' on2 wo1 (by omega) (by omega) (by omega) v2 x2 (fun w hw => Up_mono hw hGM2) (fun _ => hGM2)
    refine ⟨z, c, fa2, pi2, far2, wi2, tn2, on3, wo3, ?_, ?_⟩
    · rw [f_X6_grow_b47, if_neg (by rw [L_9, lt_nI (by decide) (by omega)]; omega), s1, bd_of, t1, bd_of, u1, bd_of, ← y1]
      exact v1
    · rw [f_X7_grow_b44, if_neg (by rw [L_9, lt_nI (by decide) (by omega)]; omega), s2, bd_of, g1, bd_of, ← y2]
      exact w1.trans x1
  | _, 0, _, _, _, _, _, _, _, _, _, _, _, _, _, _, _, _, _, _, _, _, _, _, _, _, _, _, _, _, _, _, _, _, _, _, hf, _, _, _, _, _ => by omega
  | _, _ + 1, 0, _, _, _, _, _, _, _, _, _, _, _, _, _, _, _, _, _, _, _, _, _, _, _, _, _, _, _, _, _, _, _, _, _, _, hf, _, _, _, _ => by omega
theorem g27_loop {L_read : Nat} {L_end L_at L_fault L_d L_p L_y L_j L_o : Int32} {W : Nat → Nat → Int32} {Be P sv cw sl sh cl ch : Nat → Int32} {th mu ca : Int32} {T_joins T_walls T_oldWells T_apart : Int32} (hn : n ≤ 9) :
    ∀ (r f m : Nat) (g : Nat → Int32), r + m = 2 ^ n → f ≥ r + 1 → (∀ w, w < m → g w = 1) →
    ∃ g', f_X6_grow_b27 (nI (2 ^ n)) T_price T_year T_joinEnds T_wallEnds (nI n) T_joins T_walls T_oldWells T_apart L_text L_length L_read L_end L_at L_fault L_d L_p L_y L_j L_o W Be P sv cw sl sh cl ch th mu ca f (nI m) g = f_X6_grow_b47 (nI (2 ^ n)) T_price T_year T_joinEnds T_wallEnds (nI n) T_joins T_walls T_oldWells T_apart L_text L_length fuel 0 L_read L_end L_at L_fault L_d L_p L_y L_j L_o W Be P sv cw sl sh cl ch th mu ca g' ∧ ∀ w, w < 2 ^ n → g' w = 1
  | 0, f + 1, m, g, h, hf, h1 => by
    have hp : 2 ^ n ≤ 512 := Nat.pow_le_pow_right (n := 2) (by decide) hn
    have e : m = 2 ^ n := by omega
    subst e
    exact ⟨g, by rw [f_X6_grow_b27, if_pos (by rw [le_nI (by omega) (by omega)]; omega)], h1⟩
  | r + 1, f + 1, m, g, h, hf, h1 => by
    have hp : 2 ^ n ≤ 512 := Nat.pow_le_pow_right (n := 2) (by decide) hn
    obtain ⟨g', t1, t2⟩ := g27_loop (L_read := L_read) (L_end := L_end) (L_at := L_at) (L_fault := L_fault) (L_d := L_d) (L_p := L_p) (L_y := L_y) (L_j := L_j) (L_o := L_o) (W := W) (Be := Be) (P := P) (sv := sv) (cw := cw) (sl := sl) (sh := sh) (cl := cl) (ch := ch) (th := th) (mu := mu) (ca := ca) (T_joins := T_joins) (T_walls := T_walls) (T_oldWells := T_oldWells) (T_apart := T_apart) hn r f (m + 1) (upd g m 1) (by omega) (by omega) (fun w hw => by
      by_cases e : w = m
      · subst e
        rw [upd_eq (α := Nat)]
      · rw [upd_ne e]
        exact h1 w (by omega))
    refine ⟨g', ?_, t2⟩
    rw [f_X6_grow_b27, if_neg (by rw [le_nI (by omega) (by omega)]; omega), ix_nI (show m < 512 by omega) (by decide), cl_nI (by omega), nI_1, nar_1]
    exact t1
  | _, 0, _, _, _, hf, _ => by omega
theorem g14_loop {fa pi far wi tn wo : Nat → Int32} {M_doors M_joins M_olds M_near M_dried : Int32} :
    ∀ (r f m : Nat) (on : Nat → Int32), r + m = 512 → f ≥ r + 1 → (∀ w, w < m → on w = b01 (w = 0)) →
    ∃ on', f_X7_grow_b14 M_doors M_price M_year M_joins M_joinA M_joinB M_olds M_near M_act M_with M_lineMany M_testEnd M_lineEnd fa pi M_hasLaw far wi tn M_dried wo f (nI m) on = f_X7_grow_b44 M_doors M_price M_year M_joins M_joinA M_joinB M_olds M_near M_act M_with M_lineMany M_testEnd M_lineEnd M_hasLaw M_dried fuel 0 fa pi far wi tn on' wo ∧ ∀ w, w < 512 → on' w = b01 (w = 0)
  | 0, f + 1, m, on, h, hf, h1 => by
    have e : m = 512 := by omega
    subst e
    exact ⟨on, by rw [f_X7_grow_b14, if_pos (by decide)], h1⟩
  | r + 1, f + 1, m, on, h, hf, h1 => by
    have ih := fun (z : Int32) (hz : z = b01 (m = 0)) => g14_loop (M_doors := M_doors) (M_joins := M_joins) (M_olds := M_olds) (M_near := M_near) (M_dried := M_dried) (fa := fa) (pi := pi) (far := far) (wi := wi) (tn := tn) (wo := wo) r f (m + 1) (upd on m z) (by omega) (by omega) (fun w hw => by
      by_cases e : w = m
      · subst e
        rw [upd_eq (α := Nat)]
        exact hz
      · rw [upd_ne e]
        exact h1 w (by omega))
    rw [f_X7_grow_b14, if_neg (by rw [show (512 : Int32) = nI 512 from rfl, le_nI (by decide) (by omega)]; omega)]
    unfold f_X7_grow_b35
    rw [ix_nI (show m < 512 by omega) (by decide), ix_nI (show m < 512 by omega) (by decide), cl_nI (by omega), nI_1, nar_0, nar_1]
    by_cases q : m = 0
    · rw [if_pos (by rw [q]; rfl)]
      exact ih 1 (b01_t q).symm
    · rw [if_neg (by rw [L_0, eq_nI (by omega) (by decide)]; exact q)]
      exact ih 0 (b01_f q).symm
  | _, 0, _, _, _, hf, _ => by omega
end GROW4
set_option maxHeartbeats 2000000 in
theorem pu_grow {T_price : Nat → Int32} {T_year : Nat → Int32} {T_joinEnds : Nat → Int32} {T_wallEnds : Nat → Int32} {T_cost : Nat → Int32} {T_doors : Int32} {T_joins : Int32} {T_walls : Int32} {T_oldWells : Int32} {T_apart : Int32} {L_tape : Nat → Int32} {L_text : Nat → Int32} {L_fed : Int32} {L_length : Int32} {L_read : Nat} {L_end : Int32} {L_at : Int32} {L_fault : Int32} {L_d : Int32} {L_p : Int32} {L_y : Int32} {L_j : Int32} {L_o : Int32} {P_away : Nat → Nat → Int32} {P_beside : Nat → Int32} {P_reach : Nat → Int32} {P_serves : Nat → Int32} {P_crowds : Nat → Int32} {P_servedLow : Nat → Int32} {P_servedHigh : Nat → Int32} {P_crowdedLow : Nat → Int32} {P_crowdedHigh : Nat → Int32} {P_there : Int32} {P_must : Int32} {P_can : Int32} {C_what : Nat → Int32} {C_number : Nat → Int32} {C_before : Nat → Int32} {C_after : Nat → Int32} {C_done : Int32} {C_kept : Int32} {A_kinds : Nat → Int32} {A_traced : Nat → Int32} {A_bodies : Int32} {A_began : Int32} {A_self : Int32} {A_kindOfSelf : Int32} {S_holds : Nat → Int32} {S_body : Nat → Int32} {S_sort : Nat → Int32} {S_size : Nat → Int32} {S_elements : Nat → Nat → Int64} {G_grown : Nat → Int32} {M_code : Int32} {M_doors : Int32} {M_price : Nat → Int32} {M_year : Nat → Int32} {M_joins : Int32} {M_joinA : Nat → Int32} {M_joinB : Nat → Int32} {M_walls : Int32} {M_wallA : Nat → Int32} {M_wallB : Nat → Int32} {M_cost : Nat → Int32} {M_olds : Int32} {M_near : Int32} {M_doneMany : Int32} {M_undoneMany : Int32} {M_changeOf : Nat → Int32} {M_changeAt : Nat → Int32} {M_before : Nat → Int32} {M_behind : Nat → Int32} {M_tape : Nat → Int32} {M_taped : Int32} {M_here : Int32} {M_fault : Int32} {M_open : Int32} {M_laid : Int32} {M_act : Nat → Int32} {M_with : Nat → Int32} {M_lineMany : Nat → Int32} {M_testEnd : Nat → Int32} {M_lineEnd : Nat → Int32} {M_facts : Nat → Int32} {M_pile : Nat → Int32} {M_hasLaw : Int32} {M_far : Nat → Int32} {M_within : Nat → Int32} {M_tooNear : Nat → Int32} {M_dried : Int32} {M_isOn : Nat → Int32} {M_wasOn : Nat → Int32} {M_bodies : Int32} {M_kind : Nat → Int32} {M_traces : Int32} {M_traced : Nat → Int32} {M_holds : Nat → Int32} {M_size : Nat → Int32} {M_elements : Nat → Int64} {M_shifted : Nat → Int64} (hI : INV T_price T_year T_joinEnds T_wallEnds T_cost T_doors T_joins T_walls T_oldWells T_apart L_tape L_text L_fed L_length L_read L_end L_at L_fault L_d L_p L_y L_j L_o P_away P_beside P_reach P_serves P_crowds P_servedLow P_servedHigh P_crowdedLow P_crowdedHigh P_there P_must P_can C_what C_number C_before C_after C_done C_kept A_kinds A_traced A_bodies A_began A_self A_kindOfSelf S_holds S_body S_sort S_size S_elements G_grown M_code M_doors M_price M_year M_joins M_joinA M_joinB M_walls M_wallA M_wallB M_cost M_olds M_near M_doneMany M_undoneMany M_changeOf M_changeAt M_before M_behind M_tape M_taped M_here M_fault M_open M_laid M_act M_with M_lineMany M_testEnd M_lineEnd M_facts M_pile M_hasLaw M_far M_within M_tooNear M_dried M_isOn M_wasOn M_bodies M_kind M_traces M_traced M_holds M_size M_elements M_shifted) : ∃ (rc : Int32 × Nat × Int32 × Int32 × Int32 × Int32 × Int32 × Int32 × Int32 × Int32 × (Nat → Nat → Int32) × (Nat → Int32) × (Nat → Int32) × (Nat → Int32) × (Nat → Int32) × (Nat → Int32) × (Nat → Int32) × (Nat → Int32) × (Nat → Int32) × Int32 × Int32 × Int32 × (Nat → Int32)) (rm : Int32 × (Nat → Int32) × (Nat → Int32) × (Nat → Int32) × (Nat → Int32) × (Nat → Int32) × (Nat → Int32) × (Nat → Int32)), f_X6_grow T_price T_year T_joinEnds T_wallEnds T_doors T_joins T_walls T_oldWells T_apart L_text L_length L_read L_end L_at L_fault L_d L_p L_y L_j L_o P_away P_beside P_reach P_serves P_crowds P_servedLow P_servedHigh P_crowdedLow P_crowdedHigh P_there P_must P_can G_grown = some rc ∧ f_X7_grow M_doors M_price M_year M_joins M_joinA M_joinB M_olds M_near M_act M_with M_lineMany M_testEnd M_lineEnd M_facts M_pile M_hasLaw M_far M_within M_tooNear M_dried M_isOn M_wasOn = some rm ∧ rc.1 = rm.1 ∧ INV T_price T_year T_joinEnds T_wallEnds T_cost T_doors T_joins T_walls T_oldWells T_apart L_tape L_text L_fed L_length rc.2.1 rc.2.2.1 rc.2.2.2.1 rc.2.2.2.2.1 rc.2.2.2.2.2.1 rc.2.2.2.2.2.2.1 rc.2.2.2.2.2.2.2.1 rc.2.2.2.2.2.2.2.2.1 rc.2.2.2.2.2.2.2.2.2.1 rc.2.2.2.2.2.2.2.2.2.2.1 rc.2.2.2.2.2.2.2.2.2.2.2.1 rc.2.2.2.2.2.2.2.2.2.2.2.2.1 rc.2.2.2.2.2.2.2.2.2.2.2.2.2.1 rc.2.2.2.2.2.2.2.2.2.2.2.2.2.2.1 rc.2.2.2.2.2.2.2.2.2.2.2.2.2.2.2.1 rc.2.2.2.2.2.2.2.2.2.2.2.2.2.2.2.2.1 rc.2.2.2.2.2.2.2.2.2.2.2.2.2.2.2.2.2.1 rc.2.2.2.2.2.2.2.2.2.2.2.2.2.2.2.2.2.2.1 rc.2.2.2.2.2.2.2.2.2.2.2.2.2.2.2.2.2.2.2.1 rc.2.2.2.2.2.2.2.2.2.2.2.2.2.2.2.2.2.2.2.2.1 rc.2.2.2.2.2.2.2.2.2.2.2.2.2.2.2.2.2.2.2.2.2.1 C_what C_number C_before C_after C_done C_kept A_kinds A_traced A_bodies A_began A_self A_kindOfSelf S_holds S_body S_sort S_size S_elements rc.2.2.2.2.2.2.2.2.2.2.2.2.2.2.2.2.2.2.2.2.2.2 M_code M_doors M_price M_year M_joins M_joinA M_joinB M_walls M_wallA M_wallB M_cost M_olds M_near M_doneMany M_undoneMany M_changeOf M_changeAt M_before M_behind M_tape M_taped M_here M_fault M_open M_laid M_act M_with M_lineMany M_testEnd M_lineEnd rm.2.1 rm.2.2.1 M_hasLaw rm.2.2.2.1 rm.2.2.2.2.1 rm.2.2.2.2.2.1 M_dried rm.2.2.2.2.2.2.1 rm.2.2.2.2.2.2.2 M_bodies M_kind M_traces M_traced M_holds M_size M_elements M_shifted := by
  have hI0 := hI
  obtain ⟨n, kj, kw, o, v, nb, hT, hL, hC, hA, hS⟩ := hI
  obtain ⟨A, B, rch, hset⟩ := SET_ex hT hL o
  have hT0 := hT
  obtain ⟨⟨b1, b2, b3, b4, b5⟩, ⟨rfl, rfl, rfl, rfl, rfl, rfl, rfl, rfl, rfl, rfl, rfl⟩, h1, h2, h3, h4, h5⟩ := hT
  unfold f_X6_grow f_X7_grow
  by_cases q : nI n ≤ 9
  · rw [if_pos q, if_pos q]
    rw [L_9, le_nI (by omega) (by decide)] at q
    obtain ⟨g1, t1, t2⟩ := g27_loop (T_price := T_price) (T_year := T_year) (T_joinEnds := T_joinEnds) (T_wallEnds := T_wallEnds) (T_joins := nI kj) (T_walls := nI kw) (T_oldWells := nI o) (T_apart := nI v) (L_text := L_text) (L_length := L_length) (L_read := L_read) (L_end := L_end) (L_at := L_at) (L_fault := L_fault) (L_d := L_d) (L_p := L_p) (L_y := L_y) (L_j := L_j) (L_o := L_o) (W := P_away) (Be := P_beside) (P := P_reach) (sv := P_serves) (cw := P_crowds) (sl := P_servedLow) (sh := P_servedHigh) (cl := P_crowdedLow) (ch := P_crowdedHigh) (th := P_there) (mu := P_must) (ca := P_can) q (2 ^ n) fuel 0 G_grown (by omega) (by have : 2 ^ n ≤ 512 := Nat.pow_le_pow_right (n := 2) (by decide) q; unfold fuel; omega) (fun w hw => by omega)
    obtain ⟨on1, u1, u2⟩ := g14_loop (M_price := M_price) (M_year := M_year) (M_joinA := M_joinA) (M_joinB := M_joinB) (M_act := M_act) (M_with := M_with) (M_lineMany := M_lineMany) (M_testEnd := M_testEnd) (M_lineEnd := M_lineEnd) (M_hasLaw := M_hasLaw) (M_doors := nI n) (M_joins := nI kj) (M_olds := nI o) (M_near := nI v) (M_dried := 0) (fa := M_facts) (pi := M_pile) (far := M_far) (wi := M_within) (tn := M_tooNear) (wo := M_wasOn) 512 fuel 0 M_isOn (by omega) (by unfold fuel; omega) (fun w hw => by omega)
    have hp : 2 ^ n ≤ 512 := Nat.pow_le_pow_right (n := 2) (by decide) q
    obtain ⟨z, c, fa2, pi2, far2, wi2, tn2, on3, wo3, y1, y2⟩ := gy_loop q b4 b5 h1 h2 hset 10 fuel fuel 0 (fun _ => True) (fun w => w = 0) L_read L_end L_at L_fault L_d L_p L_y L_j L_o P_away P_beside P_reach P_serves P_crowds P_servedLow P_servedHigh P_crowdedLow P_crowdedHigh P_there P_must P_can g1 M_facts M_pile M_far M_within M_tooNear on1 M_wasOn (by omega) (by unfold fuel; omega) (by unfold fuel; omega) (fun w hw => by rw [t2 w hw, b01_t trivial]) (fun w hw => u2 w (by omega)) (fun w hw => ⟨fun _ => ⟨0, rfl, fun d hd => by rw [Nat.zero_testBit] at hd; exact Bool.noConfusion hd⟩, fun _ => ⟨w, trivial, fun _ x => x⟩⟩) (fun x => by omega)
    rw [nb_shl n (by omega)]
    refine ⟨_, _, t1.trans y1, u1.trans y2, rfl, n, kj, kw, o, v, nb, hT0, hL, hC, hA, hS⟩
  · rw [if_neg q, if_neg q]
    exact ⟨_, _, rfl, rfl, rfl, hI0⟩
