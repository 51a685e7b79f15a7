/-! grow: year by year -/
section GROW3
variable {n v o : Nat} {R : Nat → Nat → Prop} {rch : Nat → Nat} {T_price T_year T_joinEnds T_wallEnds M_price M_year : Nat → Int32} {T_joins T_walls T_oldWells T_apart : Int32} {L_text : Nat → Int32} {L_length : Int32} {M_joins : Int32} {M_joinA M_joinB M_act M_with M_lineMany M_testEnd M_lineEnd : Nat → Int32} {M_hasLaw M_near : Int32}
variable {L_read : Nat} {L_end L_at L_fault L_d L_p L_y L_j L_o : Int32} {W : Nat → Nat → Int32} {Be P sv cw sl sh cl ch : Nat → Int32} {th mu ca : Int32} {fa pi far wi tn : Nat → Int32}
theorem fw_loop {H : Nat → Prop} {g on wo : Nat → Int32} (hn : n ≤ 9) (hg : ∀ w, w < 2 ^ n → g w = b01 (H w)) (ho : ∀ w, w < 2 ^ n → on w = b01 (H w)) :
    ∀ (r f f7 m : Nat) (x : Int32), r + m = 2 ^ n → f ≥ r + 1 → f7 ≥ r + 1 → (x = -2 ∨ ∃ b, b < 2 ^ n ∧ x = nI b) →
    ∃ y, f_X6_fewestGrown_b5 (nI (2 ^ n)) g f x (nI m) = some y ∧ f_X7_grow_b180 (nI n) fa pi far wi tn on wo f7 x (nI m) = some (y, fa, pi, far, wi, tn, on, wo)
  | 0, f + 1, f7 + 1, m, x, h, hf, hf7, hx => by
    have hp : 2 ^ n ≤ 512 := Nat.pow_le_pow_right (n := 2) (by decide) hn
    have e : m = 2 ^ n := by omega
    subst e
    rw [f_X7_grow_b180, s_allDoors (by omega), bd_of, if_pos (by rw [lt_nI (by omega) (by omega)]; exact all_lt n), f_X6_fewestGrown_b5, if_pos (by rw [le_nI (by omega) (by omega)]; omega)]
    exact ⟨_, rfl, rfl⟩
  | r + 1, f + 1, f7 + 1, m, x, h, hf, hf7, hx => by
    have hp : 2 ^ n ≤ 512 := Nat.pow_le_pow_right (n := 2) (by decide) hn
    have hm : m < 2 ^ n := by omega
    have ih := fun x hx => fw_loop (wo := wo) hn hg ho r f f7 (m + 1) x (by omega) (by omega) (by omega) hx
    rw [f_X7_grow_b180, s_allDoors (by omega), bd_of, if_neg (by rw [lt_nI (by omega) (by omega)]; omega), ix_nI (show m < 512 by omega) (by decide), cl_nI (by omega), ho m hm, b01_if, f_X6_fewestGrown_b5, if_neg (by rw [le_nI (by omega) (by omega)]; omega), ix_nI (show m < 512 by omega) (by decide), cl_nI (by omega), hg m hm, b01_if]
    unfold f_X6_fewestGrown_b34 f_X6_fewestGrown_b36 f_X7_grow_b212 f_X7_grow_b214
    rw [nI_1]
    by_cases q : H m
    · rw [if_pos q, if_pos q]
      by_cases q2 : x < 0
      · rw [if_pos q2, if_pos q2]
        exact ih (nI m) (Or.inr ⟨m, hm, rfl⟩)
      · rcases hx with rfl | ⟨b, hb, rfl⟩
        · exact absurd (by decide) q2
        · obtain ⟨c1, c2, -⟩ := s_pc (w := m) (by omega)
          obtain ⟨d1, d2, -⟩ := s_pc (w := b) (by omega)
          rw [if_neg q2, if_neg q2, c1, bd_of, d1, bd_of, c2, bd_of, d2, bd_of]
          by_cases q3 : nI (pc b) ≤ nI (pc m)
          · rw [if_pos q3, if_pos q3]
            exact ih (nI b) (Or.inr ⟨b, hb, rfl⟩)
          · rw [if_neg q3, if_neg q3]
            exact ih (nI m) (Or.inr ⟨m, hm, rfl⟩)
    · rw [if_neg q, if_neg q]
      exact ih x hx
  | _, 0, _, _, _, _, hf, _, _ => by omega
  | _, _ + 1, 0, _, _, _, _, hf, _ => by omega
theorem c91_loop {G p : Nat → Prop} {y : Nat} (hn : n ≤ 9) (h6 : ∀ w, w < 2 ^ n → f_X3_mayBe (nI w) sl sh cl ch th mu ca = some (b01 (p w))) (k47 : Int32 → Nat → Int32 → Int32 → Int32 → Int32 → Int32 → Int32 → Int32 → Int32 → (Nat → Nat → Int32) → (Nat → Int32) → (Nat → Int32) → (Nat → Int32) → (Nat → Int32) → (Nat → Int32) → (Nat → Int32) → (Nat → Int32) → (Nat → Int32) → Int32 → Int32 → Int32 → (Nat → Int32) → Option (Int32 × Nat × Int32 × Int32 × Int32 × Int32 × Int32 × Int32 × Int32 × Int32 × (Nat → Nat → Int32) × (Nat → Int32) × (Nat → Int32) × (Nat → Int32) × (Nat → Int32) × (Nat → Int32) × (Nat → Int32) × (Nat → Int32) × (Nat → Int32) × Int32 × Int32 × Int32 × (Nat → Int32))) :
    ∀ (r f m : Nat) (g : Nat → Int32), r + m = 2 ^ n → f ≥ r + 1 → (∀ w, w < m → g w = b01 (p w ∧ G w)) → (∀ w, m ≤ w → w < 2 ^ n → g w = b01 (G w)) →
    ∃ g', f_X6_grow_b91 k47 (nI (2 ^ n)) (nI y) T_price T_year T_joinEnds T_wallEnds (nI n) T_joins T_walls T_oldWells T_apart L_text L_length L_read L_end L_at L_fault L_d L_p L_y L_j L_o W Be P sv cw sl sh cl ch th mu ca f (nI m) g = k47 (nI (y + 1)) L_read L_end L_at L_fault L_d L_p L_y L_j L_o W Be P sv cw sl sh cl ch th mu ca g' ∧ ∀ w, w < 2 ^ n → g' w = b01 (p w ∧ G w)
  | 0, f + 1, m, g, h, hf, h1, h2 => by
    have hp : 2 ^ n ≤ 512 := Nat.pow_le_pow_right (n := 2) (by decide) hn
    have e : m = 2 ^ n := by omega
    subst e
    refine ⟨g, ?_, h1⟩
    rw [f_X6_grow_b91, if_pos (by rw [le_nI (by omega) (by omega)]; omega), nI_1]
  | r + 1, f + 1, m, g, h, hf, h1, h2 => by
    have hp : 2 ^ n ≤ 512 := Nat.pow_le_pow_right (n := 2) (by decide) hn
    have hm : m < 2 ^ n := by omega
    have ih := fun (z : Int32) (hz : z = b01 (p m ∧ G m)) => c91_loop (G := G) (p := p) (y := y) hn h6 k47 r f (m + 1) (upd g m z) (by omega) (by omega)
      (fun w hw => by
        by_cases e : w = m
        · subst e
          rw [upd_eq (α := Nat)]
          exact hz
        · rw [upd_ne e]
          exact h1 w (by omega))
      (fun w hw1 hw2 => by
        rw [upd_ne (by omega)]
        exact h2 w (by omega) hw2)
    rw [f_X6_grow_b91, if_neg (by rw [le_nI (by omega) (by omega)]; omega), ix_nI (show m < 512 by omega) (by decide), cl_nI (by omega), h2 m (Nat.le_refl _) hm, b01_if, h6 m hm, bd_of, b01_if]
    unfold f_X6_grow_b125 f_X6_grow_b126
    rw [ix_nI (show m < 512 by omega) (by decide), ix_nI (show m < 512 by omega) (by decide), cl_nI (by omega), nI_1, nar_0, nar_1]
    by_cases q : G m
    · rw [if_pos q]
      by_cases q2 : p m
      · rw [if_pos q2]
        exact ih 1 (b01_t ⟨q2, q⟩).symm
      · rw [if_neg q2]
        exact ih 0 (b01_f (fun z => q2 z.1)).symm
    · rw [if_neg q]
      exact ih 0 (b01_f (fun z => q z.2)).symm
  | _, 0, _, _, _, hf, _, _ => by omega
theorem m63_loop {s y : Nat} {on : Nat → Int32} (k44 : Int32 → (Nat → Int32) → (Nat → Int32) → (Nat → Int32) → (Nat → Int32) → (Nat → Int32) → (Nat → Int32) → (Nat → Int32) → Option (Int32 × (Nat → Int32) × (Nat → Int32) × (Nat → Int32) × (Nat → Int32) × (Nat → Int32) × (Nat → Int32) × (Nat → Int32))) :
    ∀ (r f m : Nat) (wo : Nat → Int32), r + m = 512 → f ≥ r + 1 → (∀ w, w < m → wo w = vp_nar .boolean (on w)) →
    ∃ wo', f_X7_grow_b63 k44 (nI y) (nI s) (nI n) M_price M_year M_joins M_joinA M_joinB (nI o) M_near M_act M_with M_lineMany M_testEnd M_lineEnd fa pi M_hasLaw far wi tn 0 on f (nI m) wo = f_X7_grow_b90 k44 (nI y) (nI s) (nI n) M_price M_year M_joins M_joinA M_joinB (nI o) M_near M_act M_with M_lineMany M_testEnd M_lineEnd fa pi M_hasLaw far wi tn 0 wo' fuel 0 on ∧ ∀ w, w < 512 → wo' w = vp_nar .boolean (on w)
  | 0, f + 1, m, wo, h, hf, h1 => by
    have e : m = 512 := by omega
    subst e
    exact ⟨wo, by rw [f_X7_grow_b63, if_pos (by decide)], h1⟩
  | r + 1, f + 1, m, wo, h, hf, h1 => by
    obtain ⟨wo', t1, t2⟩ := m63_loop (s := s) (y := y) (on := on) k44 r f (m + 1) (upd wo m (vp_nar .boolean (on m))) (by omega) (by omega) (fun w hw => by
      by_cases e : w = m
      · subst e
        rw [upd_eq (α := Nat)]
      · rw [upd_ne e]
        exact h1 w (by omega))
    refine ⟨wo', ?_, t2⟩
    rw [f_X7_grow_b63, if_neg (by rw [show (512 : Int32) = nI 512 from rfl, le_nI (by decide) (by omega)]; omega), ix_nI (show m < 512 by omega) (by decide), ix_nI (show m < 512 by omega) (by decide), cl_nI (by omega), nI_1]
    exact t1
  | _, 0, _, _, _, hf, _ => by omega
theorem m90_loop {s y : Nat} {M : Nat → Prop} {wo : Nat → Int32} (hn : n ≤ 9) (hs : s < 2 ^ n) (hob : o < 2 ^ n) (hF : zFound n R rch v far wi tn) (hM : ∀ w, w < 2 ^ n → wo w = b01 (M w)) (k44 : Int32 → (Nat → Int32) → (Nat → Int32) → (Nat → Int32) → (Nat → Int32) → (Nat → Int32) → (Nat → Int32) → (Nat → Int32) → Option (Int32 × (Nat → Int32) × (Nat → Int32) × (Nat → Int32) × (Nat → Int32) × (Nat → Int32) × (Nat → Int32) × (Nat → Int32))) :
    ∀ (r f m : Nat) (on : Nat → Int32), r + m = 2 ^ n → f ≥ r + 1 → (∀ w, w < m → on w = b01 (MayP n s o (fun d => M_price d = 0) R rch v w ∧ Up M w)) →
    ∃ on', f_X7_grow_b90 k44 (nI y) (nI s) (nI n) M_price M_year M_joins M_joinA M_joinB (nI o) M_near M_act M_with M_lineMany M_testEnd M_lineEnd fa pi M_hasLaw far wi tn 0 wo f (nI m) on = k44 (nI (y + 1)) fa pi far wi tn on' wo ∧ ∀ w, w < 2 ^ n → on' w = b01 (MayP n s o (fun d => M_price d = 0) R rch v w ∧ Up M w)
  | 0, f + 1, m, on, h, hf, h1 => by
    have hp : 2 ^ n ≤ 512 := Nat.pow_le_pow_right (n := 2) (by decide) hn
    have e : m = 2 ^ n := by omega
    subst e
    refine ⟨on, ?_, h1⟩
    rw [f_X7_grow_b90, s_allDoors (by omega), bd_of, if_pos (by rw [lt_nI (by omega) (by omega)]; exact all_lt n), nI_1]
  | r + 1, f + 1, m, on, h, hf, h1 => by
    have hp : 2 ^ n ≤ 512 := Nat.pow_le_pow_right (n := 2) (by decide) hn
    have hn14 : n ≤ 14 := by omega
    have hm : m < 2 ^ n := by omega
    have hm14 := lt14 hn14 hm
    have hs14 := lt14 hn14 hs
    have ho14 := lt14 hn14 hob
    obtain ⟨rk, r1, r2⟩ := m_rock hn14 M_price isB_0
    have ih := fun (z : Int32) (hz : z = b01 (MayP n s o (fun d => M_price d = 0) R rch v m ∧ Up M m)) => m90_loop (y := y) (M := M) hn hs hob hF hM k44 r f (m + 1) (upd on m z) (by omega) (by omega)
      (fun w hw => by
        by_cases e : w = m
        · subst e
          rw [upd_eq (α := Nat)]
          exact hz
        · rw [upd_ne e]
          exact h1 w (by omega))
    have bad : ∀ {α : Prop}, ¬ α → (0 : Int32) = b01 α := fun h => (b01_f h).symm
    rw [f_X7_grow_b90, s_allDoors hn14, bd_of, if_neg (by rw [lt_nI (by omega) (by omega)]; omega), ite_eqc (isB_z (isB_not (isB_n hm14) (isB_n hs14))), ite_eqc (isB_z (isB_not (isB_and (isB_n ho14) (isB_n hs14)) (isB_n hm14))), r1, bd_of, ite_eqc (isB_z (isB_not (isB_and (isB_n hm14) r2) (isB_n ho14))), m_isLawful hF hn14 hs14 hm14, bd_of, b01_if, s_comesFrom (fun w hw => hM w (by omega)) (by omega), bd_of, b01_if]
    unfold f_X7_grow_b161 f_X7_grow_b162
    rw [ix_nI (show m < 512 by omega) (by decide), ix_nI (show m < 512 by omega) (by decide), cl_nI (by omega), nI_1, nar_0, nar_1]
    by_cases q1 : ∀ d, d < 14 → ¬ (m.testBit d = true ∧ ¬ s.testBit d = true)
    · rw [if_pos q1]
      by_cases q2 : ∀ d, d < 14 → ¬ ((o.testBit d = true ∧ s.testBit d = true) ∧ ¬ m.testBit d = true)
      · rw [if_pos q2]
        by_cases q3 : ∀ d, d < 14 → ¬ ((m.testBit d = true ∧ (False ∨ (d < n ∧ M_price d = 0))) ∧ ¬ o.testBit d = true)
        · rw [if_pos q3]
          by_cases q4 : LawP n s R rch v m
          · rw [if_pos q4]
            have hmay : MayP n s o (fun d => M_price d = 0) R rch v m := by
              refine ⟨fun d hd x1 x2 => Classical.byContradiction fun z => q2 d (by omega) ⟨⟨x1, x2⟩, z⟩, fun d hd x1 => ⟨Classical.byContradiction fun z => q1 d (by omega) ⟨x1, z⟩, ?_⟩, q4⟩
              by_cases x2 : o.testBit d = true
              · exact Or.inl x2
              · exact Or.inr fun x3 => q3 d (by omega) ⟨⟨x1, Or.inr ⟨hd, x3⟩⟩, x2⟩
            by_cases q5 : Up M m
            · rw [if_pos q5]
              exact ih 1 (b01_t ⟨hmay, q5⟩).symm
            · rw [if_neg q5]
              exact ih 0 (bad fun z => q5 z.2)
          · rw [if_neg q4]
            exact ih 0 (bad fun z => q4 z.1.2.2)
        · rw [if_neg q3]
          refine ih 0 (bad fun z => q3 fun d hd x => ?_)
          obtain ⟨⟨x1, x2⟩, x3⟩ := x
          have hdn := tb_lt hm x1
          rcases (z.1.2.1 d hdn x1).2 with x4 | x4
          · exact x3 x4
          · exact x4 (x2.elim False.elim fun x5 => x5.2)
      · rw [if_neg q2]
        refine ih 0 (bad fun z => q2 fun d hd x => ?_)
        obtain ⟨⟨x1, x2⟩, x3⟩ := x
        exact x3 (z.1.1 d (tb_lt hob x1) x1 x2)
    · rw [if_neg q1]
      exact ih 0 (bad fun z => q1 fun d hd x => x.2 (z.1.2.1 d (tb_lt hm x.1) x.1).1)
  | _, 0, _, _, _, hf, _ => by omega
end GROW3
theorem Up_mono {G : Nat → Prop} {M : Nat → Prop} {n w : Nat} (hw : w < 2 ^ n) (h : ∀ u, u < 2 ^ n → (G u ↔ M u)) : Up G w ↔ Up M w := by
  constructor
  · rintro ⟨u, h1, h2⟩
    exact ⟨u, (h u (lt_of_bits fun i hi => tb_lt hw (h2 i hi))).mp h1, h2⟩
  · rintro ⟨u, h1, h2⟩
    exact ⟨u, (h u (lt_of_bits fun i hi => tb_lt hw (h2 i hi))).mpr h1, h2⟩
