/-! the model's lawful, rock, may be -/
section LOOK7
variable {n v : Nat} {R : Nat → Nat → Prop} {rch : Nat → Nat} {M_far M_within M_tooNear : Nat → Int32}
theorem m_srv (hF : zFound n R rch v M_far M_within M_tooNear) (hn : n ≤ 14) {w d : Nat} (hw : w < 2 ^ 14) (hd : d < n) : (nI w &&& M_within d = 0) = ¬ Srv n R rch w d := by
  rw [isB_z (isB_and (isB_n hw) (hF.2.1 d hd))]
  apply propext
  constructor
  · rintro h ⟨b, b1, b2, b3⟩
    exact h b (by omega) ⟨b2, b1, b3⟩
  · rintro h b hb ⟨b1, b2, b3⟩
    exact h ⟨b, b2, b1, b3⟩
theorem m_clr (hF : zFound n R rch v M_far M_within M_tooNear) (hn : n ≤ 14) {w d : Nat} (hw : w < 2 ^ 14) (hd : d < n) : (nI w &&& M_tooNear d = 0) = Clr n R v w d := by
  rw [isB_z (isB_and (isB_n hw) (hF.2.2 d hd))]
  apply propext
  constructor
  · intro h b b1 b2 b3 b4
    exact h b (by omega) ⟨b2, b1, b3, b4⟩
  · rintro h b hb ⟨b1, b2, b3, b4⟩
    exact h b b2 b1 b3 b4
theorem ml_loop (hF : zFound n R rch v M_far M_within M_tooNear) (hn : n ≤ 14) {s w : Nat} (hs : s < 2 ^ 14) (hw : w < 2 ^ 14) :
    ∀ (r f x3 : Nat), r + x3 = n → f ≥ r + 1 → f_X7_isLawful_b2 (nI w) (nI s) (nI n) M_within M_tooNear f (nI x3) = some (b01 (∀ d, x3 ≤ d → d < n → (s.testBit d = true → Srv n R rch w d) ∧ (w.testBit d = true → Clr n R v w d)))
  | 0, f + 1, x3, h, hf => by
    rw [f_X7_isLawful_b2, if_pos (by rw [le_nI (by omega) (by omega)]; omega), b01_t]
    intro d h1 h2
    omega
  | r + 1, f + 1, x3, h, hf => by
    have h3 : x3 < n := by omega
    have ih := ml_loop hF hn hs hw r f (x3 + 1) (by omega) (by omega)
    have bad : ∀ {P : Prop}, (P → False) → some (0 : Int32) = some (b01 P) := fun h => by rw [b01_f h]
    have key : ((s.testBit x3 = true → Srv n R rch w x3) ∧ (w.testBit x3 = true → Clr n R v w x3)) → f_X7_isLawful_b2 (nI w) (nI s) (nI n) M_within M_tooNear f (nI (x3 + 1)) = some (b01 (∀ d, x3 ≤ d → d < n → (s.testBit d = true → Srv n R rch w d) ∧ (w.testBit d = true → Clr n R v w d))) := by
      intro hx
      rw [ih]
      congr 2
      apply propext
      constructor
      · intro z d h1 h2
        by_cases e : d = x3
        · subst e
          exact hx
        · exact z d (by omega) h2
      · intro z d h1 h2
        exact z d (by omega) h2
    rw [f_X7_isLawful_b2, if_neg (by rw [le_nI (by omega) (by omega)]; omega)]
    unfold f_X7_isLawful_b32 f_X7_isLawful_b54
    rw [ite_eqc (isB_t1 (isB_n hs) (show x3 < 14 by omega)), ite_eqc (isB_t1 (isB_n hw) (show x3 < 14 by omega)), ix_nI (show x3 < 14 by omega) (by decide), ix_nI (show x3 < 14 by omega) (by decide), cl_nI (by omega), ite_eqc (m_srv hF hn hw h3), ite_eqc (m_clr hF hn hw h3), nI_1]
    by_cases q1 : s.testBit x3 = true
    · rw [if_pos q1]
      by_cases q2 : Srv n R rch w x3
      · rw [if_neg (fun z => z q2)]
        by_cases q3 : w.testBit x3 = true
        · rw [if_pos q3]
          by_cases q4 : Clr n R v w x3
          · rw [if_pos q4]
            exact key ⟨fun _ => q2, fun _ => q4⟩
          · rw [if_neg q4]
            exact bad fun z => q4 ((z x3 (Nat.le_refl _) h3).2 q3)
        · rw [if_neg q3]
          exact key ⟨fun _ => q2, fun z => absurd z q3⟩
      · rw [if_pos q2]
        exact bad fun z => q2 ((z x3 (Nat.le_refl _) h3).1 q1)
    · rw [if_neg q1]
      by_cases q3 : w.testBit x3 = true
      · rw [if_pos q3]
        by_cases q4 : Clr n R v w x3
        · rw [if_pos q4]
          exact key ⟨fun z => absurd z q1, fun _ => q4⟩
        · rw [if_neg q4]
          exact bad fun z => q4 ((z x3 (Nat.le_refl _) h3).2 q3)
      · rw [if_neg q3]
        exact key ⟨fun z => absurd z q1, fun z => absurd z q3⟩
  | _, 0, _, _, hf => by omega
theorem m_isLawful (hF : zFound n R rch v M_far M_within M_tooNear) (hn : n ≤ 14) {s w : Nat} (hs : s < 2 ^ 14) (hw : w < 2 ^ 14) : f_X7_isLawful (nI w) (nI s) (nI n) M_within M_tooNear = some (b01 (LawP n s R rch v w)) := by
  unfold f_X7_isLawful
  refine (ml_loop hF hn hs hw n fuel 0 (by omega) (by unfold fuel; omega)).trans ?_
  congr 2
  apply propext
  constructor
  · intro z
    exact ⟨fun d hd hs => (z d (Nat.zero_le _) hd).1 hs, fun d hd hs => (z d (Nat.zero_le _) hd).2 hs⟩
  · intro z d _ hd
    exact ⟨z.1 d hd, z.2 d hd⟩
theorem mr_loop (hn : n ≤ 14) (M_price : Nat → Int32) :
    ∀ (r f x2 : Nat) (x1 : Int32) (Q : Nat → Prop), r + x2 = n → f ≥ r + 1 → isBt x1 Q → ∃ y, f_X7_rock_b7 (nI n) M_price f x1 (nI x2) = some y ∧ isBt y (fun d => Q d ∨ (x2 ≤ d ∧ d < n ∧ M_price d = 0))
  | 0, f + 1, x2, x1, Q, h, hf, i1 => by
    have e : x2 = n := by omega
    subst e
    refine ⟨x1, by rw [f_X7_rock_b7, if_pos (by rw [le_nI (by omega) (by omega)]; omega)], isB_c i1 fun d _ => ⟨Or.inl, ?_⟩⟩
    rintro (z | ⟨z, y, -⟩)
    · exact z
    · omega
  | r + 1, f + 1, x2, x1, Q, h, hf, i1 => by
    have A1 : ∃ x1', isBt x1' (fun d => Q d ∨ (d = x2 ∧ M_price d = 0)) ∧ f_X7_rock_b7 (nI n) M_price (f + 1) x1 (nI x2) = f_X7_rock_b7 (nI n) M_price f x1' (nI (x2 + 1)) := by
      rw [f_X7_rock_b7, if_neg (by rw [le_nI (by omega) (by omega)]; omega), ix_nI (show x2 < 14 by omega) (by decide), cl_nI (by omega)]
      unfold f_X7_rock_b30
      rw [nI_1]
      by_cases q : M_price x2 = 0
      · refine ⟨x1 ||| ((1 : Int32) <<< (nI x2 &&& 31)), ?_, by rw [if_pos q]⟩
        refine isB_c (isB_add i1 (show x2 < 14 by omega)) fun d _ => ⟨?_, ?_⟩
        · rintro (z | rfl)
          · exact Or.inl z
          · exact Or.inr ⟨rfl, q⟩
        · rintro (z | ⟨z, -⟩)
          · exact Or.inl z
          · exact Or.inr z
      · refine ⟨x1, isB_c i1 fun d _ => ⟨Or.inl, ?_⟩, by rw [if_neg q]⟩
        rintro (z | ⟨rfl, z⟩)
        · exact z
        · exact absurd z q
    obtain ⟨x1', j1, j2⟩ := A1
    obtain ⟨y, t1, t2⟩ := mr_loop hn M_price r f (x2 + 1) x1' _ (by omega) (by omega) j1
    refine ⟨y, j2.trans t1, isB_c t2 fun d _ => ⟨?_, ?_⟩⟩
    · rintro ((z | ⟨rfl, z⟩) | ⟨z, y, w⟩)
      · exact Or.inl z
      · exact Or.inr ⟨Nat.le_refl _, by omega, z⟩
      · exact Or.inr ⟨by omega, y, w⟩
    · rintro (z | ⟨z, y, w⟩)
      · exact Or.inl (Or.inl z)
      · by_cases e : d = x2
        · exact Or.inl (Or.inr ⟨e, w⟩)
        · exact Or.inr ⟨by omega, y, w⟩
  | _, 0, _, _, _, _, hf, _ => by omega
theorem m_rock (hn : n ≤ 14) (M_price : Nat → Int32) {dr : Int32} {D : Nat → Prop} (hD : isBt dr D) : ∃ y, f_X7_rock (nI n) M_price dr = some y ∧ isBt y (fun d => D d ∨ (d < n ∧ M_price d = 0)) := by
  obtain ⟨y, t1, t2⟩ := mr_loop hn M_price n fuel 0 dr D (by omega) (by unfold fuel; omega) hD
  refine ⟨y, t1, isB_c t2 fun d _ => ⟨?_, ?_⟩⟩
  · rintro (z | ⟨-, z⟩)
    · exact Or.inl z
    · exact Or.inr z
  · rintro (z | z)
    · exact Or.inl z
    · exact Or.inr ⟨Nat.zero_le _, z⟩
theorem m_mayBe (hF : zFound n R rch v M_far M_within M_tooNear) (hn : n ≤ 14) (M_price : Nat → Int32) {dr : Int32} {D rk : Nat → Prop} (hD : isBt dr D) (hrk : ∀ d, d < n → (rk d ↔ (D d ∨ M_price d = 0))) {ob w : Nat} (ho : ob < 2 ^ n) (hw : w < 2 ^ n) :
    f_X7_mayBe (nI w) (nI n) M_price (nI ob) M_within M_tooNear dr = some (b01 (MayP n (2 ^ n - 1) ob rk R rch v w)) := by
  obtain ⟨y, g1, g2⟩ := m_rock hn M_price hD
  have hw14 := lt14 hn hw
  have ho14 := lt14 hn ho
  unfold f_X7_mayBe
  rw [ite_eqc (isB_z (isB_not (isB_n ho14) (isB_n hw14))), g1, bd_of, ite_eqc (isB_z (isB_not (isB_and (isB_n hw14) g2) (isB_n ho14))), s_allDoors hn, bd_of, m_isLawful hF hn (lt14 hn (all_lt n)) hw14, bd_of, b01_if]
  by_cases q1 : ∀ d, d < 14 → ¬ (ob.testBit d = true ∧ ¬ w.testBit d = true)
  · rw [if_pos q1]
    by_cases q2 : ∀ d, d < 14 → ¬ ((w.testBit d = true ∧ (D d ∨ (d < n ∧ M_price d = 0))) ∧ ¬ ob.testBit d = true)
    · rw [if_pos q2]
      by_cases q3 : LawP n (2 ^ n - 1) R rch v w
      · rw [@if_pos _ (Classical.propDecidable _) q3, b01_t]
        refine ⟨fun d hd h1 _ => Classical.byContradiction fun z => q1 d (by omega) ⟨h1, z⟩, fun d hd h1 => ⟨tb_all.mpr hd, ?_⟩, q3⟩
        by_cases h2 : ob.testBit d = true
        · exact Or.inl h2
        · refine Or.inr fun h3 => q2 d (by omega) ⟨⟨h1, ?_⟩, h2⟩
          rcases (hrk d hd).mp h3 with z | z
          · exact Or.inl z
          · exact Or.inr ⟨hd, z⟩
      · rw [@if_neg _ (Classical.propDecidable _) q3, b01_f (fun z => q3 z.2.2)]
    · rw [if_neg q2, b01_f]
      intro z
      refine q2 fun d hd y => ?_
      obtain ⟨⟨y1, y2⟩, y3⟩ := y
      have hdn := tb_lt hw y1
      rcases (z.2.1 d hdn y1).2 with h | h
      · exact y3 h
      · refine h ((hrk d hdn).mpr ?_)
        rcases y2 with y2 | y2
        · exact Or.inl y2
        · exact Or.inr y2.2
  · rw [if_neg q1, b01_f]
    intro z
    refine q1 fun d hd y => y.2 ?_
    have hdn := tb_lt ho y.1
    exact z.1 d hdn y.1 (tb_all.mpr hdn)
end LOOK7
/-! far is alike from both ends -/
theorem Wk_rev {R : Nat → Nat → Prop} (hS : ∀ a b, R a b → R b a) : ∀ (k a b : Nat), Wk R k a b → Wk R k b a
  | 0, _, _, h => Eq.symm h
  | k + 1, a, b, ⟨c, hc, hr⟩ => by
    have h1 : Wk R 1 b c := ⟨b, rfl, hS _ _ hr⟩
    have h2 := Wk_app h1 k a (Wk_rev hS k a c hc)
    rwa [Nat.add_comm] at h2
theorem dd_sym {R : Nat → Nat → Prop} {n : Nat} (hn : n ≤ 14) (hR : ∀ a b, R a b → a < n ∧ b < n) (hS : ∀ a b, R a b → R b a) (a b : Nat) : dd R a b = dd R b a := by
  refine dd_eq hn hR ?_
  rcases dd_is hn hR b a with ⟨h1, h2, h3⟩ | ⟨h1, h2⟩
  · exact Or.inl ⟨h1, Wk_rev hS _ _ _ h2, fun k hk hw => h3 k hk (Wk_rev hS _ _ _ hw)⟩
  · exact Or.inr ⟨h1, fun k hw => h2 k (Wk_rev hS _ _ _ hw)⟩
theorem dd_self {R : Nat → Nat → Prop} {n : Nat} (hn : n ≤ 14) (hR : ∀ a b, R a b → a < n ∧ b < n) (a : Nat) : dd R a a = 0 := dd_eq hn hR (Or.inl ⟨by decide, rfl, fun k hk => by omega⟩)
