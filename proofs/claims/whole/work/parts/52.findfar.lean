/-! the model's findFar -/
def MJ (n kj : Nat) (A B : Nat → Nat) (M_joinA M_joinB : Nat → Int32) : Prop := kj ≤ 41 ∧ ∀ i, i < kj → (A i < n ∧ B i < n ∧ A i ≠ B i) ∧ M_joinA i = nI (A i) ∧ M_joinB i = nI (B i)
theorem ff_row {n s x2 : Nat} (hn : n ≤ 14) (h2 : x2 < n) (k2 : Int32 → (Nat → Int32) → Option (Nat → Int32)) (M_joins : Int32) (M_joinA M_joinB : Nat → Int32) :
    ∀ (r f x3 : Nat) (far : Nat → Int32), r + x3 = n → f ≥ r + 1 →
    ∃ far', f_X7_findFar_b12 k2 (nI s) (nI x2) (nI n) M_joins M_joinA M_joinB f (nI x3) far = k2 (nI (x2 + 1)) far' ∧ (∀ b, x3 ≤ b → b < n → far' (14 * x2 + b) = nI (if x2 = b then 0 else 99)) ∧ (∀ j, (j < 14 * x2 + x3 ∨ 14 * x2 + n ≤ j) → far' j = far j)
  | 0, f + 1, x3, far, h, hf => by
    have e : x3 = n := by omega
    subst e
    refine ⟨far, ?_, fun b h1 h2 => by omega, fun _ _ => rfl⟩
    rw [f_X7_findFar_b12, if_pos (by rw [le_nI (by omega) (by omega)]; omega), nI_1]
  | r + 1, f + 1, x3, far, h, hf => by
    have e14 : (14 : Int32) = nI 14 := rfl
    obtain ⟨far', g1, g2, g3⟩ := ff_row (s := s) hn h2 k2 M_joins M_joinA M_joinB r f (x3 + 1) (upd far (14 * x2 + x3) (nI (if x2 = x3 then 0 else 99))) (by omega) (by omega)
    refine ⟨far', ?_, fun b hb1 hb2 => ?_, fun j hj => ?_⟩
    · rw [f_X7_findFar_b12, if_neg (by rw [le_nI (by omega) (by omega)]; omega)]
      unfold f_X7_findFar_b41
      simp only [e14, pk_mul, nI_add, ix_nI (show 14 * x2 + x3 < 196 by omega) (by decide), cl_nI (show 14 * x2 + x3 < 2 ^ 31 by omega), nI_1, eq_nI (show x2 < 2 ^ 31 by omega) (show x3 < 2 ^ 31 by omega)]
      rw [← g1]
      by_cases q : x2 = x3
      · simp only [if_pos q]
        rfl
      · simp only [if_neg q]
        rfl
    · by_cases e : b = x3
      · subst e
        rw [g3 _ (by omega), upd_eq (α := Nat)]
      · exact g2 b (by omega) hb2
    · rw [g3 j (by omega), upd_ne (by omega)]
  | _, 0, _, _, _, hf => by omega
theorem ff_rows {n s : Nat} (hn : n ≤ 14) (M_joins : Int32) (M_joinA M_joinB : Nat → Int32) :
    ∀ (r f x2 : Nat) (far : Nat → Int32), r + x2 = n → f ≥ r + 1 →
    ∃ far', f_X7_findFar_b2 (nI s) (nI n) M_joins M_joinA M_joinB f (nI x2) far = f_X7_findFar_b56 (nI s) (nI n) M_joins M_joinA M_joinB fuel 0 far' ∧ (∀ a b, x2 ≤ a → a < n → b < n → far' (14 * a + b) = nI (if a = b then 0 else 99)) ∧ (∀ j, j < 14 * x2 → far' j = far j)
  | 0, f + 1, x2, far, h, hf => by
    have e : x2 = n := by omega
    subst e
    refine ⟨far, ?_, fun a b h1 h2 => by omega, fun _ _ => rfl⟩
    rw [f_X7_findFar_b2, if_pos (by rw [le_nI (by omega) (by omega)]; omega)]
  | r + 1, f + 1, x2, far, h, hf => by
    obtain ⟨far1, g1, g2, g3⟩ := ff_row (s := s) hn (show x2 < n by omega) (f_X7_findFar_b2 (nI s) (nI n) M_joins M_joinA M_joinB f) M_joins M_joinA M_joinB n fuel 0 far (by omega) (by unfold fuel; omega)
    obtain ⟨far', t1, t2, t3⟩ := ff_rows (s := s) hn M_joins M_joinA M_joinB r f (x2 + 1) far1 (by omega) (by omega)
    refine ⟨far', ?_, fun a b h1 h2 h3 => ?_, fun j hj => ?_⟩
    · rw [f_X7_findFar_b2, if_neg (by rw [le_nI (by omega) (by omega)]; omega), ← t1]
      exact g1
    · by_cases e : a = x2
      · subst e
        rw [t3 _ (by omega)]
        exact g2 b (by omega) h3
      · exact t2 a b (by omega) h2 h3
    · rw [t3 j (by omega)]
      exact g3 j (by omega)
  | _, 0, _, _, _, hf => by omega
def F01 (R : Nat → Nat → Prop) (F : Nat → Nat → Nat) : Prop := (∀ a, F a a = 0) ∧ ∀ a b, a ≠ b → (F a b = 1 ∧ R a b) ∨ (F a b = 99 ∧ ¬ R a b)
theorem RJ_more {s i : Nat} {A B : Nat → Nat} {a b : Nat} : RJ s (i + 1) A B a b ↔ RJ s i A B a b ∨ (s.testBit a = true ∧ s.testBit b = true ∧ ((A i = a ∧ B i = b) ∨ (A i = b ∧ B i = a))) := by
  constructor
  · rintro ⟨h1, h2, j, hj, h3⟩
    by_cases e : j = i
    · subst e
      exact Or.inr ⟨h1, h2, h3⟩
    · exact Or.inl ⟨h1, h2, j, by omega, h3⟩
  · rintro (⟨h1, h2, j, hj, h3⟩ | ⟨h1, h2, h3⟩)
    · exact ⟨h1, h2, j, by omega, h3⟩
    · exact ⟨h1, h2, i, by omega, h3⟩
theorem ff_joins {n s kj : Nat} (hn : n ≤ 14) (hs : s < 2 ^ n) {A B : Nat → Nat} {M_joinA M_joinB : Nat → Int32} (hJ : MJ n kj A B M_joinA M_joinB) :
    ∀ (r f i : Nat) (F : Nat → Nat → Nat) (far : Nat → Int32), r + i = kj → f ≥ r + 1 → isF n far F → F01 (RJ s i A B) F →
    ∃ far' F', f_X7_findFar_b56 (nI s) (nI n) (nI kj) M_joinA M_joinB f (nI i) far = f_X7_findFar_b145 (nI n) fuel 0 far' ∧ isF n far' F' ∧ F01 (RJ s kj A B) F'
  | 0, f + 1, i, F, far, h, hf, hF, h0 => by
    have e : i = kj := by omega
    subst e
    have hk := hJ.1
    refine ⟨far, F, ?_, hF, h0⟩
    rw [f_X7_findFar_b56, if_pos (by rw [le_nI (by omega) (by omega)]; omega)]
  | r + 1, f + 1, i, F, far, h, hf, hF, h0 => by
    have hk := hJ.1
    obtain ⟨⟨a1, a2, a3⟩, a4, a5⟩ := hJ.2 i (by omega)
    have p := p14 hn
    have e14 : (14 : Int32) = nI 14 := rfl
    rw [f_X7_findFar_b56, if_neg (by rw [le_nI (by omega) (by omega)]; omega)]
    unfold f_X7_findFar_b137
    simp only [ix_nI (show i < 41 by omega) (by decide), cl_nI (show i < 2 ^ 31 by omega), a4, a5, tb0 (show s < 2 ^ 31 by omega) (show A i < 32 by omega), tb0 (show s < 2 ^ 31 by omega) (show B i < 32 by omega), nI_1]
    by_cases q : s.testBit (A i) = true ∧ s.testBit (B i) = true
    · obtain ⟨q1, q2⟩ := q
      simp only [q1, q2, Bool.true_eq_false, if_false, e14, pk_mul, nI_add, ix_nI (show 14 * A i + B i < 196 by omega) (by decide), ix_nI (show 14 * B i + A i < 196 by omega) (by decide), cl_nI (show 14 * A i + B i < 2 ^ 31 by omega), cl_nI (show 14 * B i + A i < 2 ^ 31 by omega)]
      have hF2 : isF n (upd (upd far (14 * A i + B i) 1) (14 * B i + A i) 1) (fun a b => if (A i = a ∧ B i = b) ∨ (A i = b ∧ B i = a) then 1 else F a b) := by
        intro a b ha hb
        dsimp only
        by_cases e : (A i = a ∧ B i = b) ∨ (A i = b ∧ B i = a)
        · rw [if_pos e]
          refine ⟨?_, by omega⟩
          rcases e with ⟨rfl, rfl⟩ | ⟨rfl, rfl⟩
          · rw [upd_ne (by omega), upd_eq (α := Nat)]
            rfl
          · rw [upd_eq (α := Nat)]
            rfl
        · rw [if_neg e, upd_ne (by omega), upd_ne (by omega)]
          exact hF a b ha hb
      have h01 : F01 (RJ s (i + 1) A B) (fun a b => if (A i = a ∧ B i = b) ∨ (A i = b ∧ B i = a) then 1 else F a b) := by
        refine ⟨fun a => ?_, fun a b hab => ?_⟩
        · dsimp only
          rw [if_neg (by omega)]
          exact h0.1 a
        · dsimp only
          rw [RJ_more]
          by_cases e : (A i = a ∧ B i = b) ∨ (A i = b ∧ B i = a)
          · rw [if_pos e]
            refine Or.inl ⟨rfl, Or.inr ⟨?_, ?_, e⟩⟩
            · rcases e with ⟨rfl, rfl⟩ | ⟨rfl, rfl⟩
              · exact q1
              · exact q2
            · rcases e with ⟨rfl, rfl⟩ | ⟨rfl, rfl⟩
              · exact q2
              · exact q1
          · rw [if_neg e]
            rcases h0.2 a b hab with ⟨z1, z2⟩ | ⟨z1, z2⟩
            · exact Or.inl ⟨z1, Or.inl z2⟩
            · refine Or.inr ⟨z1, ?_⟩
              rintro (z | z)
              · exact z2 z
              · exact e z.2.2
      exact ff_joins hn hs hJ r f (i + 1) _ _ (by omega) (by omega) hF2 h01
    · have h01 : F01 (RJ s (i + 1) A B) F := by
        refine ⟨h0.1, fun a b hab => ?_⟩
        rw [RJ_more]
        rcases h0.2 a b hab with ⟨z1, z2⟩ | ⟨z1, z2⟩
        · exact Or.inl ⟨z1, Or.inl z2⟩
        · refine Or.inr ⟨z1, ?_⟩
          rintro (z | ⟨y1, y2, y3⟩)
          · exact z2 z
          · apply q
            rcases y3 with ⟨rfl, rfl⟩ | ⟨rfl, rfl⟩
            · exact ⟨y1, y2⟩
            · exact ⟨y2, y1⟩
      obtain ⟨far', F', t1, t2, t3⟩ := ff_joins hn hs hJ r f (i + 1) F far (by omega) (by omega) hF h01
      refine ⟨far', F', ?_, t2, t3⟩
      rw [← t1]
      by_cases q1 : s.testBit (A i) = false
      · rw [if_pos q1]
      · rw [if_neg q1, if_pos]
        cases hq : s.testBit (B i)
        · rfl
        · exact absurd ⟨by simpa using q1, hq⟩ q
  | _, 0, _, _, _, _, hf, _, _ => by omega
theorem s_findFar {n s kj : Nat} (hn : n ≤ 14) (hs : s < 2 ^ n) {A B : Nat → Nat} {M_joinA M_joinB : Nat → Int32} (hJ : MJ n kj A B M_joinA M_joinB) (far : Nat → Int32) :
    ∃ far', f_X7_findFar (nI s) (nI n) (nI kj) M_joinA M_joinB far = some far' ∧ ∀ a b, a < n → b < n → far' (14 * a + b) = nI (dd (RJ s kj A B) a b) := by
  have hJ2 : ∀ i, i < kj → A i < n ∧ B i < n ∧ A i ≠ B i := fun i hi => (hJ.2 i hi).1
  obtain ⟨far1, g1, g2, -⟩ := ff_rows (s := s) hn (nI kj) M_joinA M_joinB n fuel 0 far (by omega) (by unfold fuel; omega)
  have hF0 : isF n far1 (fun a b => if a = b then 0 else 99) := by
    intro a b ha hb
    refine ⟨g2 a b (by omega) ha hb, ?_⟩
    dsimp only
    by_cases e : a = b
    · rw [if_pos e]; omega
    · rw [if_neg e]; omega
  have h00 : F01 (RJ s 0 A B) (fun a b => if a = b then 0 else 99) := by
    refine ⟨fun a => if_pos rfl, fun a b hab => Or.inr ⟨if_neg hab, ?_⟩⟩
    rintro ⟨-, -, i, hi, -⟩
    omega
  obtain ⟨far2, F2, t1, t2, t3, t4⟩ := ff_joins hn hs hJ kj fuel 0 _ far1 (by omega) (by have := hJ.1; unfold fuel; omega) hF0 h00
  have hW : FWd (RJ s kj A B) n 0 F2 := by
    refine ⟨fun k a b ha hb hw => ?_, fun a b hab => ?_⟩
    · match k, hw with
      | 0, hw =>
        have e : a = b := hw
        subst e
        rw [t3 a]
        exact Nat.le_refl _
      | 1, ⟨c, hc, hr, _⟩ =>
        have e : a = c := hc
        subst e
        rcases t4 a b (RJ_ne hJ2 a b hr) with ⟨z1, -⟩ | ⟨-, z2⟩
        · omega
        · exact absurd hr z2
      | k + 2, ⟨c, hc, hr, hk⟩ => omega
    · by_cases e : a = b
      · subst e
        rw [t3 a]
        rfl
      · rcases t4 a b e with ⟨z1, z2⟩ | ⟨z1, z2⟩
        · rw [z1]
          exact ⟨a, rfl, z2⟩
        · omega
  obtain ⟨far3, F3, u1, u2, u3, u4⟩ := ff_out hn (RJ s kj A B) n fuel 0 F2 far2 (by omega) (by unfold fuel; omega) t2 hW
  refine ⟨far3, ?_, fun a b ha hb => ?_⟩
  · unfold f_X7_findFar
    exact g1.trans (t1.trans u1)
  · obtain ⟨v1, v2⟩ := u2 a b ha hb
    rw [v1, dd_of hn (RJ_lt hJ2) v2 (fun z => u4 a b z) (fun k hk => u3 k a b ha hb (RW_of_Wk (RJ_lt hJ2) k a b hk))]
