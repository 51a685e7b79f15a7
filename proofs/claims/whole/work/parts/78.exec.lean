/-! the model's steps, worked -/
def Ex1 (F : Nat → Int32) (w u : Int32) (st st' : List Int32) : Prop :=
  (w = 1 ∧ st' = u :: st) ∨ (w = 2 ∧ ∃ k, k < 5 ∧ u = nI k ∧ st' = F k :: st) ∨ (w = 3 ∧ ∃ x r, st = x :: r ∧ st' = (if x = 0 then 1 else 0) :: r) ∨ (w = 4 ∧ ∃ x r, st = x :: r ∧ st' = (-x) :: r) ∨
  (¬ w = 1 ∧ ¬ w = 2 ∧ ¬ w = 3 ∧ ¬ w = 4 ∧ ∃ y x r z, st = y :: x :: r ∧ f_X7_twoOf w x y = some z ∧ st' = z :: r)
def Exs (F : Nat → Int32) : List (Int32 × Int32) → List Int32 → List Int32 → Prop
  | [], st, st' => st' = st
  | (w, u) :: c, st, st' => ∃ s1, Ex1 F w u st s1 ∧ Exs F c s1 st'
theorem Exs_app {F : Nat → Int32} : ∀ (c1 c2 : List (Int32 × Int32)) (st s1 s2 : List Int32), Exs F c1 st s1 → Exs F c2 s1 s2 → Exs F (c1 ++ c2) st s2
  | [], c2, st, s1, s2, h1, h2 => by
    have e : s1 = st := h1
    subst e
    exact h2
  | (w, u) :: c, c2, st, s1, s2, ⟨s, h1, h3⟩, h2 => ⟨s, h1, Exs_app c c2 s s1 s2 h3 h2⟩
def Runs (F : Nat → Int32) (c : List (Int32 × Int32)) (v : Int32) : Prop := ∀ st, Exs F c st (v :: st)
theorem Exs_one {F : Nat → Int32} {w u : Int32} {st st' : List Int32} (h : Ex1 F w u st st') : Exs F [(w, u)] st st' := ⟨st', h, rfl⟩
def segm (act wth : Nat → Int32) : Nat → List (Int32 × Int32) → Prop
  | _, [] => True
  | b, (w, u) :: c => act b = w ∧ wth b = u ∧ segm act wth (b + 1) c
theorem segm_app {act wth : Nat → Int32} : ∀ (c1 c2 : List (Int32 × Int32)) (b : Nat), segm act wth b (c1 ++ c2) ↔ segm act wth b c1 ∧ segm act wth (b + c1.length) c2
  | [], c2, b => by
    show segm act wth b c2 ↔ True ∧ segm act wth b c2
    exact ⟨fun h => ⟨trivial, h⟩, fun h => h.2⟩
  | (w, u) :: c, c2, b => by
    have ih := segm_app (act := act) (wth := wth) c c2 (b + 1)
    have e : b + ((w, u) :: c).length = b + 1 + c.length := by
      rw [List.length_cons]
      omega
    rw [e]
    show (act b = w ∧ wth b = u ∧ segm act wth (b + 1) (c ++ c2)) ↔ (act b = w ∧ wth b = u ∧ segm act wth (b + 1) c) ∧ _
    rw [ih]
    constructor
    · rintro ⟨h1, h2, h3, h4⟩
      exact ⟨⟨h1, h2, h3⟩, h4⟩
    · rintro ⟨⟨h1, h2, h3⟩, h4⟩
      exact ⟨h1, h2, h3, h4⟩
/-- the same steps, at another place, in other rows -/
theorem segm_move {act wth act' wth' : Nat → Int32} : ∀ (c : List (Int32 × Int32)) (b b' : Nat), (∀ i, i < c.length → act' (b' + i) = act (b + i) ∧ wth' (b' + i) = wth (b + i)) → segm act wth b c → segm act' wth' b' c
  | [], _, _, _, _ => trivial
  | (w, u) :: c, b, b', h, ⟨h1, h2, h3⟩ => by
    have h0 := h 0 (by rw [List.length_cons]; omega)
    rw [Nat.add_zero, Nat.add_zero] at h0
    refine ⟨h0.1.trans h1, h0.2.trans h2, segm_move c (b + 1) (b' + 1) (fun i hi => ?_) h3⟩
    have := h (i + 1) (by rw [List.length_cons]; omega)
    rw [show b' + 1 + i = b' + (i + 1) by omega, show b + 1 + i = b + (i + 1) by omega]
    exact this
def pilR (pile : Nat → Int32) : List Int32 → Prop
  | [] => True
  | x :: st => pile st.length = x ∧ pilR pile st
theorem pilR_upd {pile : Nat → Int32} {x : Int32} : ∀ (st : List Int32) (m : Nat), st.length ≤ m → pilR pile st → pilR (upd pile m x) st
  | [], _, _, _ => trivial
  | y :: st, m, h, ⟨h1, h2⟩ => by
    rw [List.length_cons] at h
    refine ⟨?_, pilR_upd st m (by omega) h2⟩
    rw [upd_ne (by omega)]
    exact h1
theorem wk_steps {F act wth : Nat → Int32} {e : Nat} (he : e ≤ 130) {v : Int32} :
    ∀ (c : List (Int32 × Int32)) (f k : Nat) (st : List Int32) (pile : Nat → Int32), k + c.length = e → f ≥ c.length + 1 → Exs F c st [v] → segm act wth k c → pilR pile st → st.length + c.length ≤ 130 →
    ∃ pile', f_X7_worked_b12 0 (nI e) act wth F f (nI st.length) (nI k) pile = some (v, pile')
  | [], f + 1, k, st, pile, hk, hf, hx, _, hp, _ => by
    rw [List.length_nil, Nat.add_zero] at hk
    subst hk
    have e1 : [v] = st := hx
    subst e1
    rw [f_X7_worked_b12, Int32.mul_zero, Int32.zero_add, if_pos (by rw [le_nI (by omega) (by omega)]; omega), ix_0 (by decide) (by decide), show Int32.toNatClampNeg 0 = 0 by decide]
    exact ⟨pile, by rw [show pile 0 = v from hp.1]⟩
  | (w, u) :: c, f + 1, k, st, pile, hk, hf, ⟨s1, h1, h2⟩, ⟨g1, g2, g3⟩, hp, hl => by
    rw [List.length_cons] at hk hf hl
    have ih := fun s1 pile hx hp hl => wk_steps (F := F) (act := act) (wth := wth) he (v := v) c f (k + 1) s1 pile (by omega) (by omega) hx g3 hp hl
    rw [f_X7_worked_b12, Int32.mul_zero, Int32.zero_add, if_neg (by rw [le_nI (by omega) (by omega)]; omega), ix_nI (show k < 260 by omega) (by decide), cl_nI (show k < 2 ^ 31 by omega), g1]
    unfold f_X7_worked_b45 f_X7_worked_b79 f_X7_worked_b117 f_X7_worked_b182
    rw [ix_nI (show k < 260 by omega) (by decide), cl_nI (show k < 2 ^ 31 by omega), g2, nI_1, nI_1]
    have z1 : ¬ (2 : Int32) = 1 := by decide
    rcases h1 with ⟨rfl, rfl⟩ | ⟨rfl, j, hj, rfl, rfl⟩ | ⟨rfl, x, r, rfl, rfl⟩ | ⟨rfl, x, r, rfl, rfl⟩ | ⟨n1, n2, n3, n4, y, x, r, z, rfl, hz, rfl⟩
    · rw [if_pos rfl, if_pos rfl, ix_nI (show st.length < 130 by omega) (by decide), cl_nI (by omega)]
      exact ih _ _ h2 ⟨upd_eq (α := Nat), pilR_upd st _ (Nat.le_refl _) hp⟩ (by rw [List.length_cons]; omega)
    · rw [if_neg z1, if_pos rfl, if_neg z1, ix_nI (show k < 260 by omega) (by decide), ix_nI hj (by decide), ix_nI (show st.length < 130 by omega) (by decide), cl_nI (show j < 2 ^ 31 by omega), cl_nI (show st.length < 2 ^ 31 by omega)]
      exact ih _ _ h2 ⟨upd_eq (α := Nat), pilR_upd st _ (Nat.le_refl _) hp⟩ (by rw [List.length_cons]; omega)
    · rw [if_neg (by decide), if_neg (by decide), if_pos rfl]
      rw [List.length_cons] at hl ⊢
      rw [nI_m1, ix_nI (show r.length < 130 by omega) (by decide), ix_nI (show r.length < 130 by omega) (by decide), ix_nI (show r.length < 130 by omega) (by decide), cl_nI (by omega), show pile r.length = x from hp.1]
      by_cases q : x = 0
      · rw [if_pos q] at h2
        rw [if_pos q]
        exact ih _ _ h2 ⟨upd_eq (α := Nat), pilR_upd r _ (Nat.le_refl _) hp.2⟩ (by rw [List.length_cons]; omega)
      · rw [if_neg q] at h2
        rw [if_neg q]
        exact ih _ _ h2 ⟨upd_eq (α := Nat), pilR_upd r _ (Nat.le_refl _) hp.2⟩ (by rw [List.length_cons]; omega)
    · rw [if_neg (by decide), if_neg (by decide), if_neg (by decide), if_pos rfl]
      rw [List.length_cons] at hl ⊢
      rw [nI_m1, ix_nI (show r.length < 130 by omega) (by decide), ix_nI (show r.length < 130 by omega) (by decide), cl_nI (by omega), show pile r.length = x from hp.1]
      exact ih _ _ h2 ⟨upd_eq (α := Nat), pilR_upd r _ (Nat.le_refl _) hp.2⟩ (by rw [List.length_cons]; omega)
    · rw [if_neg n1, if_neg n2, if_neg n3, if_neg n4]
      rw [List.length_cons, List.length_cons] at hl ⊢
      have em : nI (r.length + 1 + 1) + (-1) = nI (r.length + 1) := by rw [← Int32.sub_eq_add_neg, nI_m1]
      have hp1 : pile (r.length + 1) = y := hp.1
      have hp2 : pile r.length = x := hp.2.1
      rw [em, nI_m1, ix_nI (show r.length < 130 by omega) (by decide), ix_nI (show r.length + 1 < 130 by omega) (by decide), cl_nI (show r.length < 2 ^ 31 by omega), cl_nI (show r.length + 1 < 2 ^ 31 by omega), hp1, hp2, hz, bd_of, ix_nI (show r.length < 130 by omega) (by decide)]
      exact ih _ _ h2 ⟨upd_eq (α := Nat), pilR_upd r _ (Nat.le_refl _) hp.2.2⟩ (by rw [List.length_cons]; omega)
  | _, 0, _, _, _, _, hf, _, _, _, _ => by omega
theorem s_worked {F act wth : Nat → Int32} {c : List (Int32 × Int32)} {b : Nat} {v : Int32} (hb : b + c.length ≤ 130) (hr : Runs F c v) (hs : segm act wth b c) (pile : Nat → Int32) :
    ∃ pile', f_X7_worked 0 (nI b) (nI (b + c.length)) act wth F pile = some (v, pile') := by
  unfold f_X7_worked
  rw [Int32.mul_zero, Int32.zero_add]
  exact wk_steps hb c fuel b [] pile rfl (by unfold fuel; omega) (hr []) hs trivial (by rw [List.length_nil]; omega)
