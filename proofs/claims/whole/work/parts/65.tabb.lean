/-! counting bits: one by one -/
theorem pcn_z : ∀ k w, w < 2 ^ k → pcn k w = 0 → w = 0
  | 0, w, h, _ => by
    have : 2 ^ 0 = 1 := rfl
    omega
  | k + 1, w, h, e => by
    unfold pcn at e
    have h2 : w / 2 < 2 ^ k := by
      rw [Nat.pow_succ] at h
      omega
    have := pcn_z k (w / 2) h2 (by omega)
    omega
theorem pcn_1 : ∀ k w, w < 2 ^ k → pcn k w = 1 → ∃ c, c < k ∧ w = 2 ^ c
  | 0, w, h, e => by
    unfold pcn at e
    omega
  | k + 1, w, h, e => by
    unfold pcn at e
    have h2 : w / 2 < 2 ^ k := by
      rw [Nat.pow_succ] at h
      omega
    by_cases q : w % 2 = 1
    · have := pcn_z k (w / 2) h2 (by omega)
      exact ⟨0, by omega, by omega⟩
    · obtain ⟨c, hc, ec⟩ := pcn_1 k (w / 2) h2 (by omega)
      exact ⟨c + 1, by omega, by rw [Nat.pow_succ]; omega⟩
theorem pc_p2 : ∀ c, c < 14 → pc (2 ^ c) = 1 := by decide +kernel
theorem pc_one {u : Nat} (hu : u < 2 ^ 14) : pc u = 1 ↔ ∃ c, c < 14 ∧ u = 2 ^ c := by
  constructor
  · exact pcn_1 14 u hu
  · rintro ⟨c, hc, rfl⟩
    exact pc_p2 c hc
/-- the lowest bit goes -/
theorem pcn_low : ∀ k w, w < 2 ^ k → ¬ w = 0 → pcn k (w &&& (w - 1)) + 1 = pcn k w
  | 0, w, h, e => by
    have : 2 ^ 0 = 1 := rfl
    omega
  | k + 1, w, h, e => by
    have h2 : w / 2 < 2 ^ k := by
      rw [Nat.pow_succ] at h
      omega
    have e1 : (w &&& (w - 1)) / 2 = w / 2 &&& (w - 1) / 2 := Nat.and_div_two
    have e2 : (w &&& (w - 1)) % 2 = 0 := by
      have := Nat.and_mod_two_pow (a := w) (b := w - 1) (n := 1)
      rw [Nat.pow_one] at this
      rw [this]
      rcases Nat.mod_two_eq_zero_or_one w with q | q
      · rw [q, Nat.zero_and]
      · rw [show (w - 1) % 2 = 0 by omega, Nat.and_zero]
    unfold pcn
    rw [e1, e2]
    by_cases q : w % 2 = 1
    · rw [show (w - 1) / 2 = w / 2 by omega, Nat.and_self]
      omega
    · rw [show (w - 1) / 2 = w / 2 - 1 by omega]
      have := pcn_low k (w / 2) h2 (by omega)
      omega
theorem bo_run : ∀ (r f : Nat) (a w : Nat), w < 2 ^ 14 → pc w = r → f ≥ r + 1 → f_X7_bitsOf_b4 f (nI a) (nI w) = some (nI (a + pc w))
  | 0, f + 1, a, w, hw, h, hf => by
    have e := pcn_z 14 w hw h
    subst e
    rw [f_X7_bitsOf_b4, if_pos (show nI 0 = (0 : Int32) from rfl)]
    rfl
  | r + 1, f + 1, a, w, hw, h, hf => by
    have hz : ¬ w = 0 := by
      rintro rfl
      have : pc 0 = 0 := by decide
      omega
    have hl := pcn_low 14 w hw hz
    have e1 : nI w - 1 = nI (w - 1) := by
      rw [show w = (w - 1) + 1 by omega, nI_m1, Nat.add_sub_cancel]
    have hw2 : w &&& (w - 1) < 2 ^ 14 := Nat.lt_of_le_of_lt Nat.and_le_left hw
    rw [f_X7_bitsOf_b4, if_neg (by rw [L_0, eq_nI (by omega) (by omega)]; exact hz), e1, nb_and, nI_1, bo_run r f (a + 1) (w &&& (w - 1)) hw2 (by unfold pc at h ⊢; omega) (by omega)]
    unfold pc
    rw [show a + 1 + pcn 14 (w &&& (w - 1)) = a + pcn 14 w by omega]
  | _, 0, _, _, _, _, hf => by omega
theorem pc_bo {w : Nat} (hw : w < 2 ^ 14) : f_X7_bitsOf (nI w) = some (nI (pc w)) := by
  have h := pcn_le 14 w
  have := bo_run (pc w) fuel 0 w hw rfl (by unfold fuel pc; omega)
  rw [Nat.zero_add] at this
  exact this
