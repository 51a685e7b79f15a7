/-! mend -/
theorem s_isWall7 (x : Int32) (n : Nat) (hn : n < 2 ^ 31) : f_X7_in x 0 (nI n - 1) = some (if x < 0 ∨ nI n ≤ x then 0 else 1) := by
  rw [s_in]
  simp only [in_below x n hn]
theorem dec_01 {c : Prop} [Decidable c] : (some (if c then (0 : Int32) else 1) = some 1) = ¬ c := by
  by_cases h : c <;> simp [h]
/-- what may be mended, on both sides alike: no, or a value, a place and a kind that are fit -/
theorem s_can (a1 a2 a3 : Int32) (n kw : Nat) (hn : n ≤ 14) (hk : kw ≤ 10) :
    (f_X5_canBecome a2 a1 a3 (nI n) (nI kw) = some 0 ∧ ∀ (P Y K A B C D : Nat → Int32) (d u : Int32), f_X7_mend a1 a2 a3 (nI n) P Y (nI kw) K d u A B C D = some (-1, P, Y, K, d, u, A, B, C, D)) ∨
    (f_X5_canBecome a2 a1 a3 (nI n) (nI kw) = some 1 ∧ ∃ wt x p, c_val n kw wt x p ∧ a2 = nI wt ∧ a1 = nI x ∧ a3 = nI p ∧ ∀ (P Y K A B C D : Nat → Int32) (d u : Int32), f_X7_mend a1 a2 a3 (nI n) P Y (nI kw) K d u A B C D = f_X7_changes a2 a1 a3 P Y K d u A B C D) := by
  unfold f_X5_canBecome f_X7_mend
  simp only [s_isDoor5, s_isDoor7 _ n (show n < 2 ^ 31 by omega), s_isWithin, s_in, s_isWall5, in_below _ kw (show kw < 2 ^ 31 by omega), bd_of, i01]
  have bdid : ∀ (z : Option (Int32 × (Nat → Int32) × (Nat → Int32) × (Nat → Int32) × Int32 × Int32 × (Nat → Int32) × (Nat → Int32) × (Nat → Int32) × (Nat → Int32))), (bd z fun u6 => some (u6.1, u6.2.1, u6.2.2.1, u6.2.2.2.1, u6.2.2.2.2.1, u6.2.2.2.2.2.1, u6.2.2.2.2.2.2.1, u6.2.2.2.2.2.2.2.1, u6.2.2.2.2.2.2.2.2.1, u6.2.2.2.2.2.2.2.2.2)) = z := by
    intro z; cases z <;> rfl
  simp only [bdid]
  by_cases q0 : a2 = 0
  · subst q0
    simp only [if_true]
    by_cases h1 : a1 < 0 ∨ nI n ≤ a1
    · exact Or.inl ⟨by simp only [if_pos h1], by intros; simp only [if_pos h1]⟩
    by_cases h2 : a3 < 0 ∨ 99 < a3
    · exact Or.inl ⟨by simp only [if_neg h1, if_pos h2], by intros; simp only [if_neg h1, if_pos h2]⟩
    obtain ⟨x, hx, rfl⟩ := nI_lt_of (by omega) h1
    obtain ⟨p, hp, rfl⟩ := nI_in_of (k := 99) (by decide) h2
    exact Or.inr ⟨by simp only [if_neg h1, if_neg h2], 0, x, p, Or.inl ⟨rfl, hx, hp⟩, rfl, rfl, rfl, by intros; simp only [if_neg h1, if_neg h2]⟩
  simp only [if_neg q0]
  by_cases q1 : a2 = 1
  · subst q1
    simp only [if_true]
    by_cases h1 : a1 < 0 ∨ nI n ≤ a1
    · exact Or.inl ⟨by simp only [if_pos h1], by intros; simp only [if_pos h1]⟩
    by_cases h2 : a3 < 0 ∨ 9 < a3
    · exact Or.inl ⟨by simp only [if_neg h1, if_pos h2], by intros; simp only [if_neg h1, if_pos h2]⟩
    obtain ⟨x, hx, rfl⟩ := nI_lt_of (by omega) h1
    obtain ⟨p, hp, rfl⟩ := nI_in_of (k := 9) (by decide) h2
    exact Or.inr ⟨by simp only [if_neg h1, if_neg h2], 1, x, p, Or.inr (Or.inl ⟨rfl, hx, hp⟩), rfl, rfl, rfl, by intros; simp only [if_neg h1, if_neg h2]⟩
  simp only [if_neg q1]
  by_cases q2 : a2 = 2
  · subst q2
    simp only [if_true]
    by_cases h1 : a1 < 0 ∨ nI kw ≤ a1
    · exact Or.inl ⟨by simp only [if_pos h1], by intros; simp only [if_pos h1]⟩
    by_cases h2 : a3 < 0 ∨ 99 < a3
    · exact Or.inl ⟨by simp only [if_neg h1, if_pos h2], by intros; simp only [if_neg h1, if_pos h2]⟩
    obtain ⟨x, hx, rfl⟩ := nI_lt_of (by omega) h1
    obtain ⟨p, hp, rfl⟩ := nI_in_of (k := 99) (by decide) h2
    exact Or.inr ⟨by simp only [if_neg h1, if_neg h2], 2, x, p, Or.inr (Or.inr ⟨rfl, hx, hp⟩), rfl, rfl, rfl, by intros; simp only [if_neg h1, if_neg h2]⟩
  simp only [if_neg q2]
  exact Or.inl ⟨trivial, by intros; trivial⟩
/-- the four rows of changes, one place down -/
def dn (f : Nat → Int32) (m : Nat) : Nat → Int32 := fun i => if i + 1 < m then f (i + 1) else f i
theorem dn_up (f : Nat → Int32) {m : Nat} (hm : 0 < m) : upd (dn f m) (m - 1) (dn f m m) = dn f (m + 1) := by
  funext i
  unfold dn
  by_cases h : i = m - 1
  · subst h
    rw [upd_eq (α := Nat), if_neg (by omega), if_pos (by omega), show m - 1 + 1 = m by omega]
  · rw [upd_ne h]
    by_cases h2 : i + 1 < m
    · rw [if_pos h2, if_pos (by omega)]
    · rw [if_neg h2, if_neg (by omega)]
theorem s_down (x1 x2 x3 x4 : Int32) (P Y K : Nat → Int32) (d u : Int32) (A B C D : Nat → Int32) : ∀ (r k m : Nat), r + m = 40 → 0 < m → k ≥ r + 1 →
    f_X7_changes_b34 x1 x2 x3 x4 P Y K d u k (nI m) (dn A m) (dn B m) (dn C m) (dn D m) = f_X7_changes_b121 x1 x2 x3 x4 P Y K (d - 1) u (dn A 40) (dn B 40) (dn C 40) (dn D 40)
  | 0, k + 1, m, h, hm, hk => by
    have e : m = 40 := by omega
    subst e
    rw [f_X7_changes_b34, if_pos (by decide)]
  | r + 1, k + 1, m, h, hm, hk => by
    rw [f_X7_changes_b34, L_40, if_neg (by rw [le_nI (by decide) (by omega)]; omega)]
    have e1 : nI m - 1 = nI (m - 1) := by rw [L_1, pk_sub (by omega)]
    simp only [e1, ix_nI (show m < 40 by omega) (by decide), ix_nI (show m - 1 < 40 by omega) (by decide), cl_nI (show m < 2 ^ 31 by omega), cl_nI (show m - 1 < 2 ^ 31 by omega), nI_1, dn_up _ hm]
    exact s_down x1 x2 x3 x4 P Y K d u A B C D r k (m + 1) (by omega) (by omega) (by omega)
  | _, 0, _, _, _, hk => by omega
theorem dn_cpy (f : Nat → Int32) (i : Nat) : va_cpy f f 1 0 39 i = dn f 40 i := by
  unfold dn
  by_cases h : i + 1 < 40
  · rw [if_pos h, pk_cpy_in (by omega) (by omega)]
    congr 1
    omega
  · rw [if_neg h, pk_cpy_out (by omega)]
