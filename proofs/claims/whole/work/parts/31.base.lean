/-! numbers for the pure side -/
theorem L_0 : (0 : Int32) = nI 0 := rfl
theorem L_1 : (1 : Int32) = nI 1 := rfl
theorem L_2 : (2 : Int32) = nI 2 := rfl
theorem L_3 : (3 : Int32) = nI 3 := rfl
theorem L_4 : (4 : Int32) = nI 4 := rfl
theorem L_5 : (5 : Int32) = nI 5 := rfl
theorem L_7 : (7 : Int32) = nI 7 := rfl
theorem L_8 : (8 : Int32) = nI 8 := rfl
theorem L_9 : (9 : Int32) = nI 9 := rfl
theorem L_10 : (10 : Int32) = nI 10 := rfl
theorem L_13 : (13 : Int32) = nI 13 := rfl
theorem L_14 : (14 : Int32) = nI 14 := rfl
theorem L_20 : (20 : Int32) = nI 20 := rfl
theorem L_30 : (30 : Int32) = nI 30 := rfl
theorem L_40 : (40 : Int32) = nI 40 := rfl
theorem L_50 : (50 : Int32) = nI 50 := rfl
theorem L_60 : (60 : Int32) = nI 60 := rfl
theorem L_99 : (99 : Int32) = nI 99 := rfl
theorem L_100 : (100 : Int32) = nI 100 := rfl
theorem L_120 : (120 : Int32) = nI 120 := rfl
theorem L_255 : (255 : Int32) = nI 255 := rfl
theorem ix_nI {α : Type} {i N : Nat} {k : Option α} (h : i < N) (hN : N < 2 ^ 31) : ix (nI i) N k = k := ix_in (vp_in_nI h hN)
theorem cl_nI {i : Nat} (h : i < 2 ^ 31) : Int32.toNatClampNeg (nI i) = i := nI_clamp h
theorem eq_nI {a b : Nat} (ha : a < 2 ^ 31) (hb : b < 2 ^ 31) : (nI a = nI b) = (a = b) := propext (nI_eq ha hb)
theorem le_nI {a b : Nat} (ha : a < 2 ^ 31) (hb : b < 2 ^ 31) : (nI a ≤ nI b) = (a ≤ b) := propext (nI_leI ha hb)
theorem lt_nI {a b : Nat} (ha : a < 2 ^ 31) (hb : b < 2 ^ 31) : (nI a < nI b) = (a < b) := propext (nI_ltI ha hb)
theorem lt0_nI {a : Nat} (ha : a < 2 ^ 31) : (nI a < 0) = False := by
  rw [L_0, lt_nI ha (by decide)]
  simp
/-- an int within two bounds is a number -/
theorem nI_in_of {x : Int32} {k : Nat} (hk : k < 2 ^ 31) (h : ¬ (x < 0 ∨ nI k < x)) : ∃ p : Nat, p ≤ k ∧ x = nI p := by
  have h1 : ¬ x < 0 := fun q => h (Or.inl q)
  have h2 : x ≤ nI k := Int32.not_lt.mp (fun q => h (Or.inr q))
  exact nI_of2 (nI_toInt hk) h1 h2
/-- an int below a number, not below 0, is a smaller number -/
theorem nI_lt_of {x : Int32} {k : Nat} (hk : k < 2 ^ 31) (h : ¬ (x < 0 ∨ nI k ≤ x)) : ∃ p : Nat, p < k ∧ x = nI p := by
  have h1 : ¬ x < 0 := fun q => h (Or.inl q)
  have h2 : ¬ nI k ≤ x := fun q => h (Or.inr q)
  obtain ⟨j, hj, rfl⟩ := nI_of h1
  rw [nI_leI hk hj] at h2
  exact ⟨j, by omega, rfl⟩
theorem nI_m1 {n : Nat} : nI (n + 1) - 1 = nI n := nI_pred n
theorem upd_eq {α : Type} {f : Nat → Int32} {k : Nat} {x : Int32} : upd f k x k = x := pk_us
theorem upd_ne {f : Nat → Int32} {k j : Nat} {x : Int32} (h : j ≠ k) : upd f k x j = f j := pk_un h
theorem pu_mk {A B : Type} {x : Option A} {y : Option B} {P : A → B → Prop} (a : A) (b : B) (hx : x = some a) (hy : y = some b) (h : P a b) : ∃ rc rm, x = some rc ∧ y = some rm ∧ P rc rm := ⟨a, b, hx, hy, h⟩
/-! the small tests of both sides -/
theorem s_isWithin (x m : Int32) : f_X6_isWithin x m = some (if x < 0 ∨ m < x then 0 else 1) := by
  unfold f_X6_isWithin
  by_cases h1 : x < 0 <;> by_cases h2 : m < x <;> simp [h1, h2]
theorem s_in (x lo hi : Int32) : f_X7_in x lo hi = some (if x < lo ∨ hi < x then 0 else 1) := by
  unfold f_X7_in
  by_cases h1 : x < lo <;> by_cases h2 : hi < x <;> simp [h1, h2]
theorem s_isShelf6 (x : Int32) : f_X6_isShelf x = some (if x < 0 ∨ nI 6 ≤ x then 0 else 1) := by
  unfold f_X6_isShelf
  have e : (6 : Int32) = nI 6 := rfl
  rw [e]
  by_cases h1 : x < 0 <;> by_cases h2 : nI 6 ≤ x <;> simp [h1, h2]
theorem s_isKind (x : Int32) : f_X6_isKind x = some (if x < 0 ∨ nI 8 ≤ x then 0 else 1) := by
  unfold f_X6_isKind
  have e : (8 : Int32) = nI 8 := rfl
  rw [e]
  by_cases h1 : x < 0 <;> by_cases h2 : nI 8 ≤ x <;> simp [h1, h2]
theorem le_lt_nI (x : Int32) (k : Nat) (hk : k + 1 < 2 ^ 31) : (nI (k + 1) ≤ x) = (nI k < x) := by
  have h1 := nI_toInt (n := k) (by omega)
  have h2 := nI_toInt (n := k + 1) hk
  rw [Int32.le_iff_toInt_le, Int32.lt_iff_toInt_lt, h1, h2]
  apply propext
  constructor <;> intro h <;> push_cast at * <;> omega
theorem bz_if {c : Prop} [Decidable c] {α : Type} {k : Option α} : bz (if c then 0 else 1) k = k := by
  by_cases h : c
  · rw [if_pos h]; exact bz_in (Or.inl rfl)
  · rw [if_neg h]; exact bz_in (Or.inr rfl)
theorem s_isShelf7 (x : Int32) : f_X7_isShelf x = some (if x < 0 ∨ nI 6 ≤ x then 0 else 1) := by
  unfold f_X7_isShelf
  rw [s_in]
  simp only [bd_of, bz_if]
  have e := le_lt_nI x 5 (by decide)
  have e5 : (5 : Int32) = nI 5 := rfl
  simp only [e, e5]
theorem s_isDoor5 (x : Int32) (n : Nat) : f_X5_isDoor x (nI n) = some (if x < 0 ∨ nI n ≤ x then 0 else 1) := by
  unfold f_X5_isDoor
  by_cases h1 : x < 0 <;> by_cases h2 : nI n ≤ x <;> simp [h1, h2]
theorem s_isWall5 (x : Int32) (n : Nat) : f_X5_isWall x (nI n) = some (if x < 0 ∨ nI n ≤ x then 0 else 1) := by
  unfold f_X5_isWall
  by_cases h1 : x < 0 <;> by_cases h2 : nI n ≤ x <;> simp [h1, h2]
theorem in_below (x : Int32) (n : Nat) (hn : n < 2 ^ 31) : (x < 0 ∨ nI n - 1 < x) = (x < 0 ∨ nI n ≤ x) := by
  cases n with
  | zero =>
    have h1 : (nI 0 - 1).toInt = -1 := by decide
    have h2 : (nI 0).toInt = 0 := by decide
    have h3 : (0 : Int32).toInt = 0 := by decide
    apply propext
    rw [Int32.lt_iff_toInt_lt, Int32.lt_iff_toInt_lt, Int32.le_iff_toInt_le, h1, h2, h3]
    omega
  | succ k => rw [nI_m1, le_lt_nI x k hn]
theorem s_isDoor7 (x : Int32) (n : Nat) (hn : n < 2 ^ 31) : f_X7_isDoor x (nI n) = some (if x < 0 ∨ nI n ≤ x then 0 else 1) := by
  unfold f_X7_isDoor
  rw [s_in]
  simp only [bd_of, bz_if, in_below x n hn]
/-- two unlike doors -/
def two_ (n : Nat) (x y : Int32) : Prop := ∃ a b : Nat, a < n ∧ b < n ∧ a ≠ b ∧ x = nI a ∧ y = nI b
theorem s_areUnlike (x y : Int32) (n : Nat) (hn : n < 2 ^ 31) : (f_X5_areUnlike x y (nI n) = some 1 ∧ two_ n x y) ∨ (f_X5_areUnlike x y (nI n) = some 0 ∧ ¬ two_ n x y) := by
  unfold f_X5_areUnlike
  rw [s_isDoor5, s_isDoor5]
  by_cases h1 : x < 0 ∨ nI n ≤ x
  · refine Or.inr ⟨by simp [bd_of, h1], ?_⟩
    rintro ⟨a, b, ha, hb, hab, rfl, rfl⟩
    rw [lt0_nI (by omega), le_nI hn (by omega)] at h1
    simp at h1
    omega
  · obtain ⟨a, ha, rfl⟩ := nI_lt_of hn h1
    by_cases h2 : y < 0 ∨ nI n ≤ y
    · refine Or.inr ⟨by simp [bd_of, h1, h2], ?_⟩
      rintro ⟨a, b, ha, hb, hab, -, rfl⟩
      rw [lt0_nI (by omega), le_nI hn (by omega)] at h2
      simp at h2
      omega
    · obtain ⟨b, hb, rfl⟩ := nI_lt_of hn h2
      by_cases h3 : nI a = nI b
      · refine Or.inr ⟨by simp [bd_of, h1, h2, h3], ?_⟩
        rintro ⟨a', b', ha', hb', hab, e1, e2⟩
        rw [e1, e2, eq_nI (by omega) (by omega)] at h3
        exact hab h3
      · refine Or.inl ⟨by simp [bd_of, h1, h2, h3], a, b, ha, hb, ?_, rfl, rfl⟩
        intro q
        exact h3 (by rw [q])
