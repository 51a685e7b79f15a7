/-! counting bits: the tables -/
def pcn : Nat → Nat → Nat
  | 0, _ => 0
  | k + 1, w => w % 2 + pcn k (w / 2)
def pc (w : Nat) : Nat := pcn 14 w
theorem pcn_le : ∀ k w, pcn k w ≤ k
  | 0, _ => Nat.le_refl _
  | k + 1, w => by
    have := pcn_le k (w / 2)
    unfold pcn
    omega
theorem pc_tab6_0 : ∀ a, a < 16 → ∀ b, b < 128 → f_J6_bitCount_0f7a4 (nI (128 * (a + 0) + b)) = some (nI (pc (128 * (a + 0) + b))) := by decide +kernel
theorem pc_tab6_1 : ∀ a, a < 16 → ∀ b, b < 128 → f_J6_bitCount_0f7a4 (nI (128 * (a + 16) + b)) = some (nI (pc (128 * (a + 16) + b))) := by decide +kernel
theorem pc_tab6_2 : ∀ a, a < 16 → ∀ b, b < 128 → f_J6_bitCount_0f7a4 (nI (128 * (a + 32) + b)) = some (nI (pc (128 * (a + 32) + b))) := by decide +kernel
theorem pc_tab6_3 : ∀ a, a < 16 → ∀ b, b < 128 → f_J6_bitCount_0f7a4 (nI (128 * (a + 48) + b)) = some (nI (pc (128 * (a + 48) + b))) := by decide +kernel
theorem pc_tab6_4 : ∀ a, a < 16 → ∀ b, b < 128 → f_J6_bitCount_0f7a4 (nI (128 * (a + 64) + b)) = some (nI (pc (128 * (a + 64) + b))) := by decide +kernel
theorem pc_tab6_5 : ∀ a, a < 16 → ∀ b, b < 128 → f_J6_bitCount_0f7a4 (nI (128 * (a + 80) + b)) = some (nI (pc (128 * (a + 80) + b))) := by decide +kernel
theorem pc_tab6_6 : ∀ a, a < 16 → ∀ b, b < 128 → f_J6_bitCount_0f7a4 (nI (128 * (a + 96) + b)) = some (nI (pc (128 * (a + 96) + b))) := by decide +kernel
theorem pc_tab6_7 : ∀ a, a < 16 → ∀ b, b < 128 → f_J6_bitCount_0f7a4 (nI (128 * (a + 112) + b)) = some (nI (pc (128 * (a + 112) + b))) := by decide +kernel
theorem pc_tab6 (a : Nat) (ha : a < 128) (b : Nat) (hb : b < 128) : f_J6_bitCount_0f7a4 (nI (128 * a + b)) = some (nI (pc (128 * a + b))) := by
  by_cases h0 : a < 16
  · have := pc_tab6_0 (a - 0) (by omega) b hb
    rwa [show a - 0 + 0 = a by omega] at this
  by_cases h1 : a < 32
  · have := pc_tab6_1 (a - 16) (by omega) b hb
    rwa [show a - 16 + 16 = a by omega] at this
  by_cases h2 : a < 48
  · have := pc_tab6_2 (a - 32) (by omega) b hb
    rwa [show a - 32 + 32 = a by omega] at this
  by_cases h3 : a < 64
  · have := pc_tab6_3 (a - 48) (by omega) b hb
    rwa [show a - 48 + 48 = a by omega] at this
  by_cases h4 : a < 80
  · have := pc_tab6_4 (a - 64) (by omega) b hb
    rwa [show a - 64 + 64 = a by omega] at this
  by_cases h5 : a < 96
  · have := pc_tab6_5 (a - 80) (by omega) b hb
    rwa [show a - 80 + 80 = a by omega] at this
  by_cases h6 : a < 112
  · have := pc_tab6_6 (a - 96) (by omega) b hb
    rwa [show a - 96 + 96 = a by omega] at this
  · have := pc_tab6_7 (a - 112) (by omega) b hb
    rwa [show a - 112 + 112 = a by omega] at this
