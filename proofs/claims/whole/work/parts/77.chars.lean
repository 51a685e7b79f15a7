/-! the letters of the tape, on both sides -/
theorem by_tab : ∀ k, k < 256 → ((Int8.ofBitVec (BitVec.ofNat 8 k)).toInt32 = nI k ∧ k < 128) ∨ ((Int8.ofBitVec (BitVec.ofNat 8 k)).toInt32 < 0 ∧ (Int8.ofBitVec (BitVec.ofNat 8 k)).toInt32 &&& 255 = nI k ∧ 128 ≤ k) := by decide +kernel
theorem by_cases8 {x : Int32} (h : x.toInt8.toInt32 = x) : (∃ k, k < 128 ∧ x = nI k) ∨ (x < 0 ∧ ∃ m, 128 ≤ m ∧ m < 256 ∧ x &&& 255 = nI m) := by
  have e : x.toInt8 = Int8.ofBitVec (BitVec.ofNat 8 x.toInt8.toBitVec.toNat) := by
    rw [BitVec.ofNat_toNat, BitVec.setWidth_eq, Int8.ofBitVec_toBitVec]
  have hk : x.toInt8.toBitVec.toNat < 256 := x.toInt8.toBitVec.isLt
  generalize x.toInt8.toBitVec.toNat = k at e hk
  rw [e] at h
  rcases by_tab k hk with ⟨h1, h2⟩ | ⟨h1, h2, h3⟩
  · rw [h] at h1
    exact Or.inl ⟨k, h2, h1⟩
  · rw [h] at h1 h2
    exact Or.inr ⟨h1, k, h3, hk, h2⟩
/-- the letter at a place; 128: none, or none that counts -/
def cc (T : Nat → Int32) (t i : Nat) : Nat := if i < t then (if T i < 0 then 128 else Int32.toNatClampNeg (T i)) else 128
def lkv (T : Nat → Int32) (t i : Nat) : Int32 := if i < t then T i else -1
def nxv (T : Nat → Int32) (t i : Nat) : Int32 := if i < t then T i &&& 255 else -1
def byT (T : Nat → Int32) (t : Nat) : Prop := ∀ i, i < t → (T i).toInt8.toInt32 = T i
theorem cc_cases {T : Nat → Int32} {t : Nat} (hb : byT T t) (a : Nat) : (cc T t a < 128 ∧ a < t ∧ lkv T t a = nI (cc T t a) ∧ nxv T t a = nI (cc T t a)) ∨ (cc T t a = 128 ∧ lkv T t a < 0 ∧ (nxv T t a = -1 ∨ ∃ m, 128 ≤ m ∧ m < 256 ∧ nxv T t a = nI m)) := by
  unfold cc lkv nxv
  by_cases h : a < t
  · rw [if_pos h, if_pos h, if_pos h]
    rcases by_cases8 (hb a h) with ⟨k, hk, e⟩ | ⟨h1, m, m1, m2, m3⟩
    · have e2 : nI k &&& 255 = nI k := by
        rw [L_255, nb_and, show (255 : Nat) = 2 ^ 8 - 1 from rfl, Nat.and_two_pow_sub_one_eq_mod, Nat.mod_eq_of_lt (by omega)]
      rw [e, if_neg (nI_pos (n := k) (by omega)), cl_nI (by omega), e2]
      exact Or.inl ⟨hk, h, rfl, rfl⟩
    · rw [if_pos h1]
      exact Or.inr ⟨rfl, h1, Or.inr ⟨m, m1, m2, m3⟩⟩
  · rw [if_neg h, if_neg h, if_neg h]
    exact Or.inr ⟨rfl, by decide, Or.inl rfl⟩
theorem nx_eq {T : Nat → Int32} {t : Nat} (hb : byT T t) (a k : Nat) (hk : k < 128) : (nxv T t a = nI k) = (cc T t a = k) := by
  rcases cc_cases hb a with ⟨h1, -, -, h2⟩ | ⟨h1, -, h2⟩
  · rw [h2, eq_nI (by omega) (by omega)]
  · rw [h1]
    apply propext
    rcases h2 with h2 | ⟨m, m1, m2, h2⟩
    · rw [h2]
      constructor
      · intro z
        exact absurd (by rw [← z]; decide) (nI_pos (n := k) (by omega))
      · intro z
        omega
    · rw [h2, eq_nI (by omega) (by omega)]
      omega
theorem lk_eq {T : Nat → Int32} {t : Nat} (hb : byT T t) (a k : Nat) (hk : k < 128) : (lkv T t a = nI k) = (cc T t a = k) := by
  rcases cc_cases hb a with ⟨h1, -, h2, -⟩ | ⟨h1, h2, -⟩
  · rw [h2, eq_nI (by omega) (by omega)]
  · rw [h1]
    apply propext
    constructor
    · intro z
      rw [z] at h2
      exact absurd h2 (nI_pos (n := k) (by omega))
    · intro z
      omega
def dgt (c : Nat) : Prop := 48 ≤ c ∧ c ≤ 57
theorem nx_dig {T : Nat → Int32} {t : Nat} (hb : byT T t) (a : Nat) : f_X2_isDigit (nxv T t a) = some (b01 (dgt (cc T t a))) := by
  unfold f_X2_isDigit
  have e48 : (48 : Int32) = nI 48 := rfl
  have e57 : (57 : Int32) = nI 57 := rfl
  have key : ∀ m, m < 256 → (if nI m < 48 then some (0 : Int32) else if 57 < nI m then some 0 else some 1) = some (b01 (dgt m)) := by
    intro m hm
    rw [e48, e57]
    by_cases h1 : m < 48
    · rw [if_pos (by rw [lt_nI (by omega) (by omega)]; exact h1), b01_f (fun z => by have := z.1; omega)]
    · rw [if_neg (by rw [lt_nI (by omega) (by omega)]; exact h1)]
      by_cases h2 : 57 < m
      · rw [if_pos (by rw [lt_nI (by omega) (by omega)]; exact h2), b01_f (fun z => by have := z.2; omega)]
      · rw [if_neg (by rw [lt_nI (by omega) (by omega)]; exact h2), b01_t ⟨by omega, by omega⟩]
  rcases cc_cases hb a with ⟨h1, -, -, h2⟩ | ⟨h1, -, h2⟩
  · rw [h2]
    exact key _ (by omega)
  · rw [h1, b01_f (fun z => by have := z.2; omega)]
    rcases h2 with h2 | ⟨m, m1, m2, h2⟩
    · rw [h2]
      decide
    · rw [h2, key m m2, b01_f (fun z => by have := z.2; omega)]
theorem lk_dig {T : Nat → Int32} {t : Nat} (hb : byT T t) (a : Nat) : f_X7_in (lkv T t a) 48 57 = some (b01 (dgt (cc T t a))) := by
  rw [s_in]
  have e48 : (48 : Int32) = nI 48 := rfl
  have e57 : (57 : Int32) = nI 57 := rfl
  rcases cc_cases hb a with ⟨h1, -, h2, -⟩ | ⟨h1, h2, -⟩
  · rw [h2, e48, e57]
    by_cases h3 : dgt (cc T t a)
    · rw [b01_t h3, if_neg]
      rw [lt_nI (by omega) (by omega), lt_nI (by omega) (by omega)]
      have := h3.1
      have := h3.2
      omega
    · rw [b01_f h3, if_pos]
      rw [lt_nI (by omega) (by omega), lt_nI (by omega) (by omega)]
      refine Classical.byContradiction fun z => h3 ⟨by omega, by omega⟩
  · rw [h1, b01_f (fun z => by have := z.2; omega), if_pos (Or.inl (Int32.lt_trans h2 (by decide)))]
theorem s_next {T Tc : Nat → Int32} {t a : Nat} (ht : t ≤ 120) (ha : a ≤ t) (hA : ∀ i, i < t → Tc i = T i) : f_X2_next_r13 Tc (nI t) (nI a) (-1) = some (nxv T t a) := by
  unfold f_X2_next_r13 nxv
  rw [if_neg (by decide)]
  by_cases h : a < t
  · rw [if_neg (by rw [le_nI (by omega) (by omega)]; omega), if_neg (by rw [L_120, le_nI (by omega) (by omega)]; omega), ix_nI (show a < 120 by omega) (by decide), cl_nI (by omega), hA a h, if_pos h]
  · rw [if_pos (by rw [le_nI (by omega) (by omega)]; omega), if_neg h]
theorem s_look {T : Nat → Int32} {t a : Nat} (ht : t ≤ 120) (ha : a ≤ t) : f_X7_look T (nI t) (nI a) = some (lkv T t a) := by
  unfold f_X7_look lkv
  by_cases h : a < t
  · rw [if_neg (by rw [le_nI (by omega) (by omega)]; omega), ix_nI (show a < 120 by omega) (by decide), cl_nI (by omega), if_pos h]
  · rw [if_pos (by rw [le_nI (by omega) (by omega)]; omega), if_neg h]
/-- the rank of a sign -/
def rkc (c : Nat) : Int32 := if c = 37 then 4 else if c = 38 then 1 else if c = 42 then 4 else if c = 43 then 3 else if c = 45 then 3 else if c = 47 then 4 else if c = 60 then 2 else if c = 61 then 2 else if c = 62 then 2 else if c = 124 then 0 else -1
theorem nx_rank {T : Nat → Int32} {t : Nat} (hb : byT T t) (a : Nat) : f_X2_rankOf (nxv T t a) = some (rkc (cc T t a)) := by
  have k := nx_eq hb a
  have h37 : (nxv T t a = 37) = (cc T t a = 37) := k 37 (by decide)
  have h38 : (nxv T t a = 38) = (cc T t a = 38) := k 38 (by decide)
  have h42 : (nxv T t a = 42) = (cc T t a = 42) := k 42 (by decide)
  have h43 : (nxv T t a = 43) = (cc T t a = 43) := k 43 (by decide)
  have h45 : (nxv T t a = 45) = (cc T t a = 45) := k 45 (by decide)
  have h47 : (nxv T t a = 47) = (cc T t a = 47) := k 47 (by decide)
  have h60 : (nxv T t a = 60) = (cc T t a = 60) := k 60 (by decide)
  have h61 : (nxv T t a = 61) = (cc T t a = 61) := k 61 (by decide)
  have h62 : (nxv T t a = 62) = (cc T t a = 62) := k 62 (by decide)
  have h124 : (nxv T t a = 124) = (cc T t a = 124) := k 124 (by decide)
  unfold f_X2_rankOf rkc
  simp only [h37, h38, h42, h43, h45, h47, h60, h61, h62, h124]
  repeat' split
  all_goals rfl
/-- the number of a name -/
def nmc (c : Nat) : Int32 := if c = 100 then 0 else if c = 106 then 3 else if c = 111 then 4 else if c = 112 then 1 else if c = 121 then 2 else -1
theorem lk_name {T : Nat → Int32} {t : Nat} (hb : byT T t) (a : Nat) : f_X7_nameOf (lkv T t a) = some (nmc (cc T t a)) := by
  have k := lk_eq hb a
  have h1 : (lkv T t a = 100) = (cc T t a = 100) := k 100 (by decide)
  have h2 : (lkv T t a = 106) = (cc T t a = 106) := k 106 (by decide)
  have h3 : (lkv T t a = 111) = (cc T t a = 111) := k 111 (by decide)
  have h4 : (lkv T t a = 112) = (cc T t a = 112) := k 112 (by decide)
  have h5 : (lkv T t a = 121) = (cc T t a = 121) := k 121 (by decide)
  unfold f_X7_nameOf nmc
  simp only [h1, h2, h3, h4, h5]
  repeat' split
  all_goals rfl
