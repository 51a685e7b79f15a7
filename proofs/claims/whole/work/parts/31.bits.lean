/-! bits of numbers -/
theorem nb_and (a b : Nat) : nI a &&& nI b = nI (a &&& b) := by
  apply Int32.toBitVec_inj.1
  show BitVec.ofNat 32 a &&& BitVec.ofNat 32 b = BitVec.ofNat 32 (a &&& b)
  apply BitVec.eq_of_getLsbD_eq
  intro i hi
  simp [hi]
theorem nb_or (a b : Nat) : nI a ||| nI b = nI (a ||| b) := by
  apply Int32.toBitVec_inj.1
  show BitVec.ofNat 32 a ||| BitVec.ofNat 32 b = BitVec.ofNat 32 (a ||| b)
  apply BitVec.eq_of_getLsbD_eq
  intro i hi
  simp [hi]
theorem nb_xor (a b : Nat) : nI a ^^^ nI b = nI (a ^^^ b) := by
  apply Int32.toBitVec_inj.1
  show BitVec.ofNat 32 a ^^^ BitVec.ofNat 32 b = BitVec.ofNat 32 (a ^^^ b)
  apply BitVec.eq_of_getLsbD_eq
  intro i hi
  simp [hi]
theorem nb_not (a b : Nat) : nI a &&& (nI b ^^^ (-1)) = nI (a ^^^ (a &&& b)) := by
  apply Int32.toBitVec_inj.1
  show BitVec.ofNat 32 a &&& (BitVec.ofNat 32 b ^^^ (-1 : Int32).toBitVec) = BitVec.ofNat 32 (a ^^^ (a &&& b))
  have ha : (-1 : Int32).toBitVec = BitVec.allOnes 32 := by decide
  rw [ha]
  apply BitVec.eq_of_getLsbD_eq
  intro i hi
  simp only [BitVec.getLsbD_and, BitVec.getLsbD_xor, BitVec.getLsbD_allOnes, BitVec.getLsbD_ofNat, Nat.testBit_xor, Nat.testBit_and, hi, decide_true, Bool.true_and]
  cases a.testBit i <;> cases b.testBit i <;> rfl
theorem nb_shl : ∀ d, d < 31 → (1 : Int32) <<< (nI d &&& 31) = nI (2 ^ d) := by decide +kernel
theorem nb_shl2 : ∀ d, d < 30 → (2 : Int32) <<< (nI d &&& 31) = nI (2 ^ (d + 1)) := by decide +kernel
theorem nb_sm : ∀ n, n < 32 → ((nI n &&& 31).toBitVec.smod 32).toNat = n := by decide +kernel
theorem nb_shr {w d : Nat} (hw : w < 2 ^ 31) (hd : d < 32) : nI w >>> (nI d &&& 31) = nI (w / 2 ^ d) := by
  apply Int32.toBitVec_inj.1
  rw [Int32.toBitVec_shiftRight]
  show (BitVec.ofNat 32 w).sshiftRight ((nI d &&& 31).toBitVec.smod 32).toNat = BitVec.ofNat 32 (w / 2 ^ d)
  rw [nb_sm d hd, BitVec.sshiftRight_eq_of_msb_false (by rw [BitVec.msb_eq_decide, BitVec.toNat_ofNat, Nat.mod_eq_of_lt (by omega)]; simp; omega)]
  apply BitVec.eq_of_toNat_eq
  have h : w / 2 ^ d ≤ w := Nat.div_le_self _ _
  rw [BitVec.toNat_ushiftRight, BitVec.toNat_ofNat, BitVec.toNat_ofNat, Nat.mod_eq_of_lt (by omega), Nat.mod_eq_of_lt (by omega), Nat.shiftRight_eq_div_pow]
theorem nb_bit {w d : Nat} (hw : w < 2 ^ 31) (hd : d < 32) : (nI w >>> (nI d &&& 31)) &&& 1 = nI (w.testBit d).toNat := by
  rw [nb_shr hw hd, L_1, nb_and, Nat.and_one_is_mod, Nat.toNat_testBit]
theorem tb0 {w d : Nat} (hw : w < 2 ^ 31) (hd : d < 32) : ((nI w >>> (nI d &&& 31)) &&& 1 = 0) = (w.testBit d = false) := by
  rw [nb_bit hw hd]
  cases w.testBit d <;> simp <;> decide
theorem tb1 {w d : Nat} (hw : w < 2 ^ 31) (hd : d < 32) : ((nI w >>> (nI d &&& 31)) &&& 1 = 1) = (w.testBit d = true) := by
  rw [nb_bit hw hd]
  cases w.testBit d <;> simp <;> decide
theorem nI_any (x : Int32) : ∃ w, w < 2 ^ 32 ∧ x = nI w := ⟨x.toBitVec.toNat, x.toBitVec.isLt, Int32.toBitVec_inj.mp (by show _ = BitVec.ofNat 32 _; simp)⟩
theorem nI_z {w : Nat} (hw : w < 2 ^ 32) : (nI w = 0) = (w = 0) := by
  apply propext
  constructor
  · intro h
    have h2 := congrArg (fun z => z.toBitVec.toNat) h
    have h3 : (BitVec.ofNat 32 w).toNat = 0 := h2
    rwa [BitVec.toNat_ofNat, Nat.mod_eq_of_lt hw] at h3
  · rintro rfl
    rfl
theorem nb_all {n : Nat} (hn : n ≤ 14) : (1 : Int32) <<< (nI n &&& 31) - 1 = nI (2 ^ n - 1) := by
  have h : 0 < 2 ^ n := Nat.two_pow_pos n
  rw [nb_shl n (by omega), show nI (2 ^ n) = nI ((2 ^ n - 1) + 1) by congr 1; omega, nI_m1]
theorem p14 {n : Nat} (hn : n ≤ 14) : 2 ^ n ≤ 16384 := Nat.pow_le_pow_right (n := 2) (by decide) hn
theorem s_everyDoor {n : Nat} (hn : n ≤ 14) : f_X5_everyDoor (nI n) = some (nI (2 ^ n - 1)) := by
  unfold f_X5_everyDoor
  rw [nb_all hn]
theorem s_allDoors {n : Nat} (hn : n ≤ 14) : f_X7_allDoors (nI n) = some (nI (2 ^ n - 1)) := by
  unfold f_X7_allDoors
  rw [nb_all hn]
theorem xor_and_z {w m : Nat} : w ^^^ (w &&& m) = 0 ↔ w &&& m = w := by
  constructor
  · intro h
    apply Nat.eq_of_testBit_eq
    intro i
    have h2 := congrArg (fun z => z.testBit i) h
    simp only [Nat.testBit_xor, Nat.testBit_and, Nat.zero_testBit] at h2
    rw [Nat.testBit_and]
    revert h2
    cases w.testBit i <;> cases m.testBit i <;> simp
  · intro h
    rw [h, Nat.xor_self]
theorem s_areDoors (x : Int32) (n : Nat) (hn : n ≤ 14) : (f_X5_areDoors x (nI n) = some 1 ∧ f_X7_isLaying x (nI n) = some 1 ∧ ∃ w, w < 2 ^ n ∧ x = nI w) ∨ (f_X5_areDoors x (nI n) = some 0 ∧ f_X7_isLaying x (nI n) = some 0) := by
  obtain ⟨w, hw, rfl⟩ := nI_any x
  have hp := p14 hn
  have hz : w ^^^ (w &&& (2 ^ n - 1)) < 2 ^ 32 := Nat.xor_lt_two_pow hw (Nat.lt_of_le_of_lt Nat.and_le_left hw)
  unfold f_X5_areDoors f_X7_isLaying
  have ez : (nI (w ^^^ (w &&& (2 ^ n - 1))) = 0) = (w % 2 ^ n = w) := by
    rw [nI_z hz, xor_and_z, Nat.and_two_pow_sub_one_eq_mod]
  simp only [s_everyDoor hn, bd_of, nb_not, ez]
  by_cases h : w < 2 ^ n
  · refine Or.inl ⟨by rw [if_pos (Nat.mod_eq_of_lt h)], ?_, w, h, rfl⟩
    have h1 := lt0_nI (a := w) (by omega)
    simp only [h1, if_false, nb_shr (show w < 2 ^ 31 by omega) (show n < 32 by omega), Nat.div_eq_of_lt h]
    rfl
  · have h2 : ¬ w % 2 ^ n = w := fun q => h (q ▸ Nat.mod_lt _ (Nat.two_pow_pos n))
    refine Or.inr ⟨by rw [if_neg h2], ?_⟩
    by_cases h3 : nI w < 0
    · rw [if_pos h3]
    · rw [if_neg h3]
      have h4 : w < 2 ^ 31 := by
        obtain ⟨j, hj, e⟩ := nI_of h3
        have e2 : (BitVec.ofNat 32 w).toNat = (BitVec.ofNat 32 j).toNat := congrArg (fun z => z.toBitVec.toNat) e
        rw [BitVec.toNat_ofNat, BitVec.toNat_ofNat, Nat.mod_eq_of_lt hw, Nat.mod_eq_of_lt (by omega)] at e2
        omega
      have h5 : 0 < w / 2 ^ n := Nat.div_pos (by omega) (Nat.two_pow_pos n)
      have h6 : w / 2 ^ n ≤ w := Nat.div_le_self _ _
      rw [nb_shr h4 (by omega), if_neg]
      rw [nI_z (by omega)]
      omega
