/-! the class's measure and gather -/
def SVd (s : Nat) (R : Nat → Nat → Prop) (rch : Nat → Nat) (w d : Nat) : Prop := s.testBit w = true ∧ s.testBit d = true ∧ dd R d w ≤ rch d
def CWd (s : Nat) (R : Nat → Nat → Prop) (v w d : Nat) : Prop := s.testBit w = true ∧ d ≠ w ∧ dd R d w < v
def isRch (s : Nat) (rch : Nat → Nat) (P : Nat → Int32) (m : Nat) : Prop := ∀ d, d < m → (s.testBit d = true → P d = nI (rch d)) ∧ (¬ s.testBit d = true → P d = -1)
theorem m1_lt {k : Nat} (hk : k < 2 ^ 31) : (-1 : Int32) < nI k := by
  rw [Int32.lt_iff_toInt_lt, nI_toInt hk]
  have : (-1 : Int32).toInt = -1 := by decide
  omega
theorem ms_loop {n s w v : Nat} {R : Nat → Nat → Prop} {rch : Nat → Nat} {W : Nat → Nat → Int32} {P : Nat → Int32} (hs : s < 2 ^ 14) (hw : w < 14) (hv : v ≤ 9) (hn : n ≤ 14) (hR : ∀ a b, R a b → a < n ∧ b < n) (hW : ∀ a b, a < 14 → b < 14 → W a b = nI (dd R a b)) (hP : isRch s rch P 14) (hrc : ∀ d, rch d ≤ 20) (hsw : s.testBit w = true) :
    ∀ (r f x3 : Nat) (sv cw : Nat → Int32) (Q Q2 : Nat → Prop), r + x3 = 14 → f ≥ r + 1 → isBt (sv w) Q → isBt (cw w) Q2 →
    ∃ sv' cw', f_X3_measure_b16 (nI w) (nI v) W P (nI s) f (nI x3) sv cw = some (sv', cw') ∧ isBt (sv' w) (fun d => Q d ∨ (x3 ≤ d ∧ s.testBit d = true ∧ dd R d w ≤ rch d)) ∧ isBt (cw' w) (fun d => Q2 d ∨ (x3 ≤ d ∧ d ≠ w ∧ dd R d w < v)) ∧ (∀ c, c ≠ w → sv' c = sv c ∧ cw' c = cw c)
  | 0, f + 1, x3, sv, cw, Q, Q2, h, hf, i1, i2 => by
    have e : x3 = 14 := by omega
    subst e
    refine ⟨sv, cw, ?_, isB_c i1 fun d hd => ⟨Or.inl, ?_⟩, isB_c i2 fun d hd => ⟨Or.inl, ?_⟩, fun _ _ => ⟨rfl, rfl⟩⟩
    · rw [f_X3_measure_b16, if_pos (by decide)]
    · rintro (z | ⟨z, -⟩)
      · exact z
      · omega
    · rintro (z | ⟨z, -⟩)
      · exact z
      · omega
  | r + 1, f + 1, x3, sv, cw, Q, Q2, h, hf, i1, i2 => by
    have h3 : x3 < 14 := by omega
    have z1 : ¬ (1 : Int32) = 0 := by decide
    have hd99 := dd_le hn hR x3 w
    have hrx := hrc x3
    have hcond : (P x3 < W x3 w) = ¬ (s.testBit x3 = true ∧ dd R x3 w ≤ rch x3) := by
      rw [hW x3 w h3 hw]
      by_cases q : s.testBit x3 = true
      · rw [(hP x3 h3).1 q, lt_nI (by omega) (by omega)]
        apply propext
        constructor
        · intro z y
          omega
        · intro z
          exact Nat.lt_of_not_le fun y => z ⟨q, y⟩
      · rw [(hP x3 h3).2 q]
        apply propext
        exact ⟨fun _ y => q y.1, fun _ => m1_lt (by omega)⟩
    have A1 : ∃ sv1, isBt (sv1 w) (fun d => Q d ∨ (d = x3 ∧ s.testBit d = true ∧ dd R d w ≤ rch d)) ∧ (∀ c, c ≠ w → sv1 c = sv c) ∧
        f_X3_measure_b16 (nI w) (nI v) W P (nI s) (f + 1) (nI x3) sv cw = f_X3_measure_b59 (f_X3_measure_b16 (nI w) (nI v) W P (nI s) f) (nI w) (nI v) (nI x3) W P sv1 cw (nI s) := by
      rw [f_X3_measure_b16, if_neg (by rw [L_14, le_nI (by decide) (by omega)]; omega), s_isThere (isB_n hs) hw, bd_of, b01_t hsw, if_neg z1, ix_nI h3 (by decide), ix_nI hw (by decide), ix_nI h3 (by decide), cl_nI (by omega), cl_nI (by omega)]
      by_cases q : s.testBit x3 = true ∧ dd R x3 w ≤ rch x3
      · refine ⟨upd sv w (sv w ||| ((1 : Int32) <<< (nI x3 &&& 31))), ?_, fun c hc => upd_ne hc, ?_⟩
        · rw [upd_eq (α := Nat)]
          refine isB_c (isB_add i1 h3) fun d hd => ⟨?_, ?_⟩
          · rintro (z | rfl)
            · exact Or.inl z
            · exact Or.inr ⟨rfl, q⟩
          · rintro (z | ⟨z, -⟩)
            · exact Or.inl z
            · exact Or.inr z
        · rw [if_neg (by rw [hcond]; exact fun z => z q), ix_nI hw (by decide), ix_nI hw (by decide)]
      · refine ⟨sv, isB_c i1 fun d hd => ⟨Or.inl, ?_⟩, fun _ _ => rfl, by rw [if_pos (by rw [hcond]; exact q)]⟩
        rintro (z | ⟨rfl, z⟩)
        · exact z
        · exact absurd z q
    obtain ⟨sv1, j1, j2, j3⟩ := A1
    have A2 : ∃ cw1, isBt (cw1 w) (fun d => Q2 d ∨ (d = x3 ∧ d ≠ w ∧ dd R d w < v)) ∧ (∀ c, c ≠ w → cw1 c = cw c) ∧
        f_X3_measure_b59 (f_X3_measure_b16 (nI w) (nI v) W P (nI s) f) (nI w) (nI v) (nI x3) W P sv1 cw (nI s) = f_X3_measure_b16 (nI w) (nI v) W P (nI s) f (nI (x3 + 1)) sv1 cw1 := by
      unfold f_X3_measure_b59 f_X3_measure_b88
      rw [ite_eqc (eq_nI (by omega) (by omega)), nI_1]
      by_cases e : x3 = w
      · refine ⟨cw, isB_c i2 fun d hd => ⟨Or.inl, ?_⟩, fun _ _ => rfl, by rw [if_pos e]⟩
        rintro (z | ⟨rfl, z, -⟩)
        · exact z
        · exact absurd e z
      · rw [if_neg e, ix_nI h3 (by decide), ix_nI hw (by decide), cl_nI (by omega), cl_nI (by omega), hW x3 w h3 hw, ite_eqc (le_nI (by omega) (by omega)), ix_nI hw (by decide), ix_nI hw (by decide)]
        by_cases q : v ≤ dd R x3 w
        · refine ⟨cw, isB_c i2 fun d hd => ⟨Or.inl, ?_⟩, fun _ _ => rfl, by rw [if_pos q]⟩
          rintro (z | ⟨rfl, -, z⟩)
          · exact z
          · omega
        · refine ⟨upd cw w (cw w ||| ((1 : Int32) <<< (nI x3 &&& 31))), ?_, fun c hc => upd_ne hc, by rw [if_neg q]⟩
          rw [upd_eq (α := Nat)]
          refine isB_c (isB_add i2 h3) fun d hd => ⟨?_, ?_⟩
          · rintro (z | rfl)
            · exact Or.inl z
            · exact Or.inr ⟨rfl, e, by omega⟩
          · rintro (z | ⟨z, -⟩)
            · exact Or.inl z
            · exact Or.inr z
    obtain ⟨cw1, j4, j5, j6⟩ := A2
    obtain ⟨sv', cw', t1, t2, t3, t4⟩ := ms_loop hs hw hv hn hR hW hP hrc hsw r f (x3 + 1) sv1 cw1 _ _ (by omega) (by omega) j1 j4
    refine ⟨sv', cw', j3.trans (j6.trans t1), isB_c t2 fun d hd => ⟨?_, ?_⟩, isB_c t3 fun d hd => ⟨?_, ?_⟩, fun c hc => ⟨(t4 c hc).1.trans (j2 c hc), (t4 c hc).2.trans (j5 c hc)⟩⟩
    · rintro ((z | ⟨rfl, z⟩) | ⟨z, y⟩)
      · exact Or.inl z
      · exact Or.inr ⟨Nat.le_refl _, z⟩
      · exact Or.inr ⟨by omega, y⟩
    · rintro (z | ⟨z, y⟩)
      · exact Or.inl (Or.inl z)
      · by_cases e : d = x3
        · exact Or.inl (Or.inr ⟨e, y⟩)
        · exact Or.inr ⟨by omega, y⟩
    · rintro ((z | ⟨rfl, z⟩) | ⟨z, y⟩)
      · exact Or.inl z
      · exact Or.inr ⟨Nat.le_refl _, z⟩
      · exact Or.inr ⟨by omega, y⟩
    · rintro (z | ⟨z, y⟩)
      · exact Or.inl (Or.inl z)
      · by_cases e : d = x3
        · exact Or.inl (Or.inr ⟨e, y⟩)
        · exact Or.inr ⟨by omega, y⟩
  | _, 0, _, _, _, _, _, _, hf, _, _ => by omega
theorem s_measure {n s w v : Nat} {R : Nat → Nat → Prop} {rch : Nat → Nat} {W : Nat → Nat → Int32} {P : Nat → Int32} (hs : s < 2 ^ 14) (hw : w < 14) (hv : v ≤ 9) (hn : n ≤ 14) (hR : ∀ a b, R a b → a < n ∧ b < n) (hW : ∀ a b, a < 14 → b < 14 → W a b = nI (dd R a b)) (hP : isRch s rch P 14) (hrc : ∀ d, rch d ≤ 20) (sv cw : Nat → Int32) :
    ∃ sv' cw', f_X3_measure (nI w) (nI v) W P sv cw (nI s) = some (sv', cw') ∧ isBt (sv' w) (SVd s R rch w) ∧ isBt (cw' w) (CWd s R v w) ∧ (∀ c, c ≠ w → sv' c = sv c ∧ cw' c = cw c) := by
  unfold f_X3_measure
  rw [ix_nI hw (by decide), ix_nI hw (by decide), cl_nI (by omega)]
  have b1 : isBt (upd sv w 0 w) (fun _ => False) := by
    rw [upd_eq (α := Nat)]
    exact isB_0
  have b2 : isBt (upd cw w 0 w) (fun _ => False) := by
    rw [upd_eq (α := Nat)]
    exact isB_0
  by_cases q : s.testBit w = true
  · obtain ⟨sv', cw', t1, t2, t3, t4⟩ := ms_loop hs hw hv hn hR hW hP hrc q 14 fuel 0 _ _ _ _ (by omega) (by unfold fuel; omega) b1 b2
    refine ⟨sv', cw', t1, isB_c t2 fun d hd => ⟨?_, ?_⟩, isB_c t3 fun d hd => ⟨?_, ?_⟩, fun c hc => ⟨by rw [(t4 c hc).1, upd_ne hc], by rw [(t4 c hc).2, upd_ne hc]⟩⟩
    · rintro (z | ⟨-, z⟩)
      · exact z.elim
      · exact ⟨q, z⟩
    · rintro ⟨-, z⟩
      exact Or.inr ⟨Nat.zero_le _, z⟩
    · rintro (z | ⟨-, z⟩)
      · exact z.elim
      · exact ⟨q, z⟩
    · rintro ⟨-, z⟩
      exact Or.inr ⟨Nat.zero_le _, z⟩
  · refine ⟨upd sv w 0, upd cw w 0, ?_, isB_c b1 fun d hd => ⟨False.elim, fun z => q z.1⟩, isB_c b2 fun d hd => ⟨False.elim, fun z => q z.1⟩, fun c hc => ⟨upd_ne hc, upd_ne hc⟩⟩
    show f_X3_measure_b16 (nI w) (nI v) W P (nI s) (99999 + 1) (nI 0) (upd sv w 0) (upd cw w 0) = _
    rw [f_X3_measure_b16, if_neg (by decide), s_isThere (isB_n hs) hw, bd_of, b01_f q, if_pos rfl]
theorem ga_num : ∀ d, d < 7 → ∀ m, m < 128 → 2 ^ d ≤ m → m < 2 ^ (d + 1) → m ^^^ 2 ^ d < 2 ^ d ∧ m.testBit d = true := by decide +kernel
def zGT (V : Nat → Nat → Prop) (first m e : Nat) : Prop := ∃ c, c < 7 ∧ m.testBit c = true ∧ V (first + c) e
theorem GT_step {V : Nat → Nat → Prop} {first d m : Nat} (hd : d < 7) (hm : m < 128) (h1 : 2 ^ d ≤ m) (h2 : m < 2 ^ (d + 1)) (e : Nat) : (zGT V first (m ^^^ 2 ^ d) e ∨ V (first + d) e) ↔ zGT V first m e := by
  obtain ⟨-, g⟩ := ga_num d hd m hm h1 h2
  constructor
  · rintro (⟨c, c1, c2, c3⟩ | z)
    · rw [Nat.testBit_xor, Nat.testBit_two_pow] at c2
      by_cases q : d = c
      · subst q
        exact ⟨d, hd, g, c3⟩
      · refine ⟨c, c1, ?_, c3⟩
        simpa [q] using c2
    · exact ⟨d, hd, g, z⟩
  · rintro ⟨c, c1, c2, c3⟩
    by_cases q : d = c
    · subst q
      exact Or.inr c3
    · refine Or.inl ⟨c, c1, ?_, c3⟩
      rw [Nat.testBit_xor, Nat.testBit_two_pow]
      simpa [q] using c2
