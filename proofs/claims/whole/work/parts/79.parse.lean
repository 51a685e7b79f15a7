/-! the two readers, side by side: what a part of the text gives -/
def agr (T Tc : Nat → Int32) (t : Nat) : Prop := ∀ i, i < t → Tc i = T i
def wfc (c : List (Int32 × Int32)) : Prop := ∀ s, s ∈ c → vp_nar .byte s.1 = s.1
theorem wfc_app {c1 c2 : List (Int32 × Int32)} (h1 : wfc c1) (h2 : wfc c2) : wfc (c1 ++ c2) := by
  intro s hs
  rcases List.mem_append.mp hs with h | h
  · exact h1 s h
  · exact h2 s h
/-- the class's reader behind a fault at p, or before the digit too many at p -/
def Dead (T : Nat → Int32) (t p : Nat) (b fc : Int32) : Prop := fc = nI p ∨ (fc = -1 ∧ b = nI p ∧ dgt (cc T t p))
def OKR (T : Nat → Int32) (t a j l : Nat) (act wth : Nat → Int32) (C : (Nat → Int32) → (Nat → Int32) → Option (Int32 × Int32 × Int32)) (M : Option (Int32 × Int32 × Int32 × Int32 × (Nat → Int32) × (Nat → Int32))) : Prop :=
  ∃ (a' : Nat) (code : List (Int32 × Int32)) (act' wth' : Nat → Int32), a < a' ∧ a' ≤ t ∧ code.length + a ≤ a' ∧ 0 < code.length ∧ wfc code ∧ (∀ i, i < 130 + l → act' i = act i ∧ wth' i = wth i) ∧ segm act' wth' (130 + l) code ∧
    M = some (nI a', -1, nI j, nI (l + code.length), act', wth') ∧ ∀ (Tc F : Nat → Int32), agr T Tc t → ∃ v, C Tc F = some (v, nI a', -1) ∧ Runs F code v
def BADR (T : Nat → Int32) (t a l : Nat) (act wth : Nat → Int32) (C : (Nat → Int32) → (Nat → Int32) → Option (Int32 × Int32 × Int32)) (M : Option (Int32 × Int32 × Int32 × Int32 × (Nat → Int32) × (Nat → Int32))) : Prop :=
  ∃ (p h l' : Nat) (o' : Int32) (act' wth' : Nat → Int32), p ≤ t ∧ a ≤ h ∧ h ≤ t ∧ l' + a ≤ l + h + 1 ∧ (∀ i, i < 130 → act' i = act i ∧ wth' i = wth i) ∧
    M = some (nI h, nI p, o', nI l', act', wth') ∧ ∀ (Tc F : Nat → Int32), agr T Tc t → ∃ v b fc, C Tc F = some (v, b, fc) ∧ Dead T t p b fc
def REL (T : Nat → Int32) (t a j l : Nat) (act wth : Nat → Int32) (C : (Nat → Int32) → (Nat → Int32) → Option (Int32 × Int32 × Int32)) (M : Option (Int32 × Int32 × Int32 × Int32 × (Nat → Int32) × (Nat → Int32))) : Prop := OKR T t a j l act wth C M ∨ BADR T t a l act wth C M
theorem s_broken (b fc : Int32) : f_X2_broken b fc = some (0, if 0 ≤ fc then fc else b) := by
  unfold f_X2_broken f_X2_broken_b19
  by_cases q : 0 ≤ fc
  · rw [if_pos q, if_pos q]
  · rw [if_neg q, if_neg q]
theorem nI_0le {p : Nat} (h : p < 2 ^ 31) : (0 : Int32) ≤ nI p := by
  rw [L_0, le_nI (by decide) h]
  omega
theorem dead_br {T : Nat → Int32} {t p : Nat} {b fc : Int32} (hp : p ≤ 120) (h : Dead T t p b fc) : f_X2_broken b fc = some (0, nI p) := by
  rw [s_broken]
  rcases h with rfl | ⟨rfl, rfl, -⟩
  · rw [if_pos (nI_0le (by omega))]
  · rw [if_neg (by decide)]
theorem dead_next {T Tc : Nat → Int32} {t p : Nat} {b fc : Int32} (hb : byT T t) (ht : t ≤ 120) (hp : p ≤ t) (hA : agr T Tc t) (h : Dead T t p b fc) :
    ∃ c, f_X2_next_r13 Tc (nI t) b fc = some c ∧ f_X2_rankOf c = some (-1) ∧ ¬ c = 41 ∧ ¬ c = 59 ∧ ¬ c = 63 := by
  rcases h with rfl | ⟨rfl, rfl, hd⟩
  · refine ⟨-1, ?_, rfl, by decide, by decide, by decide⟩
    unfold f_X2_next_r13
    rw [if_pos (nI_0le (by omega))]
  · have k := nx_eq hb p
    have h1 := hd.1
    have h2 := hd.2
    refine ⟨nxv T t p, s_next ht hp hA, ?_, ?_, ?_, ?_⟩
    · rw [nx_rank hb]
      unfold rkc
      rw [if_neg (by omega), if_neg (by omega), if_neg (by omega), if_neg (by omega), if_neg (by omega), if_neg (by omega), if_neg (by omega), if_neg (by omega), if_neg (by omega), if_neg (by omega)]
    · intro z
      have e : nxv T t p = nI 41 := z
      rw [k 41 (by decide)] at e
      omega
    · intro z
      have e : nxv T t p = nI 59 := z
      rw [k 59 (by decide)] at e
      omega
    · intro z
      have e : nxv T t p = nI 63 := z
      rw [k 63 (by decide)] at e
      omega
theorem bw_tab : ∀ k, k < 128 → vp_nar .byte (Int32.toInt8 (nI k)).toInt32 = nI k ∧ vp_nar .byte (nI k) = nI k := by decide +kernel
theorem s_addStep {k l : Nat} (hk : k < 128) (hl : l < 130) (u : Int32) (act wth : Nat → Int32) : f_X7_addStep (nI k) u (nI l) act wth = some (nI (l + 1), upd act (130 + l) (nI k), upd wth (130 + l) u) := by
  unfold f_X7_addStep
  rw [show (130 : Int32) = nI 130 from rfl, nI_add, ix_nI (show 130 + l < 260 by omega) (by decide), ix_nI (show 130 + l < 260 by omega) (by decide), cl_nI (by omega), (bw_tab k hk).1, nI_1]
theorem s_faulty (h : Int32) : f_X7_faulty h (-1) = some h := by
  unfold f_X7_faulty
  rw [if_neg (by decide)]
/-- one more step behind the steps so far -/
theorem segm_put {act wth : Nat → Int32} {b : Nat} {c : List (Int32 × Int32)} {w u : Int32} (h : segm act wth b c) : segm (upd act (b + c.length) w) (upd wth (b + c.length) u) b (c ++ [(w, u)]) := by
  rw [segm_app]
  refine ⟨segm_move c b b (fun i hi => ⟨upd_ne (by omega), upd_ne (by omega)⟩) h, upd_eq (α := Nat), upd_eq (α := Nat), trivial⟩
/-- a sign's work is alike -/
theorem jt_neg (a : Int32) : a / (-1) = -a := by
  apply Int32.toBitVec_inj.1
  show a.toBitVec.sdiv (-1 : Int32).toBitVec = -a.toBitVec
  have e : (-1 : Int32).toBitVec = -1#32 := by decide
  rw [e, BitVec.sdiv_neg (by decide), BitVec.sdiv_one]
theorem jt_rem (a : Int32) : a - a / (-1) * (-1) = 0 := by
  rw [jt_neg, Int32.mul_neg, Int32.mul_one, Int32.neg_neg, Int32.sub_self]
theorem jt_cases {ch : Nat} (h : ¬ rkc ch = -1) : ch = 37 ∨ ch = 38 ∨ ch = 42 ∨ ch = 43 ∨ ch = 45 ∨ ch = 47 ∨ ch = 60 ∨ ch = 61 ∨ ch = 62 ∨ ch = 124 := by
  refine Classical.byContradiction fun z => h ?_
  unfold rkc
  rw [if_neg (by omega), if_neg (by omega), if_neg (by omega), if_neg (by omega), if_neg (by omega), if_neg (by omega), if_neg (by omega), if_neg (by omega), if_neg (by omega), if_neg (by omega)]
theorem jt {ch : Nat} (h : ¬ rkc ch = -1) (x y : Int32) : ∃ z, f_X2_joined (nI ch) x y = some z ∧ f_X7_twoOf (nI ch) x y = some z := by
  unfold f_X2_joined f_X7_twoOf f_X7_twoOf_b218
  rcases jt_cases h with rfl | rfl | rfl | rfl | rfl | rfl | rfl | rfl | rfl | rfl
  · rw [if_neg (show ¬ nI 37 = 38 by decide), if_neg (show ¬ nI 37 = 42 by decide), if_neg (show ¬ nI 37 = 43 by decide), if_neg (show ¬ nI 37 = 45 by decide), if_neg (show ¬ nI 37 = 47 by decide), if_neg (show ¬ nI 37 = 60 by decide), if_neg (show ¬ nI 37 = 61 by decide), if_neg (show ¬ nI 37 = 62 by decide), if_neg (show ¬ nI 37 = 124 by decide), if_pos (show nI 37 = 37 from rfl)]
    by_cases q : y = 0
    · rw [if_pos q, if_pos q]
      exact ⟨_, rfl, rfl⟩
    · rw [if_neg q, if_neg q, nz_ne q]
      by_cases q2 : y = -1
      · rw [if_pos q2, q2, jt_rem]
        exact ⟨_, rfl, rfl⟩
      · rw [if_neg q2]
        exact ⟨_, rfl, rfl⟩
  · rw [if_pos (show nI 38 = 38 from rfl), if_neg (show ¬ nI 38 = 37 by decide), if_pos (show nI 38 = 38 from rfl)]
    by_cases q : x = 0
    · rw [if_pos q]
      exact ⟨_, rfl, rfl⟩
    · rw [if_neg q]
      by_cases q2 : y = 0
      · rw [if_pos q2]
        exact ⟨_, rfl, rfl⟩
      · rw [if_neg q2]
        exact ⟨_, rfl, rfl⟩
  · rw [if_neg (show ¬ nI 42 = 38 by decide), if_pos (show nI 42 = 42 from rfl), if_neg (show ¬ nI 42 = 37 by decide), if_neg (show ¬ nI 42 = 38 by decide), if_pos (show nI 42 = 42 from rfl)]
    exact ⟨_, rfl, rfl⟩
  · rw [if_neg (show ¬ nI 43 = 38 by decide), if_neg (show ¬ nI 43 = 42 by decide), if_pos (show nI 43 = 43 from rfl), if_neg (show ¬ nI 43 = 37 by decide), if_neg (show ¬ nI 43 = 38 by decide), if_neg (show ¬ nI 43 = 42 by decide), if_pos (show nI 43 = 43 from rfl)]
    exact ⟨_, rfl, rfl⟩
  · rw [if_neg (show ¬ nI 45 = 38 by decide), if_neg (show ¬ nI 45 = 42 by decide), if_neg (show ¬ nI 45 = 43 by decide), if_pos (show nI 45 = 45 from rfl), if_neg (show ¬ nI 45 = 37 by decide), if_neg (show ¬ nI 45 = 38 by decide), if_neg (show ¬ nI 45 = 42 by decide), if_neg (show ¬ nI 45 = 43 by decide), if_pos (show nI 45 = 45 from rfl)]
    exact ⟨_, rfl, rfl⟩
  · rw [if_neg (show ¬ nI 47 = 38 by decide), if_neg (show ¬ nI 47 = 42 by decide), if_neg (show ¬ nI 47 = 43 by decide), if_neg (show ¬ nI 47 = 45 by decide), if_pos (show nI 47 = 47 from rfl), if_neg (show ¬ nI 47 = 37 by decide), if_neg (show ¬ nI 47 = 38 by decide), if_neg (show ¬ nI 47 = 42 by decide), if_neg (show ¬ nI 47 = 43 by decide), if_neg (show ¬ nI 47 = 45 by decide), if_pos (show nI 47 = 47 from rfl)]
    by_cases q : y = 0
    · rw [if_pos q, if_pos q]
      exact ⟨_, rfl, rfl⟩
    · rw [if_neg q, if_neg q, nz_ne q]
      by_cases q2 : y = -1
      · rw [if_pos q2, q2, jt_neg]
        exact ⟨_, rfl, rfl⟩
      · rw [if_neg q2]
        exact ⟨_, rfl, rfl⟩
  · rw [if_neg (show ¬ nI 60 = 38 by decide), if_neg (show ¬ nI 60 = 42 by decide), if_neg (show ¬ nI 60 = 43 by decide), if_neg (show ¬ nI 60 = 45 by decide), if_neg (show ¬ nI 60 = 47 by decide), if_pos (show nI 60 = 60 from rfl), if_neg (show ¬ nI 60 = 37 by decide), if_neg (show ¬ nI 60 = 38 by decide), if_neg (show ¬ nI 60 = 42 by decide), if_neg (show ¬ nI 60 = 43 by decide), if_neg (show ¬ nI 60 = 45 by decide), if_neg (show ¬ nI 60 = 47 by decide), if_pos (show nI 60 = 60 from rfl)]
    by_cases q : y ≤ x
    · rw [if_pos q]
      exact ⟨_, rfl, rfl⟩
    · rw [if_neg q]
      exact ⟨_, rfl, rfl⟩
  · rw [if_neg (show ¬ nI 61 = 38 by decide), if_neg (show ¬ nI 61 = 42 by decide), if_neg (show ¬ nI 61 = 43 by decide), if_neg (show ¬ nI 61 = 45 by decide), if_neg (show ¬ nI 61 = 47 by decide), if_neg (show ¬ nI 61 = 60 by decide), if_pos (show nI 61 = 61 from rfl), if_neg (show ¬ nI 61 = 37 by decide), if_neg (show ¬ nI 61 = 38 by decide), if_neg (show ¬ nI 61 = 42 by decide), if_neg (show ¬ nI 61 = 43 by decide), if_neg (show ¬ nI 61 = 45 by decide), if_neg (show ¬ nI 61 = 47 by decide), if_neg (show ¬ nI 61 = 60 by decide), if_pos (show nI 61 = 61 from rfl)]
    by_cases q : x = y
    · rw [if_pos q]
      exact ⟨_, rfl, rfl⟩
    · rw [if_neg q]
      exact ⟨_, rfl, rfl⟩
  · rw [if_neg (show ¬ nI 62 = 38 by decide), if_neg (show ¬ nI 62 = 42 by decide), if_neg (show ¬ nI 62 = 43 by decide), if_neg (show ¬ nI 62 = 45 by decide), if_neg (show ¬ nI 62 = 47 by decide), if_neg (show ¬ nI 62 = 60 by decide), if_neg (show ¬ nI 62 = 61 by decide), if_pos (show nI 62 = 62 from rfl), if_neg (show ¬ nI 62 = 37 by decide), if_neg (show ¬ nI 62 = 38 by decide), if_neg (show ¬ nI 62 = 42 by decide), if_neg (show ¬ nI 62 = 43 by decide), if_neg (show ¬ nI 62 = 45 by decide), if_neg (show ¬ nI 62 = 47 by decide), if_neg (show ¬ nI 62 = 60 by decide), if_neg (show ¬ nI 62 = 61 by decide), if_pos (show nI 62 = 62 from rfl)]
    by_cases q : x ≤ y
    · rw [if_pos q]
      exact ⟨_, rfl, rfl⟩
    · rw [if_neg q]
      exact ⟨_, rfl, rfl⟩
  · rw [if_neg (show ¬ nI 124 = 38 by decide), if_neg (show ¬ nI 124 = 42 by decide), if_neg (show ¬ nI 124 = 43 by decide), if_neg (show ¬ nI 124 = 45 by decide), if_neg (show ¬ nI 124 = 47 by decide), if_neg (show ¬ nI 124 = 60 by decide), if_neg (show ¬ nI 124 = 61 by decide), if_neg (show ¬ nI 124 = 62 by decide), if_pos (show nI 124 = 124 from rfl), if_neg (show ¬ nI 124 = 37 by decide), if_neg (show ¬ nI 124 = 38 by decide), if_neg (show ¬ nI 124 = 42 by decide), if_neg (show ¬ nI 124 = 43 by decide), if_neg (show ¬ nI 124 = 45 by decide), if_neg (show ¬ nI 124 = 47 by decide), if_neg (show ¬ nI 124 = 60 by decide), if_neg (show ¬ nI 124 = 61 by decide), if_neg (show ¬ nI 124 = 62 by decide)]
    by_cases q : x = 0
    · rw [if_pos q]
      by_cases q2 : y = 0
      · rw [if_pos q2]
        exact ⟨_, rfl, rfl⟩
      · rw [if_neg q2]
        exact ⟨_, rfl, rfl⟩
    · rw [if_neg q]
      exact ⟨_, rfl, rfl⟩
