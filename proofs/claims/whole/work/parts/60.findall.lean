/-! the model's findAll -/
def zFound (n : Nat) (R : Nat → Nat → Prop) (rch : Nat → Nat) (v : Nat) (M_far M_within M_tooNear : Nat → Int32) : Prop :=
  (∀ a b, a < n → b < n → M_far (14 * a + b) = nI (dd R a b)) ∧ (∀ a, a < n → isBt (M_within a) (fun b => b < n ∧ dd R a b ≤ rch a)) ∧ (∀ a, a < n → isBt (M_tooNear a) (fun b => b < n ∧ a ≠ b ∧ dd R a b < v))
section FALL
variable {n kj v : Nat} {R : Nat → Nat → Prop} {rch : Nat → Nat} {o : Int32} {M_price M_year : Nat → Int32} {M_joins : Int32} {M_joinA M_joinB M_act M_with M_lineMany M_testEnd M_lineEnd : Nat → Int32} {M_hasLaw : Int32} {M_far : Nat → Int32}
theorem fa_in {a ra : Nat} (hn : n ≤ 14) (ha : a < n) (hv : v ≤ 9) (hra : ra ≤ 20) (hR : ∀ a b, R a b → a < n ∧ b < n) (hF : ∀ a b, a < n → b < n → M_far (14 * a + b) = nI (dd R a b)) (M_facts M_pile : Nat → Int32)
    (k7 : Int32 → (Nat → Int32) → (Nat → Int32) → (Nat → Int32) → (Nat → Int32) → Option ((Nat → Int32) × (Nat → Int32) × (Nat → Int32) × (Nat → Int32) × (Nat → Int32))) :
    ∀ (r f x4 : Nat) (wi tn : Nat → Int32) (Q Q2 : Nat → Prop), r + x4 = n → f ≥ r + 1 → isBt (wi a) Q → isBt (tn a) Q2 →
    ∃ wi' tn', f_X7_findAll_b38 k7 (nI a) (nI ra) (nI n) M_price M_year M_joins M_joinA M_joinB o (nI v) M_act M_with M_lineMany M_testEnd M_lineEnd M_facts M_pile M_hasLaw M_far f (nI x4) wi tn = k7 (nI (a + 1)) M_facts M_pile wi' tn' ∧
      isBt (wi' a) (fun b => Q b ∨ (x4 ≤ b ∧ b < n ∧ dd R a b ≤ ra)) ∧ isBt (tn' a) (fun b => Q2 b ∨ (x4 ≤ b ∧ b < n ∧ a ≠ b ∧ dd R a b < v)) ∧ (∀ c, c ≠ a → wi' c = wi c ∧ tn' c = tn c)
  | 0, f + 1, x4, wi, tn, Q, Q2, h, hf, i1, i2 => by
    have e : x4 = n := by omega
    subst e
    refine ⟨wi, tn, ?_, isB_c i1 fun d hd => ⟨Or.inl, ?_⟩, isB_c i2 fun d hd => ⟨Or.inl, ?_⟩, fun _ _ => ⟨rfl, rfl⟩⟩
    · rw [f_X7_findAll_b38, if_pos (by rw [le_nI (by omega) (by omega)]; omega), nI_1]
    · rintro (z | ⟨z, y, -⟩)
      · exact z
      · omega
    · rintro (z | ⟨z, y, -⟩)
      · exact z
      · omega
  | r + 1, f + 1, x4, wi, tn, Q, Q2, h, hf, i1, i2 => by
    have h4 : x4 < n := by omega
    have hd99 := dd_le hn hR a x4
    have e14 : (14 : Int32) * nI a + nI x4 = nI (14 * a + x4) := by rw [L_14, pk_mul, nI_add]
    have A1 : ∃ wi1, isBt (wi1 a) (fun b => Q b ∨ (b = x4 ∧ dd R a b ≤ ra)) ∧ (∀ c, c ≠ a → wi1 c = wi c) ∧
        f_X7_findAll_b38 k7 (nI a) (nI ra) (nI n) M_price M_year M_joins M_joinA M_joinB o (nI v) M_act M_with M_lineMany M_testEnd M_lineEnd M_facts M_pile M_hasLaw M_far (f + 1) (nI x4) wi tn =
        f_X7_findAll_b76 k7 (f_X7_findAll_b38 k7 (nI a) (nI ra) (nI n) M_price M_year M_joins M_joinA M_joinB o (nI v) M_act M_with M_lineMany M_testEnd M_lineEnd M_facts M_pile M_hasLaw M_far f) (nI a) (nI ra) (nI x4) (nI n) M_price M_year M_joins M_joinA M_joinB o (nI v) M_act M_with M_lineMany M_testEnd M_lineEnd M_facts M_pile M_hasLaw M_far wi1 tn := by
      rw [f_X7_findAll_b38, if_neg (by rw [le_nI (by omega) (by omega)]; omega), e14, ix_nI (show 14 * a + x4 < 196 by omega) (by decide), cl_nI (by omega), hF a x4 ha h4, ite_eqc (lt_nI (by omega) (by omega)), ix_nI (show a < 14 by omega) (by decide), ix_nI (show a < 14 by omega) (by decide), cl_nI (by omega)]
      by_cases q : ra < dd R a x4
      · refine ⟨wi, isB_c i1 fun d hd => ⟨Or.inl, ?_⟩, fun _ _ => rfl, by rw [if_pos q]⟩
        rintro (z | ⟨rfl, z⟩)
        · exact z
        · omega
      · refine ⟨upd wi a (wi a ||| ((1 : Int32) <<< (nI x4 &&& 31))), ?_, fun c hc => upd_ne hc, by rw [if_neg q]⟩
        rw [upd_eq (α := Nat)]
        refine isB_c (isB_add i1 (show x4 < 14 by omega)) fun d hd => ⟨?_, ?_⟩
        · rintro (z | rfl)
          · exact Or.inl z
          · exact Or.inr ⟨rfl, by omega⟩
        · rintro (z | ⟨z, -⟩)
          · exact Or.inl z
          · exact Or.inr z
    obtain ⟨wi1, j1, j2, j3⟩ := A1
    have A2 : ∃ tn1, isBt (tn1 a) (fun b => Q2 b ∨ (b = x4 ∧ a ≠ b ∧ dd R a b < v)) ∧ (∀ c, c ≠ a → tn1 c = tn c) ∧
        f_X7_findAll_b76 k7 (f_X7_findAll_b38 k7 (nI a) (nI ra) (nI n) M_price M_year M_joins M_joinA M_joinB o (nI v) M_act M_with M_lineMany M_testEnd M_lineEnd M_facts M_pile M_hasLaw M_far f) (nI a) (nI ra) (nI x4) (nI n) M_price M_year M_joins M_joinA M_joinB o (nI v) M_act M_with M_lineMany M_testEnd M_lineEnd M_facts M_pile M_hasLaw M_far wi1 tn =
        f_X7_findAll_b38 k7 (nI a) (nI ra) (nI n) M_price M_year M_joins M_joinA M_joinB o (nI v) M_act M_with M_lineMany M_testEnd M_lineEnd M_facts M_pile M_hasLaw M_far f (nI (x4 + 1)) wi1 tn1 := by
      unfold f_X7_findAll_b76 f_X7_findAll_b114
      rw [ite_eqc (eq_nI (by omega) (by omega)), nI_1]
      by_cases e : a = x4
      · refine ⟨tn, isB_c i2 fun d hd => ⟨Or.inl, ?_⟩, fun _ _ => rfl, by rw [if_pos e]⟩
        rintro (z | ⟨rfl, z, -⟩)
        · exact z
        · exact absurd e z
      · rw [if_neg e, e14, ix_nI (show 14 * a + x4 < 196 by omega) (by decide), cl_nI (by omega), hF a x4 ha h4, ite_eqc (le_nI (by omega) (by omega)), ix_nI (show a < 14 by omega) (by decide), ix_nI (show a < 14 by omega) (by decide), cl_nI (by omega)]
        by_cases q : v ≤ dd R a x4
        · refine ⟨tn, isB_c i2 fun d hd => ⟨Or.inl, ?_⟩, fun _ _ => rfl, by rw [if_pos q]⟩
          rintro (z | ⟨rfl, -, z⟩)
          · exact z
          · omega
        · refine ⟨upd tn a (tn a ||| ((1 : Int32) <<< (nI x4 &&& 31))), ?_, fun c hc => upd_ne hc, by rw [if_neg q]⟩
          rw [upd_eq (α := Nat)]
          refine isB_c (isB_add i2 (show x4 < 14 by omega)) fun d hd => ⟨?_, ?_⟩
          · rintro (z | rfl)
            · exact Or.inl z
            · exact Or.inr ⟨rfl, e, by omega⟩
          · rintro (z | ⟨z, -⟩)
            · exact Or.inl z
            · exact Or.inr z
    obtain ⟨tn1, j4, j5, j6⟩ := A2
    obtain ⟨wi', tn', t1, t2, t3, t4⟩ := fa_in hn ha hv hra hR hF M_facts M_pile k7 r f (x4 + 1) wi1 tn1 _ _ (by omega) (by omega) j1 j4
    refine ⟨wi', tn', j3.trans (j6.trans t1), isB_c t2 fun d hd => ⟨?_, ?_⟩, isB_c t3 fun d hd => ⟨?_, ?_⟩, fun c hc => ⟨(t4 c hc).1.trans (j2 c hc), (t4 c hc).2.trans (j5 c hc)⟩⟩
    · rintro ((z | ⟨rfl, z⟩) | ⟨z, y⟩)
      · exact Or.inl z
      · exact Or.inr ⟨Nat.le_refl _, h4, z⟩
      · exact Or.inr ⟨by omega, y⟩
    · rintro (z | ⟨z, y, w⟩)
      · exact Or.inl (Or.inl z)
      · by_cases e : d = x4
        · exact Or.inl (Or.inr ⟨e, w⟩)
        · exact Or.inr ⟨by omega, y, w⟩
    · rintro ((z | ⟨rfl, z⟩) | ⟨z, y⟩)
      · exact Or.inl z
      · exact Or.inr ⟨Nat.le_refl _, h4, z⟩
      · exact Or.inr ⟨by omega, y⟩
    · rintro (z | ⟨z, y, w⟩)
      · exact Or.inl (Or.inl z)
      · by_cases e : d = x4
        · exact Or.inl (Or.inr ⟨e, w⟩)
        · exact Or.inr ⟨by omega, y, w⟩
  | _, 0, _, _, _, _, _, _, hf, _, _ => by omega
theorem fa_out (hn : n ≤ 14) (hv : v ≤ 9) (hrc : ∀ d, rch d ≤ 20) (hR : ∀ a b, R a b → a < n ∧ b < n) (hF : ∀ a b, a < n → b < n → M_far (14 * a + b) = nI (dd R a b)) (hr : zRM n rch o M_price M_year M_joins M_joinA M_joinB M_act M_with M_lineMany M_testEnd M_lineEnd M_hasLaw) :
    ∀ (r f x2 : Nat) (fa pi wi tn : Nat → Int32), r + x2 = n → f ≥ r + 1 → (∀ a, a < x2 → isBt (wi a) (fun b => b < n ∧ dd R a b ≤ rch a)) → (∀ a, a < x2 → isBt (tn a) (fun b => b < n ∧ a ≠ b ∧ dd R a b < v)) →
    ∃ fa' pi' wi' tn', f_X7_findAll_b7 (nI n) M_price M_year M_joins M_joinA M_joinB o (nI v) M_act M_with M_lineMany M_testEnd M_lineEnd M_hasLaw M_far f (nI x2) fa pi wi tn = some (fa', pi', M_far, wi', tn') ∧ zFound n R rch v M_far wi' tn'
  | 0, f + 1, x2, fa, pi, wi, tn, h, hf, i1, i2 => by
    have e : x2 = n := by omega
    subst e
    exact ⟨fa, pi, wi, tn, by rw [f_X7_findAll_b7, if_pos (by rw [le_nI (by omega) (by omega)]; omega)], hF, i1, i2⟩
  | r + 1, f + 1, x2, fa, pi, wi, tn, h, hf, i1, i2 => by
    have h2 : x2 < n := by omega
    obtain ⟨fa1, pi1, g⟩ := hr x2 h2 fa pi
    have b1 : isBt (upd wi x2 0 x2) (fun _ => False) := by
      rw [upd_eq (α := Nat)]
      exact isB_0
    have b2 : isBt (upd tn x2 0 x2) (fun _ => False) := by
      rw [upd_eq (α := Nat)]
      exact isB_0
    obtain ⟨wi1, tn1, g1, g2, g3, g4⟩ := fa_in hn h2 hv (hrc x2) hR hF fa1 pi1 (f_X7_findAll_b7 (nI n) M_price M_year M_joins M_joinA M_joinB o (nI v) M_act M_with M_lineMany M_testEnd M_lineEnd M_hasLaw M_far f) (M_price := M_price) (M_year := M_year) (M_joins := M_joins) (M_joinA := M_joinA) (M_joinB := M_joinB) (o := o) (M_act := M_act) (M_with := M_with) (M_lineMany := M_lineMany) (M_testEnd := M_testEnd) (M_lineEnd := M_lineEnd) (M_hasLaw := M_hasLaw) n fuel 0 _ _ _ _ (by omega) (by unfold fuel; omega) b1 b2
    obtain ⟨fa', pi', wi', tn', t1, t2⟩ := fa_out hn hv hrc hR hF hr r f (x2 + 1) fa1 pi1 wi1 tn1 (by omega) (by omega)
      (fun a ha => by
        by_cases e : a = x2
        · subst e
          refine isB_c g2 fun d _ => ⟨?_, ?_⟩
          · rintro (z | ⟨-, z⟩)
            · exact z.elim
            · exact z
          · intro z
            exact Or.inr ⟨Nat.zero_le _, z⟩
        · rw [(g4 a e).1, upd_ne e]
          exact i1 a (by omega))
      (fun a ha => by
        by_cases e : a = x2
        · subst e
          refine isB_c g3 fun d _ => ⟨?_, ?_⟩
          · rintro (z | ⟨-, z⟩)
            · exact z.elim
            · exact z
          · intro z
            exact Or.inr ⟨Nat.zero_le _, z⟩
        · rw [(g4 a e).2, upd_ne e]
          exact i2 a (by omega))
    refine ⟨fa', pi', wi', tn', ?_, t2⟩
    rw [f_X7_findAll_b7, if_neg (by rw [le_nI (by omega) (by omega)]; omega), g, bd_of, ix_nI (show x2 < 14 by omega) (by decide), ix_nI (show x2 < 14 by omega) (by decide), cl_nI (by omega)]
    exact g1.trans t1
  | _, 0, _, _, _, _, _, _, hf, _, _ => by omega
theorem s_findAll {s : Nat} {A B : Nat → Nat} (hn : n ≤ 14) (hs : s < 2 ^ n) (hv : v ≤ 9) (hrc : ∀ d, rch d ≤ 20) (hJ : MJ n kj A B M_joinA M_joinB) (hr : zRM n rch o M_price M_year (nI kj) M_joinA M_joinB M_act M_with M_lineMany M_testEnd M_lineEnd M_hasLaw) (fa pi far wi tn : Nat → Int32) :
    ∃ fa' pi' far' wi' tn', f_X7_findAll (nI s) (nI n) M_price M_year (nI kj) M_joinA M_joinB o (nI v) M_act M_with M_lineMany M_testEnd M_lineEnd fa pi M_hasLaw far wi tn = some (fa', pi', far', wi', tn') ∧ zFound n (RJ s kj A B) rch v far' wi' tn' := by
  obtain ⟨far', g1, g2⟩ := s_findFar hn hs hJ far
  obtain ⟨fa', pi', wi', tn', t1, t2⟩ := fa_out hn hv hrc (RJ_lt (fun i hi => (hJ.2 i hi).1)) g2 hr n fuel 0 fa pi wi tn (by omega) (by unfold fuel; omega) (fun a ha => by omega) (fun a ha => by omega)
  refine ⟨fa', pi', far', wi', tn', ?_, t2⟩
  unfold f_X7_findAll
  rw [g1, bd_of]
  exact t1
end FALL
