/-! a number, an operand -/
section OPER
variable {T : Nat → Int32} {t j : Nat}
def OPR (T : Nat → Int32) (t j : Nat) (cop : Int32 → (Nat → Int32) → Int32 → Int32 → Int32 → Int32 → Int32 → Int32 → Int32 → Int32 → Option (Int32 × Int32 × Int32)) (mop : (Nat → Int32) → Int32 → Int32 → Int32 → Int32 → Int32 → (Nat → Int32) → (Nat → Int32) → Option (Int32 × Int32 × Int32 × Int32 × (Nat → Int32) × (Nat → Int32))) : Prop :=
  ∀ (a l : Nat) (act wth : Nat → Int32), a ≤ t → l ≤ a → REL T t a j l act wth (fun Tc F => cop (nI j) Tc (nI t) (nI a) (-1) (F 0) (F 1) (F 2) (F 3) (F 4)) (mop T (nI t) (nI a) (-1) (nI j) (nI l) act wth)
theorem nx_nI {a : Nat} (hb : byT T t) (h : cc T t a < 128) : nxv T t a = nI (cc T t a) := by
  rcases cc_cases hb a with ⟨-, -, -, h2⟩ | ⟨h2, -⟩
  · exact h2
  · omega
theorem fig_loop (hb : byT T t) (ht : t ≤ 120) :
    ∀ (r f f7 x2 a : Nat) (x1 : Int32), r + x2 = 4 → a ≤ t → f ≥ r + 1 → f7 ≥ r + 1 →
    ∃ (v : Int32) (x2' a' : Nat), a ≤ a' ∧ a' ≤ t ∧ a' + x2 = a + x2' ∧ x2 ≤ x2' ∧ x2' ≤ 4 ∧ (x2' = 4 ∨ ¬ dgt (cc T t a')) ∧ (dgt (cc T t a) → x2 < 4 → x2 < x2') ∧ (¬ dgt (cc T t a) → x2' = x2) ∧
      (∀ Tc, agr T Tc t → f_X2_number_r13_b4 Tc (nI t) (-1) f x1 (nI x2) (nI a) = some (v, nI a')) ∧
      (∀ (l : Int32) (act wth : Nat → Int32), f_X7_figure_b4 T (nI t) (-1) l act wth f7 x1 (nI x2) (nI a) = f_X7_figure_b52 v (nI x2') T (nI t) (nI a') (-1) l act wth)
  | 0, f + 1, f7 + 1, x2, a, x1, h, ha, hf, hf7 => by
    have e : x2 = 4 := by omega
    subst e
    refine ⟨x1, 4, a, Nat.le_refl _, ha, rfl, Nat.le_refl _, Nat.le_refl _, Or.inl rfl, fun _ z => by omega, fun _ => rfl, fun Tc hA => ?_, fun l act wth => ?_⟩
    · rw [f_X2_number_r13_b4, if_pos (by decide)]
    · rw [f_X7_figure_b4, if_pos (by decide)]
  | r + 1, f + 1, f7 + 1, x2, a, x1, h, ha, hf, hf7 => by
    by_cases q : dgt (cc T t a)
    · have hc : cc T t a < 128 := by have := q.2; omega
      have hlt := cc_lt hb hc
      obtain ⟨v, x2', a', h1, h2, h3, h4, h5, h6, -, -, h8, h9⟩ := fig_loop hb ht r f f7 (x2 + 1) (a + 1) (10 * x1 + nI (cc T t a) - 48) (by omega) (by omega) (by omega) (by omega)
      refine ⟨v, x2', a', by omega, h2, by omega, by omega, h5, h6, fun _ _ => by omega, fun z => absurd q z, fun Tc hA => ?_, fun l act wth => ?_⟩
      · rw [f_X2_number_r13_b4, if_neg (by rw [L_4, le_nI (by decide) (by omega)]; omega), s_next ht ha hA, bd_of, nx_dig hb, bd_of, b01_t q, if_neg (by decide), bd_of, nx_nI hb hc, nI_1, nI_1]
        exact h8 Tc hA
      · rw [f_X7_figure_b4, if_neg (by rw [L_4, le_nI (by decide) (by omega)]; omega), s_look ht ha, bd_of, lk_dig hb, bd_of, b01_t q, if_neg (by decide), bd_of, lk_nI hb hc, nI_1, nI_1]
        exact h9 l act wth
    · refine ⟨x1, x2, a, Nat.le_refl _, ha, rfl, Nat.le_refl _, by omega, Or.inr q, fun z => absurd z q, fun _ => rfl, fun Tc hA => ?_, fun l act wth => ?_⟩
      · rw [f_X2_number_r13_b4, if_neg (by rw [L_4, le_nI (by decide) (by omega)]; omega), s_next ht ha hA, bd_of, nx_dig hb, bd_of, b01_f q, if_pos rfl]
      · rw [f_X7_figure_b4, if_neg (by rw [L_4, le_nI (by decide) (by omega)]; omega), s_look ht ha, bd_of, lk_dig hb, bd_of, b01_f q, if_pos rfl]
  | _, 0, _, _, _, _, _, _, hf, _ => by omega
  | _, _ + 1, 0, _, _, _, _, _, _, hf => by omega
theorem runs_push {F : Nat → Int32} {v : Int32} : Runs F [(1, v)] v := fun st => Exs_one (Or.inl ⟨rfl, rfl⟩)
theorem runs_name {F : Nat → Int32} {k : Nat} (hk : k < 5) : Runs F [(2, nI k)] (F k) := fun st => Exs_one (Or.inr (Or.inl ⟨rfl, k, hk, rfl, rfl⟩))
theorem wfc_k {w : Int32} {k : Nat} (hw : w = nI k) (hk : k < 128) (u : Int32) : wfc [(w, u)] := by
  rw [hw]
  exact wfc_one hk u
theorem s_step {w : Int32} {k l : Nat} (hw : w = nI k) (hk : k < 128) (hl : l < 130) (u : Int32) (act wth : Nat → Int32) : f_X7_addStep w u (nI l) act wth = some (nI (l + 1), upd act (130 + l) w, upd wth (130 + l) u) := by
  rw [hw]
  exact s_addStep hk hl u act wth
theorem seg1 (act wth : Nat → Int32) (b : Nat) (w u : Int32) : segm (upd act b w) (upd wth b u) b [(w, u)] := ⟨upd_eq (α := Nat), upd_eq (α := Nat), trivial⟩
variable {cro : Int32 → (Nat → Int32) → Int32 → Int32 → Int32 → Int32 → Int32 → Int32 → Int32 → Int32 → Option (Int32 × Int32 × Int32)} {crr : Int32 → Int32 → (Nat → Int32) → Int32 → Int32 → Int32 → Int32 → Int32 → Int32 → Int32 → Int32 → Option (Int32 × Int32 × Int32)} {mro mre : (Nat → Int32) → Int32 → Int32 → Int32 → Int32 → Int32 → (Nat → Int32) → (Nat → Int32) → Option (Int32 × Int32 × Int32 × Int32 × (Nat → Int32) × (Nat → Int32))}
/-- a number, or nothing that an operand begins with -/
theorem op_num (hb : byT T t) (ht : t ≤ 120) {a l : Nat} {act wth : Nat → Int32} (ha : a ≤ t) (hl : l ≤ a)
    (h40 : ¬ cc T t a = 40) (h33 : ¬ cc T t a = 33) (h45 : ¬ cc T t a = 45) (hn : nmc (cc T t a) = -1) :
    REL T t a j l act wth (fun Tc F => f_X2_operand_r13 cro crr (nI j) Tc (nI t) (nI a) (-1) (F 0) (F 1) (F 2) (F 3) (F 4)) (f_X7_operand mro mre T (nI t) (nI a) (-1) (nI j) (nI l) act wth) := by
  have l33 : ¬ lkv T t a = 33 := lk_ne (k := 33) hb (by decide) h33
  have l45 : ¬ lkv T t a = 45 := lk_ne (k := 45) hb (by decide) h45
  have l40 : ¬ lkv T t a = 40 := lk_ne (k := 40) hb (by decide) h40
  have mod : f_X7_operand mro mre T (nI t) (nI a) (-1) (nI j) (nI l) act wth = bd (f_X7_figure T (nI t) (nI a) (-1) (nI l) act wth) fun u12 => some (u12.1, u12.2.1, nI j, u12.2.2.1, u12.2.2.2.1, u12.2.2.2.2) := by
    unfold f_X7_operand
    rw [s_look ht ha, bd_of, lk_name hb, bd_of, hn, if_pos (show (-1 : Int32) < 0 by decide), if_neg l33, if_neg l45, if_neg l40]
  obtain ⟨v, n, a', h1, h2, h3, h4, h5, h6, h7, h8, h9, h10⟩ := fig_loop hb ht 4 fuel fuel 0 a 0 (by omega) ha (by unfold fuel; omega) (by unfold fuel; omega)
  have h10' : f_X7_figure T (nI t) (nI a) (-1) (nI l) act wth = f_X7_figure_b52 v (nI n) T (nI t) (nI a') (-1) (nI l) act wth := h10 (nI l) act wth
  unfold f_X7_figure_b52 f_X7_figure_b70 f_X7_figure_b74 at h10'
  rw [s_look ht h2, bd_of, lk_dig hb, bd_of, b01_if, s_faulty, bd_of, s_step (w := 1) (k := 1) rfl (by decide) (by omega), bd_of] at h10'
  by_cases q : dgt (cc T t a)
  · have hn0 := h7 q (by decide)
    have cls : ∀ (Tc F : Nat → Int32), agr T Tc t → f_X2_operand_r13 cro crr (nI j) Tc (nI t) (nI a) (-1) (F 0) (F 1) (F 2) (F 3) (F 4) = some (v, nI a', -1) := by
      intro Tc F hA
      have h9' : f_X2_number_r13 Tc (nI t) (nI a) (-1) = some (v, nI a') := h9 Tc hA
      unfold f_X2_operand_r13
      rw [s_next ht ha hA, bd_of, nx_dig hb, bd_of, b01_t q, if_neg (by decide), h9', bd_of]
    rw [if_neg (show ¬ nI n = 0 by rw [L_0, eq_nI (by omega) (by decide)]; omega)] at h10'
    by_cases q2 : dgt (cc T t a')
    · rw [if_pos q2] at h10'
      refine Or.inr ⟨a', a', l + 1, nI j, upd act (130 + l) 1, upd wth (130 + l) v, h2, h1, h2, by omega, fun i hi => ⟨upd_ne (by omega), upd_ne (by omega)⟩, ?_, fun Tc F hA => ⟨v, nI a', -1, cls Tc F hA, Or.inr ⟨rfl, rfl, q2⟩⟩⟩
      rw [mod, h10', bd_of]
    · rw [if_neg q2] at h10'
      refine Or.inl ⟨a', [(1, v)], upd act (130 + l) 1, upd wth (130 + l) v, by omega, h2, (by rw [List.length_singleton]; omega), Nat.zero_lt_one, wfc_k (k := 1) rfl (by decide) v, fun i hi => ⟨upd_ne (by omega), upd_ne (by omega)⟩, seg1 _ _ _ _ _, ?_, fun Tc F hA => ⟨v, cls Tc F hA, runs_push⟩⟩
      rw [mod, h10', bd_of]
      rfl
  · have hn0 := h8 q
    subst hn0
    rw [if_pos (show nI 0 = 0 from rfl)] at h10'
    have e : a' = a := by omega
    subst e
    refine Or.inr ⟨a', a', l + 1, nI j, upd act (130 + l) 1, upd wth (130 + l) v, h2, h1, h2, by omega, fun i hi => ⟨upd_ne (by omega), upd_ne (by omega)⟩, ?_, fun Tc F hA => ⟨0, nI a', nI a', ?_, Or.inl rfl⟩⟩
    · rw [mod, h10', bd_of]
    · have k := nx_eq hb a'
      have n40 : ¬ nxv T t a' = 40 := by
        rw [show (nxv T t a' = 40) = (cc T t a' = 40) from k 40 (by decide)]
        exact h40
      have n33 : ¬ nxv T t a' = 33 := by
        rw [show (nxv T t a' = 33) = (cc T t a' = 33) from k 33 (by decide)]
        exact h33
      have n45 : ¬ nxv T t a' = 45 := by
        rw [show (nxv T t a' = 45) = (cc T t a' = 45) from k 45 (by decide)]
        exact h45
      have nn : ∀ c : Nat, c < 128 → ¬ nmc c = -1 → ¬ nxv T t a' = nI c := by
        intro c hc h z
        rw [k c hc] at z
        rw [z] at hn
        exact h hn
      have m1 : ¬ nxv T t a' = 100 := nn 100 (by decide) (by decide)
      have m2 : ¬ nxv T t a' = 106 := nn 106 (by decide) (by decide)
      have m3 : ¬ nxv T t a' = 111 := nn 111 (by decide) (by decide)
      have m4 : ¬ nxv T t a' = 112 := nn 112 (by decide) (by decide)
      have m5 : ¬ nxv T t a' = 121 := nn 121 (by decide) (by decide)
      show f_X2_operand_r13 cro crr (nI j) Tc (nI t) (nI a') (-1) (F 0) (F 1) (F 2) (F 3) (F 4) = _
      unfold f_X2_operand_r13 f_X2_named
      rw [s_next ht ha hA, bd_of, nx_dig hb, bd_of, b01_f q, if_pos rfl, if_neg n40, if_neg n33, if_neg n45, if_neg m1, if_neg m2, if_neg m3, if_neg m4, if_neg m5, s_broken, if_neg (show ¬ (0 : Int32) ≤ -1 by decide), bd_of, bd_of]
end OPER
