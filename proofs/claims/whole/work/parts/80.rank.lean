/-! a chain of signs of one rank -/
section RANK
variable {T : Nat → Int32} {t j r : Nat} {rr : Int32 → Int32 → (Nat → Int32) → Int32 → Int32 → Int32 → Int32 → Int32 → Int32 → Int32 → Int32 → Option (Int32 × Int32 × Int32)} {op : Int32 → (Nat → Int32) → Int32 → Int32 → Int32 → Int32 → Int32 → Int32 → Int32 → Int32 → Option (Int32 × Int32 × Int32)} {msub : (Nat → Int32) → Int32 → Int32 → Int32 → Int32 → Int32 → (Nat → Int32) → (Nat → Int32) → Option (Int32 × Int32 × Int32 × Int32 × (Nat → Int32) × (Nat → Int32))}
/-- the part one rank below is read alike on both sides -/
def SUBR (T : Nat → Int32) (t j r : Nat) (rr : Int32 → Int32 → (Nat → Int32) → Int32 → Int32 → Int32 → Int32 → Int32 → Int32 → Int32 → Int32 → Option (Int32 × Int32 × Int32)) (msub : (Nat → Int32) → Int32 → Int32 → Int32 → Int32 → Int32 → (Nat → Int32) → (Nat → Int32) → Option (Int32 × Int32 × Int32 × Int32 × (Nat → Int32) × (Nat → Int32))) : Prop :=
  ∀ (a l : Nat) (act wth : Nat → Int32), a ≤ t → l ≤ a → REL T t a j l act wth (fun Tc F => rr (nI r) (nI j) Tc (nI t) (nI a) (-1) (F 0) (F 1) (F 2) (F 3) (F 4)) (msub T (nI t) (nI a) (-1) (nI j) (nI l) act wth)
/-- the model's chain -/
def LOOPS (T : Nat → Int32) (t j r : Nat) (msub : (Nat → Int32) → Int32 → Int32 → Int32 → Int32 → Int32 → (Nat → Int32) → (Nat → Int32) → Option (Int32 × Int32 × Int32 × Int32 × (Nat → Int32) × (Nat → Int32))) (ml : Nat → Int32 → Int32 → Int32 → Int32 → (Nat → Int32) → (Nat → Int32) → Option (Int32 × Int32 × Int32 × Int32 × (Nat → Int32) × (Nat → Int32))) : Prop :=
  (∀ (f a l : Nat) (act wth : Nat → Int32), a ≤ t → rkc (cc T t a) = nI r → ml (f + 1) (nI a) (-1) (nI j) (nI l) act wth = bd (msub T (nI t) (nI (a + 1)) (-1) (nI j) (nI l) act wth) fun u => bd (f_X7_addStep (nI (cc T t a)) 0 u.2.2.2.1 u.2.2.2.2.1 u.2.2.2.2.2) fun u6 => ml f u.1 u.2.1 u.2.2.1 u6.1 u6.2.1 u6.2.2) ∧
  (∀ (f a l : Nat) (act wth : Nat → Int32), a ≤ t → ¬ rkc (cc T t a) = nI r → ml (f + 1) (nI a) (-1) (nI j) (nI l) act wth = some (nI a, -1, nI j, nI l, act, wth)) ∧
  (∀ (f p : Nat) (h o l : Int32) (act wth : Nat → Int32), p ≤ 120 → ml (f + 1) h (nI p) o l act wth = some (h, nI p, o, l, act, wth))
theorem cc_lt {T : Nat → Int32} {t a : Nat} (hb : byT T t) (h : cc T t a < 128) : a < t := by
  rcases cc_cases hb a with ⟨-, h2, -⟩ | ⟨h2, -⟩
  · exact h2
  · omega
theorem sign_lt {ch : Nat} (h : ¬ rkc ch = -1) : 5 ≤ ch ∧ ch < 128 := by
  have := jt_cases h
  omega
theorem Ex1_sign {F : Nat → Int32} {ch : Nat} (h : ¬ rkc ch = -1) {x y z : Int32} {st : List Int32} (hz : f_X7_twoOf (nI ch) x y = some z) : Ex1 F (nI ch) 0 (y :: x :: st) (z :: st) := by
  have hc := sign_lt h
  refine Or.inr (Or.inr (Or.inr (Or.inr ⟨?_, ?_, ?_, ?_, y, x, st, z, rfl, hz, rfl⟩)))
  · rw [L_1, eq_nI (by omega) (by omega)]; omega
  · rw [L_2, eq_nI (by omega) (by omega)]; omega
  · rw [L_3, eq_nI (by omega) (by omega)]; omega
  · rw [L_4, eq_nI (by omega) (by omega)]; omega
theorem wfc_nil : wfc [] := by
  intro s hs
  cases hs
theorem wfc_one {k : Nat} (hk : k < 128) (u : Int32) : wfc [(nI k, u)] := by
  intro s hs
  rw [List.mem_singleton] at hs
  subst hs
  exact (bw_tab k hk).2
theorem rk_loop {most : Nat} {ml : Nat → Int32 → Int32 → Int32 → Int32 → (Nat → Int32) → (Nat → Int32) → Option (Int32 × Int32 × Int32 × Int32 × (Nat → Int32) × (Nat → Int32))} (hb : byT T t) (ht : t ≤ 120) (hr : r < 5) (hsub : SUBR T t j (r + 1) rr msub) (hml : LOOPS T t j r msub ml) :
    ∀ (n f f7 a l x5 : Nat) (act wth : Nat → Int32), n + a = t → f ≥ n + 2 → f7 ≥ n + 2 → l ≤ a → x5 ≤ a →
    (∃ (a' : Nat) (code : List (Int32 × Int32)) (act' wth' : Nat → Int32), a ≤ a' ∧ a' ≤ t ∧ code.length + a ≤ a' ∧ wfc code ∧ (∀ i, i < 130 + l → act' i = act i ∧ wth' i = wth i) ∧ segm act' wth' (130 + l) code ∧ ml f7 (nI a) (-1) (nI j) (nI l) act wth = some (nI a', -1, nI j, nI (l + code.length), act', wth') ∧
      ∀ (Tc F : Nat → Int32), agr T Tc t → ∀ v : Int32, ∃ v', f_X2_ranked_r13_b36 rr op (nI r) (nI j) (nI 120) Tc (nI t) (F 0) (F 1) (F 2) (F 3) (F 4) f v (nI x5) (nI a) (-1) = some (v', nI a', -1) ∧ ∀ st, Exs F code (v :: st) (v' :: st)) ∨
    (∃ (p h l' : Nat) (o' : Int32) (act' wth' : Nat → Int32), p ≤ t ∧ a ≤ h ∧ h ≤ t ∧ l' + a ≤ l + h + 1 ∧ (∀ i, i < 130 → act' i = act i ∧ wth' i = wth i) ∧ ml f7 (nI a) (-1) (nI j) (nI l) act wth = some (nI h, nI p, o', nI l', act', wth') ∧
      ∀ (Tc F : Nat → Int32), agr T Tc t → ∀ v : Int32, ∃ v' b fc, f_X2_ranked_r13_b36 rr op (nI r) (nI j) (nI 120) Tc (nI t) (F 0) (F 1) (F 2) (F 3) (F 4) f v (nI x5) (nI a) (-1) = some (v', b, fc) ∧ Dead T t p b fc) := by
  intro n
  induction n using Nat.strongRecOn with
  | _ n ihn =>
  intro f f7 a l x5 act wth hn hf hf7 hl hx5
  obtain ⟨f, rfl⟩ : ∃ g, f = g + 1 := ⟨f - 1, by omega⟩
  obtain ⟨f7, rfl⟩ : ∃ g, f7 = g + 1 := ⟨f7 - 1, by omega⟩
  have hat : a ≤ t := by omega
  by_cases q : rkc (cc T t a) = nI r
  · have hs : ¬ rkc (cc T t a) = -1 := by
      intro z
      rw [z] at q
      exact nI_pos (n := r) (by omega) (by rw [← q]; decide)
    obtain ⟨hc1, hc2⟩ := sign_lt hs
    have hlt := cc_lt hb hc2
    have hnx : nxv T t a = nI (cc T t a) := by
      rcases cc_cases hb a with ⟨-, -, -, h⟩ | ⟨h, -⟩
      · exact h
      · omega
    have cls : ∀ (Tc F : Nat → Int32), agr T Tc t → ∀ v : Int32, f_X2_ranked_r13_b36 rr op (nI r) (nI j) (nI 120) Tc (nI t) (F 0) (F 1) (F 2) (F 3) (F 4) (f + 1) v (nI x5) (nI a) (-1) = bd (rr (nI (r + 1)) (nI j) Tc (nI t) (nI (a + 1)) (-1) (F 0) (F 1) (F 2) (F 3) (F 4)) fun u9 => bd (f_X2_joined (nI (cc T t a)) v u9.1) fun u10 => f_X2_ranked_r13_b36 rr op (nI r) (nI j) (nI 120) Tc (nI t) (F 0) (F 1) (F 2) (F 3) (F 4) f u10 (nI (x5 + 1)) u9.2.1 u9.2.2 := by
      intro Tc F hA v
      rw [f_X2_ranked_r13_b36, if_neg (by rw [le_nI (by omega) (by omega)]; omega), s_next ht hat hA, bd_of, nx_rank hb, bd_of, if_pos q, bd_of, hnx, nI_1, nI_1, nI_1]
    have mod := hml.1 f7 a l act wth hat q
    rcases hsub (a + 1) l act wth (by omega) (by omega) with ⟨a1, code1, act1, wth1, h1, h2, h3, h4, h5, h6, h7, h8, h9⟩ | ⟨p, h, l1, o1, act1, wth1, h1, h2, h3, h4, h5, h6, h7⟩
    · rw [h8, bd_of] at mod
      dsimp only at mod
      rw [s_addStep hc2 (by omega), bd_of] at mod
      dsimp only at mod
      have jz := jt hs
      have hseg : segm (upd act1 (130 + (l + code1.length)) (nI (cc T t a))) (upd wth1 (130 + (l + code1.length)) 0) (130 + l) (code1 ++ [(nI (cc T t a), 0)]) := by
        have := segm_put (w := nI (cc T t a)) (u := 0) h7
        rwa [Nat.add_assoc] at this
      have hpres : ∀ i, i < 130 + (l + code1.length) → upd act1 (130 + (l + code1.length)) (nI (cc T t a)) i = act1 i ∧ upd wth1 (130 + (l + code1.length)) 0 i = wth1 i := fun i hi => ⟨upd_ne (by omega), upd_ne (by omega)⟩
      rcases ihn (t - a1) (by omega) f f7 a1 (l + code1.length + 1) (x5 + 1) _ _ (by omega) (by omega) (by omega) (by omega) (by omega) with ⟨a', code', act', wth', g1, g2, g3, g4, g5, g6, g7, g8⟩ | ⟨p, h, l', o', act', wth', g1, g2, g3, g4, g5, g6, g7⟩
      · refine Or.inl ⟨a', (code1 ++ [(nI (cc T t a), 0)]) ++ code', act', wth', by omega, g2, ?_, wfc_app (wfc_app h5 (wfc_one hc2 0)) g4, fun i hi => ?_, ?_, ?_, fun Tc F hA v => ?_⟩
        · rw [List.length_append, List.length_append, List.length_singleton]
          omega
        · have e1 := g5 i (by omega)
          have e2 := hpres i (by omega)
          have e3 := h6 i hi
          exact ⟨e1.1.trans (e2.1.trans e3.1), e1.2.trans (e2.2.trans e3.2)⟩
        · rw [segm_app]
          refine ⟨segm_move _ _ _ (fun i hi => ?_) hseg, ?_⟩
          · rw [List.length_append, List.length_singleton] at hi
            exact g5 (130 + l + i) (by omega)
          · rw [List.length_append, List.length_singleton, show 130 + l + (code1.length + 1) = 130 + (l + code1.length + 1) by omega]
            exact g6
        · rw [mod, g7, List.length_append, List.length_append, List.length_singleton, show l + code1.length + 1 + code'.length = l + (code1.length + 1 + code'.length) by omega]
        · obtain ⟨u, k1, k2⟩ := h9 Tc F hA
          obtain ⟨z, k3, k4⟩ := jz v u
          obtain ⟨v', k5, k6⟩ := g8 Tc F hA z
          refine ⟨v', ?_, fun st => Exs_app _ _ _ _ _ (Exs_app _ _ _ _ _ (k2 (v :: st)) (Exs_one (Ex1_sign hs k4))) (k6 st)⟩
          have k1' : rr (nI (r + 1)) (nI j) Tc (nI t) (nI (a + 1)) (-1) (F 0) (F 1) (F 2) (F 3) (F 4) = some (u, nI a1, -1) := k1
          rw [cls Tc F hA, k1', bd_of, k3, bd_of]
          exact k5
      · refine Or.inr ⟨p, h, l', o', act', wth', g1, by omega, g3, by omega, fun i hi => ?_, mod.trans g6, fun Tc F hA v => ?_⟩
        · have e1 := g5 i hi
          have e2 := hpres i (by omega)
          have e3 := h6 i (by omega)
          exact ⟨e1.1.trans (e2.1.trans e3.1), e1.2.trans (e2.2.trans e3.2)⟩
        · obtain ⟨u, k1, k2⟩ := h9 Tc F hA
          obtain ⟨z, k3, k4⟩ := jz v u
          obtain ⟨v', b, fc, k5, k6⟩ := g7 Tc F hA z
          refine ⟨v', b, fc, ?_, k6⟩
          have k1' : rr (nI (r + 1)) (nI j) Tc (nI t) (nI (a + 1)) (-1) (F 0) (F 1) (F 2) (F 3) (F 4) = some (u, nI a1, -1) := k1
          rw [cls Tc F hA, k1', bd_of, k3, bd_of]
          exact k5
    · rw [h6, bd_of] at mod
      dsimp only at mod
      rw [s_addStep hc2 (by omega), bd_of] at mod
      dsimp only at mod
      obtain ⟨f7, rfl⟩ : ∃ g, f7 = g + 1 := ⟨f7 - 1, by omega⟩
      rw [hml.2.2 f7 p _ _ _ _ _ (by omega)] at mod
      refine Or.inr ⟨p, h, l1 + 1, o1, _, _, h1, by omega, h3, by omega, fun i hi => ?_, mod, fun Tc F hA v => ?_⟩
      · rw [upd_ne (by omega), upd_ne (by omega)]
        exact h5 i hi
      · obtain ⟨u, b, fc, k1, k2⟩ := h7 Tc F hA
        obtain ⟨z, k3, k4⟩ := jt hs v u
        obtain ⟨c, k5, k6, -⟩ := dead_next hb ht h1 hA k2
        refine ⟨z, b, fc, ?_, k2⟩
        have k1' : rr (nI (r + 1)) (nI j) Tc (nI t) (nI (a + 1)) (-1) (F 0) (F 1) (F 2) (F 3) (F 4) = some (u, b, fc) := k1
        rw [cls Tc F hA, k1', bd_of, k3, bd_of]
        dsimp only
        obtain ⟨f, rfl⟩ : ∃ g, f = g + 1 := ⟨f - 1, by omega⟩
        rw [f_X2_ranked_r13_b36, k5, bd_of, k6, bd_of]
        have nr : ¬ (-1 : Int32) = nI r := fun z => nI_pos (n := r) (by omega) (by rw [← z]; decide)
        rw [if_neg nr, ite_self]
  · refine Or.inl ⟨a, [], act, wth, Nat.le_refl _, hat, (by rw [List.length_nil]; omega), wfc_nil, fun i _ => ⟨rfl, rfl⟩, trivial, ?_, fun Tc F hA v => ⟨v, ?_, fun st => rfl⟩⟩
    · rw [hml.2.1 f7 a l act wth hat q]
      rfl
    · rw [f_X2_ranked_r13_b36, s_next ht hat hA, bd_of, nx_rank hb, bd_of, if_neg q, ite_self]
theorem rk_gen {ml : Nat → Int32 → Int32 → Int32 → Int32 → (Nat → Int32) → (Nat → Int32) → Option (Int32 × Int32 × Int32 × Int32 × (Nat → Int32) × (Nat → Int32))} (hb : byT T t) (ht : t ≤ 120) (hr : r < 5) (hr2 : r ≠ 2) (hsub : SUBR T t j (r + 1) rr msub) (hml : LOOPS T t j r msub ml) :
    SUBR T t j r (f_X2_ranked_r13 rr op) (fun M_tape M_taped M_here M_fault M_open M_laid M_act M_with => bd (msub M_tape M_taped M_here M_fault M_open M_laid M_act M_with) fun u => ml fuel u.1 u.2.1 u.2.2.1 u.2.2.2.1 u.2.2.2.2.1 u.2.2.2.2.2) := by
  intro a l act wth ha hl
  have cls : ∀ (Tc F : Nat → Int32), f_X2_ranked_r13 rr op (nI r) (nI j) Tc (nI t) (nI a) (-1) (F 0) (F 1) (F 2) (F 3) (F 4) = bd (rr (nI (r + 1)) (nI j) Tc (nI t) (nI a) (-1) (F 0) (F 1) (F 2) (F 3) (F 4)) fun u2 => f_X2_ranked_r13_b36 rr op (nI r) (nI j) (nI 120) Tc (nI t) (F 0) (F 1) (F 2) (F 3) (F 4) fuel u2.1 (nI 0) u2.2.1 u2.2.2 := by
    intro Tc F
    unfold f_X2_ranked_r13 f_X2_ranked_r13_b31
    rw [if_pos (by rw [L_5, lt_nI (by omega) (by decide)]; exact hr), nI_1]
    simp only [if_neg (show ¬ nI r = 2 by rw [L_2, eq_nI (by omega) (by decide)]; exact hr2)]
    rfl
  rcases hsub a l act wth ha hl with ⟨a1, code1, act1, wth1, h1, h2, h3, h4, h5, h6, h7, h8, h9⟩ | ⟨p, h, l1, o1, act1, wth1, h1, h2, h3, h4, h5, h6, h7⟩
  · rcases rk_loop (most := 0) (op := op) hb ht hr hsub hml (t - a1) fuel fuel a1 (l + code1.length) 0 act1 wth1 (by omega) (by unfold fuel; omega) (by unfold fuel; omega) (by omega) (by omega) with ⟨a', code', act', wth', g1, g2, g3, g4, g5, g6, g7, g8⟩ | ⟨p, h, l', o', act', wth', g1, g2, g3, g4, g5, g6, g7⟩
    · refine Or.inl ⟨a', code1 ++ code', act', wth', by omega, g2, ?_, ?_, wfc_app h5 g4, fun i hi => ?_, ?_, ?_, fun Tc F hA => ?_⟩
      · rw [List.length_append]
        omega
      · rw [List.length_append]
        omega
      · have e1 := g5 i (by omega)
        have e3 := h6 i hi
        exact ⟨e1.1.trans e3.1, e1.2.trans e3.2⟩
      · rw [segm_app]
        refine ⟨segm_move _ _ _ (fun i hi => g5 (130 + l + i) (by omega)) h7, ?_⟩
        rw [Nat.add_assoc]
        exact g6
      · dsimp only
        rw [h8, bd_of, List.length_append, ← Nat.add_assoc]
        exact g7
      · obtain ⟨u, k1, k2⟩ := h9 Tc F hA
        obtain ⟨v', k5, k6⟩ := g8 Tc F hA u
        refine ⟨v', ?_, fun st => Exs_app _ _ _ _ _ (k2 st) (k6 st)⟩
        have k1' : rr (nI (r + 1)) (nI j) Tc (nI t) (nI a) (-1) (F 0) (F 1) (F 2) (F 3) (F 4) = some (u, nI a1, -1) := k1
        show f_X2_ranked_r13 rr op (nI r) (nI j) Tc (nI t) (nI a) (-1) (F 0) (F 1) (F 2) (F 3) (F 4) = _
        rw [cls Tc F, k1', bd_of]
        exact k5
    · refine Or.inr ⟨p, h, l', o', act', wth', g1, by omega, g3, by omega, fun i hi => ?_, ?_, fun Tc F hA => ?_⟩
      · have e1 := g5 i hi
        have e3 := h6 i (by omega)
        exact ⟨e1.1.trans e3.1, e1.2.trans e3.2⟩
      · dsimp only
        rw [h8, bd_of]
        exact g6
      · obtain ⟨u, k1, k2⟩ := h9 Tc F hA
        obtain ⟨v', b, fc, k5, k6⟩ := g7 Tc F hA u
        refine ⟨v', b, fc, ?_, k6⟩
        have k1' : rr (nI (r + 1)) (nI j) Tc (nI t) (nI a) (-1) (F 0) (F 1) (F 2) (F 3) (F 4) = some (u, nI a1, -1) := k1
        show f_X2_ranked_r13 rr op (nI r) (nI j) Tc (nI t) (nI a) (-1) (F 0) (F 1) (F 2) (F 3) (F 4) = _
        rw [cls Tc F, k1', bd_of]
        exact k5
  · refine Or.inr ⟨p, h, l1, o1, act1, wth1, h1, h2, h3, h4, h5, ?_, fun Tc F hA => ?_⟩
    · dsimp only
      rw [h6, bd_of]
      exact hml.2.2 99999 p _ _ _ _ _ (by omega)
    · obtain ⟨u, b, fc, k1, k2⟩ := h7 Tc F hA
      obtain ⟨c, k5, k6, -⟩ := dead_next hb ht h1 hA k2
      refine ⟨u, b, fc, ?_, k2⟩
      have k1' : rr (nI (r + 1)) (nI j) Tc (nI t) (nI a) (-1) (F 0) (F 1) (F 2) (F 3) (F 4) = some (u, b, fc) := k1
      show f_X2_ranked_r13 rr op (nI r) (nI j) Tc (nI t) (nI a) (-1) (F 0) (F 1) (F 2) (F 3) (F 4) = _
      rw [cls Tc F, k1', bd_of]
      show f_X2_ranked_r13_b36 rr op (nI r) (nI j) (nI 120) Tc (nI t) (F 0) (F 1) (F 2) (F 3) (F 4) (99999 + 1) u (nI 0) b fc = _
      have nr : ¬ (-1 : Int32) = nI r := fun z => nI_pos (n := r) (by omega) (by rw [← z]; decide)
      rw [f_X2_ranked_r13_b36, k5, bd_of, k6, bd_of, if_neg nr, ite_self]
end RANK
