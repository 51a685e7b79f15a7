/-! an operand, whatever it begins with -/
section OPSTEP
variable {T : Nat → Int32} {t j : Nat}
variable {cro : Int32 → (Nat → Int32) → Int32 → Int32 → Int32 → Int32 → Int32 → Int32 → Int32 → Int32 → Option (Int32 × Int32 × Int32)} {crr : Int32 → Int32 → (Nat → Int32) → Int32 → Int32 → Int32 → Int32 → Int32 → Int32 → Int32 → Int32 → Option (Int32 × Int32 × Int32)} {mro mre : (Nat → Int32) → Int32 → Int32 → Int32 → Int32 → Int32 → (Nat → Int32) → (Nat → Int32) → Option (Int32 × Int32 × Int32 × Int32 × (Nat → Int32) × (Nat → Int32))}
theorem ndg {c : Nat} (h : c < 48 ∨ 57 < c) : ¬ dgt c := by
  rintro ⟨h1, h2⟩
  omega
/-- a name -/
theorem op_name (hb : byT T t) (ht : t ≤ 120) {a l k : Nat} {act wth : Nat → Int32} (ha : a ≤ t) (hl : l ≤ a) (hk : k < 5) (hn : nmc (cc T t a) = nI k)
    (hc : cc T t a < 128) (hcls : ∀ F : Nat → Int32, f_X2_named (nI (cc T t a)) (nI a) (-1) (F 0) (F 1) (F 2) (F 3) (F 4) = some (F k, nI (a + 1), -1)) (hd : ¬ dgt (cc T t a)) (h40 : ¬ cc T t a = 40) (h33 : ¬ cc T t a = 33) (h45 : ¬ cc T t a = 45) :
    REL T t a j l act wth (fun Tc F => f_X2_operand_r13 cro crr (nI j) Tc (nI t) (nI a) (-1) (F 0) (F 1) (F 2) (F 3) (F 4)) (f_X7_operand mro mre T (nI t) (nI a) (-1) (nI j) (nI l) act wth) := by
  have hlt := cc_lt hb hc
  refine Or.inl ⟨a + 1, [(2, nI k)], upd act (130 + l) 2, upd wth (130 + l) (nI k), by omega, by omega, by rw [List.length_singleton]; omega, Nat.zero_lt_one, wfc_k (k := 2) rfl (by decide) _, fun i hi => ⟨upd_ne (by omega), upd_ne (by omega)⟩, seg1 _ _ _ _ _, ?_, fun Tc F hA => ⟨F k, ?_, runs_name hk⟩⟩
  · unfold f_X7_operand
    rw [s_look ht ha, bd_of, lk_name hb, bd_of, hn, if_neg (nI_pos (n := k) (by omega)), bd_of, s_step (w := 2) (k := 2) rfl (by decide) (by omega), bd_of, nI_1]
    rfl
  · show f_X2_operand_r13 cro crr (nI j) Tc (nI t) (nI a) (-1) (F 0) (F 1) (F 2) (F 3) (F 4) = _
    unfold f_X2_operand_r13
    have n40 : ¬ nI (cc T t a) = 40 := by
      rw [show (40 : Int32) = nI 40 from rfl, eq_nI (by omega) (by decide)]
      exact h40
    have n33 : ¬ nI (cc T t a) = 33 := by
      rw [show (33 : Int32) = nI 33 from rfl, eq_nI (by omega) (by decide)]
      exact h33
    have n45 : ¬ nI (cc T t a) = 45 := by
      rw [show (45 : Int32) = nI 45 from rfl, eq_nI (by omega) (by decide)]
      exact h45
    rw [s_next ht ha hA, bd_of, nx_dig hb, bd_of, b01_f hd, if_pos rfl, nx_nI hb hc, if_neg n40, if_neg n33, if_neg n45, hcls F, bd_of]
/-- a deny, a turn -/
theorem op_unary (hb : byT T t) (ht : t ≤ 120) {a l : Nat} {act wth : Nat → Int32} (ha : a ≤ t) (hl : l ≤ a) (hj : j < 6) (hs : cc T t a = 33 ∨ cc T t a = 45) (H : OPR T t (j + 1) cro mro) :
    REL T t a j l act wth (fun Tc F => f_X2_operand_r13 cro crr (nI j) Tc (nI t) (nI a) (-1) (F 0) (F 1) (F 2) (F 3) (F 4)) (f_X7_operand mro mre T (nI t) (nI a) (-1) (nI j) (nI l) act wth) := by
  have hc : cc T t a < 128 := by omega
  have hlt := cc_lt hb hc
  have hopn : f_X7_opens (nI a) (-1) (nI j) = some (1, nI (a + 1), -1, nI (j + 1)) := by
    unfold f_X7_opens
    rw [if_neg (by rw [show (6 : Int32) = nI 6 from rfl, eq_nI (by omega) (by decide)]; omega), nI_1, nI_1]
  have mod : f_X7_operand mro mre T (nI t) (nI a) (-1) (nI j) (nI l) act wth = bd (mro T (nI t) (nI (a + 1)) (-1) (nI (j + 1)) (nI l) act wth) fun u7 => f_X7_operand_b80 mro mre (if cc T t a = 33 then 3 else 4) u7.1 u7.2.1 (u7.2.2.1 - 1) u7.2.2.2.1 u7.2.2.2.2.1 u7.2.2.2.2.2 := by
    unfold f_X7_operand f_X7_operand_b46
    rw [s_look ht ha, bd_of, lk_name hb, bd_of, hopn, bd_of, if_neg (show ¬ (1 : Int32) = 0 by decide), lk_nI hb hc]
    rcases hs with e | e
    · rw [e, if_pos (show nmc 33 < 0 by decide), if_pos (show nI 33 = 33 from rfl), if_pos rfl]
      simp only [if_pos (show nI 33 = 33 from rfl)]
    · rw [e, if_pos (show nmc 45 < 0 by decide), if_neg (show ¬ nI 45 = 33 by decide), if_pos (show nI 45 = 45 from rfl), if_neg (show ¬ 45 = 33 by decide)]
      simp only [if_neg (show ¬ nI 45 = 33 by decide)]
  have cls : ∀ (Tc F : Nat → Int32), agr T Tc t → f_X2_operand_r13 cro crr (nI j) Tc (nI t) (nI a) (-1) (F 0) (F 1) (F 2) (F 3) (F 4) = bd (cro (nI (j + 1)) Tc (nI t) (nI (a + 1)) (-1) (F 0) (F 1) (F 2) (F 3) (F 4)) fun u11 => if cc T t a = 45 then some (-u11.1, u11.2.1, u11.2.2) else if u11.1 = 0 then some (1, u11.2.1, u11.2.2) else some (0, u11.2.1, u11.2.2) := by
    intro Tc F hA
    unfold f_X2_operand_r13 f_X2_operand_r13_b41
    rw [s_next ht ha hA, bd_of, nx_dig hb, bd_of, nx_nI hb hc]
    rcases hs with e | e
    · rw [e, b01_f (ndg (by decide)), if_pos rfl, if_neg (show ¬ nI 33 = 40 by decide), if_pos (show nI 33 = 33 from rfl), if_pos (by rw [show (6 : Int32) = nI 6 from rfl, lt_nI (by omega) (by decide)]; exact hj), if_neg (show ¬ nI 33 = 40 by decide), nI_1, nI_1]
      simp only [if_neg (show ¬ nI 33 = 45 by decide), if_neg (show ¬ 33 = 45 by decide)]
    · rw [e, b01_f (ndg (by decide)), if_pos rfl, if_neg (show ¬ nI 45 = 40 by decide), if_neg (show ¬ nI 45 = 33 by decide), if_pos (show nI 45 = 45 from rfl), if_pos (by rw [show (6 : Int32) = nI 6 from rfl, lt_nI (by omega) (by decide)]; exact hj), if_neg (show ¬ nI 45 = 40 by decide), nI_1, nI_1]
      simp only [if_pos (show nI 45 = 45 from rfl), if_true]
  have hw : ∃ k, k < 128 ∧ (if cc T t a = 33 then (3 : Int32) else 4) = nI k := by
    by_cases q : cc T t a = 33
    · exact ⟨3, by decide, by rw [if_pos q]; rfl⟩
    · exact ⟨4, by decide, by rw [if_neg q]; rfl⟩
  obtain ⟨kw, hkw, ekw⟩ := hw
  have hstep : ∀ (F : Nat → Int32) (u : Int32) (st : List Int32), Ex1 F (if cc T t a = 33 then (3 : Int32) else 4) 0 (u :: st) ((if cc T t a = 45 then -u else if u = 0 then 1 else 0) :: st) := by
    intro F u st
    rcases hs with e | e
    · rw [e, if_pos rfl, if_neg (by decide)]
      exact Or.inr (Or.inr (Or.inl ⟨rfl, u, st, rfl, rfl⟩))
    · rw [e, if_neg (by decide), if_pos rfl]
      exact Or.inr (Or.inr (Or.inr (Or.inl ⟨rfl, u, st, rfl, rfl⟩)))
  rcases H (a + 1) l act wth (by omega) (by omega) with ⟨a1, code1, act1, wth1, h1, h2, h3, h4, h5, h6, h7, h8, h9⟩ | ⟨p, h, l1, o1, act1, wth1, h1, h2, h3, h4, h5, h6, h7⟩
  · have hseg : segm (upd act1 (130 + (l + code1.length)) (if cc T t a = 33 then (3 : Int32) else 4)) (upd wth1 (130 + (l + code1.length)) 0) (130 + l) (code1 ++ [((if cc T t a = 33 then (3 : Int32) else 4), 0)]) := by
      have := segm_put (w := (if cc T t a = 33 then (3 : Int32) else 4)) (u := 0) h7
      rwa [Nat.add_assoc] at this
    refine Or.inl ⟨a1, code1 ++ [((if cc T t a = 33 then (3 : Int32) else 4), 0)], upd act1 (130 + (l + code1.length)) (if cc T t a = 33 then (3 : Int32) else 4), upd wth1 (130 + (l + code1.length)) 0, by omega, h2, ?_, ?_, wfc_app h5 (wfc_k ekw hkw 0), fun i hi => ?_, hseg, ?_, fun Tc F hA => ?_⟩
    · rw [List.length_append, List.length_singleton]
      omega
    · rw [List.length_append]
      omega
    · rw [upd_ne (by omega), upd_ne (by omega)]
      exact h6 i hi
    · rw [mod, h8, bd_of]
      unfold f_X7_operand_b80
      dsimp only
      rw [s_step ekw hkw (by omega), bd_of, nI_m1, List.length_append, List.length_singleton]
      rfl
    · obtain ⟨u, k1, k2⟩ := h9 Tc F hA
      refine ⟨if cc T t a = 45 then -u else if u = 0 then 1 else 0, ?_, fun st => Exs_app _ _ _ _ _ (k2 st) (Exs_one (hstep F u st))⟩
      have k1' : cro (nI (j + 1)) Tc (nI t) (nI (a + 1)) (-1) (F 0) (F 1) (F 2) (F 3) (F 4) = some (u, nI a1, -1) := k1
      show f_X2_operand_r13 cro crr (nI j) Tc (nI t) (nI a) (-1) (F 0) (F 1) (F 2) (F 3) (F 4) = _
      rw [cls Tc F hA, k1', bd_of]
      dsimp only
      by_cases q : cc T t a = 45
      · rw [if_pos q, if_pos q]
      · rw [if_neg q, if_neg q]
        by_cases q2 : u = 0
        · rw [if_pos q2, if_pos q2]
        · rw [if_neg q2, if_neg q2]
  · refine Or.inr ⟨p, h, l1 + 1, o1 - 1, upd act1 (130 + l1) (if cc T t a = 33 then (3 : Int32) else 4), upd wth1 (130 + l1) 0, h1, by omega, h3, by omega, fun i hi => ?_, ?_, fun Tc F hA => ?_⟩
    · rw [upd_ne (by omega), upd_ne (by omega)]
      exact h5 i hi
    · rw [mod, h6, bd_of]
      unfold f_X7_operand_b80
      dsimp only
      rw [s_step ekw hkw (by omega), bd_of]
    · obtain ⟨u, b, fc, k1, k2⟩ := h7 Tc F hA
      have k1' : cro (nI (j + 1)) Tc (nI t) (nI (a + 1)) (-1) (F 0) (F 1) (F 2) (F 3) (F 4) = some (u, b, fc) := k1
      show ∃ v b fc, f_X2_operand_r13 cro crr (nI j) Tc (nI t) (nI a) (-1) (F 0) (F 1) (F 2) (F 3) (F 4) = some (v, b, fc) ∧ _
      rw [cls Tc F hA, k1', bd_of]
      dsimp only
      by_cases q : cc T t a = 45
      · rw [if_pos q]
        exact ⟨_, b, fc, rfl, k2⟩
      · rw [if_neg q]
        by_cases q2 : u = 0
        · rw [if_pos q2]
          exact ⟨_, b, fc, rfl, k2⟩
        · rw [if_neg q2]
          exact ⟨_, b, fc, rfl, k2⟩
/-- a bracket -/
theorem op_paren (hb : byT T t) (ht : t ≤ 120) {a l : Nat} {act wth : Nat → Int32} (ha : a ≤ t) (hl : l ≤ a) (hj : j < 6) (hs : cc T t a = 40) (H : SUBR T t (j + 1) 0 crr mre) :
    REL T t a j l act wth (fun Tc F => f_X2_operand_r13 cro crr (nI j) Tc (nI t) (nI a) (-1) (F 0) (F 1) (F 2) (F 3) (F 4)) (f_X7_operand mro mre T (nI t) (nI a) (-1) (nI j) (nI l) act wth) := by
  have hc : cc T t a < 128 := by omega
  have hlt := cc_lt hb hc
  have hopn : f_X7_opens (nI a) (-1) (nI j) = some (1, nI (a + 1), -1, nI (j + 1)) := by
    unfold f_X7_opens
    rw [if_neg (by rw [show (6 : Int32) = nI 6 from rfl, eq_nI (by omega) (by decide)]; omega), nI_1, nI_1]
  have mod : f_X7_operand mro mre T (nI t) (nI a) (-1) (nI j) (nI l) act wth = bd (mre T (nI t) (nI (a + 1)) (-1) (nI (j + 1)) (nI l) act wth) fun u15 => if u15.2.1 < 0 then bd (f_X7_look T (nI t) u15.1) fun u17 => if u17 = 41 then some (u15.1 + 1, u15.2.1, u15.2.2.1 - 1, u15.2.2.2.1, u15.2.2.2.2.1, u15.2.2.2.2.2) else bd (f_X7_faulty u15.1 u15.2.1) fun u19 => some (u15.1, u19, u15.2.2.1, u15.2.2.2.1, u15.2.2.2.2.1, u15.2.2.2.2.2) else some (u15.1, u15.2.1, u15.2.2.1, u15.2.2.2.1, u15.2.2.2.2.1, u15.2.2.2.2.2) := by
    unfold f_X7_operand
    rw [s_look ht ha, bd_of, lk_name hb, bd_of, hopn, bd_of, if_neg (show ¬ (1 : Int32) = 0 by decide), lk_nI hb hc, hs, if_pos (show nmc 40 < 0 by decide), if_neg (show ¬ nI 40 = 33 by decide), if_neg (show ¬ nI 40 = 45 by decide), if_pos (show nI 40 = 40 from rfl)]
  have cls : ∀ (Tc F : Nat → Int32), agr T Tc t → f_X2_operand_r13 cro crr (nI j) Tc (nI t) (nI a) (-1) (F 0) (F 1) (F 2) (F 3) (F 4) = bd (crr 0 (nI (j + 1)) Tc (nI t) (nI (a + 1)) (-1) (F 0) (F 1) (F 2) (F 3) (F 4)) fun u7 => bd (f_X2_next_r13 Tc (nI t) u7.2.1 u7.2.2) fun u8 => if u8 = 41 then some (u7.1, u7.2.1 + 1, u7.2.2) else bd (f_X2_broken u7.2.1 u7.2.2) fun u10 => some (u10.1, u7.2.1, u10.2) := by
    intro Tc F hA
    unfold f_X2_operand_r13 f_X2_operand_r13_b41
    rw [s_next ht ha hA, bd_of, nx_dig hb, bd_of, nx_nI hb hc, hs, b01_f (ndg (by decide)), if_pos rfl, if_pos (show nI 40 = 40 from rfl), if_pos (by rw [show (6 : Int32) = nI 6 from rfl, lt_nI (by omega) (by decide)]; exact hj), if_pos (show nI 40 = 40 from rfl), nI_1, nI_1]
  rcases H (a + 1) l act wth (by omega) (by omega) with ⟨a1, code1, act1, wth1, h1, h2, h3, h4, h5, h6, h7, h8, h9⟩ | ⟨p, h, l1, o1, act1, wth1, h1, h2, h3, h4, h5, h6, h7⟩
  · have k41 : (nxv T t a1 = 41) = (cc T t a1 = 41) := nx_eq hb a1 41 (by decide)
    have l41 : (lkv T t a1 = 41) = (cc T t a1 = 41) := lk_eq hb a1 41 (by decide)
    have mod2 : f_X7_operand mro mre T (nI t) (nI a) (-1) (nI j) (nI l) act wth = if lkv T t a1 = 41 then some (nI (a1 + 1), -1, nI j, nI (l + code1.length), act1, wth1) else some (nI a1, nI a1, nI (j + 1), nI (l + code1.length), act1, wth1) := by
      rw [mod, h8, bd_of]
      dsimp only
      rw [if_pos (show (-1 : Int32) < 0 by decide), s_look ht h2, bd_of, s_faulty, bd_of, nI_1, nI_m1]
    have cls2 : ∀ (Tc F : Nat → Int32), agr T Tc t → ∀ u : Int32, crr 0 (nI (j + 1)) Tc (nI t) (nI (a + 1)) (-1) (F 0) (F 1) (F 2) (F 3) (F 4) = some (u, nI a1, -1) → f_X2_operand_r13 cro crr (nI j) Tc (nI t) (nI a) (-1) (F 0) (F 1) (F 2) (F 3) (F 4) = if nxv T t a1 = 41 then some (u, nI (a1 + 1), -1) else some (0, nI a1, nI a1) := by
      intro Tc F hA u hu
      rw [cls Tc F hA, hu, bd_of]
      dsimp only
      rw [s_next ht h2 hA, bd_of, s_broken, if_neg (show ¬ (0 : Int32) ≤ -1 by decide), bd_of, nI_1]
    by_cases q : cc T t a1 = 41
    · have hlt1 := cc_lt hb (show cc T t a1 < 128 by omega)
      refine Or.inl ⟨a1 + 1, code1, act1, wth1, by omega, by omega, by omega, h4, h5, h6, h7, ?_, fun Tc F hA => ?_⟩
      · rw [mod2, if_pos (by rw [l41]; exact q)]
      · obtain ⟨u, k1, k2⟩ := h9 Tc F hA
        refine ⟨u, ?_, k2⟩
        show f_X2_operand_r13 cro crr (nI j) Tc (nI t) (nI a) (-1) (F 0) (F 1) (F 2) (F 3) (F 4) = _
        rw [cls2 Tc F hA u k1, if_pos (by rw [k41]; exact q)]
    · refine Or.inr ⟨a1, a1, l + code1.length, nI (j + 1), act1, wth1, h2, by omega, h2, by omega, fun i hi => h6 i (by omega), ?_, fun Tc F hA => ?_⟩
      · rw [mod2, if_neg (by rw [l41]; exact q)]
      · obtain ⟨u, k1, k2⟩ := h9 Tc F hA
        refine ⟨0, nI a1, nI a1, ?_, Or.inl rfl⟩
        show f_X2_operand_r13 cro crr (nI j) Tc (nI t) (nI a) (-1) (F 0) (F 1) (F 2) (F 3) (F 4) = _
        rw [cls2 Tc F hA u k1, if_neg (by rw [k41]; exact q)]
  · refine Or.inr ⟨p, h, l1, o1, act1, wth1, h1, by omega, h3, by omega, h5, ?_, fun Tc F hA => ?_⟩
    · rw [mod, h6, bd_of]
      dsimp only
      rw [if_neg (nI_pos (n := p) (by omega))]
    · obtain ⟨u, b, fc, k1, k2⟩ := h7 Tc F hA
      obtain ⟨c, c1, -, c2, -⟩ := dead_next hb ht h1 hA k2
      refine ⟨0, b, nI p, ?_, Or.inl rfl⟩
      have k1' : crr 0 (nI (j + 1)) Tc (nI t) (nI (a + 1)) (-1) (F 0) (F 1) (F 2) (F 3) (F 4) = some (u, b, fc) := k1
      show f_X2_operand_r13 cro crr (nI j) Tc (nI t) (nI a) (-1) (F 0) (F 1) (F 2) (F 3) (F 4) = _
      rw [cls Tc F hA, k1', bd_of]
      dsimp only
      rw [c1, bd_of, if_neg c2, dead_br (by omega) k2, bd_of]
/-- too many open -/
theorem op_full (hb : byT T t) (ht : t ≤ 120) {a l : Nat} {act wth : Nat → Int32} (ha : a ≤ t) (hj : j = 6) (hs : cc T t a = 33 ∨ cc T t a = 45 ∨ cc T t a = 40) :
    REL T t a j l act wth (fun Tc F => f_X2_operand_r13 cro crr (nI j) Tc (nI t) (nI a) (-1) (F 0) (F 1) (F 2) (F 3) (F 4)) (f_X7_operand mro mre T (nI t) (nI a) (-1) (nI j) (nI l) act wth) := by
  have hc : cc T t a < 128 := by omega
  subst hj
  have hopn : f_X7_opens (nI a) (-1) (nI 6) = some (0, nI a, nI a, nI 6) := by
    unfold f_X7_opens
    rw [if_pos (show nI 6 = 6 from rfl), s_faulty, bd_of]
  refine Or.inr ⟨a, a, l, nI 6, act, wth, ha, Nat.le_refl _, ha, by omega, fun i _ => ⟨rfl, rfl⟩, ?_, fun Tc F hA => ⟨0, nI a, nI a, ?_, Or.inl rfl⟩⟩
  · unfold f_X7_operand f_X7_operand_b46
    rw [s_look ht ha, bd_of, lk_name hb, bd_of, hopn, bd_of, if_pos rfl, lk_nI hb hc, bd_of, if_pos rfl]
    rcases hs with e | e | e
    · rw [e, if_pos (show nmc 33 < 0 by decide), if_pos (show nI 33 = 33 from rfl)]
    · rw [e, if_pos (show nmc 45 < 0 by decide), if_neg (show ¬ nI 45 = 33 by decide), if_pos (show nI 45 = 45 from rfl)]
    · rw [e, if_pos (show nmc 40 < 0 by decide), if_neg (show ¬ nI 40 = 33 by decide), if_neg (show ¬ nI 40 = 45 by decide), if_pos (show nI 40 = 40 from rfl)]
  · show f_X2_operand_r13 cro crr (nI 6) Tc (nI t) (nI a) (-1) (F 0) (F 1) (F 2) (F 3) (F 4) = _
    unfold f_X2_operand_r13 f_X2_operand_r13_b41
    rw [s_next ht ha hA, bd_of, nx_dig hb, bd_of, nx_nI hb hc, s_broken, if_neg (show ¬ (0 : Int32) ≤ -1 by decide), bd_of, if_neg (show ¬ nI 6 < 6 by decide)]
    rcases hs with e | e | e
    · rw [e, b01_f (ndg (by decide)), if_pos rfl, if_neg (show ¬ nI 33 = 40 by decide), if_pos (show nI 33 = 33 from rfl)]
    · rw [e, b01_f (ndg (by decide)), if_pos rfl, if_neg (show ¬ nI 45 = 40 by decide), if_neg (show ¬ nI 45 = 33 by decide), if_pos (show nI 45 = 45 from rfl)]
    · rw [e, b01_f (ndg (by decide)), if_pos rfl, if_pos (show nI 40 = 40 from rfl)]
theorem op_step (hb : byT T t) (ht : t ≤ 120) (hj : j ≤ 6) (H1 : j < 6 → OPR T t (j + 1) cro mro) (H2 : j < 6 → SUBR T t (j + 1) 0 crr mre) : OPR T t j (f_X2_operand_r13 cro crr) (f_X7_operand mro mre) := by
  intro a l act wth ha hl
  by_cases h33 : cc T t a = 33
  · by_cases q : j < 6
    · exact op_unary hb ht ha hl q (Or.inl h33) (H1 q)
    · exact op_full hb ht ha (by omega) (Or.inl h33)
  by_cases h45 : cc T t a = 45
  · by_cases q : j < 6
    · exact op_unary hb ht ha hl q (Or.inr h45) (H1 q)
    · exact op_full hb ht ha (by omega) (Or.inr (Or.inl h45))
  by_cases h40 : cc T t a = 40
  · by_cases q : j < 6
    · exact op_paren hb ht ha hl q h40 (H2 q)
    · exact op_full hb ht ha (by omega) (Or.inr (Or.inr h40))
  by_cases n0 : cc T t a = 100
  · exact op_name hb ht ha hl (k := 0) (by decide) (by rw [n0]; rfl) (by omega) (fun F => by unfold f_X2_named f_X2_named_b97; rw [n0, if_pos (show nI 100 = 100 from rfl), nI_1]) (ndg (by omega)) h40 h33 h45
  by_cases n3 : cc T t a = 106
  · exact op_name hb ht ha hl (k := 3) (by decide) (by rw [n3]; rfl) (by omega) (fun F => by unfold f_X2_named f_X2_named_b97; rw [n3, if_neg (by decide), if_pos (show nI 106 = 106 from rfl), nI_1]) (ndg (by omega)) h40 h33 h45
  by_cases n4 : cc T t a = 111
  · exact op_name hb ht ha hl (k := 4) (by decide) (by rw [n4]; rfl) (by omega) (fun F => by unfold f_X2_named f_X2_named_b97; rw [n4, if_neg (by decide), if_neg (by decide), if_pos (show nI 111 = 111 from rfl), nI_1]) (ndg (by omega)) h40 h33 h45
  by_cases n1 : cc T t a = 112
  · exact op_name hb ht ha hl (k := 1) (by decide) (by rw [n1]; rfl) (by omega) (fun F => by unfold f_X2_named f_X2_named_b97; rw [n1, if_neg (by decide), if_neg (by decide), if_neg (by decide), if_pos (show nI 112 = 112 from rfl), nI_1]) (ndg (by omega)) h40 h33 h45
  by_cases n2 : cc T t a = 121
  · exact op_name hb ht ha hl (k := 2) (by decide) (by rw [n2]; rfl) (by omega) (fun F => by unfold f_X2_named f_X2_named_b97; rw [n2, if_neg (by decide), if_neg (by decide), if_neg (by decide), if_neg (by decide), if_pos (show nI 121 = 121 from rfl), nI_1]) (ndg (by omega)) h40 h33 h45
  · refine op_num hb ht ha hl h40 h33 h45 ?_
    unfold nmc
    rw [if_neg n0, if_neg n3, if_neg n4, if_neg n1, if_neg n2]
theorem rk_five {rr : Int32 → Int32 → (Nat → Int32) → Int32 → Int32 → Int32 → Int32 → Int32 → Int32 → Int32 → Int32 → Option (Int32 × Int32 × Int32)} (H : OPR T t j cro mro) : SUBR T t j 5 (f_X2_ranked_r13 rr cro) mro := by
  intro a l act wth ha hl
  have e : (fun Tc F => f_X2_ranked_r13 rr cro (nI 5) (nI j) Tc (nI t) (nI a) (-1) (F 0) (F 1) (F 2) (F 3) (F 4)) = fun (Tc F : Nat → Int32) => cro (nI j) Tc (nI t) (nI a) (-1) (F 0) (F 1) (F 2) (F 3) (F 4) := by
    funext Tc F
    unfold f_X2_ranked_r13
    rw [if_neg (show ¬ nI 5 < 5 by decide)]
    cases cro (nI j) Tc (nI t) (nI a) (-1) (F 0) (F 1) (F 2) (F 3) (F 4) <;> rfl
  rw [e]
  exact H a l act wth ha hl
theorem SUBR_c {r : Nat} {rr : Int32 → Int32 → (Nat → Int32) → Int32 → Int32 → Int32 → Int32 → Int32 → Int32 → Int32 → Int32 → Option (Int32 × Int32 × Int32)} {m1 m2 : (Nat → Int32) → Int32 → Int32 → Int32 → Int32 → Int32 → (Nat → Int32) → (Nat → Int32) → Option (Int32 × Int32 × Int32 × Int32 × (Nat → Int32) × (Nat → Int32))} (h : SUBR T t j r rr m1) (e : ∀ (x1 x2 x3 x4 : Int32) (act wth : Nat → Int32), m2 T (nI t) x1 x2 x3 x4 act wth = m1 T (nI t) x1 x2 x3 x4 act wth) : SUBR T t j r rr m2 := by
  intro a l act wth ha hl
  rw [e]
  exact h a l act wth ha hl
theorem e_product (x1 x2 x3 x4 : Int32) (act wth : Nat → Int32) : f_X7_product mro T (nI t) x1 x2 x3 x4 act wth = bd (mro T (nI t) x1 x2 x3 x4 act wth) fun u => f_X7_product_b4 mro T (nI t) fuel u.1 u.2.1 u.2.2.1 u.2.2.2.1 u.2.2.2.2.1 u.2.2.2.2.2 := by unfold f_X7_product; rfl
theorem e_sum (x1 x2 x3 x4 : Int32) (act wth : Nat → Int32) : f_X7_sum mro T (nI t) x1 x2 x3 x4 act wth = bd (f_X7_product mro T (nI t) x1 x2 x3 x4 act wth) fun u => f_X7_sum_b4 mro T (nI t) fuel u.1 u.2.1 u.2.2.1 u.2.2.2.1 u.2.2.2.2.1 u.2.2.2.2.2 := by unfold f_X7_sum; rfl
theorem e_both (x1 x2 x3 x4 : Int32) (act wth : Nat → Int32) : f_X7_both mro T (nI t) x1 x2 x3 x4 act wth = bd (f_X7_compared mro T (nI t) x1 x2 x3 x4 act wth) fun u => f_X7_both_b4 mro T (nI t) fuel u.1 u.2.1 u.2.2.1 u.2.2.2.1 u.2.2.2.2.1 u.2.2.2.2.2 := by unfold f_X7_both; rfl
theorem e_either (x1 x2 x3 x4 : Int32) (act wth : Nat → Int32) : f_X7_either mro T (nI t) x1 x2 x3 x4 act wth = bd (f_X7_both mro T (nI t) x1 x2 x3 x4 act wth) fun u => f_X7_either_b4 mro T (nI t) fuel u.1 u.2.1 u.2.2.1 u.2.2.2.1 u.2.2.2.2.1 u.2.2.2.2.2 := by unfold f_X7_either; rfl
theorem rk_all (hb : byT T t) (ht : t ≤ 120) (H : OPR T t j cro mro) : SUBR T t j 0 (g_rk_r13 cro 7) (f_X7_either mro) := by
  have s5 : SUBR T t j 5 (f_X2_ranked_r13 (g_rk_r13 cro 1) cro) mro := rk_five (rr := g_rk_r13 cro 1) H
  have s4 : SUBR T t j 4 (f_X2_ranked_r13 (g_rk_r13 cro 2) cro) (f_X7_product mro) := SUBR_c (rk_gen (op := cro) (rr := g_rk_r13 cro 2) hb ht (by decide) (by decide) s5 (ch_product hb ht)) e_product
  have s3 : SUBR T t j 3 (f_X2_ranked_r13 (g_rk_r13 cro 3) cro) (f_X7_sum mro) := SUBR_c (rk_gen (op := cro) (rr := g_rk_r13 cro 3) hb ht (by decide) (by decide) s4 (ch_sum hb ht)) e_sum
  have s2 : SUBR T t j 2 (f_X2_ranked_r13 (g_rk_r13 cro 4) cro) (f_X7_compared mro) := ch_compared (op := cro) (rr := g_rk_r13 cro 4) hb ht s3
  have s1 : SUBR T t j 1 (f_X2_ranked_r13 (g_rk_r13 cro 5) cro) (f_X7_both mro) := SUBR_c (rk_gen (op := cro) (rr := g_rk_r13 cro 5) hb ht (by decide) (by decide) s2 (ch_both hb ht)) e_both
  exact SUBR_c (rk_gen (op := cro) (rr := g_rk_r13 cro 6) hb ht (by decide) (by decide) s1 (ch_either hb ht)) e_either
end OPSTEP
theorem op_all {T : Nat → Int32} {t : Nat} (hb : byT T t) (ht : t ≤ 120) : ∀ (n j : Nat), j ≤ 6 → 7 ≤ n + j → OPR T t j (g_op_r13 n) (g_mop n)
  | 0, j, h1, h2 => by omega
  | n + 1, j, h1, h2 => op_step hb ht h1 (fun h => op_all hb ht n (j + 1) (by omega) (by omega)) (fun h => rk_all hb ht (op_all hb ht n (j + 1) (by omega) (by omega)))
/-- a whole E -/
theorem s_E {T : Nat → Int32} {t : Nat} (hb : byT T t) (ht : t ≤ 120) : SUBR T t 0 0 t_ranked_r13 t_either := rk_all hb ht (op_all hb ht 8 0 (by decide) (by decide))
