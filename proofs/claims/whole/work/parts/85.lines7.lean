/-! lines, on both sides -/
theorem sh_tab : ∀ k, k < 131 → vp_nar .short (Int32.toInt16 (nI k)).toInt32 = nI k ∧ vp_nar .short (nI k) = nI k := by decide +kernel
/-- what counts of the lines -/
def Gv (F : Nat → Int32) : List (List (Int32 × Int32) × List (Int32 × Int32)) → Int32 → Prop
  | [], v => v = 0
  | (ct, cv) :: r, v => (ct.length = 0 ∧ Runs F cv v) ∨ (0 < ct.length ∧ ∃ x, Runs F ct x ∧ ((¬ x = 0 ∧ Runs F cv v) ∨ (x = 0 ∧ Gv F r v)))
/-- the lines in the rows -/
def LinesAt (act wth te le : Nat → Int32) (o : Nat) : Nat → Nat → List (List (Int32 × Int32) × List (Int32 × Int32)) → Prop
  | _, _, [] => True
  | k, b, (ct, cv) :: r => te k = nI (b + ct.length) ∧ segm act wth (o + b) ct ∧ segm act wth (o + (b + ct.length)) cv ∧ le k = nI (b + ct.length + cv.length) ∧ LinesAt act wth te le o (k + 1) (b + ct.length + cv.length) r
def lnl : List (List (Int32 × Int32) × List (Int32 × Int32)) → Nat
  | [] => 0
  | (ct, cv) :: r => ct.length + cv.length + lnl r
def wfl (ls : List (List (Int32 × Int32) × List (Int32 × Int32))) : Prop := ∀ s, s ∈ ls → wfc s.1 ∧ wfc s.2
theorem LinesAt_move {act wth te le act' wth' te' le' : Nat → Int32} {o : Nat} : ∀ (ls : List (List (Int32 × Int32) × List (Int32 × Int32))) (k b : Nat), (∀ i, i < b + lnl ls → act' (o + i) = act (o + i) ∧ wth' (o + i) = wth (o + i)) → (∀ i, i < k + ls.length → te' i = te i ∧ le' i = le i) → LinesAt act wth te le o k b ls → LinesAt act' wth' te' le' o k b ls
  | [], _, _, _, _, _ => trivial
  | (ct, cv) :: r, k, b, h1, h2, ⟨g1, g2, g3, g4, g5⟩ => by
    have e : lnl ((ct, cv) :: r) = ct.length + cv.length + lnl r := rfl
    rw [e] at h1
    rw [List.length_cons] at h2
    refine ⟨(h2 k (by omega)).1.trans g1, segm_move _ _ _ (fun i hi => ?_) g2, segm_move _ _ _ (fun i hi => ?_) g3, (h2 k (by omega)).2.trans g4, LinesAt_move r (k + 1) _ (fun i hi => h1 i (by omega)) (fun i hi => h2 i (by omega)) g5⟩
    · rw [Nat.add_assoc]
      exact h1 (b + i) (by omega)
    · rw [Nat.add_assoc]
      exact h1 (b + ct.length + i) (by omega)
theorem u1_0 {f : Nat → Int32} {x : Int32} : upd f 1 x 0 = f 0 := upd_ne (by decide)
section LINES7
variable {T : Nat → Int32} {t : Nat}
/-- the end of a line of the model -/
theorem s_b66 {q l : Nat} {h fl o : Int32} {act wth lm te le : Nat → Int32} (hq : q ≤ 60) (hl : l < 131) (hlm : lm 1 = nI q) : f_X7_line_b66 (nI (61 + q)) h fl o (nI l) act wth lm te le = some (h, fl, o, nI l, act, wth, upd lm 1 (nI (q + 1)), te, upd le (61 + q) (nI l)) := by
  unfold f_X7_line_b66
  rw [ix_nI (show 61 + q < 122 by omega) (by decide), cl_nI (by omega), (sh_tab l hl).1]
  have q1 : ∀ {α : Type} {k : Option α}, ix 1 2 k = k := ix_nI (i := 1) (by decide) (by decide)
  rw [q1, q1, show Int32.toNatClampNeg 1 = 1 by decide, hlm, nI_1]
/-- a line of the model and of the class, from a on -/
theorem one_line (hb : byT T t) (ht : t ≤ 120) {a l q : Nat} {act wth lm te le : Nat → Int32} (ha : a ≤ t) (hl : l ≤ a) (hq : q ≤ 60) (hlm : lm 1 = nI q) :
    (∃ (e : Nat) (ct cv : List (Int32 × Int32)) (act' wth' te' le' : Nat → Int32), a < e ∧ e ≤ t ∧ ct.length + cv.length + a ≤ e ∧ 0 < cv.length ∧ wfc ct ∧ wfc cv ∧ (∀ i, i < 130 + l → act' i = act i ∧ wth' i = wth i) ∧ (∀ i, i < 61 + q → te' i = te i ∧ le' i = le i) ∧
      te' (61 + q) = nI (l + ct.length) ∧ le' (61 + q) = nI (l + ct.length + cv.length) ∧ segm act' wth' (130 + l) ct ∧ segm act' wth' (130 + (l + ct.length)) cv ∧
      f_X7_line T (nI t) (nI a) (-1) (nI 0) (nI l) act wth lm te le = some (nI e, -1, nI 0, nI (l + ct.length + cv.length), act', wth', upd lm 1 (nI (q + 1)), te', le') ∧
      ∀ (Tc F : Nat → Int32), agr T Tc t → ∃ v, Runs F cv v ∧ ∃ x7 x9 : Int32, ((ct.length = 0 ∧ x9 = 0) ∨ (0 < ct.length ∧ ¬ x9 = 0 ∧ Runs F ct x7)) ∧ ∀ (kb : Nat → Int32 → Int32 → Int32 → Int32 → Int32 → Int32 → Option (Int32 × Nat × Int32 × Int32 × Int32)) (mk : Nat), KB kb mk Tc F t → ∀ (f x6 : Nat) (x3 x4 : Int32), x6 ≤ 120 → kb (f + 1) x3 x4 1 (nI x6) (nI a) (-1) = tl_ kb Tc t f x3 x4 (nI x6) x7 v x9 (nI e) (-1)) ∨
    (∃ (p h l' : Nat) (o' : Int32) (act' wth' te' le' lm' : Nat → Int32), p ≤ t ∧ lm' 0 = lm 0 ∧ (∀ i, i < 130 → act' i = act i ∧ wth' i = wth i) ∧ (∀ i, i < 61 → te' i = te i ∧ le' i = le i) ∧
      f_X7_line T (nI t) (nI a) (-1) (nI 0) (nI l) act wth lm te le = some (nI h, nI p, o', nI l', act', wth', lm', te', le') ∧
      ∀ (Tc F : Nat → Int32), agr T Tc t → ∀ (kb : Nat → Int32 → Int32 → Int32 → Int32 → Int32 → Int32 → Option (Int32 × Nat × Int32 × Int32 × Int32)) (mk : Nat), KB kb mk Tc F t → ∀ (f x6 : Nat) (x3 x4 : Int32), x6 ≤ 120 → ∃ x7 x8 x9 b fc, kb (f + 1) x3 x4 1 (nI x6) (nI a) (-1) = tl_ kb Tc t f x3 x4 (nI x6) x7 x8 x9 b fc ∧ Dead T t p b fc) := by
  have q1 : ∀ {α : Type} {k : Option α}, ix 1 2 k = k := ix_nI (i := 1) (by decide) (by decide)
  have e1 : Int32.toNatClampNeg 1 = 1 := by decide
  have e61 : (61 : Int32) + nI q = nI (61 + q) := by rw [show (61 : Int32) = nI 61 from rfl, nI_add]
  have hm : ∀ i, i < 61 + q → ∀ x, upd te (61 + q) x i = te i := fun i hi x => upd_ne (by omega)
  have hle : ∀ i, i < 61 + q → ∀ x, upd le (61 + q) x i = le i := fun i hi x => upd_ne (by omega)
  rcases s_E hb ht a l act wth ha hl with ⟨a1, code1, act1, wth1, h1, h2, h3, h4, h5, h6, h7, h8, h9⟩ | ⟨p, h, l1, o1, act1, wth1, h1, h2, h3, h4, h5, h6, h7⟩
  · have k63 : (nxv T t a1 = 63) = (cc T t a1 = 63) := nx_eq hb a1 63 (by decide)
    have l63 : (lkv T t a1 = 63) = (cc T t a1 = 63) := lk_eq hb a1 63 (by decide)
    have mod : f_X7_line T (nI t) (nI a) (-1) (nI 0) (nI l) act wth lm te le = if lkv T t a1 = 63 then bd (t_either T (nI t) (nI (a1 + 1)) (-1) (nI 0) (nI (l + code1.length)) act1 wth1) fun u11 => f_X7_line_b66 (nI (61 + q)) u11.1 u11.2.1 u11.2.2.1 u11.2.2.2.1 u11.2.2.2.2.1 u11.2.2.2.2.2 lm (upd (upd te (61 + q) (nI l)) (61 + q) (nI (l + code1.length))) le else f_X7_line_b66 (nI (61 + q)) (nI a1) (-1) (nI 0) (nI (l + code1.length)) act1 wth1 lm (upd te (61 + q) (nI l)) le := by
      unfold f_X7_line
      rw [q1, e1, hlm, e61, ix_nI (show 61 + q < 122 by omega) (by decide), cl_nI (by omega), h8, bd_of]
      dsimp only
      rw [if_neg (show ¬ (0 : Int32) ≤ -1 by decide), s_look ht h2, bd_of, ix_nI (show 61 + q < 122 by omega) (by decide), (sh_tab l (by omega)).1, (sh_tab (l + code1.length) (by omega)).1, nI_1]
    by_cases q63 : cc T t a1 = 63
    · have hlt1 := cc_lt hb (show cc T t a1 < 128 by omega)
      rw [if_pos (by rw [l63]; exact q63)] at mod
      have cls : ∀ (Tc F : Nat → Int32), agr T Tc t → ∀ u : Int32, t_ranked_r13 0 0 Tc (nI t) (nI a) (-1) (F 0) (F 1) (F 2) (F 3) (F 4) = some (u, nI a1, -1) → ∀ (kb : Nat → Int32 → Int32 → Int32 → Int32 → Int32 → Int32 → Option (Int32 × Nat × Int32 × Int32 × Int32)) (mk : Nat), KB kb mk Tc F t → ∀ (f x6 : Nat) (x3 x4 : Int32), x6 ≤ 120 → kb (f + 1) x3 x4 1 (nI x6) (nI a) (-1) = bd (t_ranked_r13 0 0 Tc (nI t) (nI (a1 + 1)) (-1) (F 0) (F 1) (F 2) (F 3) (F 4)) fun u15 => tl_ kb Tc t f x3 x4 (nI x6) u u15.1 1 u15.2.1 u15.2.2 := by
        intro Tc F hA u hu kb mk hk f x6 x3 x4 h6
        rw [hk.1 f x6 x3 x4 _ h6, hu, bd_of]
        dsimp only
        rw [s_next ht h2 hA, bd_of, if_pos (by rw [k63]; exact q63), nI_1]
      rcases s_E hb ht (a1 + 1) (l + code1.length) act1 wth1 (by omega) (by omega) with ⟨a2, code2, act2, wth2, g1, g2, g3, g4, g5, g6, g7, g8, g9⟩ | ⟨p, h, l2, o2, act2, wth2, g1, g2, g3, g4, g5, g6, g7⟩
      · refine Or.inl ⟨a2, code1, code2, act2, wth2, upd (upd te (61 + q) (nI l)) (61 + q) (nI (l + code1.length)), upd le (61 + q) (nI (l + code1.length + code2.length)), by omega, g2, by omega, g4, h5, g5, fun i hi => ?_, fun i hi => ?_, upd_eq (α := Nat), upd_eq (α := Nat), segm_move _ _ _ (fun i hi => g6 (130 + l + i) (by omega)) h7, g7, ?_, fun Tc F hA => ?_⟩
        · have x1 := g6 i (by omega)
          have x2 := h6 i hi
          exact ⟨x1.1.trans x2.1, x1.2.trans x2.2⟩
        · exact ⟨by rw [upd_ne (by omega), hm i hi], hle i hi _⟩
        · rw [mod, g8, bd_of]
          dsimp only
          rw [s_b66 hq (by omega) hlm]
        · obtain ⟨u, k1, k2⟩ := h9 Tc F hA
          obtain ⟨u2, k3, k4⟩ := g9 Tc F hA
          refine ⟨u2, k4, u, 1, Or.inr ⟨h4, by decide, k2⟩, fun kb mk hk f x6 x3 x4 h6 => ?_⟩
          have k3' : t_ranked_r13 0 0 Tc (nI t) (nI (a1 + 1)) (-1) (F 0) (F 1) (F 2) (F 3) (F 4) = some (u2, nI a2, -1) := k3
          rw [cls Tc F hA u k1 kb mk hk f x6 x3 x4 h6, k3', bd_of]
      · refine Or.inr ⟨p, h, l2, o2, act2, wth2, upd (upd te (61 + q) (nI l)) (61 + q) (nI (l + code1.length)), upd le (61 + q) (nI l2), upd lm 1 (nI (q + 1)), g1, u1_0, fun i hi => ?_, fun i hi => ?_, ?_, fun Tc F hA kb mk hk f x6 x3 x4 h6 => ?_⟩
        · have x1 := g5 i hi
          have x2 := h6 i (by omega)
          exact ⟨x1.1.trans x2.1, x1.2.trans x2.2⟩
        · exact ⟨by rw [upd_ne (by omega), hm i (by omega)], hle i (by omega) _⟩
        · rw [mod, g6, bd_of]
          dsimp only
          rw [s_b66 hq (by omega) hlm]
        · obtain ⟨u, k1, k2⟩ := h9 Tc F hA
          obtain ⟨u2, b, fc, k3, k4⟩ := g7 Tc F hA
          have k3' : t_ranked_r13 0 0 Tc (nI t) (nI (a1 + 1)) (-1) (F 0) (F 1) (F 2) (F 3) (F 4) = some (u2, b, fc) := k3
          refine ⟨u, u2, 1, b, fc, ?_, k4⟩
          rw [cls Tc F hA u k1 kb mk hk f x6 x3 x4 h6, k3', bd_of]
    · rw [if_neg (by rw [l63]; exact q63)] at mod
      refine Or.inl ⟨a1, [], code1, act1, wth1, upd te (61 + q) (nI l), upd le (61 + q) (nI (l + code1.length)), h1, h2, by rw [List.length_nil]; omega, h4, wfc_nil, h5, h6, fun i hi => ⟨hm i hi _, hle i hi _⟩, upd_eq (α := Nat), upd_eq (α := Nat), trivial, h7, ?_, fun Tc F hA => ?_⟩
      · rw [mod, s_b66 hq (by omega) hlm]
        rfl
      · obtain ⟨u, k1, k2⟩ := h9 Tc F hA
        refine ⟨u, k2, u, 0, Or.inl ⟨rfl, rfl⟩, fun kb mk hk f x6 x3 x4 h6 => ?_⟩
        have k1' : t_ranked_r13 0 0 Tc (nI t) (nI a) (-1) (F 0) (F 1) (F 2) (F 3) (F 4) = some (u, nI a1, -1) := k1
        rw [hk.1 f x6 x3 x4 _ h6, k1', bd_of]
        dsimp only
        rw [s_next ht h2 hA, bd_of, if_neg (by rw [k63]; exact q63)]
  · have mod : f_X7_line T (nI t) (nI a) (-1) (nI 0) (nI l) act wth lm te le = f_X7_line_b66 (nI (61 + q)) (nI h) (nI p) o1 (nI l1) act1 wth1 lm (upd te (61 + q) (nI l)) le := by
      unfold f_X7_line
      rw [q1, e1, hlm, e61, ix_nI (show 61 + q < 122 by omega) (by decide), cl_nI (by omega), h6, bd_of]
      dsimp only
      rw [if_pos (nI_0le (by omega)), (sh_tab l (by omega)).1]
    refine Or.inr ⟨p, h, l1, o1, act1, wth1, upd te (61 + q) (nI l), upd le (61 + q) (nI l1), upd lm 1 (nI (q + 1)), h1, u1_0, h5, fun i hi => ⟨hm i (by omega) _, hle i (by omega) _⟩, ?_, fun Tc F hA kb mk hk f x6 x3 x4 h6' => ?_⟩
    · rw [mod, s_b66 hq (by omega) hlm]
    · obtain ⟨u, b, fc, k1, k2⟩ := h7 Tc F hA
      obtain ⟨c, c1, -, -, -, c2⟩ := dead_next hb ht h1 hA k2
      refine ⟨u, u, 0, b, fc, ?_, k2⟩
      have k1' : t_ranked_r13 0 0 Tc (nI t) (nI a) (-1) (F 0) (F 1) (F 2) (F 3) (F 4) = some (u, b, fc) := k1
      rw [hk.1 f x6 x3 x4 _ h6', k1', bd_of]
      dsimp only
      rw [c1, bd_of, if_neg c2]
end LINES7
