section CT21_m11
variable {l : Launch} {D : va_G} {q : Nat → ClassId} {ρ : Nat → Nat} {sz : Nat} {M_code : Int32} {M_doors : Int32} {M_price : Nat → Int32} {M_year : Nat → Int32} {M_joins : Int32} {M_joinA : Nat → Int32} {M_joinB : Nat → Int32} {M_walls : Int32} {M_wallA : Nat → Int32} {M_wallB : Nat → Int32} {M_cost : Nat → Int32} {M_olds : Int32} {M_near : Int32} {M_doneMany : Int32} {M_undoneMany : Int32} {M_changeOf : Nat → Int32} {M_changeAt : Nat → Int32} {M_before : Nat → Int32} {M_behind : Nat → Int32} {M_tape : Nat → Int32} {M_taped : Int32} {M_here : Int32} {M_fault : Int32} {M_open : Int32} {M_laid : Int32} {M_act : Nat → Int32} {M_with : Nat → Int32} {M_lineMany : Nat → Int32} {M_testEnd : Nat → Int32} {M_lineEnd : Nat → Int32} {M_facts : Nat → Int32} {M_pile : Nat → Int32} {M_hasLaw : Int32} {M_far : Nat → Int32} {M_within : Nat → Int32} {M_tooNear : Nat → Int32} {M_dried : Int32} {M_isOn : Nat → Int32} {M_wasOn : Nat → Int32} {M_bodies : Int32} {M_kind : Nat → Int32} {M_traces : Int32} {M_traced : Nat → Int32} {M_holds : Nat → Int32} {M_size : Nat → Int32} {M_elements : Nat → Int64} {M_shifted : Nat → Int64}
set_option maxHeartbeats 4000000 in
set_option maxRecDepth 100000 in
theorem c_X7_comesFrom {a1 : Int32} {d : Nat} {res : Int32} (hd : 0 ≤ d) (h : f_X7_comesFrom a1 M_wasOn = some res) : zMi l yX7_comesFrom cX7_comesFrom 3 .boolean (zrm d) [.ref (ρ 0), .int a1] D q (WM q ρ M_code M_doors M_price M_year M_joins M_joinA M_joinB M_walls M_wallA M_wallB M_cost M_olds M_near M_doneMany M_undoneMany M_changeOf M_changeAt M_before M_behind M_tape M_taped M_here M_fault M_open M_laid M_act M_with M_lineMany M_testEnd M_lineEnd M_facts M_pile M_hasLaw M_far M_within M_tooNear M_dried M_isOn M_wasOn M_bodies M_kind M_traces M_traced M_holds M_size M_elements M_shifted) sz res (WM q ρ M_code M_doors M_price M_year M_joins M_joinA M_joinB M_walls M_wallA M_wallB M_cost M_olds M_near M_doneMany M_undoneMany M_changeOf M_changeAt M_before M_behind M_tape M_taped M_here M_fault M_open M_laid M_act M_with M_lineMany M_testEnd M_lineEnd M_facts M_pile M_hasLaw M_far M_within M_tooNear M_dried M_isOn M_wasOn M_bodies M_kind M_traces M_traced M_holds M_size M_elements M_shifted) := by
  refine zMet_i (own := RX7) _ (by decide) rfl (Nat.le_of_ble_eq_true rfl) ?_
  intro p e s m args below meth c A ls Q hC hW hl hret
  have hx := hC.1
  have hb := hC.2.1
  have hl : lv_has ls 3 [(0, .ref (ρ 0)), (1, .int a1)] := hl
  have b2 : ∀ {x1 : Int32} {n : Nat} {x2 : Int32} {H : Heap} {locs : List Loc} {ls : Array Slot}, f_X7_comesFrom_b2 x1 M_wasOn n x2 = some res → zW D A s.heap (WM q ρ M_code M_doors M_price M_year M_joins M_joinA M_joinB M_walls M_wallA M_wallB M_cost M_olds M_near M_doneMany M_undoneMany M_changeOf M_changeAt M_before M_behind M_tape M_taped M_here M_fault M_open M_laid M_act M_with M_lineMany M_testEnd M_lineEnd M_facts M_pile M_hasLaw M_far M_within M_tooNear M_dried M_isOn M_wasOn M_bodies M_kind M_traces M_traced M_holds M_size M_elements M_shifted) H locs → lv_has ls 3 [(0, .ref (ρ 0)), (1, .int x1), (2, .int x2)] → W p l e (zrm d) s m args below meth c H locs 0 0 Q (F0 m 2 ls []) := by
    intro x1
    intro n
    induction n with
    | zero =>
      intro x2 H locs ls h
      rw [f_X7_comesFrom_b2] at h
      cases h
    | succ n ih =>
      intro x2 H locs ls h hW hl
      rw [f_X7_comesFrom_b2] at h
      refine lv_iload_n hx hb dX7_comesFrom_2 rfl (lv_at hl 2 rfl) ?_
      refine lv_if_le (tgt := 26) hx hb dX7_comesFrom_3 (by decide) (fun c1 => ?_) (fun c1 => ?_)
      · have h := ifp c1 h
        refine lv_aload_n hx hb dX7_comesFrom_26 rfl (lv_at hl 0 rfl) ?_
        refine z_get hC hW fg_X7_86 0 WM_0 rfl dX7_comesFrom_27 ?_
        refine lv_iconst (v := 0) hx hb dX7_comesFrom_30 (by decide) ?_
        obtain ⟨g2, h⟩ := ix_some h
        refine z_zald hC hW 24 WM_24 g2 dX7_comesFrom_31 ?_
        obtain ⟨g3, h⟩ := bz_some h
        have h := Option.some.inj h
        subst h
        exact hret _ _ _ _ _ dX7_comesFrom_32 rfl g3 hW
      · have h := ifn c1 h
        refine lv_aload_n hx hb dX7_comesFrom_6 rfl (lv_at hl 0 rfl) ?_
        refine z_get hC hW fg_X7_86 0 WM_0 rfl dX7_comesFrom_7 ?_
        refine lv_iload_n hx hb dX7_comesFrom_10 rfl (lv_at hl 2 rfl) ?_
        obtain ⟨g4, h⟩ := ix_some h
        refine z_zald hC hW 24 WM_24 g4 dX7_comesFrom_11 ?_
        refine lv_if_eq (tgt := 17) hx hb dX7_comesFrom_12 (by decide) (fun c5 => ?_) (fun c5 => ?_)
        · have h := ifp c5 h
          refine lv_iload_n hx hb dX7_comesFrom_17 rfl (lv_at hl 2 rfl) ?_
          refine lv_iconst (v := 1) hx hb dX7_comesFrom_18 (by decide) ?_
          refine lv_isub hx hb dX7_comesFrom_19 ?_
          refine lv_iload_n hx hb dX7_comesFrom_20 rfl (lv_at hl 1 rfl) ?_
          refine lv_iand hx hb dX7_comesFrom_21 ?_
          refine lv_istore_n (lv' := [(2, .int ((x2 - 1) &&& x1)), (0, .ref (ρ 0)), (1, .int x1)]) hx hb dX7_comesFrom_22 rfl hl (by decide) rfl (fun ls hl => ?_)
          refine lv_goto (tgt := 2) hx hb dX7_comesFrom_23 (by decide) ?_
          exact ih h hW (lv_sub hl [1, 2, 0] rfl)
        · have h := ifn c5 h
          refine lv_iconst (v := 1) hx hb dX7_comesFrom_15 (by decide) ?_
          have h := Option.some.inj h
          subst h
          exact hret _ _ _ _ _ dX7_comesFrom_16 rfl rfl hW
  unfold f_X7_comesFrom at h
  refine lv_iload_n hx hb dX7_comesFrom_0 rfl (lv_at hl 1 rfl) ?_
  refine lv_istore_n (lv' := [(2, .int a1), (0, .ref (ρ 0)), (1, .int a1)]) hx hb dX7_comesFrom_1 rfl hl (by decide) rfl (fun ls hl => ?_)
  exact b2 h hW (lv_sub hl [1, 2, 0] rfl)
set_option maxHeartbeats 4000000 in
set_option maxRecDepth 100000 in
theorem c_X7_grow {d : Nat} {res : Int32 × (Nat → Int32) × (Nat → Int32) × (Nat → Int32) × (Nat → Int32) × (Nat → Int32) × (Nat → Int32) × (Nat → Int32)} (hd : 5 ≤ d) (h : f_X7_grow M_doors M_price M_year M_joins M_joinA M_joinB M_olds M_near M_act M_with M_lineMany M_testEnd M_lineEnd M_facts M_pile M_hasLaw M_far M_within M_tooNear M_dried M_isOn M_wasOn = some res) : zMi l yX7_grow cX7_grow 4 .int (zrm d) [.ref (ρ 0)] D q (WM q ρ M_code M_doors M_price M_year M_joins M_joinA M_joinB M_walls M_wallA M_wallB M_cost M_olds M_near M_doneMany M_undoneMany M_changeOf M_changeAt M_before M_behind M_tape M_taped M_here M_fault M_open M_laid M_act M_with M_lineMany M_testEnd M_lineEnd M_facts M_pile M_hasLaw M_far M_within M_tooNear M_dried M_isOn M_wasOn M_bodies M_kind M_traces M_traced M_holds M_size M_elements M_shifted) sz res.1 (WM q ρ M_code M_doors M_price M_year M_joins M_joinA M_joinB M_walls M_wallA M_wallB M_cost M_olds M_near M_doneMany M_undoneMany M_changeOf M_changeAt M_before M_behind M_tape M_taped M_here M_fault M_open M_laid M_act M_with M_lineMany M_testEnd M_lineEnd res.2.1 res.2.2.1 M_hasLaw res.2.2.2.1 res.2.2.2.2.1 res.2.2.2.2.2.1 M_dried res.2.2.2.2.2.2.1 res.2.2.2.2.2.2.2 M_bodies M_kind M_traces M_traced M_holds M_size M_elements M_shifted) := by
  refine zMet_i (own := RX7) _ (by decide) rfl (Nat.le_of_ble_eq_true rfl) ?_
  intro p e s m args below meth c A ls Q hC hW hl hret
  have hx := hC.1
  have hb := hC.2.1
  have hl : lv_has ls 4 [(0, .ref (ρ 0))] := hl
  have b214 : ∀ {x1 : Int32} {x2 : Int32} {M_facts : Nat → Int32} {M_pile : Nat → Int32} {M_far : Nat → Int32} {M_within : Nat → Int32} {M_tooNear : Nat → Int32} {M_isOn : Nat → Int32} {M_wasOn : Nat → Int32} {k180 : Int32 → Int32 → Option (Int32 × (Nat → Int32) × (Nat → Int32) × (Nat → Int32) × (Nat → Int32) × (Nat → Int32) × (Nat → Int32) × (Nat → Int32))} (hk180 : ∀ {x1 : Int32} {x2 : Int32} {H : Heap} {locs : List Loc} {ls : Array Slot}, k180 x1 x2 = some res → zW D A s.heap (WM q ρ M_code M_doors M_price M_year M_joins M_joinA M_joinB M_walls M_wallA M_wallB M_cost M_olds M_near M_doneMany M_undoneMany M_changeOf M_changeAt M_before M_behind M_tape M_taped M_here M_fault M_open M_laid M_act M_with M_lineMany M_testEnd M_lineEnd M_facts M_pile M_hasLaw M_far M_within M_tooNear M_dried M_isOn M_wasOn M_bodies M_kind M_traces M_traced M_holds M_size M_elements M_shifted) H locs → lv_has ls 4 [(0, .ref (ρ 0)), (1, .int x1), (2, .int x2)] → W p l e (zrm d) s m args below meth c H locs 0 0 Q (F0 m 180 ls [])) {H : Heap} {locs : List Loc} {ls : Array Slot}, f_X7_grow_b214 k180 x1 x2 M_doors M_facts M_pile M_far M_within M_tooNear M_isOn M_wasOn = some res → zW D A s.heap (WM q ρ M_code M_doors M_price M_year M_joins M_joinA M_joinB M_walls M_wallA M_wallB M_cost M_olds M_near M_doneMany M_undoneMany M_changeOf M_changeAt M_before M_behind M_tape M_taped M_here M_fault M_open M_laid M_act M_with M_lineMany M_testEnd M_lineEnd M_facts M_pile M_hasLaw M_far M_within M_tooNear M_dried M_isOn M_wasOn M_bodies M_kind M_traces M_traced M_holds M_size M_elements M_shifted) H locs → lv_has ls 4 [(0, .ref (ρ 0)), (1, .int x1), (2, .int x2)] → W p l e (zrm d) s m args below meth c H locs 0 0 Q (F0 m 214 ls []) := by
    intro x1 x2 M_facts M_pile M_far M_within M_tooNear M_isOn M_wasOn k180 hk180 H locs ls h hW hl
    unfold f_X7_grow_b214 at h
    refine lv_iinc (v := (x2 + 1)) (lv' := [(2, .int (x2 + 1)), (0, .ref (ρ 0)), (1, .int x1)]) hx hb dX7_grow_214 hl (k := 2) rfl rfl (by decide) rfl (fun ls hl => ?_)
    refine lv_goto (tgt := 180) hx hb dX7_grow_217 (by decide) ?_
    exact hk180 h hW (lv_sub hl [1, 2, 0] rfl)
  have b212 : ∀ {x2 : Int32} {M_facts : Nat → Int32} {M_pile : Nat → Int32} {M_far : Nat → Int32} {M_within : Nat → Int32} {M_tooNear : Nat → Int32} {M_isOn : Nat → Int32} {M_wasOn : Nat → Int32} {k180 : Int32 → Int32 → Option (Int32 × (Nat → Int32) × (Nat → Int32) × (Nat → Int32) × (Nat → Int32) × (Nat → Int32) × (Nat → Int32) × (Nat → Int32))} (hk180 : ∀ {x1 : Int32} {x2 : Int32} {H : Heap} {locs : List Loc} {ls : Array Slot}, k180 x1 x2 = some res → zW D A s.heap (WM q ρ M_code M_doors M_price M_year M_joins M_joinA M_joinB M_walls M_wallA M_wallB M_cost M_olds M_near M_doneMany M_undoneMany M_changeOf M_changeAt M_before M_behind M_tape M_taped M_here M_fault M_open M_laid M_act M_with M_lineMany M_testEnd M_lineEnd M_facts M_pile M_hasLaw M_far M_within M_tooNear M_dried M_isOn M_wasOn M_bodies M_kind M_traces M_traced M_holds M_size M_elements M_shifted) H locs → lv_has ls 4 [(0, .ref (ρ 0)), (1, .int x1), (2, .int x2)] → W p l e (zrm d) s m args below meth c H locs 0 0 Q (F0 m 180 ls [])) {H : Heap} {locs : List Loc} {ls : Array Slot}, f_X7_grow_b212 k180 x2 M_doors M_facts M_pile M_far M_within M_tooNear M_isOn M_wasOn = some res → zW D A s.heap (WM q ρ M_code M_doors M_price M_year M_joins M_joinA M_joinB M_walls M_wallA M_wallB M_cost M_olds M_near M_doneMany M_undoneMany M_changeOf M_changeAt M_before M_behind M_tape M_taped M_here M_fault M_open M_laid M_act M_with M_lineMany M_testEnd M_lineEnd M_facts M_pile M_hasLaw M_far M_within M_tooNear M_dried M_isOn M_wasOn M_bodies M_kind M_traces M_traced M_holds M_size M_elements M_shifted) H locs → lv_has ls 4 [(0, .ref (ρ 0)), (2, .int x2)] → W p l e (zrm d) s m args below meth c H locs 0 0 Q (F0 m 212 ls []) := by
    intro x2 M_facts M_pile M_far M_within M_tooNear M_isOn M_wasOn k180 hk180 H locs ls h hW hl
    unfold f_X7_grow_b212 at h
    refine lv_iload_n hx hb dX7_grow_212 rfl (lv_at hl 1 rfl) ?_
    refine lv_istore_n (lv' := [(1, .int x2), (0, .ref (ρ 0)), (2, .int x2)]) hx hb dX7_grow_213 rfl hl (by decide) rfl (fun ls hl => ?_)
    exact b214 hk180 h hW (lv_sub hl [1, 0, 2] rfl)
  have b180 : ∀ {M_facts : Nat → Int32} {M_pile : Nat → Int32} {M_far : Nat → Int32} {M_within : Nat → Int32} {M_tooNear : Nat → Int32} {M_isOn : Nat → Int32} {M_wasOn : Nat → Int32} {n : Nat} {x1 : Int32} {x2 : Int32} {H : Heap} {locs : List Loc} {ls : Array Slot}, f_X7_grow_b180 M_doors M_facts M_pile M_far M_within M_tooNear M_isOn M_wasOn n x1 x2 = some res → zW D A s.heap (WM q ρ M_code M_doors M_price M_year M_joins M_joinA M_joinB M_walls M_wallA M_wallB M_cost M_olds M_near M_doneMany M_undoneMany M_changeOf M_changeAt M_before M_behind M_tape M_taped M_here M_fault M_open M_laid M_act M_with M_lineMany M_testEnd M_lineEnd M_facts M_pile M_hasLaw M_far M_within M_tooNear M_dried M_isOn M_wasOn M_bodies M_kind M_traces M_traced M_holds M_size M_elements M_shifted) H locs → lv_has ls 4 [(0, .ref (ρ 0)), (1, .int x1), (2, .int x2)] → W p l e (zrm d) s m args below meth c H locs 0 0 Q (F0 m 180 ls []) := by
    intro M_facts M_pile M_far M_within M_tooNear M_isOn M_wasOn
    intro n
    induction n with
    | zero =>
      intro x1 x2 H locs ls h
      rw [f_X7_grow_b180] at h
      cases h
    | succ n ih =>
      intro x1 x2 H locs ls h hW hl
      rw [f_X7_grow_b180] at h
      refine lv_iload_n hx hb dX7_grow_180 rfl (lv_at hl 2 rfl) ?_
      refine lv_aload_n hx hb dX7_grow_181 rfl (lv_at hl 0 rfl) ?_
      obtain ⟨u4, eu4, h⟩ := bd_some h
      refine z_callV_i hC hW (rest := [.int x2]) (c_X7_allDoors (d := 0) (Nat.le_refl _) eu4) vw_X7_248 WM_0 rfl ⟨rfl, rfl⟩ (zrm_ok (by omega) (by decide)) rfl rfl hl.1 (Nat.le_of_ble_eq_true rfl) dX7_grow_182 (fun H locs hW => ?_)
      refine lv_icmp_gt (tgt := 220) hx hb dX7_grow_185 (by decide) (fun c5 => ?_) (fun c5 => ?_)
      · have h := ifp c5 h
        refine lv_iload_n hx hb dX7_grow_220 rfl (lv_at hl 1 rfl) ?_
        have h := Option.some.inj h
        subst h
        exact hret _ _ _ _ _ dX7_grow_221 rfl rfl hW
      · have h := ifn c5 h
        refine lv_aload_n hx hb dX7_grow_188 rfl (lv_at hl 0 rfl) ?_
        refine z_get hC hW fg_X7_82 0 WM_0 rfl dX7_grow_189 ?_
        refine lv_iload_n hx hb dX7_grow_192 rfl (lv_at hl 2 rfl) ?_
        obtain ⟨g6, h⟩ := ix_some h
        refine z_zald hC hW 23 WM_23 g6 dX7_grow_193 ?_
        refine lv_if_eq (tgt := 214) hx hb dX7_grow_194 (by decide) (fun c7 => ?_) (fun c7 => ?_)
        · have h := ifp c7 h
          exact b214 ih h hW (lv_sub hl [0, 1, 2] rfl)
        · have h := ifn c7 h
          refine lv_iload_n hx hb dX7_grow_197 rfl (lv_at hl 1 rfl) ?_
          refine lv_if_lt (tgt := 212) hx hb dX7_grow_198 (by decide) (fun c8 => ?_) (fun c8 => ?_)
          · have h := ifp c8 h
            exact b212 ih h hW (lv_sub hl [0, 2] rfl)
          · have h := ifn c8 h
            refine lv_iload_n hx hb dX7_grow_201 rfl (lv_at hl 2 rfl) ?_
            obtain ⟨u9, eu9, h⟩ := bd_some h
            refine z_callS_i hC hW (rest := []) (c_X7_bitsOf (d := 0) (Nat.le_refl _) eu9) sw_X7_264 ⟨rfl, rfl⟩ (zrm_ok (by omega) (by decide)) rfl rfl hl.1 (Nat.le_of_ble_eq_true rfl) dX7_grow_202 (fun H locs hW => ?_)
            refine lv_iload_n hx hb dX7_grow_205 rfl (lv_at hl 1 rfl) ?_
            obtain ⟨u10, eu10, h⟩ := bd_some h
            refine z_callS_i hC hW (rest := [.int u9]) (c_X7_bitsOf (d := 0) (Nat.le_refl _) eu10) sw_X7_264 ⟨rfl, rfl⟩ (zrm_ok (by omega) (by decide)) rfl rfl hl.1 (Nat.le_of_ble_eq_true rfl) dX7_grow_206 (fun H locs hW => ?_)
            refine lv_icmp_ge (tgt := 214) hx hb dX7_grow_209 (by decide) (fun c11 => ?_) (fun c11 => ?_)
            · have h := ifp c11 h
              exact b214 ih h hW (lv_sub hl [0, 1, 2] rfl)
            · have h := ifn c11 h
              exact b212 ih h hW (lv_sub hl [0, 2] rfl)
  have b162 : ∀ {x1 : Int32} {x2 : Int32} {x3 : Int32} {s0 : Int32} {s1 : Int32} {M_facts : Nat → Int32} {M_pile : Nat → Int32} {M_far : Nat → Int32} {M_within : Nat → Int32} {M_tooNear : Nat → Int32} {M_isOn : Nat → Int32} {M_wasOn : Nat → Int32} {k44 : Int32 → (Nat → Int32) → (Nat → Int32) → (Nat → Int32) → (Nat → Int32) → (Nat → Int32) → (Nat → Int32) → (Nat → Int32) → Option (Int32 × (Nat → Int32) × (Nat → Int32) × (Nat → Int32) × (Nat → Int32) × (Nat → Int32) × (Nat → Int32) × (Nat → Int32))} (hk44 : ∀ {x1 : Int32} {M_facts : Nat → Int32} {M_pile : Nat → Int32} {M_far : Nat → Int32} {M_within : Nat → Int32} {M_tooNear : Nat → Int32} {M_isOn : Nat → Int32} {M_wasOn : Nat → Int32} {H : Heap} {locs : List Loc} {ls : Array Slot}, k44 x1 M_facts M_pile M_far M_within M_tooNear M_isOn M_wasOn = some res → zW D A s.heap (WM q ρ M_code M_doors M_price M_year M_joins M_joinA M_joinB M_walls M_wallA M_wallB M_cost M_olds M_near M_doneMany M_undoneMany M_changeOf M_changeAt M_before M_behind M_tape M_taped M_here M_fault M_open M_laid M_act M_with M_lineMany M_testEnd M_lineEnd M_facts M_pile M_hasLaw M_far M_within M_tooNear M_dried M_isOn M_wasOn M_bodies M_kind M_traces M_traced M_holds M_size M_elements M_shifted) H locs → lv_has ls 4 [(0, .ref (ρ 0)), (1, .int x1)] → W p l e (zrm d) s m args below meth c H locs 0 0 Q (F0 m 44 ls [])) {k90 : Int32 → (Nat → Int32) → Option (Int32 × (Nat → Int32) × (Nat → Int32) × (Nat → Int32) × (Nat → Int32) × (Nat → Int32) × (Nat → Int32) × (Nat → Int32))} (hk90 : ∀ {x3 : Int32} {M_isOn : Nat → Int32} {H : Heap} {locs : List Loc} {ls : Array Slot}, k90 x3 M_isOn = some res → zW D A s.heap (WM q ρ M_code M_doors M_price M_year M_joins M_joinA M_joinB M_walls M_wallA M_wallB M_cost M_olds M_near M_doneMany M_undoneMany M_changeOf M_changeAt M_before M_behind M_tape M_taped M_here M_fault M_open M_laid M_act M_with M_lineMany M_testEnd M_lineEnd M_facts M_pile M_hasLaw M_far M_within M_tooNear M_dried M_isOn M_wasOn M_bodies M_kind M_traces M_traced M_holds M_size M_elements M_shifted) H locs → lv_has ls 4 [(0, .ref (ρ 0)), (1, .int x1), (2, .int x2), (3, .int x3)] → W p l e (zrm d) s m args below meth c H locs 0 0 Q (F0 m 90 ls [])) {H : Heap} {locs : List Loc} {ls : Array Slot}, f_X7_grow_b162 k44 k90 x1 x2 x3 s0 s1 M_doors M_price M_year M_joins M_joinA M_joinB M_olds M_near M_act M_with M_lineMany M_testEnd M_lineEnd M_facts M_pile M_hasLaw M_far M_within M_tooNear M_dried M_isOn M_wasOn = some res → zW D A s.heap (WM q ρ M_code M_doors M_price M_year M_joins M_joinA M_joinB M_walls M_wallA M_wallB M_cost M_olds M_near M_doneMany M_undoneMany M_changeOf M_changeAt M_before M_behind M_tape M_taped M_here M_fault M_open M_laid M_act M_with M_lineMany M_testEnd M_lineEnd M_facts M_pile M_hasLaw M_far M_within M_tooNear M_dried M_isOn M_wasOn M_bodies M_kind M_traces M_traced M_holds M_size M_elements M_shifted) H locs → lv_has ls 4 [(0, .ref (ρ 0)), (1, .int x1), (2, .int x2), (3, .int x3)] → W p l e (zrm d) s m args below meth c H locs 0 0 Q (F0 m 162 ls [.int s0, .int s1, .ref (ρ 23)]) := by
    intro x1 x2 x3 s0 s1 M_facts M_pile M_far M_within M_tooNear M_isOn M_wasOn k44 hk44 k90 hk90 H locs ls h hW hl
    unfold f_X7_grow_b162 at h
    obtain ⟨g18, h⟩ := ix_some h
    refine z_zast hC hW 23 WM_23 g18 WMs_M_isOn dX7_grow_162 (fun H locs hW => ?_)
    refine lv_iinc (v := (x3 + 1)) (lv' := [(3, .int (x3 + 1)), (0, .ref (ρ 0)), (1, .int x1), (2, .int x2)]) hx hb dX7_grow_163 hl (k := 3) rfl rfl (by decide) rfl (fun ls hl => ?_)
    refine lv_goto (tgt := 90) hx hb dX7_grow_166 (by decide) ?_
    exact hk90 h hW (lv_sub hl [1, 2, 3, 0] rfl)
  have b161 : ∀ {x1 : Int32} {x2 : Int32} {x3 : Int32} {s0 : Int32} {M_facts : Nat → Int32} {M_pile : Nat → Int32} {M_far : Nat → Int32} {M_within : Nat → Int32} {M_tooNear : Nat → Int32} {M_isOn : Nat → Int32} {M_wasOn : Nat → Int32} {k44 : Int32 → (Nat → Int32) → (Nat → Int32) → (Nat → Int32) → (Nat → Int32) → (Nat → Int32) → (Nat → Int32) → (Nat → Int32) → Option (Int32 × (Nat → Int32) × (Nat → Int32) × (Nat → Int32) × (Nat → Int32) × (Nat → Int32) × (Nat → Int32) × (Nat → Int32))} (hk44 : ∀ {x1 : Int32} {M_facts : Nat → Int32} {M_pile : Nat → Int32} {M_far : Nat → Int32} {M_within : Nat → Int32} {M_tooNear : Nat → Int32} {M_isOn : Nat → Int32} {M_wasOn : Nat → Int32} {H : Heap} {locs : List Loc} {ls : Array Slot}, k44 x1 M_facts M_pile M_far M_within M_tooNear M_isOn M_wasOn = some res → zW D A s.heap (WM q ρ M_code M_doors M_price M_year M_joins M_joinA M_joinB M_walls M_wallA M_wallB M_cost M_olds M_near M_doneMany M_undoneMany M_changeOf M_changeAt M_before M_behind M_tape M_taped M_here M_fault M_open M_laid M_act M_with M_lineMany M_testEnd M_lineEnd M_facts M_pile M_hasLaw M_far M_within M_tooNear M_dried M_isOn M_wasOn M_bodies M_kind M_traces M_traced M_holds M_size M_elements M_shifted) H locs → lv_has ls 4 [(0, .ref (ρ 0)), (1, .int x1)] → W p l e (zrm d) s m args below meth c H locs 0 0 Q (F0 m 44 ls [])) {k90 : Int32 → (Nat → Int32) → Option (Int32 × (Nat → Int32) × (Nat → Int32) × (Nat → Int32) × (Nat → Int32) × (Nat → Int32) × (Nat → Int32) × (Nat → Int32))} (hk90 : ∀ {x3 : Int32} {M_isOn : Nat → Int32} {H : Heap} {locs : List Loc} {ls : Array Slot}, k90 x3 M_isOn = some res → zW D A s.heap (WM q ρ M_code M_doors M_price M_year M_joins M_joinA M_joinB M_walls M_wallA M_wallB M_cost M_olds M_near M_doneMany M_undoneMany M_changeOf M_changeAt M_before M_behind M_tape M_taped M_here M_fault M_open M_laid M_act M_with M_lineMany M_testEnd M_lineEnd M_facts M_pile M_hasLaw M_far M_within M_tooNear M_dried M_isOn M_wasOn M_bodies M_kind M_traces M_traced M_holds M_size M_elements M_shifted) H locs → lv_has ls 4 [(0, .ref (ρ 0)), (1, .int x1), (2, .int x2), (3, .int x3)] → W p l e (zrm d) s m args below meth c H locs 0 0 Q (F0 m 90 ls [])) {H : Heap} {locs : List Loc} {ls : Array Slot}, f_X7_grow_b161 k44 k90 x1 x2 x3 s0 M_doors M_price M_year M_joins M_joinA M_joinB M_olds M_near M_act M_with M_lineMany M_testEnd M_lineEnd M_facts M_pile M_hasLaw M_far M_within M_tooNear M_dried M_isOn M_wasOn = some res → zW D A s.heap (WM q ρ M_code M_doors M_price M_year M_joins M_joinA M_joinB M_walls M_wallA M_wallB M_cost M_olds M_near M_doneMany M_undoneMany M_changeOf M_changeAt M_before M_behind M_tape M_taped M_here M_fault M_open M_laid M_act M_with M_lineMany M_testEnd M_lineEnd M_facts M_pile M_hasLaw M_far M_within M_tooNear M_dried M_isOn M_wasOn M_bodies M_kind M_traces M_traced M_holds M_size M_elements M_shifted) H locs → lv_has ls 4 [(0, .ref (ρ 0)), (1, .int x1), (2, .int x2), (3, .int x3)] → W p l e (zrm d) s m args below meth c H locs 0 0 Q (F0 m 161 ls [.int s0, .ref (ρ 23)]) := by
    intro x1 x2 x3 s0 M_facts M_pile M_far M_within M_tooNear M_isOn M_wasOn k44 hk44 k90 hk90 H locs ls h hW hl
    unfold f_X7_grow_b161 at h
    refine lv_iconst (v := 0) hx hb dX7_grow_161 (by decide) ?_
    exact b162 hk44 hk90 h hW (lv_sub hl [0, 1, 2, 3] rfl)
  have b90 : ∀ {x1 : Int32} {x2 : Int32} {M_facts : Nat → Int32} {M_pile : Nat → Int32} {M_far : Nat → Int32} {M_within : Nat → Int32} {M_tooNear : Nat → Int32} {M_wasOn : Nat → Int32} {k44 : Int32 → (Nat → Int32) → (Nat → Int32) → (Nat → Int32) → (Nat → Int32) → (Nat → Int32) → (Nat → Int32) → (Nat → Int32) → Option (Int32 × (Nat → Int32) × (Nat → Int32) × (Nat → Int32) × (Nat → Int32) × (Nat → Int32) × (Nat → Int32) × (Nat → Int32))} (hk44 : ∀ {x1 : Int32} {M_facts : Nat → Int32} {M_pile : Nat → Int32} {M_far : Nat → Int32} {M_within : Nat → Int32} {M_tooNear : Nat → Int32} {M_isOn : Nat → Int32} {M_wasOn : Nat → Int32} {H : Heap} {locs : List Loc} {ls : Array Slot}, k44 x1 M_facts M_pile M_far M_within M_tooNear M_isOn M_wasOn = some res → zW D A s.heap (WM q ρ M_code M_doors M_price M_year M_joins M_joinA M_joinB M_walls M_wallA M_wallB M_cost M_olds M_near M_doneMany M_undoneMany M_changeOf M_changeAt M_before M_behind M_tape M_taped M_here M_fault M_open M_laid M_act M_with M_lineMany M_testEnd M_lineEnd M_facts M_pile M_hasLaw M_far M_within M_tooNear M_dried M_isOn M_wasOn M_bodies M_kind M_traces M_traced M_holds M_size M_elements M_shifted) H locs → lv_has ls 4 [(0, .ref (ρ 0)), (1, .int x1)] → W p l e (zrm d) s m args below meth c H locs 0 0 Q (F0 m 44 ls [])) {n : Nat} {x3 : Int32} {M_isOn : Nat → Int32} {H : Heap} {locs : List Loc} {ls : Array Slot}, f_X7_grow_b90 k44 x1 x2 M_doors M_price M_year M_joins M_joinA M_joinB M_olds M_near M_act M_with M_lineMany M_testEnd M_lineEnd M_facts M_pile M_hasLaw M_far M_within M_tooNear M_dried M_wasOn n x3 M_isOn = some res → zW D A s.heap (WM q ρ M_code M_doors M_price M_year M_joins M_joinA M_joinB M_walls M_wallA M_wallB M_cost M_olds M_near M_doneMany M_undoneMany M_changeOf M_changeAt M_before M_behind M_tape M_taped M_here M_fault M_open M_laid M_act M_with M_lineMany M_testEnd M_lineEnd M_facts M_pile M_hasLaw M_far M_within M_tooNear M_dried M_isOn M_wasOn M_bodies M_kind M_traces M_traced M_holds M_size M_elements M_shifted) H locs → lv_has ls 4 [(0, .ref (ρ 0)), (1, .int x1), (2, .int x2), (3, .int x3)] → W p l e (zrm d) s m args below meth c H locs 0 0 Q (F0 m 90 ls []) := by
    intro x1 x2 M_facts M_pile M_far M_within M_tooNear M_wasOn k44 hk44
    intro n
    induction n with
    | zero =>
      intro x3 M_isOn H locs ls h
      rw [f_X7_grow_b90] at h
      cases h
    | succ n ih =>
      intro x3 M_isOn H locs ls h hW hl
      rw [f_X7_grow_b90] at h
      refine lv_iload_n hx hb dX7_grow_90 rfl (lv_at hl 3 rfl) ?_
      refine lv_aload_n hx hb dX7_grow_91 rfl (lv_at hl 0 rfl) ?_
      obtain ⟨u15, eu15, h⟩ := bd_some h
      refine z_callV_i hC hW (rest := [.int x3]) (c_X7_allDoors (d := 0) (Nat.le_refl _) eu15) vw_X7_248 WM_0 rfl ⟨rfl, rfl⟩ (zrm_ok (by omega) (by decide)) rfl rfl hl.1 (Nat.le_of_ble_eq_true rfl) dX7_grow_92 (fun H locs hW => ?_)
      refine lv_icmp_gt (tgt := 169) hx hb dX7_grow_95 (by decide) (fun c16 => ?_) (fun c16 => ?_)
      · have h := ifp c16 h
        refine lv_iinc (v := (x1 + 1)) (lv' := [(1, .int (x1 + 1)), (0, .ref (ρ 0)), (2, .int x2), (3, .int x3)]) hx hb dX7_grow_169 hl (k := 1) rfl rfl (by decide) rfl (fun ls hl => ?_)
        refine lv_goto (tgt := 44) hx hb dX7_grow_172 (by decide) ?_
        exact hk44 h hW (lv_sub hl [1, 0] rfl)
      · have h := ifn c16 h
        refine lv_aload_n hx hb dX7_grow_98 rfl (lv_at hl 0 rfl) ?_
        refine z_get hC hW fg_X7_82 0 WM_0 rfl dX7_grow_99 ?_
        refine lv_iload_n hx hb dX7_grow_102 rfl (lv_at hl 3 rfl) ?_
        refine lv_iload_n hx hb dX7_grow_103 rfl (lv_at hl 3 rfl) ?_
        refine lv_iload_n hx hb dX7_grow_104 rfl (lv_at hl 2 rfl) ?_
        refine lv_iconst (v := (-1)) hx hb dX7_grow_105 (by decide) ?_
        refine lv_ixor hx hb dX7_grow_106 ?_
        refine lv_iand hx hb dX7_grow_107 ?_
        refine lv_if_ne (tgt := 161) hx hb dX7_grow_108 (by decide) (fun c17 => ?_) (fun c17 => ?_)
        · have h := ifn c17 h
          exact b161 hk44 ih h hW (lv_sub hl [0, 1, 2, 3] rfl)
        · have h := ifp c17 h
          refine lv_aload_n hx hb dX7_grow_111 rfl (lv_at hl 0 rfl) ?_
          refine z_get hC hW fg_X7_141 0 WM_0 rfl dX7_grow_112 ?_
          refine lv_iload_n hx hb dX7_grow_115 rfl (lv_at hl 2 rfl) ?_
          refine lv_iand hx hb dX7_grow_116 ?_
          refine lv_iload_n hx hb dX7_grow_117 rfl (lv_at hl 3 rfl) ?_
          refine lv_iconst (v := (-1)) hx hb dX7_grow_118 (by decide) ?_
          refine lv_ixor hx hb dX7_grow_119 ?_
          refine lv_iand hx hb dX7_grow_120 ?_
          refine lv_if_ne (tgt := 161) hx hb dX7_grow_121 (by decide) (fun c19 => ?_) (fun c19 => ?_)
          · have h := ifn c19 h
            exact b161 hk44 ih h hW (lv_sub hl [0, 1, 2, 3] rfl)
          · have h := ifp c19 h
            refine lv_iload_n hx hb dX7_grow_124 rfl (lv_at hl 3 rfl) ?_
            refine lv_aload_n hx hb dX7_grow_125 rfl (lv_at hl 0 rfl) ?_
            obtain ⟨u20, eu20, h⟩ := bd_some h
            refine z_callV_i hC hW (rest := [.int x3, .int x3, .ref (ρ 23)]) (c_X7_rock (d := 0) (Nat.le_refl _) eu20) vw_X7_254 WM_0 rfl ⟨rfl, rfl⟩ (zrm_ok (by omega) (by decide)) rfl rfl hl.1 (Nat.le_of_ble_eq_true rfl) dX7_grow_126 (fun H locs hW => ?_)
            refine lv_iand hx hb dX7_grow_129 ?_
            refine lv_aload_n hx hb dX7_grow_130 rfl (lv_at hl 0 rfl) ?_
            refine z_get hC hW fg_X7_141 0 WM_0 rfl dX7_grow_131 ?_
            refine lv_iconst (v := (-1)) hx hb dX7_grow_134 (by decide) ?_
            refine lv_ixor hx hb dX7_grow_135 ?_
            refine lv_iand hx hb dX7_grow_136 ?_
            refine lv_if_ne (tgt := 161) hx hb dX7_grow_137 (by decide) (fun c21 => ?_) (fun c21 => ?_)
            · have h := ifn c21 h
              exact b161 hk44 ih h hW (lv_sub hl [0, 1, 2, 3] rfl)
            · have h := ifp c21 h
              refine lv_aload_n hx hb dX7_grow_140 rfl (lv_at hl 0 rfl) ?_
              refine lv_iload_n hx hb dX7_grow_141 rfl (lv_at hl 3 rfl) ?_
              refine lv_iload_n hx hb dX7_grow_142 rfl (lv_at hl 2 rfl) ?_
              obtain ⟨u22, eu22, h⟩ := bd_some h
              refine z_callV_i hC hW (rest := [.int x3, .ref (ρ 23)]) (c_X7_isLawful (d := 0) (Nat.le_refl _) eu22) vw_X7_257 WM_0 rfl ⟨rfl, rfl⟩ (zrm_ok (by omega) (by decide)) rfl rfl hl.1 (Nat.le_of_ble_eq_true rfl) dX7_grow_143 (fun H locs hW => ?_)
              refine lv_if_eq (tgt := 161) hx hb dX7_grow_146 (by decide) (fun c23 => ?_) (fun c23 => ?_)
              · have h := ifp c23 h
                exact b161 hk44 ih h hW (lv_sub hl [0, 1, 2, 3] rfl)
              · have h := ifn c23 h
                refine lv_aload_n hx hb dX7_grow_149 rfl (lv_at hl 0 rfl) ?_
                refine lv_iload_n hx hb dX7_grow_150 rfl (lv_at hl 3 rfl) ?_
                obtain ⟨u24, eu24, h⟩ := bd_some h
                refine z_callV_i hC hW (rest := [.int x3, .ref (ρ 23)]) (c_X7_comesFrom (d := 0) (Nat.le_refl _) eu24) vw_X7_288 WM_0 rfl ⟨rfl, rfl⟩ (zrm_ok (by omega) (by decide)) rfl rfl hl.1 (Nat.le_of_ble_eq_true rfl) dX7_grow_151 (fun H locs hW => ?_)
                refine lv_if_eq (tgt := 161) hx hb dX7_grow_154 (by decide) (fun c25 => ?_) (fun c25 => ?_)
                · have h := ifp c25 h
                  exact b161 hk44 ih h hW (lv_sub hl [0, 1, 2, 3] rfl)
                · have h := ifn c25 h
                  refine lv_iconst (v := 1) hx hb dX7_grow_157 (by decide) ?_
                  refine lv_goto (tgt := 162) hx hb dX7_grow_158 (by decide) ?_
                  exact b162 hk44 ih h hW (lv_sub hl [0, 1, 2, 3] rfl)
  have b63 : ∀ {x1 : Int32} {x2 : Int32} {M_facts : Nat → Int32} {M_pile : Nat → Int32} {M_far : Nat → Int32} {M_within : Nat → Int32} {M_tooNear : Nat → Int32} {M_isOn : Nat → Int32} {k44 : Int32 → (Nat → Int32) → (Nat → Int32) → (Nat → Int32) → (Nat → Int32) → (Nat → Int32) → (Nat → Int32) → (Nat → Int32) → Option (Int32 × (Nat → Int32) × (Nat → Int32) × (Nat → Int32) × (Nat → Int32) × (Nat → Int32) × (Nat → Int32) × (Nat → Int32))} (hk44 : ∀ {x1 : Int32} {M_facts : Nat → Int32} {M_pile : Nat → Int32} {M_far : Nat → Int32} {M_within : Nat → Int32} {M_tooNear : Nat → Int32} {M_isOn : Nat → Int32} {M_wasOn : Nat → Int32} {H : Heap} {locs : List Loc} {ls : Array Slot}, k44 x1 M_facts M_pile M_far M_within M_tooNear M_isOn M_wasOn = some res → zW D A s.heap (WM q ρ M_code M_doors M_price M_year M_joins M_joinA M_joinB M_walls M_wallA M_wallB M_cost M_olds M_near M_doneMany M_undoneMany M_changeOf M_changeAt M_before M_behind M_tape M_taped M_here M_fault M_open M_laid M_act M_with M_lineMany M_testEnd M_lineEnd M_facts M_pile M_hasLaw M_far M_within M_tooNear M_dried M_isOn M_wasOn M_bodies M_kind M_traces M_traced M_holds M_size M_elements M_shifted) H locs → lv_has ls 4 [(0, .ref (ρ 0)), (1, .int x1)] → W p l e (zrm d) s m args below meth c H locs 0 0 Q (F0 m 44 ls [])) {n : Nat} {x3 : Int32} {M_wasOn : Nat → Int32} {H : Heap} {locs : List Loc} {ls : Array Slot}, f_X7_grow_b63 k44 x1 x2 M_doors M_price M_year M_joins M_joinA M_joinB M_olds M_near M_act M_with M_lineMany M_testEnd M_lineEnd M_facts M_pile M_hasLaw M_far M_within M_tooNear M_dried M_isOn n x3 M_wasOn = some res → zW D A s.heap (WM q ρ M_code M_doors M_price M_year M_joins M_joinA M_joinB M_walls M_wallA M_wallB M_cost M_olds M_near M_doneMany M_undoneMany M_changeOf M_changeAt M_before M_behind M_tape M_taped M_here M_fault M_open M_laid M_act M_with M_lineMany M_testEnd M_lineEnd M_facts M_pile M_hasLaw M_far M_within M_tooNear M_dried M_isOn M_wasOn M_bodies M_kind M_traces M_traced M_holds M_size M_elements M_shifted) H locs → lv_has ls 4 [(0, .ref (ρ 0)), (1, .int x1), (2, .int x2), (3, .int x3)] → W p l e (zrm d) s m args below meth c H locs 0 0 Q (F0 m 63 ls []) := by
    intro x1 x2 M_facts M_pile M_far M_within M_tooNear M_isOn k44 hk44
    intro n
    induction n with
    | zero =>
      intro x3 M_wasOn H locs ls h
      rw [f_X7_grow_b63] at h
      cases h
    | succ n ih =>
      intro x3 M_wasOn H locs ls h hW hl
      rw [f_X7_grow_b63] at h
      refine lv_iload_n hx hb dX7_grow_63 rfl (lv_at hl 3 rfl) ?_
      refine lv_sipush (v := 512) hx hb dX7_grow_64 (by decide) ?_
      refine lv_icmp_ge (tgt := 88) hx hb dX7_grow_67 (by decide) (fun c14 => ?_) (fun c14 => ?_)
      · have h := ifp c14 h
        refine lv_iconst (v := 0) hx hb dX7_grow_88 (by decide) ?_
        refine lv_istore_n (lv' := [(3, .int 0), (0, .ref (ρ 0)), (1, .int x1), (2, .int x2)]) hx hb dX7_grow_89 rfl hl (by decide) rfl (fun ls hl => ?_)
        exact b90 hk44 h hW (lv_sub hl [1, 2, 3, 0] rfl)
      · have h := ifn c14 h
        refine lv_aload_n hx hb dX7_grow_70 rfl (lv_at hl 0 rfl) ?_
        refine z_get hC hW fg_X7_86 0 WM_0 rfl dX7_grow_71 ?_
        refine lv_iload_n hx hb dX7_grow_74 rfl (lv_at hl 3 rfl) ?_
        refine lv_aload_n hx hb dX7_grow_75 rfl (lv_at hl 0 rfl) ?_
        refine z_get hC hW fg_X7_82 0 WM_0 rfl dX7_grow_76 ?_
        refine lv_iload_n hx hb dX7_grow_79 rfl (lv_at hl 3 rfl) ?_
        obtain ⟨g26, h⟩ := ix_some h
        refine z_zald hC hW 23 WM_23 g26 dX7_grow_80 ?_
        obtain ⟨g27, h⟩ := ix_some h
        refine z_zast hC hW 24 WM_24 g27 WMs_M_wasOn dX7_grow_81 (fun H locs hW => ?_)
        refine lv_iinc (v := (x3 + 1)) (lv' := [(3, .int (x3 + 1)), (0, .ref (ρ 0)), (1, .int x1), (2, .int x2)]) hx hb dX7_grow_82 hl (k := 3) rfl rfl (by decide) rfl (fun ls hl => ?_)
        refine lv_goto (tgt := 63) hx hb dX7_grow_85 (by decide) ?_
        exact ih h hW (lv_sub hl [1, 2, 3, 0] rfl)
  have b44 : ∀ {n : Nat} {x1 : Int32} {M_facts : Nat → Int32} {M_pile : Nat → Int32} {M_far : Nat → Int32} {M_within : Nat → Int32} {M_tooNear : Nat → Int32} {M_isOn : Nat → Int32} {M_wasOn : Nat → Int32} {H : Heap} {locs : List Loc} {ls : Array Slot}, f_X7_grow_b44 M_doors M_price M_year M_joins M_joinA M_joinB M_olds M_near M_act M_with M_lineMany M_testEnd M_lineEnd M_hasLaw M_dried n x1 M_facts M_pile M_far M_within M_tooNear M_isOn M_wasOn = some res → zW D A s.heap (WM q ρ M_code M_doors M_price M_year M_joins M_joinA M_joinB M_walls M_wallA M_wallB M_cost M_olds M_near M_doneMany M_undoneMany M_changeOf M_changeAt M_before M_behind M_tape M_taped M_here M_fault M_open M_laid M_act M_with M_lineMany M_testEnd M_lineEnd M_facts M_pile M_hasLaw M_far M_within M_tooNear M_dried M_isOn M_wasOn M_bodies M_kind M_traces M_traced M_holds M_size M_elements M_shifted) H locs → lv_has ls 4 [(0, .ref (ρ 0)), (1, .int x1)] → W p l e (zrm d) s m args below meth c H locs 0 0 Q (F0 m 44 ls []) := by
    intro n
    induction n with
    | zero =>
      intro x1 M_facts M_pile M_far M_within M_tooNear M_isOn M_wasOn H locs ls h
      rw [f_X7_grow_b44] at h
      cases h
    | succ n ih =>
      intro x1 M_facts M_pile M_far M_within M_tooNear M_isOn M_wasOn H locs ls h hW hl
      rw [f_X7_grow_b44] at h
      refine lv_iload_n hx hb dX7_grow_44 rfl (lv_at hl 1 rfl) ?_
      refine lv_bipush (v := 9) hx hb dX7_grow_45 (by decide) ?_
      refine lv_icmp_gt (tgt := 175) hx hb dX7_grow_47 (by decide) (fun c3 => ?_) (fun c3 => ?_)
      · have h := ifp c3 h
        refine lv_bipush (v := (-2)) hx hb dX7_grow_175 (by decide) ?_
        refine lv_istore_n (lv' := [(1, .int (-2)), (0, .ref (ρ 0))]) hx hb dX7_grow_177 rfl hl (by decide) rfl (fun ls hl => ?_)
        refine lv_iconst (v := 0) hx hb dX7_grow_178 (by decide) ?_
        refine lv_istore_n (lv' := [(2, .int 0), (1, .int (-2)), (0, .ref (ρ 0))]) hx hb dX7_grow_179 rfl hl (by decide) rfl (fun ls hl => ?_)
        exact b180 h hW (lv_sub hl [2, 1, 0] rfl)
      · have h := ifn c3 h
        refine lv_aload_n hx hb dX7_grow_50 rfl (lv_at hl 0 rfl) ?_
        refine lv_iload_n hx hb dX7_grow_51 rfl (lv_at hl 1 rfl) ?_
        obtain ⟨u12, eu12, h⟩ := bd_some h
        refine z_callV_i hC hW (rest := []) (c_X7_thereIn (d := 0) (Nat.le_refl _) eu12) vw_X7_285 WM_0 rfl ⟨rfl, rfl⟩ (zrm_ok (by omega) (by decide)) rfl rfl hl.1 (Nat.le_of_ble_eq_true rfl) dX7_grow_52 (fun H locs hW => ?_)
        refine lv_istore_n (lv' := [(2, .int u12), (0, .ref (ρ 0)), (1, .int x1)]) hx hb dX7_grow_55 rfl hl (by decide) rfl (fun ls hl => ?_)
        refine lv_aload_n hx hb dX7_grow_56 rfl (lv_at hl 1 rfl) ?_
        refine lv_iload_n hx hb dX7_grow_57 rfl (lv_at hl 0 rfl) ?_
        obtain ⟨u13, eu13, h⟩ := bd_some h
        refine z_callV_v hC hW (rest := []) (c_X7_findAll (d := 4) (Nat.le_refl _) eu13) vw_X7_261 WM_0 rfl ⟨rfl, rfl⟩ (zrm_ok (by omega) (by decide)) rfl rfl hl.1 (Nat.le_of_ble_eq_true rfl) dX7_grow_58 (fun H locs hW => ?_)
        refine lv_iconst (v := 0) hx hb dX7_grow_61 (by decide) ?_
        refine lv_istore_n (lv' := [(3, .int 0), (2, .int u12), (0, .ref (ρ 0)), (1, .int x1)]) hx hb dX7_grow_62 rfl hl (by decide) rfl (fun ls hl => ?_)
        exact b63 ih h hW (lv_sub hl [2, 3, 1, 0] rfl)
  have b35 : ∀ {x1 : Int32} {s0 : Int32} {s1 : Int32} {M_facts : Nat → Int32} {M_pile : Nat → Int32} {M_far : Nat → Int32} {M_within : Nat → Int32} {M_tooNear : Nat → Int32} {M_isOn : Nat → Int32} {M_wasOn : Nat → Int32} {k14 : Int32 → (Nat → Int32) → Option (Int32 × (Nat → Int32) × (Nat → Int32) × (Nat → Int32) × (Nat → Int32) × (Nat → Int32) × (Nat → Int32) × (Nat → Int32))} (hk14 : ∀ {x1 : Int32} {M_isOn : Nat → Int32} {H : Heap} {locs : List Loc} {ls : Array Slot}, k14 x1 M_isOn = some res → zW D A s.heap (WM q ρ M_code M_doors M_price M_year M_joins M_joinA M_joinB M_walls M_wallA M_wallB M_cost M_olds M_near M_doneMany M_undoneMany M_changeOf M_changeAt M_before M_behind M_tape M_taped M_here M_fault M_open M_laid M_act M_with M_lineMany M_testEnd M_lineEnd M_facts M_pile M_hasLaw M_far M_within M_tooNear M_dried M_isOn M_wasOn M_bodies M_kind M_traces M_traced M_holds M_size M_elements M_shifted) H locs → lv_has ls 4 [(0, .ref (ρ 0)), (1, .int x1)] → W p l e (zrm d) s m args below meth c H locs 0 0 Q (F0 m 14 ls [])) {H : Heap} {locs : List Loc} {ls : Array Slot}, f_X7_grow_b35 k14 x1 s0 s1 M_doors M_price M_year M_joins M_joinA M_joinB M_olds M_near M_act M_with M_lineMany M_testEnd M_lineEnd M_facts M_pile M_hasLaw M_far M_within M_tooNear M_dried M_isOn M_wasOn = some res → zW D A s.heap (WM q ρ M_code M_doors M_price M_year M_joins M_joinA M_joinB M_walls M_wallA M_wallB M_cost M_olds M_near M_doneMany M_undoneMany M_changeOf M_changeAt M_before M_behind M_tape M_taped M_here M_fault M_open M_laid M_act M_with M_lineMany M_testEnd M_lineEnd M_facts M_pile M_hasLaw M_far M_within M_tooNear M_dried M_isOn M_wasOn M_bodies M_kind M_traces M_traced M_holds M_size M_elements M_shifted) H locs → lv_has ls 4 [(0, .ref (ρ 0)), (1, .int x1)] → W p l e (zrm d) s m args below meth c H locs 0 0 Q (F0 m 35 ls [.int s0, .int s1, .ref (ρ 23)]) := by
    intro x1 s0 s1 M_facts M_pile M_far M_within M_tooNear M_isOn M_wasOn k14 hk14 H locs ls h hW hl
    unfold f_X7_grow_b35 at h
    obtain ⟨g29, h⟩ := ix_some h
    refine z_zast hC hW 23 WM_23 g29 WMs_M_isOn dX7_grow_35 (fun H locs hW => ?_)
    refine lv_iinc (v := (x1 + 1)) (lv' := [(1, .int (x1 + 1)), (0, .ref (ρ 0))]) hx hb dX7_grow_36 hl (k := 1) rfl rfl (by decide) rfl (fun ls hl => ?_)
    refine lv_goto (tgt := 14) hx hb dX7_grow_39 (by decide) ?_
    exact hk14 h hW (lv_sub hl [1, 0] rfl)
  have b14 : ∀ {M_facts : Nat → Int32} {M_pile : Nat → Int32} {M_far : Nat → Int32} {M_within : Nat → Int32} {M_tooNear : Nat → Int32} {M_wasOn : Nat → Int32} {n : Nat} {x1 : Int32} {M_isOn : Nat → Int32} {H : Heap} {locs : List Loc} {ls : Array Slot}, f_X7_grow_b14 M_doors M_price M_year M_joins M_joinA M_joinB M_olds M_near M_act M_with M_lineMany M_testEnd M_lineEnd M_facts M_pile M_hasLaw M_far M_within M_tooNear M_dried M_wasOn n x1 M_isOn = some res → zW D A s.heap (WM q ρ M_code M_doors M_price M_year M_joins M_joinA M_joinB M_walls M_wallA M_wallB M_cost M_olds M_near M_doneMany M_undoneMany M_changeOf M_changeAt M_before M_behind M_tape M_taped M_here M_fault M_open M_laid M_act M_with M_lineMany M_testEnd M_lineEnd M_facts M_pile M_hasLaw M_far M_within M_tooNear M_dried M_isOn M_wasOn M_bodies M_kind M_traces M_traced M_holds M_size M_elements M_shifted) H locs → lv_has ls 4 [(0, .ref (ρ 0)), (1, .int x1)] → W p l e (zrm d) s m args below meth c H locs 0 0 Q (F0 m 14 ls []) := by
    intro M_facts M_pile M_far M_within M_tooNear M_wasOn
    intro n
    induction n with
    | zero =>
      intro x1 M_isOn H locs ls h
      rw [f_X7_grow_b14] at h
      cases h
    | succ n ih =>
      intro x1 M_isOn H locs ls h hW hl
      rw [f_X7_grow_b14] at h
      refine lv_iload_n hx hb dX7_grow_14 rfl (lv_at hl 1 rfl) ?_
      refine lv_sipush (v := 512) hx hb dX7_grow_15 (by decide) ?_
      refine lv_icmp_ge (tgt := 42) hx hb dX7_grow_18 (by decide) (fun c2 => ?_) (fun c2 => ?_)
      · have h := ifp c2 h
        refine lv_iconst (v := 0) hx hb dX7_grow_42 (by decide) ?_
        refine lv_istore_n (lv' := [(1, .int 0), (0, .ref (ρ 0))]) hx hb dX7_grow_43 rfl hl (by decide) rfl (fun ls hl => ?_)
        exact b44 h hW (lv_sub hl [1, 0] rfl)
      · have h := ifn c2 h
        refine lv_aload_n hx hb dX7_grow_21 rfl (lv_at hl 0 rfl) ?_
        refine z_get hC hW fg_X7_82 0 WM_0 rfl dX7_grow_22 ?_
        refine lv_iload_n hx hb dX7_grow_25 rfl (lv_at hl 1 rfl) ?_
        refine lv_iload_n hx hb dX7_grow_26 rfl (lv_at hl 1 rfl) ?_
        refine lv_if_ne (tgt := 34) hx hb dX7_grow_27 (by decide) (fun c28 => ?_) (fun c28 => ?_)
        · have h := ifn c28 h
          refine lv_iconst (v := 0) hx hb dX7_grow_34 (by decide) ?_
          exact b35 ih h hW (lv_sub hl [0, 1] rfl)
        · have h := ifp c28 h
          refine lv_iconst (v := 1) hx hb dX7_grow_30 (by decide) ?_
          refine lv_goto (tgt := 35) hx hb dX7_grow_31 (by decide) ?_
          exact b35 ih h hW (lv_sub hl [0, 1] rfl)
  unfold f_X7_grow at h
  refine lv_aload_n hx hb dX7_grow_0 rfl (lv_at hl 0 rfl) ?_
  refine z_get hC hW fg_X7_111 0 WM_0 rfl dX7_grow_1 ?_
  refine lv_bipush (v := 9) hx hb dX7_grow_4 (by decide) ?_
  refine lv_icmp_le (tgt := 12) hx hb dX7_grow_6 (by decide) (fun c1 => ?_) (fun c1 => ?_)
  · have h := ifp c1 h
    refine lv_iconst (v := 0) hx hb dX7_grow_12 (by decide) ?_
    refine lv_istore_n (lv' := [(1, .int 0), (0, .ref (ρ 0))]) hx hb dX7_grow_13 rfl hl (by decide) rfl (fun ls hl => ?_)
    exact b14 h hW (lv_sub hl [1, 0] rfl)
  · have h := ifn c1 h
    refine lv_bipush (v := (-5)) hx hb dX7_grow_9 (by decide) ?_
    have h := Option.some.inj h
    subst h
    exact hret _ _ _ _ _ dX7_grow_11 rfl rfl hW
set_option maxHeartbeats 4000000 in
set_option maxRecDepth 100000 in
theorem c_X7_breaks {a1 : Int32} {d : Nat} {res : Int32 × Int32 × (Nat → Int32) × (Nat → Int32) × (Nat → Int32) × (Nat → Int32) × (Nat → Int32) × (Nat → Int32) × (Nat → Int32)} (hd : 6 ≤ d) (h : f_X7_breaks a1 M_doors M_price M_year M_joins M_joinA M_joinB M_walls M_wallA M_wallB M_cost M_olds M_near M_act M_with M_lineMany M_testEnd M_lineEnd M_facts M_pile M_hasLaw M_far M_within M_tooNear M_dried = some res) : zMi l yX7_breaks cX7_breaks 6 .int (zrm d) [.ref (ρ 0), .int a1] D q (WM q ρ M_code M_doors M_price M_year M_joins M_joinA M_joinB M_walls M_wallA M_wallB M_cost M_olds M_near M_doneMany M_undoneMany M_changeOf M_changeAt M_before M_behind M_tape M_taped M_here M_fault M_open M_laid M_act M_with M_lineMany M_testEnd M_lineEnd M_facts M_pile M_hasLaw M_far M_within M_tooNear M_dried M_isOn M_wasOn M_bodies M_kind M_traces M_traced M_holds M_size M_elements M_shifted) sz res.1 (WM q ρ M_code M_doors M_price M_year res.2.1 res.2.2.1 res.2.2.2.1 M_walls M_wallA M_wallB M_cost M_olds M_near M_doneMany M_undoneMany M_changeOf M_changeAt M_before M_behind M_tape M_taped M_here M_fault M_open M_laid M_act M_with M_lineMany M_testEnd M_lineEnd res.2.2.2.2.1 res.2.2.2.2.2.1 M_hasLaw res.2.2.2.2.2.2.1 res.2.2.2.2.2.2.2.1 res.2.2.2.2.2.2.2.2 M_dried M_isOn M_wasOn M_bodies M_kind M_traces M_traced M_holds M_size M_elements M_shifted) := by
  refine zMet_i (own := RX7) _ (by decide) rfl (Nat.le_of_ble_eq_true rfl) ?_
  intro p e s m args below meth c A ls Q hC hW hl hret
  have hx := hC.1
  have hb := hC.2.1
  have hl : lv_has ls 6 [(0, .ref (ρ 0)), (1, .int a1)] := hl
  have b142 : ∀ {x1 : Int32} {x2 : Int32} {x3 : Int32} {x4 : Int32} {M_joins : Int32} {M_joinA : Nat → Int32} {M_joinB : Nat → Int32} {M_facts : Nat → Int32} {M_pile : Nat → Int32} {M_far : Nat → Int32} {M_within : Nat → Int32} {M_tooNear : Nat → Int32} {k19 : Int32 → Int32 → Int32 → Int32 → (Nat → Int32) → (Nat → Int32) → (Nat → Int32) → (Nat → Int32) → (Nat → Int32) → (Nat → Int32) → (Nat → Int32) → Option (Int32 × Int32 × (Nat → Int32) × (Nat → Int32) × (Nat → Int32) × (Nat → Int32) × (Nat → Int32) × (Nat → Int32) × (Nat → Int32))} (hk19 : ∀ {x2 : Int32} {x3 : Int32} {x4 : Int32} {M_joins : Int32} {M_joinA : Nat → Int32} {M_joinB : Nat → Int32} {M_facts : Nat → Int32} {M_pile : Nat → Int32} {M_far : Nat → Int32} {M_within : Nat → Int32} {M_tooNear : Nat → Int32} {H : Heap} {locs : List Loc} {ls : Array Slot}, k19 x2 x3 x4 M_joins M_joinA M_joinB M_facts M_pile M_far M_within M_tooNear = some res → zW D A s.heap (WM q ρ M_code M_doors M_price M_year M_joins M_joinA M_joinB M_walls M_wallA M_wallB M_cost M_olds M_near M_doneMany M_undoneMany M_changeOf M_changeAt M_before M_behind M_tape M_taped M_here M_fault M_open M_laid M_act M_with M_lineMany M_testEnd M_lineEnd M_facts M_pile M_hasLaw M_far M_within M_tooNear M_dried M_isOn M_wasOn M_bodies M_kind M_traces M_traced M_holds M_size M_elements M_shifted) H locs → lv_has ls 6 [(0, .ref (ρ 0)), (1, .int x1), (2, .int x2), (3, .int x3), (4, .int x4)] → W p l e (zrm d) s m args below meth c H locs 0 0 Q (F0 m 19 ls [])) {H : Heap} {locs : List Loc} {ls : Array Slot}, f_X7_breaks_b142 k19 x1 x2 x3 x4 M_doors M_price M_year M_joins M_joinA M_joinB M_walls M_wallA M_wallB M_cost M_olds M_near M_act M_with M_lineMany M_testEnd M_lineEnd M_facts M_pile M_hasLaw M_far M_within M_tooNear M_dried = some res → zW D A s.heap (WM q ρ M_code M_doors M_price M_year M_joins M_joinA M_joinB M_walls M_wallA M_wallB M_cost M_olds M_near M_doneMany M_undoneMany M_changeOf M_changeAt M_before M_behind M_tape M_taped M_here M_fault M_open M_laid M_act M_with M_lineMany M_testEnd M_lineEnd M_facts M_pile M_hasLaw M_far M_within M_tooNear M_dried M_isOn M_wasOn M_bodies M_kind M_traces M_traced M_holds M_size M_elements M_shifted) H locs → lv_has ls 6 [(0, .ref (ρ 0)), (1, .int x1), (2, .int x2), (3, .int x3), (4, .int x4)] → W p l e (zrm d) s m args below meth c H locs 0 0 Q (F0 m 142 ls []) := by
    intro x1 x2 x3 x4 M_joins M_joinA M_joinB M_facts M_pile M_far M_within M_tooNear k19 hk19 H locs ls h hW hl
    unfold f_X7_breaks_b142 at h
    refine lv_iinc (v := (x4 + 1)) (lv' := [(4, .int (x4 + 1)), (0, .ref (ρ 0)), (1, .int x1), (2, .int x2), (3, .int x3)]) hx hb dX7_breaks_142 hl (k := 4) rfl rfl (by decide) rfl (fun ls hl => ?_)
    refine lv_goto (tgt := 19) hx hb dX7_breaks_145 (by decide) ?_
    exact hk19 h hW (lv_sub hl [1, 2, 3, 4, 0] rfl)
  have b133 : ∀ {x1 : Int32} {x4 : Int32} {x5 : Int32} {M_joins : Int32} {M_joinA : Nat → Int32} {M_joinB : Nat → Int32} {M_facts : Nat → Int32} {M_pile : Nat → Int32} {M_far : Nat → Int32} {M_within : Nat → Int32} {M_tooNear : Nat → Int32} {k19 : Int32 → Int32 → Int32 → Int32 → (Nat → Int32) → (Nat → Int32) → (Nat → Int32) → (Nat → Int32) → (Nat → Int32) → (Nat → Int32) → (Nat → Int32) → Option (Int32 × Int32 × (Nat → Int32) × (Nat → Int32) × (Nat → Int32) × (Nat → Int32) × (Nat → Int32) × (Nat → Int32) × (Nat → Int32))} (hk19 : ∀ {x2 : Int32} {x3 : Int32} {x4 : Int32} {M_joins : Int32} {M_joinA : Nat → Int32} {M_joinB : Nat → Int32} {M_facts : Nat → Int32} {M_pile : Nat → Int32} {M_far : Nat → Int32} {M_within : Nat → Int32} {M_tooNear : Nat → Int32} {H : Heap} {locs : List Loc} {ls : Array Slot}, k19 x2 x3 x4 M_joins M_joinA M_joinB M_facts M_pile M_far M_within M_tooNear = some res → zW D A s.heap (WM q ρ M_code M_doors M_price M_year M_joins M_joinA M_joinB M_walls M_wallA M_wallB M_cost M_olds M_near M_doneMany M_undoneMany M_changeOf M_changeAt M_before M_behind M_tape M_taped M_here M_fault M_open M_laid M_act M_with M_lineMany M_testEnd M_lineEnd M_facts M_pile M_hasLaw M_far M_within M_tooNear M_dried M_isOn M_wasOn M_bodies M_kind M_traces M_traced M_holds M_size M_elements M_shifted) H locs → lv_has ls 6 [(0, .ref (ρ 0)), (1, .int x1), (2, .int x2), (3, .int x3), (4, .int x4)] → W p l e (zrm d) s m args below meth c H locs 0 0 Q (F0 m 19 ls [])) {H : Heap} {locs : List Loc} {ls : Array Slot}, f_X7_breaks_b133 k19 x1 x4 x5 M_doors M_price M_year M_joins M_joinA M_joinB M_walls M_wallA M_wallB M_cost M_olds M_near M_act M_with M_lineMany M_testEnd M_lineEnd M_facts M_pile M_hasLaw M_far M_within M_tooNear M_dried = some res → zW D A s.heap (WM q ρ M_code M_doors M_price M_year M_joins M_joinA M_joinB M_walls M_wallA M_wallB M_cost M_olds M_near M_doneMany M_undoneMany M_changeOf M_changeAt M_before M_behind M_tape M_taped M_here M_fault M_open M_laid M_act M_with M_lineMany M_testEnd M_lineEnd M_facts M_pile M_hasLaw M_far M_within M_tooNear M_dried M_isOn M_wasOn M_bodies M_kind M_traces M_traced M_holds M_size M_elements M_shifted) H locs → lv_has ls 6 [(0, .ref (ρ 0)), (1, .int x1), (4, .int x4), (5, .int x5)] → W p l e (zrm d) s m args below meth c H locs 0 0 Q (F0 m 133 ls []) := by
    intro x1 x4 x5 M_joins M_joinA M_joinB M_facts M_pile M_far M_within M_tooNear k19 hk19 H locs ls h hW hl
    unfold f_X7_breaks_b133 at h
    refine lv_iload hx hb dX7_breaks_133 (lv_at hl 2 rfl) ?_
    refine lv_istore_n (lv' := [(2, .int x4), (0, .ref (ρ 0)), (1, .int x1), (4, .int x4), (5, .int x5)]) hx hb dX7_breaks_135 rfl hl (by decide) rfl (fun ls hl => ?_)
    refine lv_iload hx hb dX7_breaks_136 (lv_at hl 4 rfl) ?_
    obtain ⟨u13, eu13, h⟩ := bd_some h
    refine z_callS_i hC hW (rest := []) (c_X7_bitsOf (d := 0) (Nat.le_refl _) eu13) sw_X7_264 ⟨rfl, rfl⟩ (zrm_ok (by omega) (by decide)) rfl rfl hl.1 (Nat.le_of_ble_eq_true rfl) dX7_breaks_138 (fun H locs hW => ?_)
    refine lv_istore_n (lv' := [(3, .int u13), (2, .int x4), (0, .ref (ρ 0)), (1, .int x1), (4, .int x4), (5, .int x5)]) hx hb dX7_breaks_141 rfl hl (by decide) rfl (fun ls hl => ?_)
    exact b142 hk19 h hW (lv_sub hl [2, 3, 1, 0, 4] rfl)
  have b19 : ∀ {x1 : Int32} {n : Nat} {x2 : Int32} {x3 : Int32} {x4 : Int32} {M_joins : Int32} {M_joinA : Nat → Int32} {M_joinB : Nat → Int32} {M_facts : Nat → Int32} {M_pile : Nat → Int32} {M_far : Nat → Int32} {M_within : Nat → Int32} {M_tooNear : Nat → Int32} {H : Heap} {locs : List Loc} {ls : Array Slot}, f_X7_breaks_b19 x1 M_doors M_price M_year M_walls M_wallA M_wallB M_cost M_olds M_near M_act M_with M_lineMany M_testEnd M_lineEnd M_hasLaw M_dried n x2 x3 x4 M_joins M_joinA M_joinB M_facts M_pile M_far M_within M_tooNear = some res → zW D A s.heap (WM q ρ M_code M_doors M_price M_year M_joins M_joinA M_joinB M_walls M_wallA M_wallB M_cost M_olds M_near M_doneMany M_undoneMany M_changeOf M_changeAt M_before M_behind M_tape M_taped M_here M_fault M_open M_laid M_act M_with M_lineMany M_testEnd M_lineEnd M_facts M_pile M_hasLaw M_far M_within M_tooNear M_dried M_isOn M_wasOn M_bodies M_kind M_traces M_traced M_holds M_size M_elements M_shifted) H locs → lv_has ls 6 [(0, .ref (ρ 0)), (1, .int x1), (2, .int x2), (3, .int x3), (4, .int x4)] → W p l e (zrm d) s m args below meth c H locs 0 0 Q (F0 m 19 ls []) := by
    intro x1
    intro n
    induction n with
    | zero =>
      intro x2 x3 x4 M_joins M_joinA M_joinB M_facts M_pile M_far M_within M_tooNear H locs ls h
      rw [f_X7_breaks_b19] at h
      cases h
    | succ n ih =>
      intro x2 x3 x4 M_joins M_joinA M_joinB M_facts M_pile M_far M_within M_tooNear H locs ls h hW hl
      rw [f_X7_breaks_b19] at h
      refine lv_iload hx hb dX7_breaks_19 (lv_at hl 4 rfl) ?_
      refine lv_aload_n hx hb dX7_breaks_21 rfl (lv_at hl 0 rfl) ?_
      refine z_get hC hW fg_X7_135 0 WM_0 rfl dX7_breaks_22 ?_
      refine lv_icmp_ge (tgt := 148) hx hb dX7_breaks_25 (by decide) (fun c3 => ?_) (fun c3 => ?_)
      · have h := ifp c3 h
        refine lv_iload_n hx hb dX7_breaks_148 rfl (lv_at hl 2 rfl) ?_
        refine lv_if_lt (tgt := 156) hx hb dX7_breaks_149 (by decide) (fun c4 => ?_) (fun c4 => ?_)
        · have h := ifp c4 h
          refine lv_iload_n hx hb dX7_breaks_156 rfl (lv_at hl 2 rfl) ?_
          refine lv_goto (tgt := 161) hx hb dX7_breaks_157 (by decide) ?_
          have h := Option.some.inj h
          subst h
          exact hret _ _ _ _ _ dX7_breaks_161 rfl rfl hW
        · have h := ifn c4 h
          refine lv_iload_n hx hb dX7_breaks_152 rfl (lv_at hl 1 rfl) ?_
          refine lv_if_ne (tgt := 160) hx hb dX7_breaks_153 (by decide) (fun c5 => ?_) (fun c5 => ?_)
          · have h := ifn c5 h
            refine lv_iload_n hx hb dX7_breaks_160 rfl (lv_at hl 3 rfl) ?_
            have h := Option.some.inj h
            subst h
            exact hret _ _ _ _ _ dX7_breaks_161 rfl rfl hW
          · have h := ifp c5 h
            refine lv_iload_n hx hb dX7_breaks_156 rfl (lv_at hl 2 rfl) ?_
            refine lv_goto (tgt := 161) hx hb dX7_breaks_157 (by decide) ?_
            have h := Option.some.inj h
            subst h
            exact hret _ _ _ _ _ dX7_breaks_161 rfl rfl hW
      · have h := ifn c3 h
        refine lv_aload_n hx hb dX7_breaks_28 rfl (lv_at hl 0 rfl) ?_
        refine z_get hC hW fg_X7_16 0 WM_0 rfl dX7_breaks_29 ?_
        refine lv_aload_n hx hb dX7_breaks_32 rfl (lv_at hl 0 rfl) ?_
        refine z_get hC hW fg_X7_122 0 WM_0 rfl dX7_breaks_33 ?_
        refine lv_aload_n hx hb dX7_breaks_36 rfl (lv_at hl 0 rfl) ?_
        refine z_get hC hW fg_X7_22 0 WM_0 rfl dX7_breaks_37 ?_
        refine lv_iload hx hb dX7_breaks_40 (lv_at hl 4 rfl) ?_
        obtain ⟨g6, h⟩ := ix_some h
        refine z_iald hC hW 5 WM_5 g6 dX7_breaks_42 ?_
        obtain ⟨g7, h⟩ := ix_some h
        refine z_iast hC hW 3 WM_3 g7 WMs_M_joinA dX7_breaks_43 (fun H locs hW => ?_)
        refine lv_aload_n hx hb dX7_breaks_44 rfl (lv_at hl 0 rfl) ?_
        refine z_get hC hW fg_X7_19 0 WM_0 rfl dX7_breaks_45 ?_
        refine lv_aload_n hx hb dX7_breaks_48 rfl (lv_at hl 0 rfl) ?_
        refine z_get hC hW fg_X7_122 0 WM_0 rfl dX7_breaks_49 ?_
        refine lv_aload_n hx hb dX7_breaks_52 rfl (lv_at hl 0 rfl) ?_
        refine z_get hC hW fg_X7_25 0 WM_0 rfl dX7_breaks_53 ?_
        refine lv_iload hx hb dX7_breaks_56 (lv_at hl 4 rfl) ?_
        obtain ⟨g8, h⟩ := ix_some h
        refine z_iald hC hW 6 WM_6 g8 dX7_breaks_58 ?_
        obtain ⟨g9, h⟩ := ix_some h
        refine z_iast hC hW 4 WM_4 g9 WMs_M_joinB dX7_breaks_59 (fun H locs hW => ?_)
        refine lv_aload_n hx hb dX7_breaks_60 rfl (lv_at hl 0 rfl) ?_
        refine lv_dup hx hb dX7_breaks_61 rfl ?_
        refine z_get hC hW fg_X7_122 0 WM_0 rfl dX7_breaks_62 ?_
        refine lv_iconst (v := 1) hx hb dX7_breaks_65 (by decide) ?_
        refine lv_iadd hx hb dX7_breaks_66 ?_
        refine z_put hC hW fp_X7_122 0 WM_0 (Nat.le_of_ble_eq_true rfl) rfl rfl WMs_M_joins dX7_breaks_67 (fun H locs hW => ?_)
        refine lv_aload_n hx hb dX7_breaks_70 rfl (lv_at hl 0 rfl) ?_
        refine lv_iconst (v := 0) hx hb dX7_breaks_71 (by decide) ?_
        obtain ⟨u10, eu10, h⟩ := bd_some h
        refine z_callV_i hC hW (rest := []) (c_X7_bestBy (d := 5) (Nat.le_refl _) eu10) vw_X7_276 WM_0 rfl ⟨rfl, rfl⟩ (zrm_ok (by omega) (by decide)) rfl rfl hl.1 (Nat.le_of_ble_eq_true rfl) dX7_breaks_72 (fun H locs hW => ?_)
        refine lv_istore (lv' := [(5, .int u10.1), (0, .ref (ρ 0)), (1, .int x1), (2, .int x2), (3, .int x3), (4, .int x4)]) hx hb dX7_breaks_75 hl (by decide) rfl (fun ls hl => ?_)
        refine lv_aload_n hx hb dX7_breaks_77 rfl (lv_at hl 1 rfl) ?_
        refine lv_dup hx hb dX7_breaks_78 rfl ?_
        refine z_get hC hW fg_X7_122 0 WM_0 rfl dX7_breaks_79 ?_
        refine lv_iconst (v := 1) hx hb dX7_breaks_82 (by decide) ?_
        refine lv_isub hx hb dX7_breaks_83 ?_
        refine z_put hC hW fp_X7_122 0 WM_0 (Nat.le_of_ble_eq_true rfl) rfl rfl WMs_M_joins dX7_breaks_84 (fun H locs hW => ?_)
        refine lv_iload hx hb dX7_breaks_87 (lv_at hl 0 rfl) ?_
        refine lv_if_lt (tgt := 142) hx hb dX7_breaks_89 (by decide) (fun c11 => ?_) (fun c11 => ?_)
        · have h := ifp c11 h
          exact b142 ih h hW (lv_sub hl [1, 2, 3, 4, 5] rfl)
        · have h := ifn c11 h
          refine lv_iload_n hx hb dX7_breaks_92 rfl (lv_at hl 3 rfl) ?_
          refine lv_if_lt (tgt := 133) hx hb dX7_breaks_93 (by decide) (fun c12 => ?_) (fun c12 => ?_)
          · have h := ifp c12 h
            exact b133 ih h hW (lv_sub hl [1, 2, 5, 0] rfl)
          · have h := ifn c12 h
            refine lv_iload hx hb dX7_breaks_96 (lv_at hl 0 rfl) ?_
            obtain ⟨u14, eu14, h⟩ := bd_some h
            refine z_callS_i hC hW (rest := []) (c_X7_bitsOf (d := 0) (Nat.le_refl _) eu14) sw_X7_264 ⟨rfl, rfl⟩ (zrm_ok (by omega) (by decide)) rfl rfl hl.1 (Nat.le_of_ble_eq_true rfl) dX7_breaks_98 (fun H locs hW => ?_)
            refine lv_iload_n hx hb dX7_breaks_101 rfl (lv_at hl 4 rfl) ?_
            refine lv_icmp_gt (tgt := 142) hx hb dX7_breaks_102 (by decide) (fun c15 => ?_) (fun c15 => ?_)
            · have h := ifp c15 h
              exact b142 ih h hW (lv_sub hl [1, 2, 3, 4, 5] rfl)
            · have h := ifn c15 h
              refine lv_iload hx hb dX7_breaks_105 (lv_at hl 0 rfl) ?_
              obtain ⟨u16, eu16, h⟩ := bd_some h
              refine z_callS_i hC hW (rest := []) (c_X7_bitsOf (d := 0) (Nat.le_refl _) eu16) sw_X7_264 ⟨rfl, rfl⟩ (zrm_ok (by omega) (by decide)) rfl rfl hl.1 (Nat.le_of_ble_eq_true rfl) dX7_breaks_107 (fun H locs hW => ?_)
              refine lv_iload_n hx hb dX7_breaks_110 rfl (lv_at hl 4 rfl) ?_
              refine lv_icmp_ne (tgt := 133) hx hb dX7_breaks_111 (by decide) (fun c17 => ?_) (fun c17 => ?_)
              · have h := ifn c17 h
                exact b133 ih h hW (lv_sub hl [1, 2, 5, 0] rfl)
              · have h := ifp c17 h
                refine lv_aload_n hx hb dX7_breaks_114 rfl (lv_at hl 1 rfl) ?_
                refine z_get hC hW fg_X7_28 0 WM_0 rfl dX7_breaks_115 ?_
                refine lv_iload hx hb dX7_breaks_118 (lv_at hl 5 rfl) ?_
                obtain ⟨g18, h⟩ := ix_some h
                refine z_iald hC hW 7 WM_7 g18 dX7_breaks_120 ?_
                refine lv_aload_n hx hb dX7_breaks_121 rfl (lv_at hl 1 rfl) ?_
                refine z_get hC hW fg_X7_28 0 WM_0 rfl dX7_breaks_122 ?_
                refine lv_iload_n hx hb dX7_breaks_125 rfl (lv_at hl 3 rfl) ?_
                obtain ⟨g19, h⟩ := ix_some h
                refine z_iald hC hW 7 WM_7 g19 dX7_breaks_126 ?_
                refine lv_icmp_lt (tgt := 133) hx hb dX7_breaks_127 (by decide) (fun c20 => ?_) (fun c20 => ?_)
                · have h := ifp c20 h
                  exact b133 ih h hW (lv_sub hl [1, 2, 5, 0] rfl)
                · have h := ifn c20 h
                  refine lv_goto (tgt := 142) hx hb dX7_breaks_130 (by decide) ?_
                  exact b142 ih h hW (lv_sub hl [1, 2, 3, 4, 5] rfl)
  unfold f_X7_breaks at h
  refine lv_iload_n hx hb dX7_breaks_0 rfl (lv_at hl 1 rfl) ?_
  refine lv_iconst (v := 0) hx hb dX7_breaks_1 (by decide) ?_
  refine lv_iconst (v := 1) hx hb dX7_breaks_2 (by decide) ?_
  obtain ⟨u1, eu1, h⟩ := bd_some h
  refine z_callS_i hC hW (rest := []) (c_X7_in (d := 0) (Nat.le_refl _) eu1) sw_X7_114 ⟨rfl, rfl⟩ (zrm_ok (by omega) (by decide)) rfl rfl hl.1 (Nat.le_of_ble_eq_true rfl) dX7_breaks_3 (fun H locs hW => ?_)
  refine lv_if_ne (tgt := 11) hx hb dX7_breaks_6 (by decide) (fun c2 => ?_) (fun c2 => ?_)
  · have h := ifn c2 h
    refine lv_bipush (v := (-2)) hx hb dX7_breaks_11 (by decide) ?_
    refine lv_istore_n (lv' := [(2, .int (-2)), (0, .ref (ρ 0)), (1, .int a1)]) hx hb dX7_breaks_13 rfl hl (by decide) rfl (fun ls hl => ?_)
    refine lv_iconst (v := 0) hx hb dX7_breaks_14 (by decide) ?_
    refine lv_istore_n (lv' := [(3, .int 0), (2, .int (-2)), (0, .ref (ρ 0)), (1, .int a1)]) hx hb dX7_breaks_15 rfl hl (by decide) rfl (fun ls hl => ?_)
    refine lv_iconst (v := 0) hx hb dX7_breaks_16 (by decide) ?_
    refine lv_istore (lv' := [(4, .int 0), (3, .int 0), (2, .int (-2)), (0, .ref (ρ 0)), (1, .int a1)]) hx hb dX7_breaks_17 hl (by decide) rfl (fun ls hl => ?_)
    exact b19 h hW (lv_sub hl [3, 4, 2, 1, 0] rfl)
  · have h := ifp c2 h
    refine lv_iconst (v := (-1)) hx hb dX7_breaks_9 (by decide) ?_
    have h := Option.some.inj h
    subst h
    exact hret _ _ _ _ _ dX7_breaks_10 rfl rfl hW
end CT21_m11
