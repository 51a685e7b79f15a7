section CT21_m07
variable {l : Launch} {D : va_G} {q : Nat → ClassId} {ρ : Nat → Nat} {sz : Nat} {M_code : Int32} {M_doors : Int32} {M_price : Nat → Int32} {M_year : Nat → Int32} {M_joins : Int32} {M_joinA : Nat → Int32} {M_joinB : Nat → Int32} {M_walls : Int32} {M_wallA : Nat → Int32} {M_wallB : Nat → Int32} {M_cost : Nat → Int32} {M_olds : Int32} {M_near : Int32} {M_doneMany : Int32} {M_undoneMany : Int32} {M_changeOf : Nat → Int32} {M_changeAt : Nat → Int32} {M_before : Nat → Int32} {M_behind : Nat → Int32} {M_tape : Nat → Int32} {M_taped : Int32} {M_here : Int32} {M_fault : Int32} {M_open : Int32} {M_laid : Int32} {M_act : Nat → Int32} {M_with : Nat → Int32} {M_lineMany : Nat → Int32} {M_testEnd : Nat → Int32} {M_lineEnd : Nat → Int32} {M_facts : Nat → Int32} {M_pile : Nat → Int32} {M_hasLaw : Int32} {M_far : Nat → Int32} {M_within : Nat → Int32} {M_tooNear : Nat → Int32} {M_dried : Int32} {M_isOn : Nat → Int32} {M_wasOn : Nat → Int32} {M_bodies : Int32} {M_kind : Nat → Int32} {M_traces : Int32} {M_traced : Nat → Int32} {M_holds : Nat → Int32} {M_size : Nat → Int32} {M_elements : Nat → Int64} {M_shifted : Nat → Int64}
set_option maxHeartbeats 4000000 in
set_option maxRecDepth 100000 in
theorem c_X7_findFar {a1 : Int32} {d : Nat} {res : (Nat → Int32)} (hd : 0 ≤ d) (h : f_X7_findFar a1 M_doors M_joins M_joinA M_joinB M_far = some res) : zMv l yX7_findFar cX7_findFar 5 (zrm d) [.ref (ρ 0), .int a1] D q (WM q ρ M_code M_doors M_price M_year M_joins M_joinA M_joinB M_walls M_wallA M_wallB M_cost M_olds M_near M_doneMany M_undoneMany M_changeOf M_changeAt M_before M_behind M_tape M_taped M_here M_fault M_open M_laid M_act M_with M_lineMany M_testEnd M_lineEnd M_facts M_pile M_hasLaw M_far M_within M_tooNear M_dried M_isOn M_wasOn M_bodies M_kind M_traces M_traced M_holds M_size M_elements M_shifted) sz (WM q ρ M_code M_doors M_price M_year M_joins M_joinA M_joinB M_walls M_wallA M_wallB M_cost M_olds M_near M_doneMany M_undoneMany M_changeOf M_changeAt M_before M_behind M_tape M_taped M_here M_fault M_open M_laid M_act M_with M_lineMany M_testEnd M_lineEnd M_facts M_pile M_hasLaw res M_within M_tooNear M_dried M_isOn M_wasOn M_bodies M_kind M_traces M_traced M_holds M_size M_elements M_shifted) := by
  refine zMet_v (own := RX7) (by decide) rfl (Nat.le_of_ble_eq_true rfl) ?_
  intro p e s m args below meth c A ls Q hC hW hl hret
  have hx := hC.1
  have hb := hC.2.1
  have hl : lv_has ls 5 [(0, .ref (ρ 0)), (1, .int a1)] := hl
  have b250 : ∀ {x2 : Int32} {x3 : Int32} {x4 : Int32} {M_far : Nat → Int32} {k145 : Int32 → (Nat → Int32) → Option ((Nat → Int32))} (hk145 : ∀ {x2 : Int32} {M_far : Nat → Int32} {H : Heap} {locs : List Loc} {ls : Array Slot}, k145 x2 M_far = some res → zW D A s.heap (WM q ρ M_code M_doors M_price M_year M_joins M_joinA M_joinB M_walls M_wallA M_wallB M_cost M_olds M_near M_doneMany M_undoneMany M_changeOf M_changeAt M_before M_behind M_tape M_taped M_here M_fault M_open M_laid M_act M_with M_lineMany M_testEnd M_lineEnd M_facts M_pile M_hasLaw M_far M_within M_tooNear M_dried M_isOn M_wasOn M_bodies M_kind M_traces M_traced M_holds M_size M_elements M_shifted) H locs → lv_has ls 5 [(0, .ref (ρ 0)), (2, .int x2)] → W p l e (zrm d) s m args below meth c H locs 0 0 Q (F0 m 145 ls [])) {k155 : Int32 → (Nat → Int32) → Option ((Nat → Int32))} (hk155 : ∀ {x3 : Int32} {M_far : Nat → Int32} {H : Heap} {locs : List Loc} {ls : Array Slot}, k155 x3 M_far = some res → zW D A s.heap (WM q ρ M_code M_doors M_price M_year M_joins M_joinA M_joinB M_walls M_wallA M_wallB M_cost M_olds M_near M_doneMany M_undoneMany M_changeOf M_changeAt M_before M_behind M_tape M_taped M_here M_fault M_open M_laid M_act M_with M_lineMany M_testEnd M_lineEnd M_facts M_pile M_hasLaw M_far M_within M_tooNear M_dried M_isOn M_wasOn M_bodies M_kind M_traces M_traced M_holds M_size M_elements M_shifted) H locs → lv_has ls 5 [(0, .ref (ρ 0)), (2, .int x2), (3, .int x3)] → W p l e (zrm d) s m args below meth c H locs 0 0 Q (F0 m 155 ls [])) {k166 : Int32 → (Nat → Int32) → Option ((Nat → Int32))} (hk166 : ∀ {x4 : Int32} {M_far : Nat → Int32} {H : Heap} {locs : List Loc} {ls : Array Slot}, k166 x4 M_far = some res → zW D A s.heap (WM q ρ M_code M_doors M_price M_year M_joins M_joinA M_joinB M_walls M_wallA M_wallB M_cost M_olds M_near M_doneMany M_undoneMany M_changeOf M_changeAt M_before M_behind M_tape M_taped M_here M_fault M_open M_laid M_act M_with M_lineMany M_testEnd M_lineEnd M_facts M_pile M_hasLaw M_far M_within M_tooNear M_dried M_isOn M_wasOn M_bodies M_kind M_traces M_traced M_holds M_size M_elements M_shifted) H locs → lv_has ls 5 [(0, .ref (ρ 0)), (2, .int x2), (3, .int x3), (4, .int x4)] → W p l e (zrm d) s m args below meth c H locs 0 0 Q (F0 m 166 ls [])) {H : Heap} {locs : List Loc} {ls : Array Slot}, f_X7_findFar_b250 k145 k155 k166 x2 x3 x4 M_doors M_far = some res → zW D A s.heap (WM q ρ M_code M_doors M_price M_year M_joins M_joinA M_joinB M_walls M_wallA M_wallB M_cost M_olds M_near M_doneMany M_undoneMany M_changeOf M_changeAt M_before M_behind M_tape M_taped M_here M_fault M_open M_laid M_act M_with M_lineMany M_testEnd M_lineEnd M_facts M_pile M_hasLaw M_far M_within M_tooNear M_dried M_isOn M_wasOn M_bodies M_kind M_traces M_traced M_holds M_size M_elements M_shifted) H locs → lv_has ls 5 [(0, .ref (ρ 0)), (2, .int x2), (3, .int x3), (4, .int x4)] → W p l e (zrm d) s m args below meth c H locs 0 0 Q (F0 m 250 ls []) := by
    intro x2 x3 x4 M_far k145 hk145 k155 hk155 k166 hk166 H locs ls h hW hl
    unfold f_X7_findFar_b250 at h
    refine lv_iinc (v := (x4 + 1)) (lv' := [(4, .int (x4 + 1)), (0, .ref (ρ 0)), (2, .int x2), (3, .int x3)]) hx hb dX7_findFar_250 hl (k := 3) rfl rfl (by decide) rfl (fun ls hl => ?_)
    refine lv_goto (tgt := 166) hx hb dX7_findFar_253 (by decide) ?_
    exact hk166 h hW (lv_sub hl [1, 2, 3, 0] rfl)
  have b166 : ∀ {x2 : Int32} {x3 : Int32} {k145 : Int32 → (Nat → Int32) → Option ((Nat → Int32))} (hk145 : ∀ {x2 : Int32} {M_far : Nat → Int32} {H : Heap} {locs : List Loc} {ls : Array Slot}, k145 x2 M_far = some res → zW D A s.heap (WM q ρ M_code M_doors M_price M_year M_joins M_joinA M_joinB M_walls M_wallA M_wallB M_cost M_olds M_near M_doneMany M_undoneMany M_changeOf M_changeAt M_before M_behind M_tape M_taped M_here M_fault M_open M_laid M_act M_with M_lineMany M_testEnd M_lineEnd M_facts M_pile M_hasLaw M_far M_within M_tooNear M_dried M_isOn M_wasOn M_bodies M_kind M_traces M_traced M_holds M_size M_elements M_shifted) H locs → lv_has ls 5 [(0, .ref (ρ 0)), (2, .int x2)] → W p l e (zrm d) s m args below meth c H locs 0 0 Q (F0 m 145 ls [])) {k155 : Int32 → (Nat → Int32) → Option ((Nat → Int32))} (hk155 : ∀ {x3 : Int32} {M_far : Nat → Int32} {H : Heap} {locs : List Loc} {ls : Array Slot}, k155 x3 M_far = some res → zW D A s.heap (WM q ρ M_code M_doors M_price M_year M_joins M_joinA M_joinB M_walls M_wallA M_wallB M_cost M_olds M_near M_doneMany M_undoneMany M_changeOf M_changeAt M_before M_behind M_tape M_taped M_here M_fault M_open M_laid M_act M_with M_lineMany M_testEnd M_lineEnd M_facts M_pile M_hasLaw M_far M_within M_tooNear M_dried M_isOn M_wasOn M_bodies M_kind M_traces M_traced M_holds M_size M_elements M_shifted) H locs → lv_has ls 5 [(0, .ref (ρ 0)), (2, .int x2), (3, .int x3)] → W p l e (zrm d) s m args below meth c H locs 0 0 Q (F0 m 155 ls [])) {n : Nat} {x4 : Int32} {M_far : Nat → Int32} {H : Heap} {locs : List Loc} {ls : Array Slot}, f_X7_findFar_b166 k145 k155 x2 x3 M_doors n x4 M_far = some res → zW D A s.heap (WM q ρ M_code M_doors M_price M_year M_joins M_joinA M_joinB M_walls M_wallA M_wallB M_cost M_olds M_near M_doneMany M_undoneMany M_changeOf M_changeAt M_before M_behind M_tape M_taped M_here M_fault M_open M_laid M_act M_with M_lineMany M_testEnd M_lineEnd M_facts M_pile M_hasLaw M_far M_within M_tooNear M_dried M_isOn M_wasOn M_bodies M_kind M_traces M_traced M_holds M_size M_elements M_shifted) H locs → lv_has ls 5 [(0, .ref (ρ 0)), (2, .int x2), (3, .int x3), (4, .int x4)] → W p l e (zrm d) s m args below meth c H locs 0 0 Q (F0 m 166 ls []) := by
    intro x2 x3 k145 hk145 k155 hk155
    intro n
    induction n with
    | zero =>
      intro x4 M_far H locs ls h
      rw [f_X7_findFar_b166] at h
      cases h
    | succ n ih =>
      intro x4 M_far H locs ls h hW hl
      rw [f_X7_findFar_b166] at h
      refine lv_iload hx hb dX7_findFar_166 (lv_at hl 3 rfl) ?_
      refine lv_aload_n hx hb dX7_findFar_168 rfl (lv_at hl 0 rfl) ?_
      refine z_get hC hW fg_X7_111 0 WM_0 rfl dX7_findFar_169 ?_
      refine lv_icmp_ge (tgt := 256) hx hb dX7_findFar_172 (by decide) (fun c5 => ?_) (fun c5 => ?_)
      · have h := ifp c5 h
        refine lv_iinc (v := (x3 + 1)) (lv' := [(3, .int (x3 + 1)), (0, .ref (ρ 0)), (2, .int x2), (4, .int x4)]) hx hb dX7_findFar_256 hl (k := 2) rfl rfl (by decide) rfl (fun ls hl => ?_)
        refine lv_goto (tgt := 155) hx hb dX7_findFar_259 (by decide) ?_
        exact hk155 h hW (lv_sub hl [1, 2, 0] rfl)
      · have h := ifn c5 h
        refine lv_aload_n hx hb dX7_findFar_175 rfl (lv_at hl 0 rfl) ?_
        refine z_get hC hW fg_X7_73 0 WM_0 rfl dX7_findFar_176 ?_
        refine lv_bipush (v := 14) hx hb dX7_findFar_179 (by decide) ?_
        refine lv_iload_n hx hb dX7_findFar_181 rfl (lv_at hl 2 rfl) ?_
        refine lv_imul hx hb dX7_findFar_182 ?_
        refine lv_iload_n hx hb dX7_findFar_183 rfl (lv_at hl 1 rfl) ?_
        refine lv_iadd hx hb dX7_findFar_184 ?_
        obtain ⟨g6, h⟩ := ix_some h
        refine z_iald hC hW 20 WM_20 g6 dX7_findFar_185 ?_
        refine lv_aload_n hx hb dX7_findFar_186 rfl (lv_at hl 0 rfl) ?_
        refine z_get hC hW fg_X7_73 0 WM_0 rfl dX7_findFar_187 ?_
        refine lv_bipush (v := 14) hx hb dX7_findFar_190 (by decide) ?_
        refine lv_iload_n hx hb dX7_findFar_192 rfl (lv_at hl 1 rfl) ?_
        refine lv_imul hx hb dX7_findFar_193 ?_
        refine lv_iload hx hb dX7_findFar_194 (lv_at hl 3 rfl) ?_
        refine lv_iadd hx hb dX7_findFar_196 ?_
        obtain ⟨g7, h⟩ := ix_some h
        refine z_iald hC hW 20 WM_20 g7 dX7_findFar_197 ?_
        refine lv_iadd hx hb dX7_findFar_198 ?_
        refine lv_aload_n hx hb dX7_findFar_199 rfl (lv_at hl 0 rfl) ?_
        refine z_get hC hW fg_X7_73 0 WM_0 rfl dX7_findFar_200 ?_
        refine lv_bipush (v := 14) hx hb dX7_findFar_203 (by decide) ?_
        refine lv_iload_n hx hb dX7_findFar_205 rfl (lv_at hl 2 rfl) ?_
        refine lv_imul hx hb dX7_findFar_206 ?_
        refine lv_iload hx hb dX7_findFar_207 (lv_at hl 3 rfl) ?_
        refine lv_iadd hx hb dX7_findFar_209 ?_
        obtain ⟨g8, h⟩ := ix_some h
        refine z_iald hC hW 20 WM_20 g8 dX7_findFar_210 ?_
        refine lv_icmp_ge (tgt := 250) hx hb dX7_findFar_211 (by decide) (fun c9 => ?_) (fun c9 => ?_)
        · have h := ifp c9 h
          exact b250 hk145 hk155 ih h hW (lv_sub hl [0, 1, 2, 3] rfl)
        · have h := ifn c9 h
          refine lv_aload_n hx hb dX7_findFar_214 rfl (lv_at hl 0 rfl) ?_
          refine z_get hC hW fg_X7_73 0 WM_0 rfl dX7_findFar_215 ?_
          refine lv_bipush (v := 14) hx hb dX7_findFar_218 (by decide) ?_
          refine lv_iload_n hx hb dX7_findFar_220 rfl (lv_at hl 2 rfl) ?_
          refine lv_imul hx hb dX7_findFar_221 ?_
          refine lv_iload hx hb dX7_findFar_222 (lv_at hl 3 rfl) ?_
          refine lv_iadd hx hb dX7_findFar_224 ?_
          refine lv_aload_n hx hb dX7_findFar_225 rfl (lv_at hl 0 rfl) ?_
          refine z_get hC hW fg_X7_73 0 WM_0 rfl dX7_findFar_226 ?_
          refine lv_bipush (v := 14) hx hb dX7_findFar_229 (by decide) ?_
          refine lv_iload_n hx hb dX7_findFar_231 rfl (lv_at hl 2 rfl) ?_
          refine lv_imul hx hb dX7_findFar_232 ?_
          refine lv_iload_n hx hb dX7_findFar_233 rfl (lv_at hl 1 rfl) ?_
          refine lv_iadd hx hb dX7_findFar_234 ?_
          obtain ⟨g10, h⟩ := ix_some h
          refine z_iald hC hW 20 WM_20 g10 dX7_findFar_235 ?_
          refine lv_aload_n hx hb dX7_findFar_236 rfl (lv_at hl 0 rfl) ?_
          refine z_get hC hW fg_X7_73 0 WM_0 rfl dX7_findFar_237 ?_
          refine lv_bipush (v := 14) hx hb dX7_findFar_240 (by decide) ?_
          refine lv_iload_n hx hb dX7_findFar_242 rfl (lv_at hl 1 rfl) ?_
          refine lv_imul hx hb dX7_findFar_243 ?_
          refine lv_iload hx hb dX7_findFar_244 (lv_at hl 3 rfl) ?_
          refine lv_iadd hx hb dX7_findFar_246 ?_
          obtain ⟨g11, h⟩ := ix_some h
          refine z_iald hC hW 20 WM_20 g11 dX7_findFar_247 ?_
          refine lv_iadd hx hb dX7_findFar_248 ?_
          obtain ⟨g12, h⟩ := ix_some h
          refine z_iast hC hW 20 WM_20 g12 WMs_M_far dX7_findFar_249 (fun H locs hW => ?_)
          exact b250 hk145 hk155 ih h hW (lv_sub hl [0, 1, 2, 3] rfl)
  have b155 : ∀ {x2 : Int32} {k145 : Int32 → (Nat → Int32) → Option ((Nat → Int32))} (hk145 : ∀ {x2 : Int32} {M_far : Nat → Int32} {H : Heap} {locs : List Loc} {ls : Array Slot}, k145 x2 M_far = some res → zW D A s.heap (WM q ρ M_code M_doors M_price M_year M_joins M_joinA M_joinB M_walls M_wallA M_wallB M_cost M_olds M_near M_doneMany M_undoneMany M_changeOf M_changeAt M_before M_behind M_tape M_taped M_here M_fault M_open M_laid M_act M_with M_lineMany M_testEnd M_lineEnd M_facts M_pile M_hasLaw M_far M_within M_tooNear M_dried M_isOn M_wasOn M_bodies M_kind M_traces M_traced M_holds M_size M_elements M_shifted) H locs → lv_has ls 5 [(0, .ref (ρ 0)), (2, .int x2)] → W p l e (zrm d) s m args below meth c H locs 0 0 Q (F0 m 145 ls [])) {n : Nat} {x3 : Int32} {M_far : Nat → Int32} {H : Heap} {locs : List Loc} {ls : Array Slot}, f_X7_findFar_b155 k145 x2 M_doors n x3 M_far = some res → zW D A s.heap (WM q ρ M_code M_doors M_price M_year M_joins M_joinA M_joinB M_walls M_wallA M_wallB M_cost M_olds M_near M_doneMany M_undoneMany M_changeOf M_changeAt M_before M_behind M_tape M_taped M_here M_fault M_open M_laid M_act M_with M_lineMany M_testEnd M_lineEnd M_facts M_pile M_hasLaw M_far M_within M_tooNear M_dried M_isOn M_wasOn M_bodies M_kind M_traces M_traced M_holds M_size M_elements M_shifted) H locs → lv_has ls 5 [(0, .ref (ρ 0)), (2, .int x2), (3, .int x3)] → W p l e (zrm d) s m args below meth c H locs 0 0 Q (F0 m 155 ls []) := by
    intro x2 k145 hk145
    intro n
    induction n with
    | zero =>
      intro x3 M_far H locs ls h
      rw [f_X7_findFar_b155] at h
      cases h
    | succ n ih =>
      intro x3 M_far H locs ls h hW hl
      rw [f_X7_findFar_b155] at h
      refine lv_iload_n hx hb dX7_findFar_155 rfl (lv_at hl 2 rfl) ?_
      refine lv_aload_n hx hb dX7_findFar_156 rfl (lv_at hl 0 rfl) ?_
      refine z_get hC hW fg_X7_111 0 WM_0 rfl dX7_findFar_157 ?_
      refine lv_icmp_ge (tgt := 262) hx hb dX7_findFar_160 (by decide) (fun c4 => ?_) (fun c4 => ?_)
      · have h := ifp c4 h
        refine lv_iinc (v := (x2 + 1)) (lv' := [(2, .int (x2 + 1)), (0, .ref (ρ 0)), (3, .int x3)]) hx hb dX7_findFar_262 hl (k := 1) rfl rfl (by decide) rfl (fun ls hl => ?_)
        refine lv_goto (tgt := 145) hx hb dX7_findFar_265 (by decide) ?_
        exact hk145 h hW (lv_sub hl [1, 0] rfl)
      · have h := ifn c4 h
        refine lv_iconst (v := 0) hx hb dX7_findFar_163 (by decide) ?_
        refine lv_istore (lv' := [(4, .int 0), (0, .ref (ρ 0)), (2, .int x2), (3, .int x3)]) hx hb dX7_findFar_164 hl (by decide) rfl (fun ls hl => ?_)
        exact b166 hk145 ih h hW (lv_sub hl [1, 2, 3, 0] rfl)
  have b145 : ∀ {n : Nat} {x2 : Int32} {M_far : Nat → Int32} {H : Heap} {locs : List Loc} {ls : Array Slot}, f_X7_findFar_b145 M_doors n x2 M_far = some res → zW D A s.heap (WM q ρ M_code M_doors M_price M_year M_joins M_joinA M_joinB M_walls M_wallA M_wallB M_cost M_olds M_near M_doneMany M_undoneMany M_changeOf M_changeAt M_before M_behind M_tape M_taped M_here M_fault M_open M_laid M_act M_with M_lineMany M_testEnd M_lineEnd M_facts M_pile M_hasLaw M_far M_within M_tooNear M_dried M_isOn M_wasOn M_bodies M_kind M_traces M_traced M_holds M_size M_elements M_shifted) H locs → lv_has ls 5 [(0, .ref (ρ 0)), (2, .int x2)] → W p l e (zrm d) s m args below meth c H locs 0 0 Q (F0 m 145 ls []) := by
    intro n
    induction n with
    | zero =>
      intro x2 M_far H locs ls h
      rw [f_X7_findFar_b145] at h
      cases h
    | succ n ih =>
      intro x2 M_far H locs ls h hW hl
      rw [f_X7_findFar_b145] at h
      refine lv_iload_n hx hb dX7_findFar_145 rfl (lv_at hl 1 rfl) ?_
      refine lv_aload_n hx hb dX7_findFar_146 rfl (lv_at hl 0 rfl) ?_
      refine z_get hC hW fg_X7_111 0 WM_0 rfl dX7_findFar_147 ?_
      refine lv_icmp_ge (tgt := 268) hx hb dX7_findFar_150 (by decide) (fun c3 => ?_) (fun c3 => ?_)
      · have h := ifp c3 h
        have h := Option.some.inj h
        subst h
        exact hret _ _ _ _ dX7_findFar_268 hW
      · have h := ifn c3 h
        refine lv_iconst (v := 0) hx hb dX7_findFar_153 (by decide) ?_
        refine lv_istore_n (lv' := [(3, .int 0), (0, .ref (ρ 0)), (2, .int x2)]) hx hb dX7_findFar_154 rfl hl (by decide) rfl (fun ls hl => ?_)
        exact b155 ih h hW (lv_sub hl [1, 2, 0] rfl)
  have b137 : ∀ {x1 : Int32} {x2 : Int32} {M_far : Nat → Int32} {k56 : Int32 → (Nat → Int32) → Option ((Nat → Int32))} (hk56 : ∀ {x2 : Int32} {M_far : Nat → Int32} {H : Heap} {locs : List Loc} {ls : Array Slot}, k56 x2 M_far = some res → zW D A s.heap (WM q ρ M_code M_doors M_price M_year M_joins M_joinA M_joinB M_walls M_wallA M_wallB M_cost M_olds M_near M_doneMany M_undoneMany M_changeOf M_changeAt M_before M_behind M_tape M_taped M_here M_fault M_open M_laid M_act M_with M_lineMany M_testEnd M_lineEnd M_facts M_pile M_hasLaw M_far M_within M_tooNear M_dried M_isOn M_wasOn M_bodies M_kind M_traces M_traced M_holds M_size M_elements M_shifted) H locs → lv_has ls 5 [(0, .ref (ρ 0)), (1, .int x1), (2, .int x2)] → W p l e (zrm d) s m args below meth c H locs 0 0 Q (F0 m 56 ls [])) {H : Heap} {locs : List Loc} {ls : Array Slot}, f_X7_findFar_b137 k56 x1 x2 M_doors M_joins M_joinA M_joinB M_far = some res → zW D A s.heap (WM q ρ M_code M_doors M_price M_year M_joins M_joinA M_joinB M_walls M_wallA M_wallB M_cost M_olds M_near M_doneMany M_undoneMany M_changeOf M_changeAt M_before M_behind M_tape M_taped M_here M_fault M_open M_laid M_act M_with M_lineMany M_testEnd M_lineEnd M_facts M_pile M_hasLaw M_far M_within M_tooNear M_dried M_isOn M_wasOn M_bodies M_kind M_traces M_traced M_holds M_size M_elements M_shifted) H locs → lv_has ls 5 [(0, .ref (ρ 0)), (1, .int x1), (2, .int x2)] → W p l e (zrm d) s m args below meth c H locs 0 0 Q (F0 m 137 ls []) := by
    intro x1 x2 M_far k56 hk56 H locs ls h hW hl
    unfold f_X7_findFar_b137 at h
    refine lv_iinc (v := (x2 + 1)) (lv' := [(2, .int (x2 + 1)), (0, .ref (ρ 0)), (1, .int x1)]) hx hb dX7_findFar_137 hl (k := 2) rfl rfl (by decide) rfl (fun ls hl => ?_)
    refine lv_goto (tgt := 56) hx hb dX7_findFar_140 (by decide) ?_
    exact hk56 h hW (lv_sub hl [1, 2, 0] rfl)
  have b56 : ∀ {x1 : Int32} {n : Nat} {x2 : Int32} {M_far : Nat → Int32} {H : Heap} {locs : List Loc} {ls : Array Slot}, f_X7_findFar_b56 x1 M_doors M_joins M_joinA M_joinB n x2 M_far = some res → zW D A s.heap (WM q ρ M_code M_doors M_price M_year M_joins M_joinA M_joinB M_walls M_wallA M_wallB M_cost M_olds M_near M_doneMany M_undoneMany M_changeOf M_changeAt M_before M_behind M_tape M_taped M_here M_fault M_open M_laid M_act M_with M_lineMany M_testEnd M_lineEnd M_facts M_pile M_hasLaw M_far M_within M_tooNear M_dried M_isOn M_wasOn M_bodies M_kind M_traces M_traced M_holds M_size M_elements M_shifted) H locs → lv_has ls 5 [(0, .ref (ρ 0)), (1, .int x1), (2, .int x2)] → W p l e (zrm d) s m args below meth c H locs 0 0 Q (F0 m 56 ls []) := by
    intro x1
    intro n
    induction n with
    | zero =>
      intro x2 M_far H locs ls h
      rw [f_X7_findFar_b56] at h
      cases h
    | succ n ih =>
      intro x2 M_far H locs ls h hW hl
      rw [f_X7_findFar_b56] at h
      refine lv_iload_n hx hb dX7_findFar_56 rfl (lv_at hl 2 rfl) ?_
      refine lv_aload_n hx hb dX7_findFar_57 rfl (lv_at hl 0 rfl) ?_
      refine z_get hC hW fg_X7_122 0 WM_0 rfl dX7_findFar_58 ?_
      refine lv_icmp_ge (tgt := 143) hx hb dX7_findFar_61 (by decide) (fun c2 => ?_) (fun c2 => ?_)
      · have h := ifp c2 h
        refine lv_iconst (v := 0) hx hb dX7_findFar_143 (by decide) ?_
        refine lv_istore_n (lv' := [(2, .int 0), (0, .ref (ρ 0)), (1, .int x1)]) hx hb dX7_findFar_144 rfl hl (by decide) rfl (fun ls hl => ?_)
        exact b145 h hW (lv_sub hl [1, 0] rfl)
      · have h := ifn c2 h
        refine lv_iload_n hx hb dX7_findFar_64 rfl (lv_at hl 1 rfl) ?_
        refine lv_aload_n hx hb dX7_findFar_65 rfl (lv_at hl 0 rfl) ?_
        refine z_get hC hW fg_X7_16 0 WM_0 rfl dX7_findFar_66 ?_
        refine lv_iload_n hx hb dX7_findFar_69 rfl (lv_at hl 2 rfl) ?_
        obtain ⟨g13, h⟩ := ix_some h
        refine z_iald hC hW 3 WM_3 g13 dX7_findFar_70 ?_
        refine lv_ishr hx hb dX7_findFar_71 ?_
        refine lv_iconst (v := 1) hx hb dX7_findFar_72 (by decide) ?_
        refine lv_iand hx hb dX7_findFar_73 ?_
        refine lv_if_eq (tgt := 137) hx hb dX7_findFar_74 (by decide) (fun c14 => ?_) (fun c14 => ?_)
        · have h := ifp c14 h
          exact b137 ih h hW (lv_sub hl [0, 1, 2] rfl)
        · have h := ifn c14 h
          refine lv_iload_n hx hb dX7_findFar_77 rfl (lv_at hl 1 rfl) ?_
          refine lv_aload_n hx hb dX7_findFar_78 rfl (lv_at hl 0 rfl) ?_
          refine z_get hC hW fg_X7_19 0 WM_0 rfl dX7_findFar_79 ?_
          refine lv_iload_n hx hb dX7_findFar_82 rfl (lv_at hl 2 rfl) ?_
          obtain ⟨g15, h⟩ := ix_some h
          refine z_iald hC hW 4 WM_4 g15 dX7_findFar_83 ?_
          refine lv_ishr hx hb dX7_findFar_84 ?_
          refine lv_iconst (v := 1) hx hb dX7_findFar_85 (by decide) ?_
          refine lv_iand hx hb dX7_findFar_86 ?_
          refine lv_if_ne (tgt := 93) hx hb dX7_findFar_87 (by decide) (fun c16 => ?_) (fun c16 => ?_)
          · have h := ifn c16 h
            refine lv_aload_n hx hb dX7_findFar_93 rfl (lv_at hl 0 rfl) ?_
            refine z_get hC hW fg_X7_73 0 WM_0 rfl dX7_findFar_94 ?_
            refine lv_bipush (v := 14) hx hb dX7_findFar_97 (by decide) ?_
            refine lv_aload_n hx hb dX7_findFar_99 rfl (lv_at hl 0 rfl) ?_
            refine z_get hC hW fg_X7_16 0 WM_0 rfl dX7_findFar_100 ?_
            refine lv_iload_n hx hb dX7_findFar_103 rfl (lv_at hl 2 rfl) ?_
            obtain ⟨g17, h⟩ := ix_some h
            refine z_iald hC hW 3 WM_3 g17 dX7_findFar_104 ?_
            refine lv_imul hx hb dX7_findFar_105 ?_
            refine lv_aload_n hx hb dX7_findFar_106 rfl (lv_at hl 0 rfl) ?_
            refine z_get hC hW fg_X7_19 0 WM_0 rfl dX7_findFar_107 ?_
            refine lv_iload_n hx hb dX7_findFar_110 rfl (lv_at hl 2 rfl) ?_
            obtain ⟨g18, h⟩ := ix_some h
            refine z_iald hC hW 4 WM_4 g18 dX7_findFar_111 ?_
            refine lv_iadd hx hb dX7_findFar_112 ?_
            refine lv_iconst (v := 1) hx hb dX7_findFar_113 (by decide) ?_
            obtain ⟨g19, h⟩ := ix_some h
            refine z_iast hC hW 20 WM_20 g19 WMs_M_far dX7_findFar_114 (fun H locs hW => ?_)
            refine lv_aload_n hx hb dX7_findFar_115 rfl (lv_at hl 0 rfl) ?_
            refine z_get hC hW fg_X7_73 0 WM_0 rfl dX7_findFar_116 ?_
            refine lv_bipush (v := 14) hx hb dX7_findFar_119 (by decide) ?_
            refine lv_aload_n hx hb dX7_findFar_121 rfl (lv_at hl 0 rfl) ?_
            refine z_get hC hW fg_X7_19 0 WM_0 rfl dX7_findFar_122 ?_
            refine lv_iload_n hx hb dX7_findFar_125 rfl (lv_at hl 2 rfl) ?_
            obtain ⟨g20, h⟩ := ix_some h
            refine z_iald hC hW 4 WM_4 g20 dX7_findFar_126 ?_
            refine lv_imul hx hb dX7_findFar_127 ?_
            refine lv_aload_n hx hb dX7_findFar_128 rfl (lv_at hl 0 rfl) ?_
            refine z_get hC hW fg_X7_16 0 WM_0 rfl dX7_findFar_129 ?_
            refine lv_iload_n hx hb dX7_findFar_132 rfl (lv_at hl 2 rfl) ?_
            obtain ⟨g21, h⟩ := ix_some h
            refine z_iald hC hW 3 WM_3 g21 dX7_findFar_133 ?_
            refine lv_iadd hx hb dX7_findFar_134 ?_
            refine lv_iconst (v := 1) hx hb dX7_findFar_135 (by decide) ?_
            obtain ⟨g22, h⟩ := ix_some h
            refine z_iast hC hW 20 WM_20 g22 WMs_M_far dX7_findFar_136 (fun H locs hW => ?_)
            exact b137 ih h hW (lv_sub hl [0, 1, 2] rfl)
          · have h := ifp c16 h
            refine lv_goto (tgt := 137) hx hb dX7_findFar_90 (by decide) ?_
            exact b137 ih h hW (lv_sub hl [0, 1, 2] rfl)
  have b41 : ∀ {x1 : Int32} {x2 : Int32} {x3 : Int32} {s0 : Int32} {s1 : Int32} {M_far : Nat → Int32} {k2 : Int32 → (Nat → Int32) → Option ((Nat → Int32))} (hk2 : ∀ {x2 : Int32} {M_far : Nat → Int32} {H : Heap} {locs : List Loc} {ls : Array Slot}, k2 x2 M_far = some res → zW D A s.heap (WM q ρ M_code M_doors M_price M_year M_joins M_joinA M_joinB M_walls M_wallA M_wallB M_cost M_olds M_near M_doneMany M_undoneMany M_changeOf M_changeAt M_before M_behind M_tape M_taped M_here M_fault M_open M_laid M_act M_with M_lineMany M_testEnd M_lineEnd M_facts M_pile M_hasLaw M_far M_within M_tooNear M_dried M_isOn M_wasOn M_bodies M_kind M_traces M_traced M_holds M_size M_elements M_shifted) H locs → lv_has ls 5 [(0, .ref (ρ 0)), (1, .int x1), (2, .int x2)] → W p l e (zrm d) s m args below meth c H locs 0 0 Q (F0 m 2 ls [])) {k12 : Int32 → (Nat → Int32) → Option ((Nat → Int32))} (hk12 : ∀ {x3 : Int32} {M_far : Nat → Int32} {H : Heap} {locs : List Loc} {ls : Array Slot}, k12 x3 M_far = some res → zW D A s.heap (WM q ρ M_code M_doors M_price M_year M_joins M_joinA M_joinB M_walls M_wallA M_wallB M_cost M_olds M_near M_doneMany M_undoneMany M_changeOf M_changeAt M_before M_behind M_tape M_taped M_here M_fault M_open M_laid M_act M_with M_lineMany M_testEnd M_lineEnd M_facts M_pile M_hasLaw M_far M_within M_tooNear M_dried M_isOn M_wasOn M_bodies M_kind M_traces M_traced M_holds M_size M_elements M_shifted) H locs → lv_has ls 5 [(0, .ref (ρ 0)), (1, .int x1), (2, .int x2), (3, .int x3)] → W p l e (zrm d) s m args below meth c H locs 0 0 Q (F0 m 12 ls [])) {H : Heap} {locs : List Loc} {ls : Array Slot}, f_X7_findFar_b41 k2 k12 x1 x2 x3 s0 s1 M_doors M_joins M_joinA M_joinB M_far = some res → zW D A s.heap (WM q ρ M_code M_doors M_price M_year M_joins M_joinA M_joinB M_walls M_wallA M_wallB M_cost M_olds M_near M_doneMany M_undoneMany M_changeOf M_changeAt M_before M_behind M_tape M_taped M_here M_fault M_open M_laid M_act M_with M_lineMany M_testEnd M_lineEnd M_facts M_pile M_hasLaw M_far M_within M_tooNear M_dried M_isOn M_wasOn M_bodies M_kind M_traces M_traced M_holds M_size M_elements M_shifted) H locs → lv_has ls 5 [(0, .ref (ρ 0)), (1, .int x1), (2, .int x2), (3, .int x3)] → W p l e (zrm d) s m args below meth c H locs 0 0 Q (F0 m 41 ls [.int s0, .int s1, .ref (ρ 20)]) := by
    intro x1 x2 x3 s0 s1 M_far k2 hk2 k12 hk12 H locs ls h hW hl
    unfold f_X7_findFar_b41 at h
    obtain ⟨g25, h⟩ := ix_some h
    refine z_iast hC hW 20 WM_20 g25 WMs_M_far dX7_findFar_41 (fun H locs hW => ?_)
    refine lv_iinc (v := (x3 + 1)) (lv' := [(3, .int (x3 + 1)), (0, .ref (ρ 0)), (1, .int x1), (2, .int x2)]) hx hb dX7_findFar_42 hl (k := 3) rfl rfl (by decide) rfl (fun ls hl => ?_)
    refine lv_goto (tgt := 12) hx hb dX7_findFar_45 (by decide) ?_
    exact hk12 h hW (lv_sub hl [1, 2, 3, 0] rfl)
  have b12 : ∀ {x1 : Int32} {x2 : Int32} {k2 : Int32 → (Nat → Int32) → Option ((Nat → Int32))} (hk2 : ∀ {x2 : Int32} {M_far : Nat → Int32} {H : Heap} {locs : List Loc} {ls : Array Slot}, k2 x2 M_far = some res → zW D A s.heap (WM q ρ M_code M_doors M_price M_year M_joins M_joinA M_joinB M_walls M_wallA M_wallB M_cost M_olds M_near M_doneMany M_undoneMany M_changeOf M_changeAt M_before M_behind M_tape M_taped M_here M_fault M_open M_laid M_act M_with M_lineMany M_testEnd M_lineEnd M_facts M_pile M_hasLaw M_far M_within M_tooNear M_dried M_isOn M_wasOn M_bodies M_kind M_traces M_traced M_holds M_size M_elements M_shifted) H locs → lv_has ls 5 [(0, .ref (ρ 0)), (1, .int x1), (2, .int x2)] → W p l e (zrm d) s m args below meth c H locs 0 0 Q (F0 m 2 ls [])) {n : Nat} {x3 : Int32} {M_far : Nat → Int32} {H : Heap} {locs : List Loc} {ls : Array Slot}, f_X7_findFar_b12 k2 x1 x2 M_doors M_joins M_joinA M_joinB n x3 M_far = some res → zW D A s.heap (WM q ρ M_code M_doors M_price M_year M_joins M_joinA M_joinB M_walls M_wallA M_wallB M_cost M_olds M_near M_doneMany M_undoneMany M_changeOf M_changeAt M_before M_behind M_tape M_taped M_here M_fault M_open M_laid M_act M_with M_lineMany M_testEnd M_lineEnd M_facts M_pile M_hasLaw M_far M_within M_tooNear M_dried M_isOn M_wasOn M_bodies M_kind M_traces M_traced M_holds M_size M_elements M_shifted) H locs → lv_has ls 5 [(0, .ref (ρ 0)), (1, .int x1), (2, .int x2), (3, .int x3)] → W p l e (zrm d) s m args below meth c H locs 0 0 Q (F0 m 12 ls []) := by
    intro x1 x2 k2 hk2
    intro n
    induction n with
    | zero =>
      intro x3 M_far H locs ls h
      rw [f_X7_findFar_b12] at h
      cases h
    | succ n ih =>
      intro x3 M_far H locs ls h hW hl
      rw [f_X7_findFar_b12] at h
      refine lv_iload_n hx hb dX7_findFar_12 rfl (lv_at hl 3 rfl) ?_
      refine lv_aload_n hx hb dX7_findFar_13 rfl (lv_at hl 0 rfl) ?_
      refine z_get hC hW fg_X7_111 0 WM_0 rfl dX7_findFar_14 ?_
      refine lv_icmp_ge (tgt := 48) hx hb dX7_findFar_17 (by decide) (fun c23 => ?_) (fun c23 => ?_)
      · have h := ifp c23 h
        refine lv_iinc (v := (x2 + 1)) (lv' := [(2, .int (x2 + 1)), (0, .ref (ρ 0)), (1, .int x1), (3, .int x3)]) hx hb dX7_findFar_48 hl (k := 2) rfl rfl (by decide) rfl (fun ls hl => ?_)
        refine lv_goto (tgt := 2) hx hb dX7_findFar_51 (by decide) ?_
        exact hk2 h hW (lv_sub hl [1, 2, 0] rfl)
      · have h := ifn c23 h
        refine lv_aload_n hx hb dX7_findFar_20 rfl (lv_at hl 0 rfl) ?_
        refine z_get hC hW fg_X7_73 0 WM_0 rfl dX7_findFar_21 ?_
        refine lv_bipush (v := 14) hx hb dX7_findFar_24 (by decide) ?_
        refine lv_iload_n hx hb dX7_findFar_26 rfl (lv_at hl 2 rfl) ?_
        refine lv_imul hx hb dX7_findFar_27 ?_
        refine lv_iload_n hx hb dX7_findFar_28 rfl (lv_at hl 3 rfl) ?_
        refine lv_iadd hx hb dX7_findFar_29 ?_
        refine lv_iload_n hx hb dX7_findFar_30 rfl (lv_at hl 2 rfl) ?_
        refine lv_iload_n hx hb dX7_findFar_31 rfl (lv_at hl 3 rfl) ?_
        refine lv_icmp_ne (tgt := 39) hx hb dX7_findFar_32 (by decide) (fun c24 => ?_) (fun c24 => ?_)
        · have h := ifn c24 h
          refine lv_bipush (v := 99) hx hb dX7_findFar_39 (by decide) ?_
          exact b41 hk2 ih h hW (lv_sub hl [0, 1, 2, 3] rfl)
        · have h := ifp c24 h
          refine lv_iconst (v := 0) hx hb dX7_findFar_35 (by decide) ?_
          refine lv_goto (tgt := 41) hx hb dX7_findFar_36 (by decide) ?_
          exact b41 hk2 ih h hW (lv_sub hl [0, 1, 2, 3] rfl)
  have b2 : ∀ {x1 : Int32} {n : Nat} {x2 : Int32} {M_far : Nat → Int32} {H : Heap} {locs : List Loc} {ls : Array Slot}, f_X7_findFar_b2 x1 M_doors M_joins M_joinA M_joinB n x2 M_far = some res → zW D A s.heap (WM q ρ M_code M_doors M_price M_year M_joins M_joinA M_joinB M_walls M_wallA M_wallB M_cost M_olds M_near M_doneMany M_undoneMany M_changeOf M_changeAt M_before M_behind M_tape M_taped M_here M_fault M_open M_laid M_act M_with M_lineMany M_testEnd M_lineEnd M_facts M_pile M_hasLaw M_far M_within M_tooNear M_dried M_isOn M_wasOn M_bodies M_kind M_traces M_traced M_holds M_size M_elements M_shifted) H locs → lv_has ls 5 [(0, .ref (ρ 0)), (1, .int x1), (2, .int x2)] → W p l e (zrm d) s m args below meth c H locs 0 0 Q (F0 m 2 ls []) := by
    intro x1
    intro n
    induction n with
    | zero =>
      intro x2 M_far H locs ls h
      rw [f_X7_findFar_b2] at h
      cases h
    | succ n ih =>
      intro x2 M_far H locs ls h hW hl
      rw [f_X7_findFar_b2] at h
      refine lv_iload_n hx hb dX7_findFar_2 rfl (lv_at hl 2 rfl) ?_
      refine lv_aload_n hx hb dX7_findFar_3 rfl (lv_at hl 0 rfl) ?_
      refine z_get hC hW fg_X7_111 0 WM_0 rfl dX7_findFar_4 ?_
      refine lv_icmp_ge (tgt := 54) hx hb dX7_findFar_7 (by decide) (fun c1 => ?_) (fun c1 => ?_)
      · have h := ifp c1 h
        refine lv_iconst (v := 0) hx hb dX7_findFar_54 (by decide) ?_
        refine lv_istore_n (lv' := [(2, .int 0), (0, .ref (ρ 0)), (1, .int x1)]) hx hb dX7_findFar_55 rfl hl (by decide) rfl (fun ls hl => ?_)
        exact b56 h hW (lv_sub hl [1, 2, 0] rfl)
      · have h := ifn c1 h
        refine lv_iconst (v := 0) hx hb dX7_findFar_10 (by decide) ?_
        refine lv_istore_n (lv' := [(3, .int 0), (0, .ref (ρ 0)), (1, .int x1), (2, .int x2)]) hx hb dX7_findFar_11 rfl hl (by decide) rfl (fun ls hl => ?_)
        exact b12 ih h hW (lv_sub hl [1, 2, 3, 0] rfl)
  unfold f_X7_findFar at h
  refine lv_iconst (v := 0) hx hb dX7_findFar_0 (by decide) ?_
  refine lv_istore_n (lv' := [(2, .int 0), (0, .ref (ρ 0)), (1, .int a1)]) hx hb dX7_findFar_1 rfl hl (by decide) rfl (fun ls hl => ?_)
  exact b2 h hW (lv_sub hl [1, 2, 0] rfl)
set_option maxHeartbeats 4000000 in
set_option maxRecDepth 100000 in
theorem c_X7_far {a1 : Int32} {d : Nat} {res : Int32 × (Nat → Int32)} (hd : 2 ≤ d) (h : f_X7_far a1 M_doors M_joins M_joinA M_joinB M_far = some res) : zMi l yX7_far cX7_far 2 .int (zrm d) [.ref (ρ 0), .int a1] D q (WM q ρ M_code M_doors M_price M_year M_joins M_joinA M_joinB M_walls M_wallA M_wallB M_cost M_olds M_near M_doneMany M_undoneMany M_changeOf M_changeAt M_before M_behind M_tape M_taped M_here M_fault M_open M_laid M_act M_with M_lineMany M_testEnd M_lineEnd M_facts M_pile M_hasLaw M_far M_within M_tooNear M_dried M_isOn M_wasOn M_bodies M_kind M_traces M_traced M_holds M_size M_elements M_shifted) sz res.1 (WM q ρ M_code M_doors M_price M_year M_joins M_joinA M_joinB M_walls M_wallA M_wallB M_cost M_olds M_near M_doneMany M_undoneMany M_changeOf M_changeAt M_before M_behind M_tape M_taped M_here M_fault M_open M_laid M_act M_with M_lineMany M_testEnd M_lineEnd M_facts M_pile M_hasLaw res.2 M_within M_tooNear M_dried M_isOn M_wasOn M_bodies M_kind M_traces M_traced M_holds M_size M_elements M_shifted) := by
  refine zMet_i (own := RX7) _ (by decide) rfl (Nat.le_of_ble_eq_true rfl) ?_
  intro p e s m args below meth c A ls Q hC hW hl hret
  have hx := hC.1
  have hb := hC.2.1
  have hl : lv_has ls 2 [(0, .ref (ρ 0)), (1, .int a1)] := hl
  unfold f_X7_far at h
  refine lv_iload_n hx hb dX7_far_0 rfl (lv_at hl 1 rfl) ?_
  refine lv_if_lt (tgt := 26) hx hb dX7_far_1 (by decide) (fun c1 => ?_) (fun c1 => ?_)
  · have h := ifp c1 h
    refine lv_iconst (v := (-1)) hx hb dX7_far_26 (by decide) ?_
    have h := Option.some.inj h
    subst h
    exact hret _ _ _ _ _ dX7_far_27 rfl rfl hW
  · have h := ifn c1 h
    refine lv_aload_n hx hb dX7_far_4 rfl (lv_at hl 0 rfl) ?_
    refine lv_iload_n hx hb dX7_far_5 rfl (lv_at hl 1 rfl) ?_
    refine lv_bipush (v := 100) hx hb dX7_far_6 (by decide) ?_
    refine lv_idiv hx hb dX7_far_8 (by decide) ?_
    obtain ⟨u2, eu2, h⟩ := bd_some h
    refine z_callV_i hC hW (rest := []) (c_X7_isDoor (d := 1) (Nat.le_refl _) eu2) vw_X7_118 WM_0 rfl ⟨rfl, rfl⟩ (zrm_ok (by omega) (by decide)) rfl rfl hl.1 (Nat.le_of_ble_eq_true rfl) dX7_far_9 (fun H locs hW => ?_)
    refine lv_if_eq (tgt := 26) hx hb dX7_far_12 (by decide) (fun c3 => ?_) (fun c3 => ?_)
    · have h := ifp c3 h
      refine lv_iconst (v := (-1)) hx hb dX7_far_26 (by decide) ?_
      have h := Option.some.inj h
      subst h
      exact hret _ _ _ _ _ dX7_far_27 rfl rfl hW
    · have h := ifn c3 h
      refine lv_aload_n hx hb dX7_far_15 rfl (lv_at hl 0 rfl) ?_
      refine lv_iload_n hx hb dX7_far_16 rfl (lv_at hl 1 rfl) ?_
      refine lv_bipush (v := 100) hx hb dX7_far_17 (by decide) ?_
      refine lv_irem hx hb dX7_far_19 (by decide) ?_
      obtain ⟨u4, eu4, h⟩ := bd_some h
      refine z_callV_i hC hW (rest := []) (c_X7_isDoor (d := 1) (Nat.le_refl _) eu4) vw_X7_118 WM_0 rfl ⟨rfl, rfl⟩ (zrm_ok (by omega) (by decide)) rfl rfl hl.1 (Nat.le_of_ble_eq_true rfl) dX7_far_20 (fun H locs hW => ?_)
      refine lv_if_ne (tgt := 28) hx hb dX7_far_23 (by decide) (fun c5 => ?_) (fun c5 => ?_)
      · have h := ifn c5 h
        refine lv_aload_n hx hb dX7_far_28 rfl (lv_at hl 0 rfl) ?_
        refine lv_aload_n hx hb dX7_far_29 rfl (lv_at hl 0 rfl) ?_
        obtain ⟨u6, eu6, h⟩ := bd_some h
        refine z_callV_i hC hW (rest := [.ref (ρ 0)]) (c_X7_allDoors (d := 0) (Nat.le_refl _) eu6) vw_X7_248 WM_0 rfl ⟨rfl, rfl⟩ (zrm_ok (by omega) (by decide)) rfl rfl hl.1 (Nat.le_of_ble_eq_true rfl) dX7_far_30 (fun H locs hW => ?_)
        obtain ⟨u7, eu7, h⟩ := bd_some h
        refine z_callV_v hC hW (rest := []) (c_X7_findFar (d := 0) (Nat.le_refl _) eu7) vw_X7_244 WM_0 rfl ⟨rfl, rfl⟩ (zrm_ok (by omega) (by decide)) rfl rfl hl.1 (Nat.le_of_ble_eq_true rfl) dX7_far_33 (fun H locs hW => ?_)
        refine lv_aload_n hx hb dX7_far_36 rfl (lv_at hl 0 rfl) ?_
        refine z_get hC hW fg_X7_73 0 WM_0 rfl dX7_far_37 ?_
        refine lv_bipush (v := 14) hx hb dX7_far_40 (by decide) ?_
        refine lv_iload_n hx hb dX7_far_42 rfl (lv_at hl 1 rfl) ?_
        refine lv_bipush (v := 100) hx hb dX7_far_43 (by decide) ?_
        refine lv_idiv hx hb dX7_far_45 (by decide) ?_
        refine lv_imul hx hb dX7_far_46 ?_
        refine lv_iload_n hx hb dX7_far_47 rfl (lv_at hl 1 rfl) ?_
        refine lv_bipush (v := 100) hx hb dX7_far_48 (by decide) ?_
        refine lv_irem hx hb dX7_far_50 (by decide) ?_
        refine lv_iadd hx hb dX7_far_51 ?_
        obtain ⟨g8, h⟩ := ix_some h
        refine z_iald hC hW 20 WM_20 g8 dX7_far_52 ?_
        have h := Option.some.inj h
        subst h
        exact hret _ _ _ _ _ dX7_far_53 rfl rfl hW
      · have h := ifp c5 h
        refine lv_iconst (v := (-1)) hx hb dX7_far_26 (by decide) ?_
        have h := Option.some.inj h
        subst h
        exact hret _ _ _ _ _ dX7_far_27 rfl rfl hW
end CT21_m07
