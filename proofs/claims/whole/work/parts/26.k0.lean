theorem wo_i : Cond.instanceMethod objectInit ∈ TB := tb_of (List.mem_of_getElem? (i := 95) (by decide +kernel)) rfl
theorem wo_c : Cond.code objectInit ⟨#[0xb1]⟩ 1 none ∈ TB := tb_of (List.mem_of_getElem? (i := 96) (by decide +kernel)) rfl
theorem zv_of {N : Nat} {ty : Nat → FieldType} {fs : List Value} (h : ∀ j, j < N → defaultValue (ty j) = vp_V fs j) : ∀ j, j < N → defaultValue (ty j) = vp_V fs j := h
theorem z_recell {D : va_G} {A : Nat → Prop} {H0 H : Heap} {locs : List Loc} {ws ws' : va_W} (hW : zW D A H0 ws H locs) (p : Nat) {a n : Nat} {c : ClassId} {f g : Nat → Option Nat} (he : ws[p]? = some (a, .inl (c, n, .inr (.inr (.inr (.inr f)))))) (hg : ∀ i, i < n → f i = g i) (hws : ws.set p (a, .inl (c, n, .inr (.inr (.inr (.inr g))))) = ws') : zW D A H0 ws' H locs := by
  subst hws
  refine ⟨hW.1.set hW.2.1 he ?_ (fun _ _ => rfl), hW.2.1.set he, hW.2.2.1, hW.2.2.2⟩
  have h := hW.1 p _ he
  show H[a]? = some (vp_cell c (n, .inr (.inr (.inr (.inr g)))))
  have h2 : H[a]? = some (vp_cell c (n, .inr (.inr (.inr (.inr f))))) := h
  rw [h2, vp_cell_q, vp_cell_q]
  unfold arrV
  congr 3
  funext j
  show va_rf (f j.val) = va_rf (g j.val)
  rw [hg j.val j.isLt]
theorem z_perm {D : va_G} {A : Nat → Prop} {H0 H : Heap} {locs : List Loc} {ws ws' : va_W} (hW : zW D A H0 ws H locs) (is : List Nat) (hn : va_nd is = true) (hs : is.map (fun i => ws[i]?) = ws'.map some) : zW D A H0 ws' H locs := by
  refine ⟨fun k x hx => ?_, hW.2.1.sub is hn hs, hW.2.2.1, hW.2.2.2⟩
  have h1 : (is.map (fun i => ws[i]?))[k]? = some (some x) := by rw [hs, List.getElem?_map, hx]; rfl
  rw [List.getElem?_map] at h1
  cases hi : is[k]? with
  | none => rw [hi] at h1; cases h1
  | some i => rw [hi] at h1; exact hW.1 i x (Option.some.inj h1)
theorem wd_102 : Cond.methodLink RX5 3 objectInit ∈ TB := tb_of (List.mem_of_getElem? (i := 102) (by decide +kernel)) rfl
theorem wd_151 : Cond.arrayClass .int ∈ TB := tb_of (List.mem_of_getElem? (i := 151) (by decide +kernel)) rfl
theorem ff_X5_9 : FF RX5 9 5 0 (.array .int) := ⟨RX5, TX5, 10, tyX5, rfl, inlX5, by decide, wd_103, tyX5_ok, nmX5, by decide, rfl, by decide +kernel⟩
theorem ff_X5_15 : FF RX5 15 5 1 (.array .int) := ⟨RX5, TX5, 10, tyX5, rfl, inlX5, by decide, wd_107, tyX5_ok, nmX5, by decide, rfl, by decide +kernel⟩
theorem ff_X5_18 : FF RX5 18 5 2 (.array .int) := ⟨RX5, TX5, 10, tyX5, rfl, inlX5, by decide, wd_110, tyX5_ok, nmX5, by decide, rfl, by decide +kernel⟩
theorem ff_X5_21 : FF RX5 21 5 3 (.array .int) := ⟨RX5, TX5, 10, tyX5, rfl, inlX5, by decide, wd_113, tyX5_ok, nmX5, by decide, rfl, by decide +kernel⟩
theorem ff_X5_24 : FF RX5 24 5 4 (.array .int) := ⟨RX5, TX5, 10, tyX5, rfl, inlX5, by decide, wd_116, tyX5_ok, nmX5, by decide, rfl, by decide +kernel⟩
theorem wd_157 : Cond.methodLink RX2 3 objectInit ∈ TB := tb_of (List.mem_of_getElem? (i := 157) (by decide +kernel)) rfl
theorem wd_199 : Cond.arrayClass .byte ∈ TB := tb_of (List.mem_of_getElem? (i := 199) (by decide +kernel)) rfl
theorem ff_X2_9 : FF RX2 9 2 0 (.array .byte) := ⟨RX2, TX2, 13, tyX2, rfl, inlX2, by decide, wd_158, tyX2_ok, nmX2, by decide, rfl, by decide +kernel⟩
theorem ff_X2_15 : FF RX2 15 2 1 (.array .byte) := ⟨RX2, TX2, 13, tyX2, rfl, inlX2, by decide, wd_159, tyX2_ok, nmX2, by decide, rfl, by decide +kernel⟩
theorem wd_205 : Cond.methodLink RX3 5 objectInit ∈ TB := tb_of (List.mem_of_getElem? (i := 205) (by decide +kernel)) rfl
theorem wd_mna : Cond.classLink RX3 11 ("[" ++ (FieldType.array .int).toString) ∈ TB := tb_of (List.mem_of_getElem? (i := 206) (by decide +kernel)) rfl
theorem ff_X3_13 : FF RX3 13 3 0 (.array (.array .int)) := ⟨RX3, TX3, 12, tyX3, rfl, inlX3, by decide, wd_208, tyX3_ok, nmX3, by decide, rfl, by decide +kernel⟩
theorem ff_X3_16 : FF RX3 16 3 1 (.array .int) := ⟨RX3, TX3, 12, tyX3, rfl, inlX3, by decide, wd_210, tyX3_ok, nmX3, by decide, rfl, by decide +kernel⟩
theorem ff_X3_20 : FF RX3 20 3 2 (.array .int) := ⟨RX3, TX3, 12, tyX3, rfl, inlX3, by decide, wd_211, tyX3_ok, nmX3, by decide, rfl, by decide +kernel⟩
theorem ff_X3_23 : FF RX3 23 3 3 (.array .int) := ⟨RX3, TX3, 12, tyX3, rfl, inlX3, by decide, wd_212, tyX3_ok, nmX3, by decide, rfl, by decide +kernel⟩
theorem ff_X3_26 : FF RX3 26 3 4 (.array .int) := ⟨RX3, TX3, 12, tyX3, rfl, inlX3, by decide, wd_213, tyX3_ok, nmX3, by decide, rfl, by decide +kernel⟩
theorem ff_X3_29 : FF RX3 29 3 5 (.array .int) := ⟨RX3, TX3, 12, tyX3, rfl, inlX3, by decide, wd_214, tyX3_ok, nmX3, by decide, rfl, by decide +kernel⟩
theorem ff_X3_32 : FF RX3 32 3 6 (.array .int) := ⟨RX3, TX3, 12, tyX3, rfl, inlX3, by decide, wd_215, tyX3_ok, nmX3, by decide, rfl, by decide +kernel⟩
theorem ff_X3_35 : FF RX3 35 3 7 (.array .int) := ⟨RX3, TX3, 12, tyX3, rfl, inlX3, by decide, wd_216, tyX3_ok, nmX3, by decide, rfl, by decide +kernel⟩
theorem ff_X3_38 : FF RX3 38 3 8 (.array .int) := ⟨RX3, TX3, 12, tyX3, rfl, inlX3, by decide, wd_217, tyX3_ok, nmX3, by decide, rfl, by decide +kernel⟩
theorem wd_253 : Cond.methodLink RX1 3 objectInit ∈ TB := tb_of (List.mem_of_getElem? (i := 253) (by decide +kernel)) rfl
theorem ff_X1_9 : FF RX1 9 1 0 (.array .int) := ⟨RX1, TX1, 6, tyX1, rfl, inlX1, by decide, wd_254, tyX1_ok, nmX1, by decide, rfl, by decide +kernel⟩
theorem ff_X1_15 : FF RX1 15 1 1 (.array .int) := ⟨RX1, TX1, 6, tyX1, rfl, inlX1, by decide, wd_255, tyX1_ok, nmX1, by decide, rfl, by decide +kernel⟩
theorem ff_X1_18 : FF RX1 18 1 2 (.array .int) := ⟨RX1, TX1, 6, tyX1, rfl, inlX1, by decide, wd_256, tyX1_ok, nmX1, by decide, rfl, by decide +kernel⟩
theorem ff_X1_21 : FF RX1 21 1 3 (.array .int) := ⟨RX1, TX1, 6, tyX1, rfl, inlX1, by decide, wd_257, tyX1_ok, nmX1, by decide, rfl, by decide +kernel⟩
theorem wd_280 : Cond.methodLink RX0 3 objectInit ∈ TB := tb_of (List.mem_of_getElem? (i := 280) (by decide +kernel)) rfl
theorem ff_X0_9 : FF RX0 9 0 0 (.array .int) := ⟨RX0, TX0, 6, tyX0, rfl, inlX0, by decide, wd_281, tyX0_ok, nmX0, by decide, rfl, by decide +kernel⟩
theorem ff_X0_15 : FF RX0 15 0 1 (.array .int) := ⟨RX0, TX0, 6, tyX0, rfl, inlX0, by decide, wd_283, tyX0_ok, nmX0, by decide, rfl, by decide +kernel⟩
theorem wd_310 : Cond.methodLink RX4 3 objectInit ∈ TB := tb_of (List.mem_of_getElem? (i := 310) (by decide +kernel)) rfl
theorem wd_332 : Cond.arrayClass .long ∈ TB := tb_of (List.mem_of_getElem? (i := 332) (by decide +kernel)) rfl
theorem ff_X4_9 : FF RX4 9 4 4 (.array .long) := ⟨RX4, TX4, 5, tyX4, rfl, inlX4, by decide, wd_318, tyX4_ok, nmX4, by decide, rfl, by decide +kernel⟩
theorem wd_94 : Cond.methodLink RX6 1 objectInit ∈ TB := tb_of (List.mem_of_getElem? (i := 94) (by decide +kernel)) rfl
theorem wd_97 : Cond.classLink RX6 7 RX5 ∈ TB := tb_of (List.mem_of_getElem? (i := 97) (by decide +kernel)) rfl
theorem wd_98 : Cond.instantiable RX5 10 ∈ TB := tb_of (List.mem_of_getElem? (i := 98) (by decide +kernel)) rfl
theorem wd_100 : Cond.instanceMethod yX5_init ∈ TB := tb_of (List.mem_of_getElem? (i := 100) (by decide +kernel)) rfl
theorem wd_101 : Cond.code yX5_init cX5_init 1 none ∈ TB := tb_of (List.mem_of_getElem? (i := 101) (by decide +kernel)) rfl
theorem ff_X6_10 : FF RX6 10 6 0 (.object "ThreeDoors$Town") := ⟨RX6, TX6, 7, tyX6, rfl, inlX6, by decide, wd_333, tyX6_ok, nmX6, by decide, rfl, by decide +kernel⟩
theorem wd_152 : Cond.classLink RX6 16 RX2 ∈ TB := tb_of (List.mem_of_getElem? (i := 152) (by decide +kernel)) rfl
theorem wd_153 : Cond.instantiable RX2 13 ∈ TB := tb_of (List.mem_of_getElem? (i := 153) (by decide +kernel)) rfl
theorem wd_155 : Cond.instanceMethod yX2_init ∈ TB := tb_of (List.mem_of_getElem? (i := 155) (by decide +kernel)) rfl
theorem wd_156 : Cond.code yX2_init cX2_init 1 none ∈ TB := tb_of (List.mem_of_getElem? (i := 156) (by decide +kernel)) rfl
theorem ff_X6_19 : FF RX6 19 6 1 (.object "ThreeDoors$Law") := ⟨RX6, TX6, 7, tyX6, rfl, inlX6, by decide, wd_334, tyX6_ok, nmX6, by decide, rfl, by decide +kernel⟩
theorem wd_200 : Cond.classLink RX6 23 RX3 ∈ TB := tb_of (List.mem_of_getElem? (i := 200) (by decide +kernel)) rfl
theorem wd_201 : Cond.instantiable RX3 12 ∈ TB := tb_of (List.mem_of_getElem? (i := 201) (by decide +kernel)) rfl
theorem wd_203 : Cond.instanceMethod yX3_init ∈ TB := tb_of (List.mem_of_getElem? (i := 203) (by decide +kernel)) rfl
theorem wd_204 : Cond.code yX3_init cX3_init 1 none ∈ TB := tb_of (List.mem_of_getElem? (i := 204) (by decide +kernel)) rfl
theorem ff_X6_26 : FF RX6 26 6 2 (.object "ThreeDoors$Plan") := ⟨RX6, TX6, 7, tyX6, rfl, inlX6, by decide, wd_335, tyX6_ok, nmX6, by decide, rfl, by decide +kernel⟩
theorem wd_248 : Cond.classLink RX6 30 RX1 ∈ TB := tb_of (List.mem_of_getElem? (i := 248) (by decide +kernel)) rfl
theorem wd_249 : Cond.instantiable RX1 6 ∈ TB := tb_of (List.mem_of_getElem? (i := 249) (by decide +kernel)) rfl
theorem wd_251 : Cond.instanceMethod yX1_init ∈ TB := tb_of (List.mem_of_getElem? (i := 251) (by decide +kernel)) rfl
theorem wd_252 : Cond.code yX1_init cX1_init 1 none ∈ TB := tb_of (List.mem_of_getElem? (i := 252) (by decide +kernel)) rfl
theorem ff_X6_33 : FF RX6 33 6 3 (.object "ThreeDoors$Changes") := ⟨RX6, TX6, 7, tyX6, rfl, inlX6, by decide, wd_336, tyX6_ok, nmX6, by decide, rfl, by decide +kernel⟩
theorem wd_275 : Cond.classLink RX6 37 RX0 ∈ TB := tb_of (List.mem_of_getElem? (i := 275) (by decide +kernel)) rfl
theorem wd_276 : Cond.instantiable RX0 6 ∈ TB := tb_of (List.mem_of_getElem? (i := 276) (by decide +kernel)) rfl
theorem wd_278 : Cond.instanceMethod yX0_init ∈ TB := tb_of (List.mem_of_getElem? (i := 278) (by decide +kernel)) rfl
theorem wd_279 : Cond.code yX0_init cX0_init 1 none ∈ TB := tb_of (List.mem_of_getElem? (i := 279) (by decide +kernel)) rfl
theorem ff_X6_40 : FF RX6 40 6 4 (.object "ThreeDoors$Acts") := ⟨RX6, TX6, 7, tyX6, rfl, inlX6, by decide, wd_337, tyX6_ok, nmX6, by decide, rfl, by decide +kernel⟩
theorem wd_304 : Cond.classLink RX6 44 RX4 ∈ TB := tb_of (List.mem_of_getElem? (i := 304) (by decide +kernel)) rfl
theorem ff_X6_46 : FF RX6 46 6 5 (.array (.object "ThreeDoors$Shelf")) := ⟨RX6, TX6, 7, tyX6, rfl, inlX6, by decide, wd_338, tyX6_ok, nmX6, by decide, rfl, by decide +kernel⟩
theorem wd_331 : Cond.arrayClass .boolean ∈ TB := tb_of (List.mem_of_getElem? (i := 331) (by decide +kernel)) rfl
theorem ff_X6_50 : FF RX6 50 6 6 (.array .boolean) := ⟨RX6, TX6, 7, tyX6, rfl, inlX6, by decide, wd_339, tyX6_ok, nmX6, by decide, rfl, by decide +kernel⟩
theorem wd_306 : Cond.instantiable RX4 5 ∈ TB := tb_of (List.mem_of_getElem? (i := 306) (by decide +kernel)) rfl
theorem wd_308 : Cond.instanceMethod yX4_init ∈ TB := tb_of (List.mem_of_getElem? (i := 308) (by decide +kernel)) rfl
theorem wd_309 : Cond.code yX4_init cX4_init 1 none ∈ TB := tb_of (List.mem_of_getElem? (i := 309) (by decide +kernel)) rfl
def WC0 (q : Nat → ClassId) (ρ : Nat → Nat) : va_W := (WC q ρ (fun _ => 0) (fun _ => 0) (fun _ => 0) (fun _ => 0) (fun _ => 0) 0 0 0 0 4 (fun _ => 0) (fun _ => 0) 0 0 14 0 0 0 0 0 0 0 0 (fun _ _ => 0) (fun _ => 0) (fun _ => 0) (fun _ => 0) (fun _ => 0) (fun _ => 0) (fun _ => 0) (fun _ => 0) (fun _ => 0) 0 0 0 (fun _ => 0) (fun _ => 0) (fun _ => 0) (fun _ => 0) 0 0 (fun _ => 0) (fun _ => 0) 0 0 0 0 (fun _ => 0) (fun _ => 0) (fun _ => 0) (fun _ => 0) (fun _ _ => 0) (fun _ => 0))
theorem wd_812 : Cond.methodLink RX7 1 objectInit ∈ TB := tb_of (List.mem_of_getElem? (i := 812) (by decide +kernel)) rfl
theorem ff_X7_7 : FF RX7 7 7 2 (.array .int) := ⟨RX7, TX7, 47, tyX7, rfl, inlX7, by decide, wd_814, tyX7_ok, nmX7, by decide, rfl, by decide +kernel⟩
theorem ff_X7_13 : FF RX7 13 7 3 (.array .int) := ⟨RX7, TX7, 47, tyX7, rfl, inlX7, by decide, wd_815, tyX7_ok, nmX7, by decide, rfl, by decide +kernel⟩
theorem ff_X7_16 : FF RX7 16 7 5 (.array .int) := ⟨RX7, TX7, 47, tyX7, rfl, inlX7, by decide, wd_817, tyX7_ok, nmX7, by decide, rfl, by decide +kernel⟩
theorem ff_X7_19 : FF RX7 19 7 6 (.array .int) := ⟨RX7, TX7, 47, tyX7, rfl, inlX7, by decide, wd_818, tyX7_ok, nmX7, by decide, rfl, by decide +kernel⟩
theorem ff_X7_22 : FF RX7 22 7 8 (.array .int) := ⟨RX7, TX7, 47, tyX7, rfl, inlX7, by decide, wd_820, tyX7_ok, nmX7, by decide, rfl, by decide +kernel⟩
theorem ff_X7_25 : FF RX7 25 7 9 (.array .int) := ⟨RX7, TX7, 47, tyX7, rfl, inlX7, by decide, wd_821, tyX7_ok, nmX7, by decide, rfl, by decide +kernel⟩
theorem ff_X7_28 : FF RX7 28 7 10 (.array .int) := ⟨RX7, TX7, 47, tyX7, rfl, inlX7, by decide, wd_822, tyX7_ok, nmX7, by decide, rfl, by decide +kernel⟩
theorem ff_X7_35 : FF RX7 35 7 15 (.array .int) := ⟨RX7, TX7, 47, tyX7, rfl, inlX7, by decide, wd_827, tyX7_ok, nmX7, by decide, rfl, by decide +kernel⟩
theorem ff_X7_38 : FF RX7 38 7 16 (.array .int) := ⟨RX7, TX7, 47, tyX7, rfl, inlX7, by decide, wd_828, tyX7_ok, nmX7, by decide, rfl, by decide +kernel⟩
theorem ff_X7_41 : FF RX7 41 7 17 (.array .int) := ⟨RX7, TX7, 47, tyX7, rfl, inlX7, by decide, wd_829, tyX7_ok, nmX7, by decide, rfl, by decide +kernel⟩
theorem ff_X7_44 : FF RX7 44 7 18 (.array .int) := ⟨RX7, TX7, 47, tyX7, rfl, inlX7, by decide, wd_830, tyX7_ok, nmX7, by decide, rfl, by decide +kernel⟩
theorem ff_X7_47 : FF RX7 47 7 19 (.array .byte) := ⟨RX7, TX7, 47, tyX7, rfl, inlX7, by decide, wd_831, tyX7_ok, nmX7, by decide, rfl, by decide +kernel⟩
theorem ff_X7_51 : FF RX7 51 7 25 (.array .byte) := ⟨RX7, TX7, 47, tyX7, rfl, inlX7, by decide, wd_837, tyX7_ok, nmX7, by decide, rfl, by decide +kernel⟩
theorem ff_X7_54 : FF RX7 54 7 26 (.array .int) := ⟨RX7, TX7, 47, tyX7, rfl, inlX7, by decide, wd_838, tyX7_ok, nmX7, by decide, rfl, by decide +kernel⟩
theorem ff_X7_57 : FF RX7 57 7 27 (.array .int) := ⟨RX7, TX7, 47, tyX7, rfl, inlX7, by decide, wd_839, tyX7_ok, nmX7, by decide, rfl, by decide +kernel⟩
theorem wd_954 : Cond.arrayClass .short ∈ TB := tb_of (List.mem_of_getElem? (i := 954) (by decide +kernel)) rfl
theorem ff_X7_60 : FF RX7 60 7 28 (.array .short) := ⟨RX7, TX7, 47, tyX7, rfl, inlX7, by decide, wd_840, tyX7_ok, nmX7, by decide, rfl, by decide +kernel⟩
theorem ff_X7_64 : FF RX7 64 7 29 (.array .short) := ⟨RX7, TX7, 47, tyX7, rfl, inlX7, by decide, wd_841, tyX7_ok, nmX7, by decide, rfl, by decide +kernel⟩
theorem ff_X7_67 : FF RX7 67 7 30 (.array .int) := ⟨RX7, TX7, 47, tyX7, rfl, inlX7, by decide, wd_842, tyX7_ok, nmX7, by decide, rfl, by decide +kernel⟩
theorem ff_X7_70 : FF RX7 70 7 31 (.array .int) := ⟨RX7, TX7, 47, tyX7, rfl, inlX7, by decide, wd_843, tyX7_ok, nmX7, by decide, rfl, by decide +kernel⟩
theorem ff_X7_73 : FF RX7 73 7 33 (.array .int) := ⟨RX7, TX7, 47, tyX7, rfl, inlX7, by decide, wd_845, tyX7_ok, nmX7, by decide, rfl, by decide +kernel⟩
theorem ff_X7_76 : FF RX7 76 7 34 (.array .int) := ⟨RX7, TX7, 47, tyX7, rfl, inlX7, by decide, wd_846, tyX7_ok, nmX7, by decide, rfl, by decide +kernel⟩
theorem ff_X7_79 : FF RX7 79 7 35 (.array .int) := ⟨RX7, TX7, 47, tyX7, rfl, inlX7, by decide, wd_847, tyX7_ok, nmX7, by decide, rfl, by decide +kernel⟩
theorem ff_X7_82 : FF RX7 82 7 37 (.array .boolean) := ⟨RX7, TX7, 47, tyX7, rfl, inlX7, by decide, wd_849, tyX7_ok, nmX7, by decide, rfl, by decide +kernel⟩
theorem ff_X7_86 : FF RX7 86 7 38 (.array .boolean) := ⟨RX7, TX7, 47, tyX7, rfl, inlX7, by decide, wd_850, tyX7_ok, nmX7, by decide, rfl, by decide +kernel⟩
theorem ff_X7_89 : FF RX7 89 7 40 (.array .int) := ⟨RX7, TX7, 47, tyX7, rfl, inlX7, by decide, wd_852, tyX7_ok, nmX7, by decide, rfl, by decide +kernel⟩
theorem ff_X7_92 : FF RX7 92 7 42 (.array .int) := ⟨RX7, TX7, 47, tyX7, rfl, inlX7, by decide, wd_854, tyX7_ok, nmX7, by decide, rfl, by decide +kernel⟩
theorem ff_X7_95 : FF RX7 95 7 43 (.array .int) := ⟨RX7, TX7, 47, tyX7, rfl, inlX7, by decide, wd_855, tyX7_ok, nmX7, by decide, rfl, by decide +kernel⟩
theorem ff_X7_98 : FF RX7 98 7 44 (.array .int) := ⟨RX7, TX7, 47, tyX7, rfl, inlX7, by decide, wd_856, tyX7_ok, nmX7, by decide, rfl, by decide +kernel⟩
theorem ff_X7_101 : FF RX7 101 7 45 (.array .long) := ⟨RX7, TX7, 47, tyX7, rfl, inlX7, by decide, wd_857, tyX7_ok, nmX7, by decide, rfl, by decide +kernel⟩
theorem ff_X7_105 : FF RX7 105 7 46 (.array .long) := ⟨RX7, TX7, 47, tyX7, rfl, inlX7, by decide, wd_858, tyX7_ok, nmX7, by decide, rfl, by decide +kernel⟩
def M0_holds : Nat → Int32 := (upd (upd (upd (upd (upd (upd (fun _ => 0) (Int32.toNatClampNeg 0) (-1)) (Int32.toNatClampNeg 1) (-1)) (Int32.toNatClampNeg 2) (-1)) (Int32.toNatClampNeg 3) (-1)) (Int32.toNatClampNeg 4) (-1)) (Int32.toNatClampNeg 5) (-1))
def WM0 (q : Nat → ClassId) (ρ : Nat → Nat) : va_W := (WM q ρ 0 0 (fun _ => 0) (fun _ => 0) 0 (fun _ => 0) (fun _ => 0) 0 (fun _ => 0) (fun _ => 0) (fun _ => 0) 0 4 0 0 (fun _ => 0) (fun _ => 0) (fun _ => 0) (fun _ => 0) (fun _ => 0) 0 0 0 0 0 (fun _ => 0) (fun _ => 0) (fun _ => 0) (fun _ => 0) (fun _ => 0) (fun _ => 0) (fun _ => 0) 0 (fun _ => 0) (fun _ => 0) (fun _ => 0) 0 (fun _ => 0) (fun _ => 0) 0 (fun _ => 0) 0 (fun _ => 0) M0_holds (fun _ => 0) (fun _ => 0) (fun _ => 0))
