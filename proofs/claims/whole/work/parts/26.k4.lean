set_option maxHeartbeats 4000000 in
set_option maxRecDepth 100000 in
theorem c_X1_init {l : Launch} {D : va_G} {q : Nat → ClassId} {h0 sz : Nat} : zMk l yX1_init cX1_init 1 ({ frames := 1, cells := 4, slots := 160, locals := 32 } : Room) h0 D q [(h0, .inr (1, [.null, .null, .null, .null, .int 0, .int 0]))] sz (fun u : Nat × Nat × Nat × Nat => [(h0, .inr (1, [.ref u.1, .ref u.2.1, .ref u.2.2.1, .ref u.2.2.2, .int 0, .int 0])), (u.1, .inl (q 0, 40, .inl (fun _ => 0))), (u.2.1, .inl (q 0, 40, .inl (fun _ => 0))), (u.2.2.1, .inl (q 0, 40, .inl (fun _ => 0))), (u.2.2.2, .inl (q 0, 40, .inl (fun _ => 0)))]) (fun _ => True) 4 160 := by
  refine zMet_k (own := RX1) (by decide) rfl rfl (Nat.le_of_ble_eq_true rfl) ?_
  intro p e s m args below meth c A ls Q hC hin hao hW hl hret
  have hx := hC.1
  have hb := hC.2.1
  refine lv_aload_n hx hb dX1_init_0 rfl (lv_at hl 0 rfl) ?_
  refine zk_objInit hC wd_253 wo_i wo_c hl.1 (Nat.le_of_ble_eq_true rfl) (Nat.le_of_ble_eq_true rfl) dX1_init_1 ?_
  refine lv_aload_n hx hb dX1_init_4 rfl (lv_at hl 0 rfl) ?_
  refine lv_bipush (v := 40) hx hb dX1_init_5 (by decide) ?_
  refine zk_newa (atype := .int) (ty := .int) hC hW wd_151 rfl 0 rfl (fun _ _ h => h) (a0 := (40, .inl (fun _ => 0))) (N' := 40) (fun _ => rfl) (by decide) (by decide) (by decide) (Nat.le_of_ble_eq_true rfl) (Nat.le_of_ble_eq_true rfl) dX1_init_7 (fun x1 H hW => ?_)
  have hW : zW D A s.heap [(h0, .inr (1, [.null, .null, .null, .null, .int 0, .int 0])), (x1, .inl (q 0, 40, .inl (fun _ => 0)))] H _ := hW
  refine zk_putF hC hW hin ff_X1_9 0 rfl (Nat.le_of_ble_eq_true rfl) rfl rfl (ws' := [(h0, .inr (1, [.ref x1, .null, .null, .null, .int 0, .int 0])), (x1, .inl (q 0, 40, .inl (fun _ => 0)))]) rfl dX1_init_9 (fun H locs hW => ?_)
  refine lv_aload_n hx hb dX1_init_12 rfl (lv_at hl 0 rfl) ?_
  refine lv_bipush (v := 40) hx hb dX1_init_13 (by decide) ?_
  refine zk_newa (atype := .int) (ty := .int) hC hW wd_151 rfl 0 rfl (fun _ _ h => h) (a0 := (40, .inl (fun _ => 0))) (N' := 40) (fun _ => rfl) (by decide) (by decide) (by decide) (Nat.le_of_ble_eq_true rfl) (Nat.le_of_ble_eq_true rfl) dX1_init_15 (fun x2 H hW => ?_)
  have hW : zW D A s.heap [(h0, .inr (1, [.ref x1, .null, .null, .null, .int 0, .int 0])), (x1, .inl (q 0, 40, .inl (fun _ => 0))), (x2, .inl (q 0, 40, .inl (fun _ => 0)))] H _ := hW
  refine zk_putF hC hW hin ff_X1_15 0 rfl (Nat.le_of_ble_eq_true rfl) rfl rfl (ws' := [(h0, .inr (1, [.ref x1, .ref x2, .null, .null, .int 0, .int 0])), (x1, .inl (q 0, 40, .inl (fun _ => 0))), (x2, .inl (q 0, 40, .inl (fun _ => 0)))]) rfl dX1_init_17 (fun H locs hW => ?_)
  refine lv_aload_n hx hb dX1_init_20 rfl (lv_at hl 0 rfl) ?_
  refine lv_bipush (v := 40) hx hb dX1_init_21 (by decide) ?_
  refine zk_newa (atype := .int) (ty := .int) hC hW wd_151 rfl 0 rfl (fun _ _ h => h) (a0 := (40, .inl (fun _ => 0))) (N' := 40) (fun _ => rfl) (by decide) (by decide) (by decide) (Nat.le_of_ble_eq_true rfl) (Nat.le_of_ble_eq_true rfl) dX1_init_23 (fun x3 H hW => ?_)
  have hW : zW D A s.heap [(h0, .inr (1, [.ref x1, .ref x2, .null, .null, .int 0, .int 0])), (x1, .inl (q 0, 40, .inl (fun _ => 0))), (x2, .inl (q 0, 40, .inl (fun _ => 0))), (x3, .inl (q 0, 40, .inl (fun _ => 0)))] H _ := hW
  refine zk_putF hC hW hin ff_X1_18 0 rfl (Nat.le_of_ble_eq_true rfl) rfl rfl (ws' := [(h0, .inr (1, [.ref x1, .ref x2, .ref x3, .null, .int 0, .int 0])), (x1, .inl (q 0, 40, .inl (fun _ => 0))), (x2, .inl (q 0, 40, .inl (fun _ => 0))), (x3, .inl (q 0, 40, .inl (fun _ => 0)))]) rfl dX1_init_25 (fun H locs hW => ?_)
  refine lv_aload_n hx hb dX1_init_28 rfl (lv_at hl 0 rfl) ?_
  refine lv_bipush (v := 40) hx hb dX1_init_29 (by decide) ?_
  refine zk_newa (atype := .int) (ty := .int) hC hW wd_151 rfl 0 rfl (fun _ _ h => h) (a0 := (40, .inl (fun _ => 0))) (N' := 40) (fun _ => rfl) (by decide) (by decide) (by decide) (Nat.le_of_ble_eq_true rfl) (Nat.le_of_ble_eq_true rfl) dX1_init_31 (fun x4 H hW => ?_)
  have hW : zW D A s.heap [(h0, .inr (1, [.ref x1, .ref x2, .ref x3, .null, .int 0, .int 0])), (x1, .inl (q 0, 40, .inl (fun _ => 0))), (x2, .inl (q 0, 40, .inl (fun _ => 0))), (x3, .inl (q 0, 40, .inl (fun _ => 0))), (x4, .inl (q 0, 40, .inl (fun _ => 0)))] H _ := hW
  refine zk_putF hC hW hin ff_X1_21 0 rfl (Nat.le_of_ble_eq_true rfl) rfl rfl (ws' := [(h0, .inr (1, [.ref x1, .ref x2, .ref x3, .ref x4, .int 0, .int 0])), (x1, .inl (q 0, 40, .inl (fun _ => 0))), (x2, .inl (q 0, 40, .inl (fun _ => 0))), (x3, .inl (q 0, 40, .inl (fun _ => 0))), (x4, .inl (q 0, 40, .inl (fun _ => 0)))]) rfl dX1_init_33 (fun H locs hW => ?_)
  exact hret _ _ _ _ (x1, x2, x3, x4) _ _ dX1_init_36 trivial hW (Nat.le_of_ble_eq_true rfl) (Nat.le_of_ble_eq_true rfl)
