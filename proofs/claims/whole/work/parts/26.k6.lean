set_option maxHeartbeats 4000000 in
set_option maxRecDepth 100000 in
theorem c_X4_init {l : Launch} {D : va_G} {q : Nat → ClassId} {h0 sz : Nat} : zMk l yX4_init cX4_init 1 ({ frames := 1, cells := 1, slots := 60, locals := 32 } : Room) h0 D q [(h0, .inr (4, [.int 0, .int 0, .int 0, .int 0, .null]))] sz (fun u : Nat => [(h0, .inr (4, [.int 0, .int 0, .int 0, .int 0, .ref u])), (u, .inl (q 2, 60, .inr (.inl (fun _ => 0))))]) (fun _ => True) 1 60 := by
  refine zMet_k (own := RX4) (by decide) rfl rfl (Nat.le_of_ble_eq_true rfl) ?_
  intro p e s m args below meth c A ls Q hC hin hao hW hl hret
  have hx := hC.1
  have hb := hC.2.1
  refine lv_aload_n hx hb dX4_init_0 rfl (lv_at hl 0 rfl) ?_
  refine zk_objInit hC wd_310 wo_i wo_c hl.1 (Nat.le_of_ble_eq_true rfl) (Nat.le_of_ble_eq_true rfl) dX4_init_1 ?_
  refine lv_aload_n hx hb dX4_init_4 rfl (lv_at hl 0 rfl) ?_
  refine lv_bipush (v := 60) hx hb dX4_init_5 (by decide) ?_
  refine zk_newa (atype := .long) (ty := .long) hC hW wd_332 rfl 2 rfl (fun _ _ h => h) (a0 := (60, .inr (.inl (fun _ => 0)))) (N' := 60) (fun _ => rfl) (by decide) (by decide) (by decide) (Nat.le_of_ble_eq_true rfl) (Nat.le_of_ble_eq_true rfl) dX4_init_7 (fun x1 H hW => ?_)
  have hW : zW D A s.heap [(h0, .inr (4, [.int 0, .int 0, .int 0, .int 0, .null])), (x1, .inl (q 2, 60, .inr (.inl (fun _ => 0))))] H _ := hW
  refine zk_putF hC hW hin ff_X4_9 0 rfl (Nat.le_of_ble_eq_true rfl) rfl rfl (ws' := [(h0, .inr (4, [.int 0, .int 0, .int 0, .int 0, .ref x1])), (x1, .inl (q 2, 60, .inr (.inl (fun _ => 0))))]) rfl dX4_init_9 (fun H locs hW => ?_)
  exact hret _ _ _ _ (x1) _ _ dX4_init_12 trivial hW (Nat.le_of_ble_eq_true rfl) (Nat.le_of_ble_eq_true rfl)
