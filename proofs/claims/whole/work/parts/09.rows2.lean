/-! further rows of our own -/
section ZR2
variable {p : Program} {l : Launch} {e : Env} {R : Room} {s : State} {m : MethodId} {args : Array Value} {below : List Frame} {meth : Method} {c : Code} {H : Heap} {locs : List Loc} {Q : State → Prop}
variable {cc : ByteArray} {own : String} {pc : Nat} {ls : Array Slot} {rest : List Value} {D : va_G} {q : Nat → ClassId} {nL : Nat} {A : Nat → Prop}
theorem z_mmax (hC : zC p s m args c cc own D q nL A) {idx : Nat} (hL : SW own idx Lib.Math.max.name Lib.Math.max.code 2 (some .int) 2) (hls : ls.size = nL) (hf : 1 ≤ R.frames) (hlo : (rest.map fun v => v.category).sum + 18 ≤ R.locals) {x y : Int32} (hdg : decode cc pc = .ok (.invokestatic idx, 3))
    (kk : W p l e R s m args below meth c H locs 0 0 Q (F0 m (pc + 3) ls (.int (if x < y then y else x) :: rest))) : W p l e R s m args below meth c H locs 0 0 Q (F0 m pc ls (.int y :: .int x :: rest)) :=
  va_mmax hC.1 hC.2.1 (hC.2.2.2.2.2.1.trans hls.symm) hC.2.2.1 (hC.2.2.2.1 _ hL.1.1) (hC.2.2.2.1 _ hL.1.2.1) (hC.2.2.2.1 _ hL.1.2.2.1) (hC.2.2.2.1 _ hL.1.2.2.2) hf (by omega) (Nat.zero_le _) (Nat.zero_le _) hdg kk
theorem z_mmin (hC : zC p s m args c cc own D q nL A) {idx : Nat} (hL : SW own idx Lib.Math.min.name Lib.Math.min.code 2 (some .int) 2) (hls : ls.size = nL) (hf : 1 ≤ R.frames) (hlo : (rest.map fun v => v.category).sum + 18 ≤ R.locals) {x y : Int32} (hdg : decode cc pc = .ok (.invokestatic idx, 3))
    (kk : W p l e R s m args below meth c H locs 0 0 Q (F0 m (pc + 3) ls (.int (if y < x then y else x) :: rest))) : W p l e R s m args below meth c H locs 0 0 Q (F0 m pc ls (.int y :: .int x :: rest)) :=
  va_mmin hC.1 hC.2.1 (hC.2.2.2.2.2.1.trans hls.symm) hC.2.2.1 (hC.2.2.2.1 _ hL.1.1) (hC.2.2.2.1 _ hL.1.2.1) (hC.2.2.2.1 _ hL.1.2.2.1) (hC.2.2.2.1 _ hL.1.2.2.2) hf (by omega) (Nat.zero_le _) (Nat.zero_le _) hdg kk
end ZR2
