set_option maxHeartbeats 800000 in
set_option maxRecDepth 100000 in
theorem c_X3_mixed (l : Launch) (D : va_G) (y : Nat → ClassId) (L : List Nat) (F : Nat → va_E) (s0 : Int64) (n : Int)  : Met l yX3_mixed (.code yX3_mixed cX3_mixed 3 (some .long) :: Tt) ({ frames := 0, cells := 0, slots := 0, locals := 0 }) (PcR D y L F [.long (s0), .int (iI n)]) (cSl (fun r => r = mxd s0 n)) 0 0 (fun _ => False) := by
  refine q_ofR (lv := [(0, .long (s0)), (2, .int (iI n))]) (by decide) (Nat.le_of_ble_eq_true rfl) rfl (fun p e s m below meth c C0 hret hlk hP ls hl => ?_)
  have hx := C0.1.1
  have hb := C0.1.2.1
  have hts := C0.1.2.2.2.2
  refine lv_lload_n hx hb dX3_mixed_0 rfl (lv_at hl 0 rfl) ?_
  refine lv_ldc2 (v := 31) hx hb C0.1.2.2.2.1 (hts _ (List.mem_cons_of_mem _ cLX3_320)) dX3_mixed_1 ?_
  refine lv_lmul hx hb dX3_mixed_4 ?_
  refine lv_iload_n hx hb dX3_mixed_5 rfl (lv_at hl 1 rfl) ?_
  refine lv_i2l hx hb dX3_mixed_6 rfl ?_
  refine lv_ladd hx hb dX3_mixed_7 ?_
  exact q_lretS C0 hret hlk dX3_mixed_8 (rfl)
