-- integers as Int
def iI (z : Int) : Int32 := Int32.ofInt z
theorem iI_toInt {z : Int} (h : -2147483648 ≤ z ∧ z ≤ 2147483647) : (iI z).toInt = z := Int32.toInt_ofInt_of_le (by omega) (by omega)
theorem iI_inj {a b : Int} (ha : -2147483648 ≤ a ∧ a ≤ 2147483647) (hb : -2147483648 ≤ b ∧ b ≤ 2147483647) : iI a = iI b ↔ a = b := ⟨fun h => by rw [← iI_toInt ha, h, iI_toInt hb], fun h => by rw [h]⟩
theorem iI_lt {a b : Int} (ha : -2147483648 ≤ a ∧ a ≤ 2147483647) (hb : -2147483648 ≤ b ∧ b ≤ 2147483647) : iI a < iI b ↔ a < b := by rw [Int32.lt_iff_toInt_lt, iI_toInt ha, iI_toInt hb]
theorem iI_le {a b : Int} (ha : -2147483648 ≤ a ∧ a ≤ 2147483647) (hb : -2147483648 ≤ b ∧ b ≤ 2147483647) : iI a ≤ iI b ↔ a ≤ b := by rw [Int32.le_iff_toInt_le, iI_toInt ha, iI_toInt hb]
theorem iI_add (a b : Int) : iI a + iI b = iI (a + b) := (Int32.ofInt_add a b).symm
theorem iI_sub (a b : Int) : iI a - iI b = iI (a - b) := (Int32.ofInt_sub a b).symm
theorem iI_mul (a b : Int) : iI a * iI b = iI (a * b) := (Int32.ofInt_mul a b).symm
theorem iI_nat {a : Int} (h : 0 ≤ a) : iI a = nI a.toNat := by
  obtain ⟨n, rfl⟩ := Int.eq_ofNat_of_zero_le h
  exact Int32.ofInt_eq_ofNat
theorem iI_ofnat (n : Nat) : iI (n : Int) = nI n := Int32.ofInt_eq_ofNat
theorem iI_div {a b : Int} (ha : 0 ≤ a ∧ a ≤ 2147483647) (hb : 0 < b ∧ b ≤ 2147483647) : iI a / iI b = iI (a / b) := by
  obtain ⟨n, rfl⟩ := Int.eq_ofNat_of_zero_le ha.1
  obtain ⟨k, rfl⟩ := Int.eq_ofNat_of_zero_le (Int.le_of_lt hb.1)
  rw [iI_ofnat, iI_ofnat, pk_div (by omega) (by omega) (by omega), ← iI_ofnat, Int.natCast_ediv]
theorem iI_rem {a b : Int} (ha : 0 ≤ a ∧ a ≤ 2147483647) (hb : 0 < b ∧ b ≤ 2147483647) : iI a - iI a / iI b * iI b = iI (a % b) := by
  obtain ⟨n, rfl⟩ := Int.eq_ofNat_of_zero_le ha.1
  obtain ⟨k, rfl⟩ := Int.eq_ofNat_of_zero_le (Int.le_of_lt hb.1)
  rw [iI_ofnat, iI_ofnat, pk_rem (by omega) (by omega) (by omega), ← iI_ofnat, Int.natCast_emod]
theorem iI_of (x : Int32) : ∃ z : Int, x = iI z ∧ -2147483648 ≤ z ∧ z ≤ 2147483647 := ⟨x.toInt, (Int32.ofInt_toInt x).symm, by have := Int32.le_toInt x; omega, by have := Int32.toInt_lt x; omega⟩
theorem iI_clamp {z : Int} (h : 0 ≤ z ∧ z ≤ 2147483647) : (iI z).toNatClampNeg = z.toNat := Int32.toNatClampNeg_ofInt_of_le (by omega) (by omega)
theorem iI_0 : (0 : Int32) = iI 0 := by decide
theorem iI_in {z : Int} {n : Nat} (h0 : 0 ≤ z) (h1 : z < n) (hn : n ≤ 2147483647) : vp_in (iI z) n := by
  refine vp_in_iff.mpr ?_
  rw [iI_toInt (by omega)]
  exact ⟨h0, h1⟩
theorem iI_min (a b : Int) (ha : -2147483648 ≤ a ∧ a ≤ 2147483647) (hb : -2147483648 ≤ b ∧ b ≤ 2147483647) : (if iI b < iI a then iI b else iI a) = iI (min a b) := by
  by_cases h : b < a
  · rw [if_pos ((iI_lt hb ha).mpr h), show min a b = b by omega]
  · rw [if_neg (fun q => h ((iI_lt hb ha).mp q)), show min a b = a by omega]
theorem iI_max (a b : Int) (ha : -2147483648 ≤ a ∧ a ≤ 2147483647) (hb : -2147483648 ≤ b ∧ b ≤ 2147483647) : (if iI a < iI b then iI b else iI a) = iI (max a b) := by
  by_cases h : a < b
  · rw [if_pos ((iI_lt ha hb).mpr h), show max a b = b by omega]
  · rw [if_neg (fun q => h ((iI_lt ha hb).mp q)), show max a b = a by omega]
section QI
variable {p : Program} {l : Launch} {e : Env} {R : Room} {s : State} {m : MethodId} {args : Array Value} {below : List Frame} {meth : Method} {c : Code} {H : Heap} {locs : List Loc} {cells slots : Nat} {Q : State → Prop} {cc : ByteArray} {pc : Nat} {ls : Array Slot} {rest : List Value}
theorem q_iadd (hx : p.tables.exec = Jvm.exec) (hb : c.code = cc) {a b : Int} (hdg : decode cc pc = .ok (.iadd, 1)) (k : W p l e R s m args below meth c H locs cells slots Q (F0 m (pc + 1) ls (.int (iI (a + b)) :: rest))) : W p l e R s m args below meth c H locs cells slots Q (F0 m pc ls (.int (iI b) :: .int (iI a) :: rest)) := lv_iadd hx hb hdg (by rw [iI_add]; exact k)
theorem q_isub (hx : p.tables.exec = Jvm.exec) (hb : c.code = cc) {a b : Int} (hdg : decode cc pc = .ok (.isub, 1)) (k : W p l e R s m args below meth c H locs cells slots Q (F0 m (pc + 1) ls (.int (iI (a - b)) :: rest))) : W p l e R s m args below meth c H locs cells slots Q (F0 m pc ls (.int (iI b) :: .int (iI a) :: rest)) := lv_isub hx hb hdg (by rw [iI_sub]; exact k)
theorem q_imul (hx : p.tables.exec = Jvm.exec) (hb : c.code = cc) {a b : Int} (hdg : decode cc pc = .ok (.imul, 1)) (k : W p l e R s m args below meth c H locs cells slots Q (F0 m (pc + 1) ls (.int (iI (a * b)) :: rest))) : W p l e R s m args below meth c H locs cells slots Q (F0 m pc ls (.int (iI b) :: .int (iI a) :: rest)) := lv_imul hx hb hdg (by rw [iI_mul]; exact k)
theorem q_idiv (hx : p.tables.exec = Jvm.exec) (hb : c.code = cc) {a b : Int} (hdg : decode cc pc = .ok (.idiv, 1)) (ha : 0 ≤ a ∧ a ≤ 2147483647) (hb2 : 0 < b ∧ b ≤ 2147483647) (k : W p l e R s m args below meth c H locs cells slots Q (F0 m (pc + 1) ls (.int (iI (a / b)) :: rest))) : W p l e R s m args below meth c H locs cells slots Q (F0 m pc ls (.int (iI b) :: .int (iI a) :: rest)) := lv_idiv hx hb hdg (fun h => by rw [iI_0, iI_inj (by omega) (by omega)] at h; omega) (by rw [iI_div ha hb2]; exact k)
theorem q_irem (hx : p.tables.exec = Jvm.exec) (hb : c.code = cc) {a b : Int} (hdg : decode cc pc = .ok (.irem, 1)) (ha : 0 ≤ a ∧ a ≤ 2147483647) (hb2 : 0 < b ∧ b ≤ 2147483647) (k : W p l e R s m args below meth c H locs cells slots Q (F0 m (pc + 1) ls (.int (iI (a % b)) :: rest))) : W p l e R s m args below meth c H locs cells slots Q (F0 m pc ls (.int (iI b) :: .int (iI a) :: rest)) := lv_irem hx hb hdg (fun h => by rw [iI_0, iI_inj (by omega) (by omega)] at h; omega) (by rw [iI_rem ha hb2]; exact k)
theorem q_iconst (hx : p.tables.exec = Jvm.exec) (hb : c.code = cc) {n : Int} (hdg : decode cc pc = .ok (.iconst n, 1)) (k : W p l e R s m args below meth c H locs cells slots Q (F0 m (pc + 1) ls (.int (iI n) :: rest))) : W p l e R s m args below meth c H locs cells slots Q (F0 m pc ls rest) := lv_iconst (v := iI n) hx hb hdg rfl k
theorem q_bipush (hx : p.tables.exec = Jvm.exec) (hb : c.code = cc) {n : Int} (hdg : decode cc pc = .ok (.bipush n, 2)) (hn : -128 ≤ n ∧ n ≤ 127) (k : W p l e R s m args below meth c H locs cells slots Q (F0 m (pc + 2) ls (.int (iI n) :: rest))) : W p l e R s m args below meth c H locs cells slots Q (F0 m pc ls rest) := lv_bipush (v := iI n) hx hb hdg (Int32.toInt_inj.mp (by rw [iI_toInt (by omega), Int8.toInt_toInt32, Int8.toInt_ofInt_of_le (by omega) (by omega)])) k
theorem q_sipush (hx : p.tables.exec = Jvm.exec) (hb : c.code = cc) {n : Int} (hdg : decode cc pc = .ok (.sipush n, 3)) (hn : -32768 ≤ n ∧ n ≤ 32767) (k : W p l e R s m args below meth c H locs cells slots Q (F0 m (pc + 3) ls (.int (iI n) :: rest))) : W p l e R s m args below meth c H locs cells slots Q (F0 m pc ls rest) := lv_sipush (v := iI n) hx hb hdg (Int32.toInt_inj.mp (by rw [iI_toInt (by omega), Int16.toInt_toInt32, Int16.toInt_ofInt_of_le (by omega) (by omega)])) k
theorem q_iinc (hx : p.tables.exec = Jvm.exec) (hb : c.code = cc) {i nL k : Nat} {n x : Int} {lv lv' : List (Nat × Value)} (hdg : decode cc pc = .ok (.iinc i n, 3)) (h : lv_has ls nL lv) (hk : lv[k]? = some (i, .int (iI x))) (hn : i < nL) (hl : (i, Value.int (iI (x + n))) :: lv.filter (fun q => !(q.1 == i) && !(q.1 + 1 == i && q.2.category == 2)) = lv') (kk : ∀ ls' : Array Slot, lv_has ls' nL lv' → W p l e R s m args below meth c H locs cells slots Q (F0 m (pc + 3) ls' rest)) : W p l e R s m args below meth c H locs cells slots Q (F0 m pc ls rest) := lv_iinc (v := iI (x + n)) hx hb hdg h hk (iI_add x n) hn hl kk
theorem q_if_eq (hx : p.tables.exec = Jvm.exec) (hb : c.code = cc) {a off : Int} {tgt : Nat} (hdg : decode cc pc = .ok (.ifCond .eq off, 3)) (ht : (pc : Int) + off = (tgt : Int)) (ha : -2147483648 ≤ a ∧ a ≤ 2147483647) (kt : a = 0 → W p l e R s m args below meth c H locs cells slots Q (F0 m tgt ls rest)) (kf : a ≠ 0 → W p l e R s m args below meth c H locs cells slots Q (F0 m (pc + 3) ls rest)) : W p l e R s m args below meth c H locs cells slots Q (F0 m pc ls (.int (iI a) :: rest)) := lv_if_eq hx hb hdg ht (fun q => kt (by rw [iI_0, iI_inj ha (by omega)] at q; omega)) (fun q => kf (by rw [iI_0, iI_inj ha (by omega)] at q; omega))
theorem q_if_ne (hx : p.tables.exec = Jvm.exec) (hb : c.code = cc) {a off : Int} {tgt : Nat} (hdg : decode cc pc = .ok (.ifCond .ne off, 3)) (ht : (pc : Int) + off = (tgt : Int)) (ha : -2147483648 ≤ a ∧ a ≤ 2147483647) (kt : a ≠ 0 → W p l e R s m args below meth c H locs cells slots Q (F0 m tgt ls rest)) (kf : a = 0 → W p l e R s m args below meth c H locs cells slots Q (F0 m (pc + 3) ls rest)) : W p l e R s m args below meth c H locs cells slots Q (F0 m pc ls (.int (iI a) :: rest)) := lv_if_ne hx hb hdg ht (fun q => kt (by rw [iI_0, iI_inj ha (by omega)] at q; omega)) (fun q => kf (by rw [iI_0, iI_inj ha (by omega)] at q; omega))
theorem q_if_lt (hx : p.tables.exec = Jvm.exec) (hb : c.code = cc) {a off : Int} {tgt : Nat} (hdg : decode cc pc = .ok (.ifCond .lt off, 3)) (ht : (pc : Int) + off = (tgt : Int)) (ha : -2147483648 ≤ a ∧ a ≤ 2147483647) (kt : a < 0 → W p l e R s m args below meth c H locs cells slots Q (F0 m tgt ls rest)) (kf : 0 ≤ a → W p l e R s m args below meth c H locs cells slots Q (F0 m (pc + 3) ls rest)) : W p l e R s m args below meth c H locs cells slots Q (F0 m pc ls (.int (iI a) :: rest)) := lv_if_lt hx hb hdg ht (fun q => kt (by rw [iI_0, iI_lt ha (by omega)] at q; omega)) (fun q => kf (by rw [iI_0, iI_lt ha (by omega)] at q; omega))
theorem q_if_ge (hx : p.tables.exec = Jvm.exec) (hb : c.code = cc) {a off : Int} {tgt : Nat} (hdg : decode cc pc = .ok (.ifCond .ge off, 3)) (ht : (pc : Int) + off = (tgt : Int)) (ha : -2147483648 ≤ a ∧ a ≤ 2147483647) (kt : 0 ≤ a → W p l e R s m args below meth c H locs cells slots Q (F0 m tgt ls rest)) (kf : a < 0 → W p l e R s m args below meth c H locs cells slots Q (F0 m (pc + 3) ls rest)) : W p l e R s m args below meth c H locs cells slots Q (F0 m pc ls (.int (iI a) :: rest)) := lv_if_ge hx hb hdg ht (fun q => kt (by rw [iI_0, iI_le (by omega) ha] at q; omega)) (fun q => kf (by rw [iI_0, iI_le (by omega) ha] at q; omega))
theorem q_if_gt (hx : p.tables.exec = Jvm.exec) (hb : c.code = cc) {a off : Int} {tgt : Nat} (hdg : decode cc pc = .ok (.ifCond .gt off, 3)) (ht : (pc : Int) + off = (tgt : Int)) (ha : -2147483648 ≤ a ∧ a ≤ 2147483647) (kt : 0 < a → W p l e R s m args below meth c H locs cells slots Q (F0 m tgt ls rest)) (kf : a ≤ 0 → W p l e R s m args below meth c H locs cells slots Q (F0 m (pc + 3) ls rest)) : W p l e R s m args below meth c H locs cells slots Q (F0 m pc ls (.int (iI a) :: rest)) := lv_if_gt hx hb hdg ht (fun q => kt (by rw [iI_0, iI_lt (by omega) ha] at q; omega)) (fun q => kf (by rw [iI_0, iI_lt (by omega) ha] at q; omega))
theorem q_if_le (hx : p.tables.exec = Jvm.exec) (hb : c.code = cc) {a off : Int} {tgt : Nat} (hdg : decode cc pc = .ok (.ifCond .le off, 3)) (ht : (pc : Int) + off = (tgt : Int)) (ha : -2147483648 ≤ a ∧ a ≤ 2147483647) (kt : a ≤ 0 → W p l e R s m args below meth c H locs cells slots Q (F0 m tgt ls rest)) (kf : 0 < a → W p l e R s m args below meth c H locs cells slots Q (F0 m (pc + 3) ls rest)) : W p l e R s m args below meth c H locs cells slots Q (F0 m pc ls (.int (iI a) :: rest)) := lv_if_le hx hb hdg ht (fun q => kt (by rw [iI_0, iI_le ha (by omega)] at q; omega)) (fun q => kf (by rw [iI_0, iI_le ha (by omega)] at q; omega))
theorem q_icmp_eq (hx : p.tables.exec = Jvm.exec) (hb : c.code = cc) {a b off : Int} {tgt : Nat} (hdg : decode cc pc = .ok (.if_icmp .eq off, 3)) (ht : (pc : Int) + off = (tgt : Int)) (ha : -2147483648 ≤ a ∧ a ≤ 2147483647) (hb2 : -2147483648 ≤ b ∧ b ≤ 2147483647) (kt : a = b → W p l e R s m args below meth c H locs cells slots Q (F0 m tgt ls rest)) (kf : a ≠ b → W p l e R s m args below meth c H locs cells slots Q (F0 m (pc + 3) ls rest)) : W p l e R s m args below meth c H locs cells slots Q (F0 m pc ls (.int (iI b) :: .int (iI a) :: rest)) := lv_icmp_eq hx hb hdg ht (fun q => kt (by rw [iI_inj ha hb2] at q; omega)) (fun q => kf (by rw [iI_inj ha hb2] at q; omega))
theorem q_icmp_ne (hx : p.tables.exec = Jvm.exec) (hb : c.code = cc) {a b off : Int} {tgt : Nat} (hdg : decode cc pc = .ok (.if_icmp .ne off, 3)) (ht : (pc : Int) + off = (tgt : Int)) (ha : -2147483648 ≤ a ∧ a ≤ 2147483647) (hb2 : -2147483648 ≤ b ∧ b ≤ 2147483647) (kt : a ≠ b → W p l e R s m args below meth c H locs cells slots Q (F0 m tgt ls rest)) (kf : a = b → W p l e R s m args below meth c H locs cells slots Q (F0 m (pc + 3) ls rest)) : W p l e R s m args below meth c H locs cells slots Q (F0 m pc ls (.int (iI b) :: .int (iI a) :: rest)) := lv_icmp_ne hx hb hdg ht (fun q => kt (by rw [iI_inj ha hb2] at q; omega)) (fun q => kf (by rw [iI_inj ha hb2] at q; omega))
theorem q_icmp_lt (hx : p.tables.exec = Jvm.exec) (hb : c.code = cc) {a b off : Int} {tgt : Nat} (hdg : decode cc pc = .ok (.if_icmp .lt off, 3)) (ht : (pc : Int) + off = (tgt : Int)) (ha : -2147483648 ≤ a ∧ a ≤ 2147483647) (hb2 : -2147483648 ≤ b ∧ b ≤ 2147483647) (kt : a < b → W p l e R s m args below meth c H locs cells slots Q (F0 m tgt ls rest)) (kf : b ≤ a → W p l e R s m args below meth c H locs cells slots Q (F0 m (pc + 3) ls rest)) : W p l e R s m args below meth c H locs cells slots Q (F0 m pc ls (.int (iI b) :: .int (iI a) :: rest)) := lv_icmp_lt hx hb hdg ht (fun q => kt (by rw [iI_lt ha hb2] at q; omega)) (fun q => kf (by rw [iI_lt ha hb2] at q; omega))
theorem q_icmp_ge (hx : p.tables.exec = Jvm.exec) (hb : c.code = cc) {a b off : Int} {tgt : Nat} (hdg : decode cc pc = .ok (.if_icmp .ge off, 3)) (ht : (pc : Int) + off = (tgt : Int)) (ha : -2147483648 ≤ a ∧ a ≤ 2147483647) (hb2 : -2147483648 ≤ b ∧ b ≤ 2147483647) (kt : b ≤ a → W p l e R s m args below meth c H locs cells slots Q (F0 m tgt ls rest)) (kf : a < b → W p l e R s m args below meth c H locs cells slots Q (F0 m (pc + 3) ls rest)) : W p l e R s m args below meth c H locs cells slots Q (F0 m pc ls (.int (iI b) :: .int (iI a) :: rest)) := lv_icmp_ge hx hb hdg ht (fun q => kt (by rw [iI_le hb2 ha] at q; omega)) (fun q => kf (by rw [iI_le hb2 ha] at q; omega))
theorem q_icmp_gt (hx : p.tables.exec = Jvm.exec) (hb : c.code = cc) {a b off : Int} {tgt : Nat} (hdg : decode cc pc = .ok (.if_icmp .gt off, 3)) (ht : (pc : Int) + off = (tgt : Int)) (ha : -2147483648 ≤ a ∧ a ≤ 2147483647) (hb2 : -2147483648 ≤ b ∧ b ≤ 2147483647) (kt : b < a → W p l e R s m args below meth c H locs cells slots Q (F0 m tgt ls rest)) (kf : a ≤ b → W p l e R s m args below meth c H locs cells slots Q (F0 m (pc + 3) ls rest)) : W p l e R s m args below meth c H locs cells slots Q (F0 m pc ls (.int (iI b) :: .int (iI a) :: rest)) := lv_icmp_gt hx hb hdg ht (fun q => kt (by rw [iI_lt hb2 ha] at q; omega)) (fun q => kf (by rw [iI_lt hb2 ha] at q; omega))
theorem q_icmp_le (hx : p.tables.exec = Jvm.exec) (hb : c.code = cc) {a b off : Int} {tgt : Nat} (hdg : decode cc pc = .ok (.if_icmp .le off, 3)) (ht : (pc : Int) + off = (tgt : Int)) (ha : -2147483648 ≤ a ∧ a ≤ 2147483647) (hb2 : -2147483648 ≤ b ∧ b ≤ 2147483647) (kt : a ≤ b → W p l e R s m args below meth c H locs cells slots Q (F0 m tgt ls rest)) (kf : b < a → W p l e R s m args below meth c H locs cells slots Q (F0 m (pc + 3) ls rest)) : W p l e R s m args below meth c H locs cells slots Q (F0 m pc ls (.int (iI b) :: .int (iI a) :: rest)) := lv_icmp_le hx hb hdg ht (fun q => kt (by rw [iI_le ha hb2] at q; omega)) (fun q => kf (by rw [iI_le ha hb2] at q; omega))
theorem q_min (hx : p.tables.exec = Jvm.exec) (hb : c.code = cc) (hml : c.maxLocals = ls.size) {own : String} {index : Nat} (hown : s.vm.findClass own = some m.cls) {kw : Cond} (hts : ∀ w ∈ kw :: Tt, w.before args s = true) (h1 : Cond.methodLink own index Lib.Math.min.name ∈ Tt) (h2 : Cond.static Lib.Math.min.name ∈ Tt) (h3 : Cond.initialized "java/lang/Math" ∈ Tt) (h4 : Cond.code Lib.Math.min.name Lib.Math.min.code 2 (some .int) ∈ Tt) (hframes : 1 ≤ R.frames) (hlocals : (rest.map fun v => v.category).sum + 13 ≤ R.locals) (hc : cells ≤ R.cells) (hs : slots ≤ R.slots) {a b : Int} (hdg : decode cc pc = .ok (.invokestatic index, 3)) (ha : -2147483648 ≤ a ∧ a ≤ 2147483647) (hb2 : -2147483648 ≤ b ∧ b ≤ 2147483647) (k : W p l e R s m args below meth c H locs cells slots Q (F0 m (pc + 3) ls (.int (iI (min a b)) :: rest))) : W p l e R s m args below meth c H locs cells slots Q (F0 m pc ls (.int (iI b) :: .int (iI a) :: rest)) := va_mmin hx hb hml hown (hts _ (List.mem_cons_of_mem _ h1)) (hts _ (List.mem_cons_of_mem _ h2)) (hts _ (List.mem_cons_of_mem _ h3)) (hts _ (List.mem_cons_of_mem _ h4)) hframes hlocals hc hs hdg (by rw [iI_min a b ha hb2]; exact k)
theorem q_max (hx : p.tables.exec = Jvm.exec) (hb : c.code = cc) (hml : c.maxLocals = ls.size) {own : String} {index : Nat} (hown : s.vm.findClass own = some m.cls) {kw : Cond} (hts : ∀ w ∈ kw :: Tt, w.before args s = true) (h1 : Cond.methodLink own index Lib.Math.max.name ∈ Tt) (h2 : Cond.static Lib.Math.max.name ∈ Tt) (h3 : Cond.initialized "java/lang/Math" ∈ Tt) (h4 : Cond.code Lib.Math.max.name Lib.Math.max.code 2 (some .int) ∈ Tt) (hframes : 1 ≤ R.frames) (hlocals : (rest.map fun v => v.category).sum + 13 ≤ R.locals) (hc : cells ≤ R.cells) (hs : slots ≤ R.slots) {a b : Int} (hdg : decode cc pc = .ok (.invokestatic index, 3)) (ha : -2147483648 ≤ a ∧ a ≤ 2147483647) (hb2 : -2147483648 ≤ b ∧ b ≤ 2147483647) (k : W p l e R s m args below meth c H locs cells slots Q (F0 m (pc + 3) ls (.int (iI (max a b)) :: rest))) : W p l e R s m args below meth c H locs cells slots Q (F0 m pc ls (.int (iI b) :: .int (iI a) :: rest)) := va_mmax hx hb hml hown (hts _ (List.mem_cons_of_mem _ h1)) (hts _ (List.mem_cons_of_mem _ h2)) (hts _ (List.mem_cons_of_mem _ h3)) (hts _ (List.mem_cons_of_mem _ h4)) hframes hlocals hc hs hdg (by rw [iI_max a b ha hb2]; exact k)
end QI
-- the pool: addresses L, what each holds F
abbrev tysG (y : Nat → ClassId) : List (ClassId × FieldType) := [(y 0, .int), (y 1, .object "Bookgrafter$Row"), (y 2, .object "Bookgrafter$View"), (y 3, .object "BookgrafterModel$Book"), (y 4, .byte)]
abbrev xIO : String := "java/lang/IndexOutOfBoundsException"
abbrev xIA : String := "java/lang/IllegalArgumentException"
abbrev xNm : List String := ["java/lang/RuntimeException", "java/lang/Exception"]
/-- the String constants that are loaded -/
def strL : List (String × Nat × String) := [(RX3, 276, "no such place"), (RX3, 281, "no such shelf"), (RX3, 283, "no such view"), (RX3, 287, "a number out of its range"), (RX3, 290, "no key"), (RX3, 292, "no worth"), (RX3, 155, ", "), (RX6, 139, "{"), (RX6, 147, ", "), (RX6, 156, "="), (RX6, 158, "}"), (RX6, 135, "")]
def KS (U : State) : Prop := ∀ q ∈ strL, ∃ a : Nat, vk_R q.1 q.2.1 q.2.2 a U
def KK (D : va_G) (y : Nat → ClassId) (U : State) : Prop := va_K D vwCl (tysG y) U ∧ va_AO "Bookgrafter$Row" U ∧ va_AO "Bookgrafter$View" U ∧ va_AO "BookgrafterModel$Book" U ∧ va_Nw (.methodLinkNest "Bookgrafter" 32 yX2_init "Bookgrafter") U ∧ va_Nw (.fieldLinkNest "BookgrafterModel" 53 "BookgrafterModel$Book" "worths" "[I" "BookgrafterModel") U ∧ va_Nw (.fieldLinkNest "BookgrafterModel" 75 "BookgrafterModel$Book" "order" "I" "BookgrafterModel") U ∧ va_Nw (.methodLinkNest "BookgrafterLaw" 155 yX4_init "BookgrafterLaw") U ∧ va_Nw (.fieldLinkNest "BookgrafterLaw" 13 "BookgrafterLaw$Out" "n" "J" "BookgrafterLaw") U ∧ va_Nw (.fieldLinkNest "BookgrafterLaw" 76 "BookgrafterLaw$Out" "s" "Ljava/lang/String;" "BookgrafterLaw") U ∧ va_Nw (.castable xIO xIO) U ∧ va_Nw (.castable xIA xIA) U ∧ KS U ∧ va_Nw (.declares (Bundle.initS "java/lang/RuntimeException")) U ∧ va_Nw (.declares (Bundle.initS "java/lang/Exception")) U ∧ va_Nw (.declares (Bundle.initS "java/lang/Throwable")) U
theorem KK.warm {D : va_G} {y : Nat → ClassId} {s U : State} (hW : s.WarmedH U.vm) (h : KK D y s) : KK D y U := by
  obtain ⟨h1, h2, h3, h4, h5, h6, h7, h8, h9, h10, h11, h12, h13, h14, h15, h16⟩ := h
  exact ⟨va_K.moved hW.alike h1, va_AO.moved hW.alike h2, va_AO.moved hW.alike h3, va_AO.moved hW.alike h4, va_Nw.warmM hW h5, va_Nw.warmF hW h6, va_Nw.warmF hW h7, va_Nw.warmM hW h8, va_Nw.warmF hW h9, va_Nw.warmF hW h10, va_Nw.warmC hW h11, va_Nw.warmC hW h12, fun q hq => (h13 q hq).imp fun a ha => vk_R.warm hW ha, va_Nw.warmD hW h14, va_Nw.warmD hW h15, va_Nw.warmD hW h16⟩
theorem KK.call {D : va_G} {y : Nat → ClassId} {U : State} {g : JFrame} {mk : MethodId} {a : Array Value} (h : KK D y U) : KK D y (U.calling g mk a) := by
  obtain ⟨h1, h2, h3, h4, h5, h6, h7, h8, h9, h10, h11, h12, h13, h14, h15, h16⟩ := h
  have e : U.vm = (U.calling g mk a).vm := rfl
  exact ⟨va_K.moved (u := U) (U := U.calling g mk a) (Vm.Alike.refl U.vm) h1, va_AO.moved (u := U) (U := U.calling g mk a) (Vm.Alike.refl U.vm) h2, va_AO.moved (u := U) (U := U.calling g mk a) (Vm.Alike.refl U.vm) h3, va_AO.moved (u := U) (U := U.calling g mk a) (Vm.Alike.refl U.vm) h4, va_Nw.same rfl e h5, va_Nw.same rfl e h6, va_Nw.same rfl e h7, va_Nw.same rfl e h8, va_Nw.same rfl e h9, va_Nw.same rfl e h10, va_Nw.same rfl e h11, va_Nw.same rfl e h12, fun q hq => (h13 q hq).imp fun a ha => vk_R.same e.symm ha, va_Nw.same rfl e h14, va_Nw.same rfl e h15, va_Nw.same rfl e h16⟩
def AL (L : List Nat) (sz : Nat) : Nat → Prop := fun q => q ∈ L ∨ sz ≤ q
/-- an array of ints, by Int -/
abbrev arrI (cA : ClassId) (n : Nat) (f : Int → Int) : va_E := .inl (cA, n, .inl (fun k => iI (f (k : Int))))
/-- an array of references -/
abbrev arrQ (cA : ClassId) (n : Nat) (g : Int → Option Nat) : va_E := .inl (cA, n, .inr (.inr (.inr (.inr (fun k => g (k : Int))))))
def iu {α : Type} (f : Int → α) (i : Int) (v : α) : Int → α := fun j => if j = i then v else f j
theorem iu_s {α : Type} (f : Int → α) (i : Int) (v : α) : iu f i v i = v := by simp [iu]
theorem iu_n {α : Type} {f : Int → α} {i j : Int} {v : α} (h : j ≠ i) : iu f i v j = f j := by simp [iu, h]
theorem iu_upd {f : Int → Int} {i v : Int} (h : 0 ≤ i) : upd (fun k : Nat => iI (f (k : Int))) i.toNat (iI v) = fun k : Nat => iI (iu f i v (k : Int)) := by
  funext k
  by_cases hk : k = i.toNat
  · subst hk
    rw [pk_us, show ((i.toNat : Nat) : Int) = i by omega, iu_s]
  · rw [pk_un hk, iu_n (by omega)]
theorem iu_up {g : Int → Option Nat} {i : Int} {v : Option Nat} (h : 0 ≤ i) : va_up (fun k : Nat => g (k : Int)) i.toNat v = fun k : Nat => iu g i v (k : Int) := by
  funext k
  by_cases hk : k = i.toNat
  · subst hk
    rw [va_up_self, show ((i.toNat : Nat) : Int) = i by omega, iu_s]
  · rw [va_up_ne _ _ hk, iu_n (by omega)]
def Cx (D : va_G) (y : Nat → ClassId) (p : Program) (c : Code) (cc : ByteArray) (nL : Nat) (s : State) (m : MethodId) (args : Array Value) (kw : Cond) (own : String) : Prop := CallFix p m c cc nL s args (kw :: Tt) own ∧ KK D y s
section QP
variable {p : Program} {l : Launch} {e : Env} {R : Room} {s : State} {m : MethodId} {args : Array Value} {below : List Frame} {meth : Method} {c : Code} {H : Heap} {locs : List Loc} {cells slots : Nat} {Q : State → Prop} {cc : ByteArray} {pc : Nat} {ls : Array Slot} {rest : List Value}
variable {D : va_G} {y : Nat → ClassId} {nL : Nat} {kw : Cond} {own : String} {L : List Nat} {F : Nat → va_E} {a : Nat} {A : Nat → Prop} {H0 : Heap}
theorem q_get (C0 : Cx D y p c cc nL s m args kw own) {ci index N : Nat} {fs : List Value} {ref C : String} {T : u_T} (hin : ∀ w ∈ u_ws C T N, w ∈ Tt) (hP : va_P D vwCl (va_pl L F) H) (ha : a ∈ L) (hF : F a = .inr (ci, fs)) (hc : vwCl[ci]? = some (C, T, N)) (k : Nat) (hk : k < N) (hlink : Cond.fieldLink own index ref (T k).2.1 (T k).2.2.1 ∈ Tt) (hsame : (T k).1 = ref) {v : Value} (hv : fs[k]? = some v) (hdg : decode cc pc = .ok (.getfield index, 3))
    (kk : W p l e R s m args below meth c H locs cells slots Q (F0 m (pc + 3) ls (v :: rest))) : W p l e R s m args below meth c H locs cells slots Q (F0 m pc ls (.ref a :: rest)) := by
  obtain ⟨⟨hx, hb, hml, hown, hts⟩, hK⟩ := C0
  obtain ⟨i, hi⟩ := va_pl_get (X := []) (f := F) ha
  rw [hF] at hi
  exact va_get hx hb hts (fun w h => List.mem_cons_of_mem _ (hin w h)) hown hK.1 hP i hi hc k hk (hts _ (List.mem_cons_of_mem _ hlink)) (fun x h => by rw [← hsame]; exact h) hv hdg kk
theorem q_getN (C0 : Cx D y p c cc nL s m args kw own) {ci index N : Nat} {fs : List Value} {ref C host : String} {T : u_T} (hin : ∀ w ∈ u_ws C T N, w ∈ Tt) (hP : va_P D vwCl (va_pl L F) H) (ha : a ∈ L) (hF : F a = .inr (ci, fs)) (hc : vwCl[ci]? = some (C, T, N)) (k : Nat) (hk : k < N) (hlink : va_Nw (.fieldLinkNest own index ref (T k).2.1 (T k).2.2.1 host) s) (hsame : (T k).1 = ref) {v : Value} (hv : fs[k]? = some v) (hdg : decode cc pc = .ok (.getfield index, 3))
    (kk : W p l e R s m args below meth c H locs cells slots Q (F0 m (pc + 3) ls (v :: rest))) : W p l e R s m args below meth c H locs cells slots Q (F0 m pc ls (.ref a :: rest)) := by
  obtain ⟨⟨hx, hb, hml, hown, hts⟩, hK⟩ := C0
  obtain ⟨i, hi⟩ := va_pl_get (X := []) (f := F) ha
  rw [hF] at hi
  exact va_getN hx hb hts (fun w h => List.mem_cons_of_mem _ (hin w h)) hown hK.1 hP i hi hc k hk (va_Nw.use rfl hlink) (fun x h => by rw [← hsame]; exact h) hv hdg kk
theorem q_put (C0 : Cx D y p c cc nL s m args kw own) {ci index N : Nat} {fs : List Value} {ref C : String} {T : u_T} (hin : ∀ w ∈ u_ws C T N, w ∈ Tt) (ty0 : Nat → FieldType) (hty : ∀ k, k < N → parseFieldDescriptor (T k).2.2.1 = some (ty0 k)) (hnm : ∀ a, a < N → ∀ b, b < N → a ≠ b → (T a).2.1 ≠ (T b).2.1) (hP : va_P D vwCl (va_pl L F) H) (hD : va_D A (va_pl L F)) (hS : va_S A H0 H locs) (ha : a ∈ L) (hF : F a = .inr (ci, fs)) (hc : vwCl[ci]? = some (C, T, N)) (k : Nat) (hk : k < N) (hlink : Cond.fieldLink own index ref (T k).2.1 (T k).2.2.1 ∈ Tt) (hsame : (T k).1 = ref) (hfin : (T k).2.2.2 = false) {v : Value} (hn : narrow (ty0 k) v = v) (hfit : fits (ty0 k) v = true) (hl : k < fs.length) (hdg : decode cc pc = .ok (.putfield index, 3))
    (kk : ∀ (H1 : Heap) (locs1 : List Loc), va_P D vwCl (va_pl L (va_up F a (.inr (ci, fs.set k v)))) H1 → va_D A (va_pl L (va_up F a (.inr (ci, fs.set k v)))) → va_S A H0 H1 locs1 → W p l e R s m args below meth c H1 locs1 cells slots Q (F0 m (pc + 3) ls rest)) : W p l e R s m args below meth c H locs cells slots Q (F0 m pc ls (v :: .ref a :: rest)) := by
  obtain ⟨⟨hx, hb, hml, hown, hts⟩, hK⟩ := C0
  obtain ⟨i, hi⟩ := va_pl_get (X := []) (f := F) ha
  have hi0 := hi
  rw [hF] at hi
  refine va_put hx hb hts (fun w h => List.mem_cons_of_mem _ (hin w h)) ty0 hty hnm hown hK.1 hP hD hS i hi hc k hk (hts _ (List.mem_cons_of_mem _ hlink)) (fun x h => by rw [← hsame]; exact h) hfin (hty k hk) hn hfit hl hdg (fun H1 locs1 hP1 hD1 hS1 => ?_)
  have e := va_pl_set (X := []) (e := .inr (ci, fs.set k v)) hD ha hi0
  simp only [List.nil_append] at e hP1 hD1
  rw [e] at hP1 hD1
  exact kk H1 locs1 hP1 hD1 hS1
theorem q_putF (C0 : Cx D y p c cc nL s m args kw own) {ci index N : Nat} {fs : List Value} {ref C : String} {T : u_T} (hin : ∀ w ∈ u_ws C T N, w ∈ Tt) (ty0 : Nat → FieldType) (hty : ∀ k, k < N → parseFieldDescriptor (T k).2.2.1 = some (ty0 k)) (hnm : ∀ a, a < N → ∀ b, b < N → a ≠ b → (T a).2.1 ≠ (T b).2.1) (hP : va_P D vwCl (va_pl L F) H) (hD : va_D A (va_pl L F)) (hS : va_S A H0 H locs) (ha : a ∈ L) (hF : F a = .inr (ci, fs)) (hc : vwCl[ci]? = some (C, T, N)) (k : Nat) (hk : k < N) (hlink : Cond.fieldLink own index ref (T k).2.1 (T k).2.2.1 ∈ Tt) (hsame : (T k).1 = ref) (hfin : (T k).2.2.2 = true) (hin2 : meth.name = "<init>") (hdecl : (T k).1 = own) {v : Value} (hn : narrow (ty0 k) v = v) (hfit : fits (ty0 k) v = true) (hl : k < fs.length) (hdg : decode cc pc = .ok (.putfield index, 3))
    (kk : ∀ (H1 : Heap) (locs1 : List Loc), va_P D vwCl (va_pl L (va_up F a (.inr (ci, fs.set k v)))) H1 → va_D A (va_pl L (va_up F a (.inr (ci, fs.set k v)))) → va_S A H0 H1 locs1 → W p l e R s m args below meth c H1 locs1 cells slots Q (F0 m (pc + 3) ls rest)) : W p l e R s m args below meth c H locs cells slots Q (F0 m pc ls (v :: .ref a :: rest)) := by
  obtain ⟨⟨hx, hb, hml, hown, hts⟩, hK⟩ := C0
  obtain ⟨i, hi⟩ := va_pl_get (X := []) (f := F) ha
  have hi0 := hi
  rw [hF] at hi
  refine va_putF hx hb hts (fun w h => List.mem_cons_of_mem _ (hin w h)) ty0 hty hnm hown hK.1 hP hD hS i hi hc k hk (hts _ (List.mem_cons_of_mem _ hlink)) (fun x h => by rw [← hsame]; exact h) hfin hin2 hdecl (hty k hk) hn hfit hl hdg (fun H1 locs1 hP1 hD1 hS1 => ?_)
  have e := va_pl_set (X := []) (e := .inr (ci, fs.set k v)) hD ha hi0
  simp only [List.nil_append] at e hP1 hD1
  rw [e] at hP1 hD1
  exact kk H1 locs1 hP1 hD1 hS1
theorem q_iald (C0 : Cx D y p c cc nL s m args kw own) (hP : va_P D vwCl (va_pl L F) H) (ha : a ∈ L) {n : Nat} {f : Int → Int} (hF : F a = arrI (y 0) n f) {i : Int} (hi : 0 ≤ i ∧ i < n) (hn : n ≤ 2147483647) (hdg : decode cc pc = .ok (.iaload, 1))
    (kk : W p l e R s m args below meth c H locs cells slots Q (F0 m (pc + 1) ls (.int (iI (f i)) :: rest))) : W p l e R s m args below meth c H locs cells slots Q (F0 m pc ls (.int (iI i) :: .ref a :: rest)) := by
  obtain ⟨⟨hx, hb, hml, hown, hts⟩, hK⟩ := C0
  obtain ⟨j, hj⟩ := va_pl_get (X := []) (f := F) ha
  rw [hF] at hj
  refine va_iald hx hb hK.1 hP j 0 hj rfl (iI_in hi.1 hi.2 hn) hdg ?_
  rw [iI_clamp (by omega), show ((i.toNat : Nat) : Int) = i by omega]
  exact kk
theorem q_iast (C0 : Cx D y p c cc nL s m args kw own) (hP : va_P D vwCl (va_pl L F) H) (hD : va_D A (va_pl L F)) (hS : va_S A H0 H locs) (ha : a ∈ L) {n : Nat} {f : Int → Int} (hF : F a = arrI (y 0) n f) {i v : Int} (hi : 0 ≤ i ∧ i < n) (hn : n ≤ 2147483647) (hdg : decode cc pc = .ok (.iastore, 1))
    (kk : ∀ (H1 : Heap) (locs1 : List Loc), va_P D vwCl (va_pl L (va_up F a (arrI (y 0) n (iu f i v)))) H1 → va_D A (va_pl L (va_up F a (arrI (y 0) n (iu f i v)))) → va_S A H0 H1 locs1 → W p l e R s m args below meth c H1 locs1 cells slots Q (F0 m (pc + 1) ls rest)) : W p l e R s m args below meth c H locs cells slots Q (F0 m pc ls (.int (iI v) :: .int (iI i) :: .ref a :: rest)) := by
  obtain ⟨⟨hx, hb, hml, hown, hts⟩, hK⟩ := C0
  obtain ⟨j, hj⟩ := va_pl_get (X := []) (f := F) ha
  have hj0 := hj
  rw [hF] at hj
  refine va_iast hx hb hK.1 hP hD hS j 0 hj rfl (iI_in hi.1 hi.2 hn) hdg (fun H1 locs1 hP1 hD1 hS1 => ?_)
  rw [iI_clamp (by omega), iu_upd hi.1] at hP1 hD1
  have e := va_pl_set (X := []) (e := arrI (y 0) n (iu f i v)) hD ha hj0
  simp only [List.nil_append] at e hP1 hD1
  rw [e] at hP1 hD1
  exact kk H1 locs1 hP1 hD1 hS1
theorem q_aald (C0 : Cx D y p c cc nL s m args kw own) (hP : va_P D vwCl (va_pl L F) H) (ha : a ∈ L) {n t : Nat} {cA : ClassId} {C : String} {g : Int → Option Nat} (hF : F a = arrQ cA n g) (ht : (tysG y)[t]? = some (cA, .object C)) {i : Int} (hi : 0 ≤ i ∧ i < n) (hn : n ≤ 2147483647) {v : Value} (hv : va_rf (g i) = v) (hdg : decode cc pc = .ok (.aaload, 1))
    (kk : W p l e R s m args below meth c H locs cells slots Q (F0 m (pc + 1) ls (v :: rest))) : W p l e R s m args below meth c H locs cells slots Q (F0 m pc ls (.int (iI i) :: .ref a :: rest)) := by
  obtain ⟨⟨hx, hb, hml, hown, hts⟩, hK⟩ := C0
  obtain ⟨j, hj⟩ := va_pl_get (X := []) (f := F) ha
  rw [hF] at hj
  refine va_aldq hx hb hK.1 hP j t hj ht (iI_in hi.1 hi.2 hn) hdg ?_
  rw [iI_clamp (by omega), show ((i.toNat : Nat) : Int) = i by omega, hv]
  exact kk
theorem q_aast (C0 : Cx D y p c cc nL s m args kw own) (hP : va_P D vwCl (va_pl L F) H) (hD : va_D A (va_pl L F)) (hS : va_S A H0 H locs) (ha : a ∈ L) {n t ci b : Nat} {cA : ClassId} {r : vw_C} {vs : List Value} {g : Int → Option Nat} (hF : F a = arrQ cA n g) (ht : (tysG y)[t]? = some (cA, .object r.1)) (hb0 : b ∈ L) (hFb : F b = .inr (ci, vs)) (hc : vwCl[ci]? = some r) {i : Int} (hi : 0 ≤ i ∧ i < n) (hn : n ≤ 2147483647) (hdg : decode cc pc = .ok (.aastore, 1))
    (kk : ∀ (H1 : Heap) (locs1 : List Loc), va_P D vwCl (va_pl L (va_up F a (arrQ cA n (iu g i (some b))))) H1 → va_D A (va_pl L (va_up F a (arrQ cA n (iu g i (some b))))) → va_S A H0 H1 locs1 → W p l e R s m args below meth c H1 locs1 cells slots Q (F0 m (pc + 1) ls rest)) : W p l e R s m args below meth c H locs cells slots Q (F0 m pc ls (.ref b :: .int (iI i) :: .ref a :: rest)) := by
  obtain ⟨⟨hx, hb, hml, hown, hts⟩, hK⟩ := C0
  obtain ⟨j, hj⟩ := va_pl_get (X := []) (f := F) ha
  have hj0 := hj
  rw [hF] at hj
  obtain ⟨j2, hj2⟩ := va_pl_get (X := []) (f := F) hb0
  rw [hFb] at hj2
  refine va_astq hx hb hK.1 hP hD hS j t j2 ci hj ht hj2 hc (iI_in hi.1 hi.2 hn) hdg (fun H1 locs1 hP1 hD1 hS1 => ?_)
  rw [iI_clamp (by omega), iu_up hi.1] at hP1 hD1
  have e := va_pl_set (X := []) (e := arrQ cA n (iu g i (some b))) hD ha hj0
  simp only [List.nil_append] at e hP1 hD1
  rw [e] at hP1 hD1
  exact kk H1 locs1 hP1 hD1 hS1
end QP
-- contracts that read alone
def PcR (D : va_G) (y : Nat → ClassId) (L : List Nat) (F : Nat → va_E) (av : List Value) : Array Value → State → Prop := va_Pc av (fun U => KK D y U ∧ va_P D vwCl (va_pl L F) U.heap)
def cS (post : Int → Prop) : Array Value → State → Outcome → State → Prop := fun _ st o t => ∃ r : Int, o = .returned (some (.int (iI r))) ∧ post r ∧ t.heap = st.heap
def cSa (post : Nat → Prop) : Array Value → State → Outcome → State → Prop := fun _ st o t => ∃ r : Nat, o = .returned (some (.ref r)) ∧ post r ∧ t.heap = st.heap
def cSl (post : Int64 → Prop) : Array Value → State → Outcome → State → Prop := fun _ st o t => ∃ r : Int64, o = .returned (some (.long r)) ∧ post r ∧ t.heap = st.heap
def cSv : Array Value → State → Outcome → State → Prop := fun _ st o t => o = .returned none ∧ t.heap = st.heap
theorem PcR_blind (D : va_G) (y : Nat → ClassId) (L : List Nat) (F : Nat → va_E) (av : List Value) : FrameBlind (PcR D y L F av) := fun _ _ _ _ q => ⟨q.1, q.2.1.call, q.2.2⟩
section QC
variable {p : Program} {l : Launch} {e : Env} {R : Room} {s : State} {m : MethodId} {args : Array Value} {below : List Frame} {meth : Method} {c : Code} {H : Heap} {locs : List Loc} {cells slots : Nat} {Q : State → Prop} {cc : ByteArray} {pc : Nat} {ls : Array Slot} {rest : List Value}
variable {D : va_G} {y : Nat → ClassId} {nL : Nat} {kw : Cond} {own : String} {L : List Nat} {F : Nat → va_E} {a : Nat} {A : Nat → Prop} {H0 : Heap}
variable {yy : MethodName} {bytes : ByteArray} {maxL n index : Nat} {ret : Option FieldType} {rm : Room} {As st : List Value}
theorem preR (C0 : Cx D y p c cc nL s m args kw own) (hP : va_P D vwCl (va_pl L F) H) (av : List Value) : ∀ U : State, U.heap = H → s.WarmedH U.vm → PcR D y L F av av.toArray U := fun U hU hW => ⟨rfl, C0.2.warm hW, by rw [hU]; exact hP⟩
theorem recvQ (C0 : Cx D y p c cc nL s m args kw own) (hP : va_P D vwCl (va_pl L F) H) (ha : a ∈ L) {ci : Nat} {fs : List Value} {q : vw_C} (hF : F a = .inr (ci, fs)) (hc : vwCl[ci]? = some q) : ∃ cell : Cell, H[a]? = some cell ∧ cell.vm.isStatics = false ∧ s.vm.findClass q.1 = some cell.cls := by
  obtain ⟨i, hi⟩ := va_pl_get (X := []) (f := F) ha
  rw [hF] at hi
  exact va_recv C0.2.1 hP hc hi
theorem cbQ (C0 : Cx D y p c cc nL s m args kw own) {mc ms : Nat} (h : CLB own index yy bytes maxL ret n) (hrc : rm.cells = mc) (hrs : rm.slots = ms) (hR : (Nat.ble (rm.frames + 1) R.frames && Nat.ble (8 + (maxL + 11) + rm.locals) R.locals) = true) : CallB R s args own index yy bytes maxL ret (.code yy bytes maxL ret :: Tt) rm mc ms n := by
  obtain ⟨h1, h2, h3, h4⟩ := h
  have hts := C0.1.2.2.2.2
  rw [Bool.and_eq_true] at hR
  refine callB_of n hts ?_ rfl hrc hrs (hts _ (List.mem_cons_of_mem _ h2)) (hts _ (List.mem_cons_of_mem _ h1)) h4 ⟨Nat.le_of_ble_eq_true hR.1, Nat.le_of_ble_eq_true hR.2⟩
  intro w hw
  rcases List.mem_cons.mp hw with rfl | hw
  · exact ⟨List.mem_cons_of_mem _ h3, good_of_word (List.mem_filter.mp h3).2⟩
  · exact ⟨List.mem_cons_of_mem _ hw, good_of_word (List.mem_filter.mp hw).2⟩
/-- a virtual call of a method that reads alone -/
theorem q_vS {post : Int → Prop} (C0 : Cx D y p c cc nL s m args kw own) (k : CLV own index yy bytes maxL ret n) (hM : Met l yy (.code yy bytes maxL ret :: Tt) rm (PcR D y L F (.ref a :: As)) (cS post) 0 0 (fun _ => False)) (hrc : rm.cells = 0 ∧ rm.slots = 0) (hR : (Nat.ble (rm.frames + 1) R.frames && Nat.ble (8 + (maxL + 11) + rm.locals) R.locals) = true) (hP : va_P D vwCl (va_pl L F) H) (ha : a ∈ L) {ci : Nat} {fs : List Value} {q : vw_C} (hF : F a = .inr (ci, fs)) (hc : vwCl[ci]? = some q) (hq : q.1 = yy.cls) (hn : As.length = n) {lv : List (Nat × Value)} (hl : lv_has ls nL lv) (hst : st = As.reverse ++ .ref a :: rest) (hW : (rest.map fun v => v.category).sum ≤ 8) (hdg : decode cc pc = .ok (.invokevirtual index, 3)) (hcs : cells ≤ R.cells ∧ slots ≤ R.slots)
    (kk : ∀ r : Int, post r → W p l e R s m args below meth c H locs cells slots Q (F0 m (pc + 3) ls (.int (iI r) :: rest))) : W p l e R s m args below meth c H locs cells slots Q (F0 m pc ls st) := by
  subst hst
  have hts := C0.1.2.2.2.2
  have cw : CallW R s args own yy.cls index yy bytes maxL ret (.code yy bytes maxL ret :: Tt) rm 0 0 n := ⟨cbQ C0 k.1 hrc.1 hrc.2 hR, hts _ (List.mem_cons_of_mem _ k.2.1), hts _ (List.mem_cons_of_mem _ k.2.2)⟩
  have rv := recvQ C0 hP ha hF hc
  rw [hq] at rv
  have hr := va_runV (H := H) (locs := locs) (cells := cells) (slots := slots) (rest := rest) (g := F0 m pc ls (As.reverse ++ .ref a :: rest)) (e := e) (below := below) (meth := meth) C0.1 hM cw ⟨PcR_blind _ _ _ _ _, rv, preR C0 hP _⟩ rfl hn hl.1 rfl (lv_room hW) hdg ⟨hcs.1, hcs.2⟩
  intro T hT X
  obtain ⟨v, st₀, t, T', Lo, h0, X', hL, e1, e2, ⟨r, hv, hp, hh⟩, stp⟩ := hr T hT X
  cases hv
  obtain ⟨t2, a1, b1⟩ := kk r hp T' (by rw [e1, hh, h0]) (Stand.forget X' (fun q h => (hL q h).elim))
  exact ⟨t2, stp t2 a1, b1⟩
/-- a static call of a method that reads alone -/
theorem q_sS {post : Int → Prop} (C0 : Cx D y p c cc nL s m args kw own) (k : CLS own index yy bytes maxL ret n) (hM : Met l yy (.code yy bytes maxL ret :: Tt) rm (PcR D y L F As) (cS post) 0 0 (fun _ => False)) (hrc : rm.cells = 0 ∧ rm.slots = 0) (hR : (Nat.ble (rm.frames + 1) R.frames && Nat.ble (8 + (maxL + 11) + rm.locals) R.locals) = true) (hP : va_P D vwCl (va_pl L F) H) (hn : As.length = n) {lv : List (Nat × Value)} (hl : lv_has ls nL lv) (hst : st = As.reverse ++ rest) (hW : (rest.map fun v => v.category).sum ≤ 8) (hdg : decode cc pc = .ok (.invokestatic index, 3)) (hcs : cells ≤ R.cells ∧ slots ≤ R.slots)
    (kk : ∀ r : Int, post r → W p l e R s m args below meth c H locs cells slots Q (F0 m (pc + 3) ls (.int (iI r) :: rest))) : W p l e R s m args below meth c H locs cells slots Q (F0 m pc ls st) := by
  subst hst
  have hts := C0.1.2.2.2.2
  have hr := va_runS (H := H) (locs := locs) (cells := cells) (slots := slots) (rest := rest) (g := F0 m pc ls (As.reverse ++ rest)) (e := e) (below := below) (meth := meth) C0.1 hM ⟨cbQ C0 k.1 hrc.1 hrc.2 hR, hts _ (List.mem_cons_of_mem _ k.2)⟩ ⟨PcR_blind _ _ _ _ _, preR C0 hP _⟩ rfl hn hl.1 rfl (lv_room hW) hdg ⟨hcs.1, hcs.2⟩
  intro T hT X
  obtain ⟨v, st₀, t, T', Lo, h0, X', hL, e1, e2, ⟨r, hv, hp, hh⟩, stp⟩ := hr T hT X
  cases hv
  obtain ⟨t2, a1, b1⟩ := kk r hp T' (by rw [e1, hh, h0]) (Stand.forget X' (fun q h => (hL q h).elim))
  exact ⟨t2, stp t2 a1, b1⟩
/-- the end of a method that reads alone -/
theorem q_iretS {post : Int → Prop} {r : Int} {ty : FieldType} (C0 : Cx D y p c cc nL s m args kw own) (hr : meth.sig.returnType = some ty) (hlk : meth.locks = false) (hdg : decode cc pc = .ok (.ireturn, 1)) (hn : narrow ty (.int (iI r)) = .int (iI r)) (hp : post r) : W p l e R s m args below meth c s.heap [] 0 0 (MQ below (cS post) args s 0 0 (fun _ => False)) (F0 m pc ls [.int (iI r)]) :=
  W.zret C0.1.1 C0.1.2.1 hr hn (fun t ht _ => ⟨r, rfl, hp, ht⟩) (fun q h => nomatch h) hdg hlk
end QC
/-- the start of a method that reads alone -/
theorem q_ofR {l : Launch} {yy : MethodName} {bytes : ByteArray} {maxL : Nat} {ret : Option FieldType} {rm : Room} {D : va_G} {y : Nat → ClassId} {L : List Nat} {F : Nat → va_E} {av : List Value} {Qc : Array Value → State → Outcome → State → Prop} {mc ms : Nat} {free : Addr → Prop} {lv : List (Nat × Value)} (hy : plainName yy.cls = true) (hlen : (lg_sl av).length ≤ maxL) (hlv : lv_args 0 av = lv)
    (body : ∀ (p : Program) (e : Env) (s : State) (m : MethodId) (below : List Frame) (meth : Method) (c : Code), Cx D y p c bytes maxL s m av.toArray (.code yy bytes maxL ret) yy.cls → meth.sig.returnType = ret → meth.locks = false → va_P D vwCl (va_pl L F) s.heap → ∀ ls : Array Slot, lv_has ls maxL lv → W p l e rm s m av.toArray below meth c s.heap [] 0 0 (MQ below Qc av.toArray s mc ms free) (F0 m 0 ls [])) : Met l yy (.code yy bytes maxL ret :: Tt) rm (PcR D y L F av) Qc mc ms free := by
  refine Met.ofW (cc := bytes) (maxL := maxL) (ret := ret) hy rfl ?_
  intro p e s m args below meth c s₁ B hml hv
  obtain ⟨rfl, hK, hP⟩ := hv
  have hown : s.vm.findClass yy.cls = some m.cls := findClass_of_methodNamed B.named
  have hl := lv_entry av (n := maxL) hlen
  rw [hlv] at hl
  rw [lg_entry_eq]
  exact body p e s m below meth c ⟨⟨B.exec, B.bytes, hml, hown, atoms_spec (ws := .code yy bytes maxL ret :: Tt) B.pre⟩, hK⟩ B.returns B.notSynchronized hP _ hl
