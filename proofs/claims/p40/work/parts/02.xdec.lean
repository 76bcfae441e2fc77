theorem fx_all : ∃ body : Nat → Nat → Jvm.ClassFile.Decoder Jvm.ClassFile.Instr, (∀ p, Jvm.ClassFile.Decoder.instr p = (Jvm.ClassFile.Reader.u1 >>= body p)) ∧ (∀ p, body p 42 = (Pure.pure (.aload_n 0) : Jvm.ClassFile.Decoder Jvm.ClassFile.Instr)) ∧ (∀ p, body p 182 = ((Jvm.ClassFile.Reader.u2 >>= fun x => Pure.pure (.invokevirtual x)) : Jvm.ClassFile.Decoder Jvm.ClassFile.Instr)) ∧ (∀ p, body p 21 = ((Jvm.ClassFile.Reader.u1 >>= fun x => Pure.pure (.iload x)) : Jvm.ClassFile.Decoder Jvm.ClassFile.Instr)) ∧ (∀ p, body p 27 = (Pure.pure (.iload_n 1) : Jvm.ClassFile.Decoder Jvm.ClassFile.Instr)) ∧ (∀ p, body p 180 = ((Jvm.ClassFile.Reader.u2 >>= fun x => Pure.pure (.getfield x)) : Jvm.ClassFile.Decoder Jvm.ClassFile.Instr)) ∧ (∀ p, body p 172 = (Pure.pure .ireturn : Jvm.ClassFile.Decoder Jvm.ClassFile.Instr)) ∧ (∀ p, body p 3 = (Pure.pure (.iconst 0) : Jvm.ClassFile.Decoder Jvm.ClassFile.Instr)) ∧ (∀ p, body p 167 = ((Jvm.ClassFile.Reader.s2 >>= fun x => Pure.pure (.goto x)) : Jvm.ClassFile.Decoder Jvm.ClassFile.Instr)) ∧ (∀ p, body p 28 = (Pure.pure (.iload_n 2) : Jvm.ClassFile.Decoder Jvm.ClassFile.Instr)) ∧ (∀ p, body p 4 = (Pure.pure (.iconst 1) : Jvm.ClassFile.Decoder Jvm.ClassFile.Instr)) ∧ (∀ p, body p 184 = ((Jvm.ClassFile.Reader.u2 >>= fun x => Pure.pure (.invokestatic x)) : Jvm.ClassFile.Decoder Jvm.ClassFile.Instr)) ∧ (∀ p, body p 96 = (Pure.pure .iadd : Jvm.ClassFile.Decoder Jvm.ClassFile.Instr)) ∧ (∀ p, body p 46 = (Pure.pure .iaload : Jvm.ClassFile.Decoder Jvm.ClassFile.Instr)) ∧ (∀ p, body p 29 = (Pure.pure (.iload_n 3) : Jvm.ClassFile.Decoder Jvm.ClassFile.Instr)) ∧ (∀ p, body p 54 = ((Jvm.ClassFile.Reader.u1 >>= fun x => Pure.pure (.istore x)) : Jvm.ClassFile.Decoder Jvm.ClassFile.Instr)) ∧ (∀ p, body p 153 = ((Jvm.ClassFile.Reader.s2 >>= fun x => Pure.pure (.ifCond .eq x)) : Jvm.ClassFile.Decoder Jvm.ClassFile.Instr)) ∧ (∀ p, body p 16 = ((Jvm.ClassFile.Reader.s1 >>= fun x => Pure.pure (.bipush x)) : Jvm.ClassFile.Decoder Jvm.ClassFile.Instr)) ∧ (∀ p, body p 5 = (Pure.pure (.iconst 2) : Jvm.ClassFile.Decoder Jvm.ClassFile.Instr)) ∧ (∀ p, body p 25 = ((Jvm.ClassFile.Reader.u1 >>= fun x => Pure.pure (.aload x)) : Jvm.ClassFile.Decoder Jvm.ClassFile.Instr)) ∧ (∀ p, body p 181 = ((Jvm.ClassFile.Reader.u2 >>= fun x => Pure.pure (.putfield x)) : Jvm.ClassFile.Decoder Jvm.ClassFile.Instr)) ∧ (∀ p, body p 45 = (Pure.pure (.aload_n 3) : Jvm.ClassFile.Decoder Jvm.ClassFile.Instr)) ∧ (∀ p, body p 58 = ((Jvm.ClassFile.Reader.u1 >>= fun x => Pure.pure (.astore x)) : Jvm.ClassFile.Decoder Jvm.ClassFile.Instr)) ∧ (∀ p, body p 43 = (Pure.pure (.aload_n 1) : Jvm.ClassFile.Decoder Jvm.ClassFile.Instr)) ∧ (∀ p, body p 50 = (Pure.pure .aaload : Jvm.ClassFile.Decoder Jvm.ClassFile.Instr)) ∧ (∀ p, body p 44 = (Pure.pure (.aload_n 2) : Jvm.ClassFile.Decoder Jvm.ClassFile.Instr)) ∧ (∀ p, body p 160 = ((Jvm.ClassFile.Reader.s2 >>= fun x => Pure.pure (.if_icmp .ne x)) : Jvm.ClassFile.Decoder Jvm.ClassFile.Instr)) ∧ (∀ p, body p 154 = ((Jvm.ClassFile.Reader.s2 >>= fun x => Pure.pure (.ifCond .ne x)) : Jvm.ClassFile.Decoder Jvm.ClassFile.Instr)) ∧ (∀ p, body p 2 = (Pure.pure (.iconst (-1)) : Jvm.ClassFile.Decoder Jvm.ClassFile.Instr)) ∧ (∀ p, body p 6 = (Pure.pure (.iconst 3) : Jvm.ClassFile.Decoder Jvm.ClassFile.Instr)) ∧ (∀ p, body p 162 = ((Jvm.ClassFile.Reader.s2 >>= fun x => Pure.pure (.if_icmp .ge x)) : Jvm.ClassFile.Decoder Jvm.ClassFile.Instr)) ∧ (∀ p, body p 89 = (Pure.pure .dup : Jvm.ClassFile.Decoder Jvm.ClassFile.Instr)) ∧ (∀ p, body p 133 = (Pure.pure .i2l : Jvm.ClassFile.Decoder Jvm.ClassFile.Instr)) ∧ (∀ p, body p 183 = ((Jvm.ClassFile.Reader.u2 >>= fun x => Pure.pure (.invokespecial x)) : Jvm.ClassFile.Decoder Jvm.ClassFile.Instr)) ∧ (∀ p, body p 87 = (Pure.pure .pop : Jvm.ClassFile.Decoder Jvm.ClassFile.Instr)) ∧ (∀ p, body p 7 = (Pure.pure (.iconst 4) : Jvm.ClassFile.Decoder Jvm.ClassFile.Instr)) ∧ (∀ p, body p 62 = (Pure.pure (.istore_n 3) : Jvm.ClassFile.Decoder Jvm.ClassFile.Instr)) ∧ (∀ p, body p 26 = (Pure.pure (.iload_n 0) : Jvm.ClassFile.Decoder Jvm.ClassFile.Instr)) ∧ (∀ p, body p 177 = (Pure.pure .return_ : Jvm.ClassFile.Decoder Jvm.ClassFile.Instr)) ∧ (∀ p, body p 187 = ((Jvm.ClassFile.Reader.u2 >>= fun x => Pure.pure (.new x)) : Jvm.ClassFile.Decoder Jvm.ClassFile.Instr)) ∧ (∀ p, body p 60 = (Pure.pure (.istore_n 1) : Jvm.ClassFile.Decoder Jvm.ClassFile.Instr)) ∧ (∀ p, body p 100 = (Pure.pure .isub : Jvm.ClassFile.Decoder Jvm.ClassFile.Instr)) ∧ (∀ p, body p 61 = (Pure.pure (.istore_n 2) : Jvm.ClassFile.Decoder Jvm.ClassFile.Instr)) ∧ (∀ p, body p 176 = (Pure.pure .areturn : Jvm.ClassFile.Decoder Jvm.ClassFile.Instr)) ∧ (∀ p, body p 159 = ((Jvm.ClassFile.Reader.s2 >>= fun x => Pure.pure (.if_icmp .eq x)) : Jvm.ClassFile.Decoder Jvm.ClassFile.Instr)) ∧ (∀ p, body p 163 = ((Jvm.ClassFile.Reader.s2 >>= fun x => Pure.pure (.if_icmp .gt x)) : Jvm.ClassFile.Decoder Jvm.ClassFile.Instr)) ∧ (∀ p, body p 78 = (Pure.pure (.astore_n 3) : Jvm.ClassFile.Decoder Jvm.ClassFile.Instr)) ∧ (∀ p, body p 83 = (Pure.pure .aastore : Jvm.ClassFile.Decoder Jvm.ClassFile.Instr)) ∧ (∀ p, body p 79 = (Pure.pure .iastore : Jvm.ClassFile.Decoder Jvm.ClassFile.Instr)) ∧ (∀ p, body p 18 = ((Jvm.ClassFile.Reader.u1 >>= fun x => Pure.pure (.ldc x)) : Jvm.ClassFile.Decoder Jvm.ClassFile.Instr)) ∧ (∀ p, body p 64 = (Pure.pure (.lstore_n 1) : Jvm.ClassFile.Decoder Jvm.ClassFile.Instr)) ∧ (∀ p, body p 31 = (Pure.pure (.lload_n 1) : Jvm.ClassFile.Decoder Jvm.ClassFile.Instr)) ∧ (∀ p, body p 190 = (Pure.pure .arraylength : Jvm.ClassFile.Decoder Jvm.ClassFile.Instr)) ∧ (∀ p, body p 104 = (Pure.pure .imul : Jvm.ClassFile.Decoder Jvm.ClassFile.Instr)) ∧ (∀ p, body p 178 = ((Jvm.ClassFile.Reader.u2 >>= fun x => Pure.pure (.getstatic x)) : Jvm.ClassFile.Decoder Jvm.ClassFile.Instr)) ∧ (∀ p, body p 112 = (Pure.pure .irem : Jvm.ClassFile.Decoder Jvm.ClassFile.Instr)) ∧ (∀ p, body p 155 = ((Jvm.ClassFile.Reader.s2 >>= fun x => Pure.pure (.ifCond .lt x)) : Jvm.ClassFile.Decoder Jvm.ClassFile.Instr)) ∧ (∀ p, body p 161 = ((Jvm.ClassFile.Reader.s2 >>= fun x => Pure.pure (.if_icmp .lt x)) : Jvm.ClassFile.Decoder Jvm.ClassFile.Instr)) ∧ (∀ p, body p 164 = ((Jvm.ClassFile.Reader.s2 >>= fun x => Pure.pure (.if_icmp .le x)) : Jvm.ClassFile.Decoder Jvm.ClassFile.Instr)) ∧ (∀ p, body p 84 = (Pure.pure .bastore : Jvm.ClassFile.Decoder Jvm.ClassFile.Instr)) ∧ (∀ p, body p 191 = (Pure.pure .athrow : Jvm.ClassFile.Decoder Jvm.ClassFile.Instr)) ∧ (∀ p, body p 8 = (Pure.pure (.iconst 5) : Jvm.ClassFile.Decoder Jvm.ClassFile.Instr)) ∧ (∀ p, body p 173 = (Pure.pure .lreturn : Jvm.ClassFile.Decoder Jvm.ClassFile.Instr)) ∧ (∀ p, body p 19 = ((Jvm.ClassFile.Reader.u2 >>= fun x => Pure.pure (.ldc_w x)) : Jvm.ClassFile.Decoder Jvm.ClassFile.Instr)) ∧ (∀ p, body p 108 = (Pure.pure .idiv : Jvm.ClassFile.Decoder Jvm.ClassFile.Instr)) ∧ (∀ p, body p 189 = ((Jvm.ClassFile.Reader.u2 >>= fun x => Pure.pure (.anewarray x)) : Jvm.ClassFile.Decoder Jvm.ClassFile.Instr)) ∧ (∀ p, body p 77 = (Pure.pure (.astore_n 2) : Jvm.ClassFile.Decoder Jvm.ClassFile.Instr)) ∧ (∀ p, body p 66 = (Pure.pure (.lstore_n 3) : Jvm.ClassFile.Decoder Jvm.ClassFile.Instr)) ∧ (∀ p, body p 33 = (Pure.pure (.lload_n 3) : Jvm.ClassFile.Decoder Jvm.ClassFile.Instr)) ∧ (∀ p, body p 10 = (Pure.pure (.lconst 1) : Jvm.ClassFile.Decoder Jvm.ClassFile.Instr)) ∧ (∀ p, body p 30 = (Pure.pure (.lload_n 0) : Jvm.ClassFile.Decoder Jvm.ClassFile.Instr)) ∧ (∀ p, body p 9 = (Pure.pure (.lconst 0) : Jvm.ClassFile.Decoder Jvm.ClassFile.Instr)) ∧ (∀ p, body p 120 = (Pure.pure .ishl : Jvm.ClassFile.Decoder Jvm.ClassFile.Instr)) ∧ (∀ p, body p 198 = ((Jvm.ClassFile.Reader.s2 >>= fun x => Pure.pure (.ifnull x)) : Jvm.ClassFile.Decoder Jvm.ClassFile.Instr)) ∧ (∀ p, body p 199 = ((Jvm.ClassFile.Reader.s2 >>= fun x => Pure.pure (.ifnonnull x)) : Jvm.ClassFile.Decoder Jvm.ClassFile.Instr)) ∧ (∀ p, body p 20 = ((Jvm.ClassFile.Reader.u2 >>= fun x => Pure.pure (.ldc2_w x)) : Jvm.ClassFile.Decoder Jvm.ClassFile.Instr)) ∧ (∀ p, body p 92 = (Pure.pure .dup2 : Jvm.ClassFile.Decoder Jvm.ClassFile.Instr)) ∧ (∀ p, body p 116 = (Pure.pure .ineg : Jvm.ClassFile.Decoder Jvm.ClassFile.Instr)) ∧ (∀ p, body p 51 = (Pure.pure .baload : Jvm.ClassFile.Decoder Jvm.ClassFile.Instr)) ∧ (∀ p, body p 76 = (Pure.pure (.astore_n 1) : Jvm.ClassFile.Decoder Jvm.ClassFile.Instr)) ∧ (∀ p, body p 166 = ((Jvm.ClassFile.Reader.s2 >>= fun x => Pure.pure (.if_acmp .ne x)) : Jvm.ClassFile.Decoder Jvm.ClassFile.Instr)) ∧ (∀ p, body p 126 = (Pure.pure .iand : Jvm.ClassFile.Decoder Jvm.ClassFile.Instr)) ∧ (∀ p, body p 55 = ((Jvm.ClassFile.Reader.u1 >>= fun x => Pure.pure (.lstore x)) : Jvm.ClassFile.Decoder Jvm.ClassFile.Instr)) ∧ (∀ p, body p 22 = ((Jvm.ClassFile.Reader.u1 >>= fun x => Pure.pure (.lload x)) : Jvm.ClassFile.Decoder Jvm.ClassFile.Instr)) ∧ (∀ p, body p 158 = ((Jvm.ClassFile.Reader.s2 >>= fun x => Pure.pure (.ifCond .le x)) : Jvm.ClassFile.Decoder Jvm.ClassFile.Instr)) ∧ (∀ p, body p 122 = (Pure.pure .ishr : Jvm.ClassFile.Decoder Jvm.ClassFile.Instr)) ∧ (∀ p, body p 59 = (Pure.pure (.istore_n 0) : Jvm.ClassFile.Decoder Jvm.ClassFile.Instr)) ∧ (∀ p, body p 130 = (Pure.pure .ixor : Jvm.ClassFile.Decoder Jvm.ClassFile.Instr)) ∧ (∀ p, body p 105 = (Pure.pure .lmul : Jvm.ClassFile.Decoder Jvm.ClassFile.Instr)) ∧ (∀ p, body p 97 = (Pure.pure .ladd : Jvm.ClassFile.Decoder Jvm.ClassFile.Instr)) ∧ (∀ p, body p 192 = ((Jvm.ClassFile.Reader.u2 >>= fun x => Pure.pure (.checkcast x)) : Jvm.ClassFile.Decoder Jvm.ClassFile.Instr)) ∧ (∀ p, body p 90 = (Pure.pure .dup_x1 : Jvm.ClassFile.Decoder Jvm.ClassFile.Instr)) ∧ (∀ p, body p 156 = ((Jvm.ClassFile.Reader.s2 >>= fun x => Pure.pure (.ifCond .ge x)) : Jvm.ClassFile.Decoder Jvm.ClassFile.Instr)) ∧ (∀ p, body p 88 = (Pure.pure .pop2 : Jvm.ClassFile.Decoder Jvm.ClassFile.Instr)) ∧ (∀ p, body p 32 = (Pure.pure (.lload_n 2) : Jvm.ClassFile.Decoder Jvm.ClassFile.Instr)) ∧ (∀ p, body p 145 = (Pure.pure .i2b : Jvm.ClassFile.Decoder Jvm.ClassFile.Instr)) ∧ (∀ p, body p 1 = (Pure.pure .aconst_null : Jvm.ClassFile.Decoder Jvm.ClassFile.Instr)) ∧ (∀ p, body p 17 = ((Jvm.ClassFile.Reader.s2 >>= fun x => Pure.pure (.sipush x)) : Jvm.ClassFile.Decoder Jvm.ClassFile.Instr)) ∧ (∀ p, body p 148 = (Pure.pure .lcmp : Jvm.ClassFile.Decoder Jvm.ClassFile.Instr)) :=
  ⟨_, fun _ => rfl, fun _ => rfl, fun _ => rfl, fun _ => rfl, fun _ => rfl, fun _ => rfl, fun _ => rfl, fun _ => rfl, fun _ => rfl, fun _ => rfl, fun _ => rfl, fun _ => rfl, fun _ => rfl, fun _ => rfl, fun _ => rfl, fun _ => rfl, fun _ => rfl, fun _ => rfl, fun _ => rfl, fun _ => rfl, fun _ => rfl, fun _ => rfl, fun _ => rfl, fun _ => rfl, fun _ => rfl, fun _ => rfl, fun _ => rfl, fun _ => rfl, fun _ => rfl, fun _ => rfl, fun _ => rfl, fun _ => rfl, fun _ => rfl, fun _ => rfl, fun _ => rfl, fun _ => rfl, fun _ => rfl, fun _ => rfl, fun _ => rfl, fun _ => rfl, fun _ => rfl, fun _ => rfl, fun _ => rfl, fun _ => rfl, fun _ => rfl, fun _ => rfl, fun _ => rfl, fun _ => rfl, fun _ => rfl, fun _ => rfl, fun _ => rfl, fun _ => rfl, fun _ => rfl, fun _ => rfl, fun _ => rfl, fun _ => rfl, fun _ => rfl, fun _ => rfl, fun _ => rfl, fun _ => rfl, fun _ => rfl, fun _ => rfl, fun _ => rfl, fun _ => rfl, fun _ => rfl, fun _ => rfl, fun _ => rfl, fun _ => rfl, fun _ => rfl, fun _ => rfl, fun _ => rfl, fun _ => rfl, fun _ => rfl, fun _ => rfl, fun _ => rfl, fun _ => rfl, fun _ => rfl, fun _ => rfl, fun _ => rfl, fun _ => rfl, fun _ => rfl, fun _ => rfl, fun _ => rfl, fun _ => rfl, fun _ => rfl, fun _ => rfl, fun _ => rfl, fun _ => rfl, fun _ => rfl, fun _ => rfl, fun _ => rfl, fun _ => rfl, fun _ => rfl, fun _ => rfl, fun _ => rfl, fun _ => rfl, fun _ => rfl, fun _ => rfl, fun _ => rfl⟩
noncomputable def fxB : Nat → Nat → Jvm.ClassFile.Decoder Jvm.ClassFile.Instr := Classical.choose fx_all
theorem fx_s : (∀ p, Jvm.ClassFile.Decoder.instr p = (Jvm.ClassFile.Reader.u1 >>= fxB p)) ∧ (∀ p, fxB p 42 = (Pure.pure (.aload_n 0) : Jvm.ClassFile.Decoder Jvm.ClassFile.Instr)) ∧ (∀ p, fxB p 182 = ((Jvm.ClassFile.Reader.u2 >>= fun x => Pure.pure (.invokevirtual x)) : Jvm.ClassFile.Decoder Jvm.ClassFile.Instr)) ∧ (∀ p, fxB p 21 = ((Jvm.ClassFile.Reader.u1 >>= fun x => Pure.pure (.iload x)) : Jvm.ClassFile.Decoder Jvm.ClassFile.Instr)) ∧ (∀ p, fxB p 27 = (Pure.pure (.iload_n 1) : Jvm.ClassFile.Decoder Jvm.ClassFile.Instr)) ∧ (∀ p, fxB p 180 = ((Jvm.ClassFile.Reader.u2 >>= fun x => Pure.pure (.getfield x)) : Jvm.ClassFile.Decoder Jvm.ClassFile.Instr)) ∧ (∀ p, fxB p 172 = (Pure.pure .ireturn : Jvm.ClassFile.Decoder Jvm.ClassFile.Instr)) ∧ (∀ p, fxB p 3 = (Pure.pure (.iconst 0) : Jvm.ClassFile.Decoder Jvm.ClassFile.Instr)) ∧ (∀ p, fxB p 167 = ((Jvm.ClassFile.Reader.s2 >>= fun x => Pure.pure (.goto x)) : Jvm.ClassFile.Decoder Jvm.ClassFile.Instr)) ∧ (∀ p, fxB p 28 = (Pure.pure (.iload_n 2) : Jvm.ClassFile.Decoder Jvm.ClassFile.Instr)) ∧ (∀ p, fxB p 4 = (Pure.pure (.iconst 1) : Jvm.ClassFile.Decoder Jvm.ClassFile.Instr)) ∧ (∀ p, fxB p 184 = ((Jvm.ClassFile.Reader.u2 >>= fun x => Pure.pure (.invokestatic x)) : Jvm.ClassFile.Decoder Jvm.ClassFile.Instr)) ∧ (∀ p, fxB p 96 = (Pure.pure .iadd : Jvm.ClassFile.Decoder Jvm.ClassFile.Instr)) ∧ (∀ p, fxB p 46 = (Pure.pure .iaload : Jvm.ClassFile.Decoder Jvm.ClassFile.Instr)) ∧ (∀ p, fxB p 29 = (Pure.pure (.iload_n 3) : Jvm.ClassFile.Decoder Jvm.ClassFile.Instr)) ∧ (∀ p, fxB p 54 = ((Jvm.ClassFile.Reader.u1 >>= fun x => Pure.pure (.istore x)) : Jvm.ClassFile.Decoder Jvm.ClassFile.Instr)) ∧ (∀ p, fxB p 153 = ((Jvm.ClassFile.Reader.s2 >>= fun x => Pure.pure (.ifCond .eq x)) : Jvm.ClassFile.Decoder Jvm.ClassFile.Instr)) ∧ (∀ p, fxB p 16 = ((Jvm.ClassFile.Reader.s1 >>= fun x => Pure.pure (.bipush x)) : Jvm.ClassFile.Decoder Jvm.ClassFile.Instr)) ∧ (∀ p, fxB p 5 = (Pure.pure (.iconst 2) : Jvm.ClassFile.Decoder Jvm.ClassFile.Instr)) ∧ (∀ p, fxB p 25 = ((Jvm.ClassFile.Reader.u1 >>= fun x => Pure.pure (.aload x)) : Jvm.ClassFile.Decoder Jvm.ClassFile.Instr)) ∧ (∀ p, fxB p 181 = ((Jvm.ClassFile.Reader.u2 >>= fun x => Pure.pure (.putfield x)) : Jvm.ClassFile.Decoder Jvm.ClassFile.Instr)) ∧ (∀ p, fxB p 45 = (Pure.pure (.aload_n 3) : Jvm.ClassFile.Decoder Jvm.ClassFile.Instr)) ∧ (∀ p, fxB p 58 = ((Jvm.ClassFile.Reader.u1 >>= fun x => Pure.pure (.astore x)) : Jvm.ClassFile.Decoder Jvm.ClassFile.Instr)) ∧ (∀ p, fxB p 43 = (Pure.pure (.aload_n 1) : Jvm.ClassFile.Decoder Jvm.ClassFile.Instr)) ∧ (∀ p, fxB p 50 = (Pure.pure .aaload : Jvm.ClassFile.Decoder Jvm.ClassFile.Instr)) ∧ (∀ p, fxB p 44 = (Pure.pure (.aload_n 2) : Jvm.ClassFile.Decoder Jvm.ClassFile.Instr)) ∧ (∀ p, fxB p 160 = ((Jvm.ClassFile.Reader.s2 >>= fun x => Pure.pure (.if_icmp .ne x)) : Jvm.ClassFile.Decoder Jvm.ClassFile.Instr)) ∧ (∀ p, fxB p 154 = ((Jvm.ClassFile.Reader.s2 >>= fun x => Pure.pure (.ifCond .ne x)) : Jvm.ClassFile.Decoder Jvm.ClassFile.Instr)) ∧ (∀ p, fxB p 2 = (Pure.pure (.iconst (-1)) : Jvm.ClassFile.Decoder Jvm.ClassFile.Instr)) ∧ (∀ p, fxB p 6 = (Pure.pure (.iconst 3) : Jvm.ClassFile.Decoder Jvm.ClassFile.Instr)) ∧ (∀ p, fxB p 162 = ((Jvm.ClassFile.Reader.s2 >>= fun x => Pure.pure (.if_icmp .ge x)) : Jvm.ClassFile.Decoder Jvm.ClassFile.Instr)) ∧ (∀ p, fxB p 89 = (Pure.pure .dup : Jvm.ClassFile.Decoder Jvm.ClassFile.Instr)) ∧ (∀ p, fxB p 133 = (Pure.pure .i2l : Jvm.ClassFile.Decoder Jvm.ClassFile.Instr)) ∧ (∀ p, fxB p 183 = ((Jvm.ClassFile.Reader.u2 >>= fun x => Pure.pure (.invokespecial x)) : Jvm.ClassFile.Decoder Jvm.ClassFile.Instr)) ∧ (∀ p, fxB p 87 = (Pure.pure .pop : Jvm.ClassFile.Decoder Jvm.ClassFile.Instr)) ∧ (∀ p, fxB p 7 = (Pure.pure (.iconst 4) : Jvm.ClassFile.Decoder Jvm.ClassFile.Instr)) ∧ (∀ p, fxB p 62 = (Pure.pure (.istore_n 3) : Jvm.ClassFile.Decoder Jvm.ClassFile.Instr)) ∧ (∀ p, fxB p 26 = (Pure.pure (.iload_n 0) : Jvm.ClassFile.Decoder Jvm.ClassFile.Instr)) ∧ (∀ p, fxB p 177 = (Pure.pure .return_ : Jvm.ClassFile.Decoder Jvm.ClassFile.Instr)) ∧ (∀ p, fxB p 187 = ((Jvm.ClassFile.Reader.u2 >>= fun x => Pure.pure (.new x)) : Jvm.ClassFile.Decoder Jvm.ClassFile.Instr)) ∧ (∀ p, fxB p 60 = (Pure.pure (.istore_n 1) : Jvm.ClassFile.Decoder Jvm.ClassFile.Instr)) ∧ (∀ p, fxB p 100 = (Pure.pure .isub : Jvm.ClassFile.Decoder Jvm.ClassFile.Instr)) ∧ (∀ p, fxB p 61 = (Pure.pure (.istore_n 2) : Jvm.ClassFile.Decoder Jvm.ClassFile.Instr)) ∧ (∀ p, fxB p 176 = (Pure.pure .areturn : Jvm.ClassFile.Decoder Jvm.ClassFile.Instr)) ∧ (∀ p, fxB p 159 = ((Jvm.ClassFile.Reader.s2 >>= fun x => Pure.pure (.if_icmp .eq x)) : Jvm.ClassFile.Decoder Jvm.ClassFile.Instr)) ∧ (∀ p, fxB p 163 = ((Jvm.ClassFile.Reader.s2 >>= fun x => Pure.pure (.if_icmp .gt x)) : Jvm.ClassFile.Decoder Jvm.ClassFile.Instr)) ∧ (∀ p, fxB p 78 = (Pure.pure (.astore_n 3) : Jvm.ClassFile.Decoder Jvm.ClassFile.Instr)) ∧ (∀ p, fxB p 83 = (Pure.pure .aastore : Jvm.ClassFile.Decoder Jvm.ClassFile.Instr)) ∧ (∀ p, fxB p 79 = (Pure.pure .iastore : Jvm.ClassFile.Decoder Jvm.ClassFile.Instr)) ∧ (∀ p, fxB p 18 = ((Jvm.ClassFile.Reader.u1 >>= fun x => Pure.pure (.ldc x)) : Jvm.ClassFile.Decoder Jvm.ClassFile.Instr)) ∧ (∀ p, fxB p 64 = (Pure.pure (.lstore_n 1) : Jvm.ClassFile.Decoder Jvm.ClassFile.Instr)) ∧ (∀ p, fxB p 31 = (Pure.pure (.lload_n 1) : Jvm.ClassFile.Decoder Jvm.ClassFile.Instr)) ∧ (∀ p, fxB p 190 = (Pure.pure .arraylength : Jvm.ClassFile.Decoder Jvm.ClassFile.Instr)) ∧ (∀ p, fxB p 104 = (Pure.pure .imul : Jvm.ClassFile.Decoder Jvm.ClassFile.Instr)) ∧ (∀ p, fxB p 178 = ((Jvm.ClassFile.Reader.u2 >>= fun x => Pure.pure (.getstatic x)) : Jvm.ClassFile.Decoder Jvm.ClassFile.Instr)) ∧ (∀ p, fxB p 112 = (Pure.pure .irem : Jvm.ClassFile.Decoder Jvm.ClassFile.Instr)) ∧ (∀ p, fxB p 155 = ((Jvm.ClassFile.Reader.s2 >>= fun x => Pure.pure (.ifCond .lt x)) : Jvm.ClassFile.Decoder Jvm.ClassFile.Instr)) ∧ (∀ p, fxB p 161 = ((Jvm.ClassFile.Reader.s2 >>= fun x => Pure.pure (.if_icmp .lt x)) : Jvm.ClassFile.Decoder Jvm.ClassFile.Instr)) ∧ (∀ p, fxB p 164 = ((Jvm.ClassFile.Reader.s2 >>= fun x => Pure.pure (.if_icmp .le x)) : Jvm.ClassFile.Decoder Jvm.ClassFile.Instr)) ∧ (∀ p, fxB p 84 = (Pure.pure .bastore : Jvm.ClassFile.Decoder Jvm.ClassFile.Instr)) ∧ (∀ p, fxB p 191 = (Pure.pure .athrow : Jvm.ClassFile.Decoder Jvm.ClassFile.Instr)) ∧ (∀ p, fxB p 8 = (Pure.pure (.iconst 5) : Jvm.ClassFile.Decoder Jvm.ClassFile.Instr)) ∧ (∀ p, fxB p 173 = (Pure.pure .lreturn : Jvm.ClassFile.Decoder Jvm.ClassFile.Instr)) ∧ (∀ p, fxB p 19 = ((Jvm.ClassFile.Reader.u2 >>= fun x => Pure.pure (.ldc_w x)) : Jvm.ClassFile.Decoder Jvm.ClassFile.Instr)) ∧ (∀ p, fxB p 108 = (Pure.pure .idiv : Jvm.ClassFile.Decoder Jvm.ClassFile.Instr)) ∧ (∀ p, fxB p 189 = ((Jvm.ClassFile.Reader.u2 >>= fun x => Pure.pure (.anewarray x)) : Jvm.ClassFile.Decoder Jvm.ClassFile.Instr)) ∧ (∀ p, fxB p 77 = (Pure.pure (.astore_n 2) : Jvm.ClassFile.Decoder Jvm.ClassFile.Instr)) ∧ (∀ p, fxB p 66 = (Pure.pure (.lstore_n 3) : Jvm.ClassFile.Decoder Jvm.ClassFile.Instr)) ∧ (∀ p, fxB p 33 = (Pure.pure (.lload_n 3) : Jvm.ClassFile.Decoder Jvm.ClassFile.Instr)) ∧ (∀ p, fxB p 10 = (Pure.pure (.lconst 1) : Jvm.ClassFile.Decoder Jvm.ClassFile.Instr)) ∧ (∀ p, fxB p 30 = (Pure.pure (.lload_n 0) : Jvm.ClassFile.Decoder Jvm.ClassFile.Instr)) ∧ (∀ p, fxB p 9 = (Pure.pure (.lconst 0) : Jvm.ClassFile.Decoder Jvm.ClassFile.Instr)) ∧ (∀ p, fxB p 120 = (Pure.pure .ishl : Jvm.ClassFile.Decoder Jvm.ClassFile.Instr)) ∧ (∀ p, fxB p 198 = ((Jvm.ClassFile.Reader.s2 >>= fun x => Pure.pure (.ifnull x)) : Jvm.ClassFile.Decoder Jvm.ClassFile.Instr)) ∧ (∀ p, fxB p 199 = ((Jvm.ClassFile.Reader.s2 >>= fun x => Pure.pure (.ifnonnull x)) : Jvm.ClassFile.Decoder Jvm.ClassFile.Instr)) ∧ (∀ p, fxB p 20 = ((Jvm.ClassFile.Reader.u2 >>= fun x => Pure.pure (.ldc2_w x)) : Jvm.ClassFile.Decoder Jvm.ClassFile.Instr)) ∧ (∀ p, fxB p 92 = (Pure.pure .dup2 : Jvm.ClassFile.Decoder Jvm.ClassFile.Instr)) ∧ (∀ p, fxB p 116 = (Pure.pure .ineg : Jvm.ClassFile.Decoder Jvm.ClassFile.Instr)) ∧ (∀ p, fxB p 51 = (Pure.pure .baload : Jvm.ClassFile.Decoder Jvm.ClassFile.Instr)) ∧ (∀ p, fxB p 76 = (Pure.pure (.astore_n 1) : Jvm.ClassFile.Decoder Jvm.ClassFile.Instr)) ∧ (∀ p, fxB p 166 = ((Jvm.ClassFile.Reader.s2 >>= fun x => Pure.pure (.if_acmp .ne x)) : Jvm.ClassFile.Decoder Jvm.ClassFile.Instr)) ∧ (∀ p, fxB p 126 = (Pure.pure .iand : Jvm.ClassFile.Decoder Jvm.ClassFile.Instr)) ∧ (∀ p, fxB p 55 = ((Jvm.ClassFile.Reader.u1 >>= fun x => Pure.pure (.lstore x)) : Jvm.ClassFile.Decoder Jvm.ClassFile.Instr)) ∧ (∀ p, fxB p 22 = ((Jvm.ClassFile.Reader.u1 >>= fun x => Pure.pure (.lload x)) : Jvm.ClassFile.Decoder Jvm.ClassFile.Instr)) ∧ (∀ p, fxB p 158 = ((Jvm.ClassFile.Reader.s2 >>= fun x => Pure.pure (.ifCond .le x)) : Jvm.ClassFile.Decoder Jvm.ClassFile.Instr)) ∧ (∀ p, fxB p 122 = (Pure.pure .ishr : Jvm.ClassFile.Decoder Jvm.ClassFile.Instr)) ∧ (∀ p, fxB p 59 = (Pure.pure (.istore_n 0) : Jvm.ClassFile.Decoder Jvm.ClassFile.Instr)) ∧ (∀ p, fxB p 130 = (Pure.pure .ixor : Jvm.ClassFile.Decoder Jvm.ClassFile.Instr)) ∧ (∀ p, fxB p 105 = (Pure.pure .lmul : Jvm.ClassFile.Decoder Jvm.ClassFile.Instr)) ∧ (∀ p, fxB p 97 = (Pure.pure .ladd : Jvm.ClassFile.Decoder Jvm.ClassFile.Instr)) ∧ (∀ p, fxB p 192 = ((Jvm.ClassFile.Reader.u2 >>= fun x => Pure.pure (.checkcast x)) : Jvm.ClassFile.Decoder Jvm.ClassFile.Instr)) ∧ (∀ p, fxB p 90 = (Pure.pure .dup_x1 : Jvm.ClassFile.Decoder Jvm.ClassFile.Instr)) ∧ (∀ p, fxB p 156 = ((Jvm.ClassFile.Reader.s2 >>= fun x => Pure.pure (.ifCond .ge x)) : Jvm.ClassFile.Decoder Jvm.ClassFile.Instr)) ∧ (∀ p, fxB p 88 = (Pure.pure .pop2 : Jvm.ClassFile.Decoder Jvm.ClassFile.Instr)) ∧ (∀ p, fxB p 32 = (Pure.pure (.lload_n 2) : Jvm.ClassFile.Decoder Jvm.ClassFile.Instr)) ∧ (∀ p, fxB p 145 = (Pure.pure .i2b : Jvm.ClassFile.Decoder Jvm.ClassFile.Instr)) ∧ (∀ p, fxB p 1 = (Pure.pure .aconst_null : Jvm.ClassFile.Decoder Jvm.ClassFile.Instr)) ∧ (∀ p, fxB p 17 = ((Jvm.ClassFile.Reader.s2 >>= fun x => Pure.pure (.sipush x)) : Jvm.ClassFile.Decoder Jvm.ClassFile.Instr)) ∧ (∀ p, fxB p 148 = (Pure.pure .lcmp : Jvm.ClassFile.Decoder Jvm.ClassFile.Instr)) := Classical.choose_spec fx_all
theorem fx_o42 : (∀ p, fxB p 42 = (Pure.pure (.aload_n 0) : Jvm.ClassFile.Decoder Jvm.ClassFile.Instr)) := fx_s.2.1
theorem fx_o182 : (∀ p, fxB p 182 = ((Jvm.ClassFile.Reader.u2 >>= fun x => Pure.pure (.invokevirtual x)) : Jvm.ClassFile.Decoder Jvm.ClassFile.Instr)) := fx_s.2.2.1
theorem fx_o21 : (∀ p, fxB p 21 = ((Jvm.ClassFile.Reader.u1 >>= fun x => Pure.pure (.iload x)) : Jvm.ClassFile.Decoder Jvm.ClassFile.Instr)) := fx_s.2.2.2.1
theorem fx_o27 : (∀ p, fxB p 27 = (Pure.pure (.iload_n 1) : Jvm.ClassFile.Decoder Jvm.ClassFile.Instr)) := fx_s.2.2.2.2.1
theorem fx_o180 : (∀ p, fxB p 180 = ((Jvm.ClassFile.Reader.u2 >>= fun x => Pure.pure (.getfield x)) : Jvm.ClassFile.Decoder Jvm.ClassFile.Instr)) := fx_s.2.2.2.2.2.1
theorem fx_o172 : (∀ p, fxB p 172 = (Pure.pure .ireturn : Jvm.ClassFile.Decoder Jvm.ClassFile.Instr)) := fx_s.2.2.2.2.2.2.1
theorem fx_o3 : (∀ p, fxB p 3 = (Pure.pure (.iconst 0) : Jvm.ClassFile.Decoder Jvm.ClassFile.Instr)) := fx_s.2.2.2.2.2.2.2.1
theorem fx_o167 : (∀ p, fxB p 167 = ((Jvm.ClassFile.Reader.s2 >>= fun x => Pure.pure (.goto x)) : Jvm.ClassFile.Decoder Jvm.ClassFile.Instr)) := fx_s.2.2.2.2.2.2.2.2.1
theorem fx_o28 : (∀ p, fxB p 28 = (Pure.pure (.iload_n 2) : Jvm.ClassFile.Decoder Jvm.ClassFile.Instr)) := fx_s.2.2.2.2.2.2.2.2.2.1
theorem fx_o4 : (∀ p, fxB p 4 = (Pure.pure (.iconst 1) : Jvm.ClassFile.Decoder Jvm.ClassFile.Instr)) := fx_s.2.2.2.2.2.2.2.2.2.2.1
theorem fx_o184 : (∀ p, fxB p 184 = ((Jvm.ClassFile.Reader.u2 >>= fun x => Pure.pure (.invokestatic x)) : Jvm.ClassFile.Decoder Jvm.ClassFile.Instr)) := fx_s.2.2.2.2.2.2.2.2.2.2.2.1
theorem fx_o96 : (∀ p, fxB p 96 = (Pure.pure .iadd : Jvm.ClassFile.Decoder Jvm.ClassFile.Instr)) := fx_s.2.2.2.2.2.2.2.2.2.2.2.2.1
theorem fx_o46 : (∀ p, fxB p 46 = (Pure.pure .iaload : Jvm.ClassFile.Decoder Jvm.ClassFile.Instr)) := fx_s.2.2.2.2.2.2.2.2.2.2.2.2.2.1
theorem fx_o29 : (∀ p, fxB p 29 = (Pure.pure (.iload_n 3) : Jvm.ClassFile.Decoder Jvm.ClassFile.Instr)) := fx_s.2.2.2.2.2.2.2.2.2.2.2.2.2.2.1
theorem fx_o54 : (∀ p, fxB p 54 = ((Jvm.ClassFile.Reader.u1 >>= fun x => Pure.pure (.istore x)) : Jvm.ClassFile.Decoder Jvm.ClassFile.Instr)) := fx_s.2.2.2.2.2.2.2.2.2.2.2.2.2.2.2.1
theorem fx_o153 : (∀ p, fxB p 153 = ((Jvm.ClassFile.Reader.s2 >>= fun x => Pure.pure (.ifCond .eq x)) : Jvm.ClassFile.Decoder Jvm.ClassFile.Instr)) := fx_s.2.2.2.2.2.2.2.2.2.2.2.2.2.2.2.2.1
theorem fx_o16 : (∀ p, fxB p 16 = ((Jvm.ClassFile.Reader.s1 >>= fun x => Pure.pure (.bipush x)) : Jvm.ClassFile.Decoder Jvm.ClassFile.Instr)) := fx_s.2.2.2.2.2.2.2.2.2.2.2.2.2.2.2.2.2.1
theorem fx_o5 : (∀ p, fxB p 5 = (Pure.pure (.iconst 2) : Jvm.ClassFile.Decoder Jvm.ClassFile.Instr)) := fx_s.2.2.2.2.2.2.2.2.2.2.2.2.2.2.2.2.2.2.1
theorem fx_o25 : (∀ p, fxB p 25 = ((Jvm.ClassFile.Reader.u1 >>= fun x => Pure.pure (.aload x)) : Jvm.ClassFile.Decoder Jvm.ClassFile.Instr)) := fx_s.2.2.2.2.2.2.2.2.2.2.2.2.2.2.2.2.2.2.2.1
theorem fx_o181 : (∀ p, fxB p 181 = ((Jvm.ClassFile.Reader.u2 >>= fun x => Pure.pure (.putfield x)) : Jvm.ClassFile.Decoder Jvm.ClassFile.Instr)) := fx_s.2.2.2.2.2.2.2.2.2.2.2.2.2.2.2.2.2.2.2.2.1
theorem fx_o45 : (∀ p, fxB p 45 = (Pure.pure (.aload_n 3) : Jvm.ClassFile.Decoder Jvm.ClassFile.Instr)) := fx_s.2.2.2.2.2.2.2.2.2.2.2.2.2.2.2.2.2.2.2.2.2.1
theorem fx_o58 : (∀ p, fxB p 58 = ((Jvm.ClassFile.Reader.u1 >>= fun x => Pure.pure (.astore x)) : Jvm.ClassFile.Decoder Jvm.ClassFile.Instr)) := fx_s.2.2.2.2.2.2.2.2.2.2.2.2.2.2.2.2.2.2.2.2.2.2.1
theorem fx_o43 : (∀ p, fxB p 43 = (Pure.pure (.aload_n 1) : Jvm.ClassFile.Decoder Jvm.ClassFile.Instr)) := fx_s.2.2.2.2.2.2.2.2.2.2.2.2.2.2.2.2.2.2.2.2.2.2.2.1
theorem fx_o50 : (∀ p, fxB p 50 = (Pure.pure .aaload : Jvm.ClassFile.Decoder Jvm.ClassFile.Instr)) := fx_s.2.2.2.2.2.2.2.2.2.2.2.2.2.2.2.2.2.2.2.2.2.2.2.2.1
theorem fx_o44 : (∀ p, fxB p 44 = (Pure.pure (.aload_n 2) : Jvm.ClassFile.Decoder Jvm.ClassFile.Instr)) := fx_s.2.2.2.2.2.2.2.2.2.2.2.2.2.2.2.2.2.2.2.2.2.2.2.2.2.1
theorem fx_o160 : (∀ p, fxB p 160 = ((Jvm.ClassFile.Reader.s2 >>= fun x => Pure.pure (.if_icmp .ne x)) : Jvm.ClassFile.Decoder Jvm.ClassFile.Instr)) := fx_s.2.2.2.2.2.2.2.2.2.2.2.2.2.2.2.2.2.2.2.2.2.2.2.2.2.2.1
theorem fx_o154 : (∀ p, fxB p 154 = ((Jvm.ClassFile.Reader.s2 >>= fun x => Pure.pure (.ifCond .ne x)) : Jvm.ClassFile.Decoder Jvm.ClassFile.Instr)) := fx_s.2.2.2.2.2.2.2.2.2.2.2.2.2.2.2.2.2.2.2.2.2.2.2.2.2.2.2.1
theorem fx_o2 : (∀ p, fxB p 2 = (Pure.pure (.iconst (-1)) : Jvm.ClassFile.Decoder Jvm.ClassFile.Instr)) := fx_s.2.2.2.2.2.2.2.2.2.2.2.2.2.2.2.2.2.2.2.2.2.2.2.2.2.2.2.2.1
theorem fx_o6 : (∀ p, fxB p 6 = (Pure.pure (.iconst 3) : Jvm.ClassFile.Decoder Jvm.ClassFile.Instr)) := fx_s.2.2.2.2.2.2.2.2.2.2.2.2.2.2.2.2.2.2.2.2.2.2.2.2.2.2.2.2.2.1
theorem fx_o162 : (∀ p, fxB p 162 = ((Jvm.ClassFile.Reader.s2 >>= fun x => Pure.pure (.if_icmp .ge x)) : Jvm.ClassFile.Decoder Jvm.ClassFile.Instr)) := fx_s.2.2.2.2.2.2.2.2.2.2.2.2.2.2.2.2.2.2.2.2.2.2.2.2.2.2.2.2.2.2.1
theorem fx_o89 : (∀ p, fxB p 89 = (Pure.pure .dup : Jvm.ClassFile.Decoder Jvm.ClassFile.Instr)) := fx_s.2.2.2.2.2.2.2.2.2.2.2.2.2.2.2.2.2.2.2.2.2.2.2.2.2.2.2.2.2.2.2.1
theorem fx_o133 : (∀ p, fxB p 133 = (Pure.pure .i2l : Jvm.ClassFile.Decoder Jvm.ClassFile.Instr)) := fx_s.2.2.2.2.2.2.2.2.2.2.2.2.2.2.2.2.2.2.2.2.2.2.2.2.2.2.2.2.2.2.2.2.1
theorem fx_o183 : (∀ p, fxB p 183 = ((Jvm.ClassFile.Reader.u2 >>= fun x => Pure.pure (.invokespecial x)) : Jvm.ClassFile.Decoder Jvm.ClassFile.Instr)) := fx_s.2.2.2.2.2.2.2.2.2.2.2.2.2.2.2.2.2.2.2.2.2.2.2.2.2.2.2.2.2.2.2.2.2.1
theorem fx_o87 : (∀ p, fxB p 87 = (Pure.pure .pop : Jvm.ClassFile.Decoder Jvm.ClassFile.Instr)) := fx_s.2.2.2.2.2.2.2.2.2.2.2.2.2.2.2.2.2.2.2.2.2.2.2.2.2.2.2.2.2.2.2.2.2.2.1
theorem fx_o7 : (∀ p, fxB p 7 = (Pure.pure (.iconst 4) : Jvm.ClassFile.Decoder Jvm.ClassFile.Instr)) := fx_s.2.2.2.2.2.2.2.2.2.2.2.2.2.2.2.2.2.2.2.2.2.2.2.2.2.2.2.2.2.2.2.2.2.2.2.1
theorem fx_o62 : (∀ p, fxB p 62 = (Pure.pure (.istore_n 3) : Jvm.ClassFile.Decoder Jvm.ClassFile.Instr)) := fx_s.2.2.2.2.2.2.2.2.2.2.2.2.2.2.2.2.2.2.2.2.2.2.2.2.2.2.2.2.2.2.2.2.2.2.2.2.1
theorem fx_o26 : (∀ p, fxB p 26 = (Pure.pure (.iload_n 0) : Jvm.ClassFile.Decoder Jvm.ClassFile.Instr)) := fx_s.2.2.2.2.2.2.2.2.2.2.2.2.2.2.2.2.2.2.2.2.2.2.2.2.2.2.2.2.2.2.2.2.2.2.2.2.2.1
theorem fx_o177 : (∀ p, fxB p 177 = (Pure.pure .return_ : Jvm.ClassFile.Decoder Jvm.ClassFile.Instr)) := fx_s.2.2.2.2.2.2.2.2.2.2.2.2.2.2.2.2.2.2.2.2.2.2.2.2.2.2.2.2.2.2.2.2.2.2.2.2.2.2.1
theorem fx_o187 : (∀ p, fxB p 187 = ((Jvm.ClassFile.Reader.u2 >>= fun x => Pure.pure (.new x)) : Jvm.ClassFile.Decoder Jvm.ClassFile.Instr)) := fx_s.2.2.2.2.2.2.2.2.2.2.2.2.2.2.2.2.2.2.2.2.2.2.2.2.2.2.2.2.2.2.2.2.2.2.2.2.2.2.2.1
theorem fx_o60 : (∀ p, fxB p 60 = (Pure.pure (.istore_n 1) : Jvm.ClassFile.Decoder Jvm.ClassFile.Instr)) := fx_s.2.2.2.2.2.2.2.2.2.2.2.2.2.2.2.2.2.2.2.2.2.2.2.2.2.2.2.2.2.2.2.2.2.2.2.2.2.2.2.2.1
theorem fx_o100 : (∀ p, fxB p 100 = (Pure.pure .isub : Jvm.ClassFile.Decoder Jvm.ClassFile.Instr)) := fx_s.2.2.2.2.2.2.2.2.2.2.2.2.2.2.2.2.2.2.2.2.2.2.2.2.2.2.2.2.2.2.2.2.2.2.2.2.2.2.2.2.2.1
theorem fx_o61 : (∀ p, fxB p 61 = (Pure.pure (.istore_n 2) : Jvm.ClassFile.Decoder Jvm.ClassFile.Instr)) := fx_s.2.2.2.2.2.2.2.2.2.2.2.2.2.2.2.2.2.2.2.2.2.2.2.2.2.2.2.2.2.2.2.2.2.2.2.2.2.2.2.2.2.2.1
theorem fx_o176 : (∀ p, fxB p 176 = (Pure.pure .areturn : Jvm.ClassFile.Decoder Jvm.ClassFile.Instr)) := fx_s.2.2.2.2.2.2.2.2.2.2.2.2.2.2.2.2.2.2.2.2.2.2.2.2.2.2.2.2.2.2.2.2.2.2.2.2.2.2.2.2.2.2.2.1
theorem fx_o159 : (∀ p, fxB p 159 = ((Jvm.ClassFile.Reader.s2 >>= fun x => Pure.pure (.if_icmp .eq x)) : Jvm.ClassFile.Decoder Jvm.ClassFile.Instr)) := fx_s.2.2.2.2.2.2.2.2.2.2.2.2.2.2.2.2.2.2.2.2.2.2.2.2.2.2.2.2.2.2.2.2.2.2.2.2.2.2.2.2.2.2.2.2.1
theorem fx_o163 : (∀ p, fxB p 163 = ((Jvm.ClassFile.Reader.s2 >>= fun x => Pure.pure (.if_icmp .gt x)) : Jvm.ClassFile.Decoder Jvm.ClassFile.Instr)) := fx_s.2.2.2.2.2.2.2.2.2.2.2.2.2.2.2.2.2.2.2.2.2.2.2.2.2.2.2.2.2.2.2.2.2.2.2.2.2.2.2.2.2.2.2.2.2.1
theorem fx_o78 : (∀ p, fxB p 78 = (Pure.pure (.astore_n 3) : Jvm.ClassFile.Decoder Jvm.ClassFile.Instr)) := fx_s.2.2.2.2.2.2.2.2.2.2.2.2.2.2.2.2.2.2.2.2.2.2.2.2.2.2.2.2.2.2.2.2.2.2.2.2.2.2.2.2.2.2.2.2.2.2.1
theorem fx_o83 : (∀ p, fxB p 83 = (Pure.pure .aastore : Jvm.ClassFile.Decoder Jvm.ClassFile.Instr)) := fx_s.2.2.2.2.2.2.2.2.2.2.2.2.2.2.2.2.2.2.2.2.2.2.2.2.2.2.2.2.2.2.2.2.2.2.2.2.2.2.2.2.2.2.2.2.2.2.2.1
theorem fx_o79 : (∀ p, fxB p 79 = (Pure.pure .iastore : Jvm.ClassFile.Decoder Jvm.ClassFile.Instr)) := fx_s.2.2.2.2.2.2.2.2.2.2.2.2.2.2.2.2.2.2.2.2.2.2.2.2.2.2.2.2.2.2.2.2.2.2.2.2.2.2.2.2.2.2.2.2.2.2.2.2.1
theorem fx_o18 : (∀ p, fxB p 18 = ((Jvm.ClassFile.Reader.u1 >>= fun x => Pure.pure (.ldc x)) : Jvm.ClassFile.Decoder Jvm.ClassFile.Instr)) := fx_s.2.2.2.2.2.2.2.2.2.2.2.2.2.2.2.2.2.2.2.2.2.2.2.2.2.2.2.2.2.2.2.2.2.2.2.2.2.2.2.2.2.2.2.2.2.2.2.2.2.1
theorem fx_o64 : (∀ p, fxB p 64 = (Pure.pure (.lstore_n 1) : Jvm.ClassFile.Decoder Jvm.ClassFile.Instr)) := fx_s.2.2.2.2.2.2.2.2.2.2.2.2.2.2.2.2.2.2.2.2.2.2.2.2.2.2.2.2.2.2.2.2.2.2.2.2.2.2.2.2.2.2.2.2.2.2.2.2.2.2.1
theorem fx_o31 : (∀ p, fxB p 31 = (Pure.pure (.lload_n 1) : Jvm.ClassFile.Decoder Jvm.ClassFile.Instr)) := fx_s.2.2.2.2.2.2.2.2.2.2.2.2.2.2.2.2.2.2.2.2.2.2.2.2.2.2.2.2.2.2.2.2.2.2.2.2.2.2.2.2.2.2.2.2.2.2.2.2.2.2.2.1
theorem fx_o190 : (∀ p, fxB p 190 = (Pure.pure .arraylength : Jvm.ClassFile.Decoder Jvm.ClassFile.Instr)) := fx_s.2.2.2.2.2.2.2.2.2.2.2.2.2.2.2.2.2.2.2.2.2.2.2.2.2.2.2.2.2.2.2.2.2.2.2.2.2.2.2.2.2.2.2.2.2.2.2.2.2.2.2.2.1
theorem fx_o104 : (∀ p, fxB p 104 = (Pure.pure .imul : Jvm.ClassFile.Decoder Jvm.ClassFile.Instr)) := fx_s.2.2.2.2.2.2.2.2.2.2.2.2.2.2.2.2.2.2.2.2.2.2.2.2.2.2.2.2.2.2.2.2.2.2.2.2.2.2.2.2.2.2.2.2.2.2.2.2.2.2.2.2.2.1
theorem fx_o178 : (∀ p, fxB p 178 = ((Jvm.ClassFile.Reader.u2 >>= fun x => Pure.pure (.getstatic x)) : Jvm.ClassFile.Decoder Jvm.ClassFile.Instr)) := fx_s.2.2.2.2.2.2.2.2.2.2.2.2.2.2.2.2.2.2.2.2.2.2.2.2.2.2.2.2.2.2.2.2.2.2.2.2.2.2.2.2.2.2.2.2.2.2.2.2.2.2.2.2.2.2.1
theorem fx_o112 : (∀ p, fxB p 112 = (Pure.pure .irem : Jvm.ClassFile.Decoder Jvm.ClassFile.Instr)) := fx_s.2.2.2.2.2.2.2.2.2.2.2.2.2.2.2.2.2.2.2.2.2.2.2.2.2.2.2.2.2.2.2.2.2.2.2.2.2.2.2.2.2.2.2.2.2.2.2.2.2.2.2.2.2.2.2.1
theorem fx_o155 : (∀ p, fxB p 155 = ((Jvm.ClassFile.Reader.s2 >>= fun x => Pure.pure (.ifCond .lt x)) : Jvm.ClassFile.Decoder Jvm.ClassFile.Instr)) := fx_s.2.2.2.2.2.2.2.2.2.2.2.2.2.2.2.2.2.2.2.2.2.2.2.2.2.2.2.2.2.2.2.2.2.2.2.2.2.2.2.2.2.2.2.2.2.2.2.2.2.2.2.2.2.2.2.2.1
theorem fx_o161 : (∀ p, fxB p 161 = ((Jvm.ClassFile.Reader.s2 >>= fun x => Pure.pure (.if_icmp .lt x)) : Jvm.ClassFile.Decoder Jvm.ClassFile.Instr)) := fx_s.2.2.2.2.2.2.2.2.2.2.2.2.2.2.2.2.2.2.2.2.2.2.2.2.2.2.2.2.2.2.2.2.2.2.2.2.2.2.2.2.2.2.2.2.2.2.2.2.2.2.2.2.2.2.2.2.2.1
theorem fx_o164 : (∀ p, fxB p 164 = ((Jvm.ClassFile.Reader.s2 >>= fun x => Pure.pure (.if_icmp .le x)) : Jvm.ClassFile.Decoder Jvm.ClassFile.Instr)) := fx_s.2.2.2.2.2.2.2.2.2.2.2.2.2.2.2.2.2.2.2.2.2.2.2.2.2.2.2.2.2.2.2.2.2.2.2.2.2.2.2.2.2.2.2.2.2.2.2.2.2.2.2.2.2.2.2.2.2.2.1
theorem fx_o84 : (∀ p, fxB p 84 = (Pure.pure .bastore : Jvm.ClassFile.Decoder Jvm.ClassFile.Instr)) := fx_s.2.2.2.2.2.2.2.2.2.2.2.2.2.2.2.2.2.2.2.2.2.2.2.2.2.2.2.2.2.2.2.2.2.2.2.2.2.2.2.2.2.2.2.2.2.2.2.2.2.2.2.2.2.2.2.2.2.2.2.1
theorem fx_o191 : (∀ p, fxB p 191 = (Pure.pure .athrow : Jvm.ClassFile.Decoder Jvm.ClassFile.Instr)) := fx_s.2.2.2.2.2.2.2.2.2.2.2.2.2.2.2.2.2.2.2.2.2.2.2.2.2.2.2.2.2.2.2.2.2.2.2.2.2.2.2.2.2.2.2.2.2.2.2.2.2.2.2.2.2.2.2.2.2.2.2.2.1
theorem fx_o8 : (∀ p, fxB p 8 = (Pure.pure (.iconst 5) : Jvm.ClassFile.Decoder Jvm.ClassFile.Instr)) := fx_s.2.2.2.2.2.2.2.2.2.2.2.2.2.2.2.2.2.2.2.2.2.2.2.2.2.2.2.2.2.2.2.2.2.2.2.2.2.2.2.2.2.2.2.2.2.2.2.2.2.2.2.2.2.2.2.2.2.2.2.2.2.1
theorem fx_o173 : (∀ p, fxB p 173 = (Pure.pure .lreturn : Jvm.ClassFile.Decoder Jvm.ClassFile.Instr)) := fx_s.2.2.2.2.2.2.2.2.2.2.2.2.2.2.2.2.2.2.2.2.2.2.2.2.2.2.2.2.2.2.2.2.2.2.2.2.2.2.2.2.2.2.2.2.2.2.2.2.2.2.2.2.2.2.2.2.2.2.2.2.2.2.1
theorem fx_o19 : (∀ p, fxB p 19 = ((Jvm.ClassFile.Reader.u2 >>= fun x => Pure.pure (.ldc_w x)) : Jvm.ClassFile.Decoder Jvm.ClassFile.Instr)) := fx_s.2.2.2.2.2.2.2.2.2.2.2.2.2.2.2.2.2.2.2.2.2.2.2.2.2.2.2.2.2.2.2.2.2.2.2.2.2.2.2.2.2.2.2.2.2.2.2.2.2.2.2.2.2.2.2.2.2.2.2.2.2.2.2.1
theorem fx_o108 : (∀ p, fxB p 108 = (Pure.pure .idiv : Jvm.ClassFile.Decoder Jvm.ClassFile.Instr)) := fx_s.2.2.2.2.2.2.2.2.2.2.2.2.2.2.2.2.2.2.2.2.2.2.2.2.2.2.2.2.2.2.2.2.2.2.2.2.2.2.2.2.2.2.2.2.2.2.2.2.2.2.2.2.2.2.2.2.2.2.2.2.2.2.2.2.1
theorem fx_o189 : (∀ p, fxB p 189 = ((Jvm.ClassFile.Reader.u2 >>= fun x => Pure.pure (.anewarray x)) : Jvm.ClassFile.Decoder Jvm.ClassFile.Instr)) := fx_s.2.2.2.2.2.2.2.2.2.2.2.2.2.2.2.2.2.2.2.2.2.2.2.2.2.2.2.2.2.2.2.2.2.2.2.2.2.2.2.2.2.2.2.2.2.2.2.2.2.2.2.2.2.2.2.2.2.2.2.2.2.2.2.2.2.1
theorem fx_o77 : (∀ p, fxB p 77 = (Pure.pure (.astore_n 2) : Jvm.ClassFile.Decoder Jvm.ClassFile.Instr)) := fx_s.2.2.2.2.2.2.2.2.2.2.2.2.2.2.2.2.2.2.2.2.2.2.2.2.2.2.2.2.2.2.2.2.2.2.2.2.2.2.2.2.2.2.2.2.2.2.2.2.2.2.2.2.2.2.2.2.2.2.2.2.2.2.2.2.2.2.1
theorem fx_o66 : (∀ p, fxB p 66 = (Pure.pure (.lstore_n 3) : Jvm.ClassFile.Decoder Jvm.ClassFile.Instr)) := fx_s.2.2.2.2.2.2.2.2.2.2.2.2.2.2.2.2.2.2.2.2.2.2.2.2.2.2.2.2.2.2.2.2.2.2.2.2.2.2.2.2.2.2.2.2.2.2.2.2.2.2.2.2.2.2.2.2.2.2.2.2.2.2.2.2.2.2.2.1
theorem fx_o33 : (∀ p, fxB p 33 = (Pure.pure (.lload_n 3) : Jvm.ClassFile.Decoder Jvm.ClassFile.Instr)) := fx_s.2.2.2.2.2.2.2.2.2.2.2.2.2.2.2.2.2.2.2.2.2.2.2.2.2.2.2.2.2.2.2.2.2.2.2.2.2.2.2.2.2.2.2.2.2.2.2.2.2.2.2.2.2.2.2.2.2.2.2.2.2.2.2.2.2.2.2.2.1
theorem fx_o10 : (∀ p, fxB p 10 = (Pure.pure (.lconst 1) : Jvm.ClassFile.Decoder Jvm.ClassFile.Instr)) := fx_s.2.2.2.2.2.2.2.2.2.2.2.2.2.2.2.2.2.2.2.2.2.2.2.2.2.2.2.2.2.2.2.2.2.2.2.2.2.2.2.2.2.2.2.2.2.2.2.2.2.2.2.2.2.2.2.2.2.2.2.2.2.2.2.2.2.2.2.2.2.1
theorem fx_o30 : (∀ p, fxB p 30 = (Pure.pure (.lload_n 0) : Jvm.ClassFile.Decoder Jvm.ClassFile.Instr)) := fx_s.2.2.2.2.2.2.2.2.2.2.2.2.2.2.2.2.2.2.2.2.2.2.2.2.2.2.2.2.2.2.2.2.2.2.2.2.2.2.2.2.2.2.2.2.2.2.2.2.2.2.2.2.2.2.2.2.2.2.2.2.2.2.2.2.2.2.2.2.2.2.1
theorem fx_o9 : (∀ p, fxB p 9 = (Pure.pure (.lconst 0) : Jvm.ClassFile.Decoder Jvm.ClassFile.Instr)) := fx_s.2.2.2.2.2.2.2.2.2.2.2.2.2.2.2.2.2.2.2.2.2.2.2.2.2.2.2.2.2.2.2.2.2.2.2.2.2.2.2.2.2.2.2.2.2.2.2.2.2.2.2.2.2.2.2.2.2.2.2.2.2.2.2.2.2.2.2.2.2.2.2.1
theorem fx_o120 : (∀ p, fxB p 120 = (Pure.pure .ishl : Jvm.ClassFile.Decoder Jvm.ClassFile.Instr)) := fx_s.2.2.2.2.2.2.2.2.2.2.2.2.2.2.2.2.2.2.2.2.2.2.2.2.2.2.2.2.2.2.2.2.2.2.2.2.2.2.2.2.2.2.2.2.2.2.2.2.2.2.2.2.2.2.2.2.2.2.2.2.2.2.2.2.2.2.2.2.2.2.2.2.1
theorem fx_o198 : (∀ p, fxB p 198 = ((Jvm.ClassFile.Reader.s2 >>= fun x => Pure.pure (.ifnull x)) : Jvm.ClassFile.Decoder Jvm.ClassFile.Instr)) := fx_s.2.2.2.2.2.2.2.2.2.2.2.2.2.2.2.2.2.2.2.2.2.2.2.2.2.2.2.2.2.2.2.2.2.2.2.2.2.2.2.2.2.2.2.2.2.2.2.2.2.2.2.2.2.2.2.2.2.2.2.2.2.2.2.2.2.2.2.2.2.2.2.2.2.1
theorem fx_o199 : (∀ p, fxB p 199 = ((Jvm.ClassFile.Reader.s2 >>= fun x => Pure.pure (.ifnonnull x)) : Jvm.ClassFile.Decoder Jvm.ClassFile.Instr)) := fx_s.2.2.2.2.2.2.2.2.2.2.2.2.2.2.2.2.2.2.2.2.2.2.2.2.2.2.2.2.2.2.2.2.2.2.2.2.2.2.2.2.2.2.2.2.2.2.2.2.2.2.2.2.2.2.2.2.2.2.2.2.2.2.2.2.2.2.2.2.2.2.2.2.2.2.1
theorem fx_o20 : (∀ p, fxB p 20 = ((Jvm.ClassFile.Reader.u2 >>= fun x => Pure.pure (.ldc2_w x)) : Jvm.ClassFile.Decoder Jvm.ClassFile.Instr)) := fx_s.2.2.2.2.2.2.2.2.2.2.2.2.2.2.2.2.2.2.2.2.2.2.2.2.2.2.2.2.2.2.2.2.2.2.2.2.2.2.2.2.2.2.2.2.2.2.2.2.2.2.2.2.2.2.2.2.2.2.2.2.2.2.2.2.2.2.2.2.2.2.2.2.2.2.2.1
theorem fx_o92 : (∀ p, fxB p 92 = (Pure.pure .dup2 : Jvm.ClassFile.Decoder Jvm.ClassFile.Instr)) := fx_s.2.2.2.2.2.2.2.2.2.2.2.2.2.2.2.2.2.2.2.2.2.2.2.2.2.2.2.2.2.2.2.2.2.2.2.2.2.2.2.2.2.2.2.2.2.2.2.2.2.2.2.2.2.2.2.2.2.2.2.2.2.2.2.2.2.2.2.2.2.2.2.2.2.2.2.2.1
theorem fx_o116 : (∀ p, fxB p 116 = (Pure.pure .ineg : Jvm.ClassFile.Decoder Jvm.ClassFile.Instr)) := fx_s.2.2.2.2.2.2.2.2.2.2.2.2.2.2.2.2.2.2.2.2.2.2.2.2.2.2.2.2.2.2.2.2.2.2.2.2.2.2.2.2.2.2.2.2.2.2.2.2.2.2.2.2.2.2.2.2.2.2.2.2.2.2.2.2.2.2.2.2.2.2.2.2.2.2.2.2.2.1
theorem fx_o51 : (∀ p, fxB p 51 = (Pure.pure .baload : Jvm.ClassFile.Decoder Jvm.ClassFile.Instr)) := fx_s.2.2.2.2.2.2.2.2.2.2.2.2.2.2.2.2.2.2.2.2.2.2.2.2.2.2.2.2.2.2.2.2.2.2.2.2.2.2.2.2.2.2.2.2.2.2.2.2.2.2.2.2.2.2.2.2.2.2.2.2.2.2.2.2.2.2.2.2.2.2.2.2.2.2.2.2.2.2.1
theorem fx_o76 : (∀ p, fxB p 76 = (Pure.pure (.astore_n 1) : Jvm.ClassFile.Decoder Jvm.ClassFile.Instr)) := fx_s.2.2.2.2.2.2.2.2.2.2.2.2.2.2.2.2.2.2.2.2.2.2.2.2.2.2.2.2.2.2.2.2.2.2.2.2.2.2.2.2.2.2.2.2.2.2.2.2.2.2.2.2.2.2.2.2.2.2.2.2.2.2.2.2.2.2.2.2.2.2.2.2.2.2.2.2.2.2.2.1
theorem fx_o166 : (∀ p, fxB p 166 = ((Jvm.ClassFile.Reader.s2 >>= fun x => Pure.pure (.if_acmp .ne x)) : Jvm.ClassFile.Decoder Jvm.ClassFile.Instr)) := fx_s.2.2.2.2.2.2.2.2.2.2.2.2.2.2.2.2.2.2.2.2.2.2.2.2.2.2.2.2.2.2.2.2.2.2.2.2.2.2.2.2.2.2.2.2.2.2.2.2.2.2.2.2.2.2.2.2.2.2.2.2.2.2.2.2.2.2.2.2.2.2.2.2.2.2.2.2.2.2.2.2.1
theorem fx_o126 : (∀ p, fxB p 126 = (Pure.pure .iand : Jvm.ClassFile.Decoder Jvm.ClassFile.Instr)) := fx_s.2.2.2.2.2.2.2.2.2.2.2.2.2.2.2.2.2.2.2.2.2.2.2.2.2.2.2.2.2.2.2.2.2.2.2.2.2.2.2.2.2.2.2.2.2.2.2.2.2.2.2.2.2.2.2.2.2.2.2.2.2.2.2.2.2.2.2.2.2.2.2.2.2.2.2.2.2.2.2.2.2.1
theorem fx_o55 : (∀ p, fxB p 55 = ((Jvm.ClassFile.Reader.u1 >>= fun x => Pure.pure (.lstore x)) : Jvm.ClassFile.Decoder Jvm.ClassFile.Instr)) := fx_s.2.2.2.2.2.2.2.2.2.2.2.2.2.2.2.2.2.2.2.2.2.2.2.2.2.2.2.2.2.2.2.2.2.2.2.2.2.2.2.2.2.2.2.2.2.2.2.2.2.2.2.2.2.2.2.2.2.2.2.2.2.2.2.2.2.2.2.2.2.2.2.2.2.2.2.2.2.2.2.2.2.2.1
theorem fx_o22 : (∀ p, fxB p 22 = ((Jvm.ClassFile.Reader.u1 >>= fun x => Pure.pure (.lload x)) : Jvm.ClassFile.Decoder Jvm.ClassFile.Instr)) := fx_s.2.2.2.2.2.2.2.2.2.2.2.2.2.2.2.2.2.2.2.2.2.2.2.2.2.2.2.2.2.2.2.2.2.2.2.2.2.2.2.2.2.2.2.2.2.2.2.2.2.2.2.2.2.2.2.2.2.2.2.2.2.2.2.2.2.2.2.2.2.2.2.2.2.2.2.2.2.2.2.2.2.2.2.1
theorem fx_o158 : (∀ p, fxB p 158 = ((Jvm.ClassFile.Reader.s2 >>= fun x => Pure.pure (.ifCond .le x)) : Jvm.ClassFile.Decoder Jvm.ClassFile.Instr)) := fx_s.2.2.2.2.2.2.2.2.2.2.2.2.2.2.2.2.2.2.2.2.2.2.2.2.2.2.2.2.2.2.2.2.2.2.2.2.2.2.2.2.2.2.2.2.2.2.2.2.2.2.2.2.2.2.2.2.2.2.2.2.2.2.2.2.2.2.2.2.2.2.2.2.2.2.2.2.2.2.2.2.2.2.2.2.1
theorem fx_o122 : (∀ p, fxB p 122 = (Pure.pure .ishr : Jvm.ClassFile.Decoder Jvm.ClassFile.Instr)) := fx_s.2.2.2.2.2.2.2.2.2.2.2.2.2.2.2.2.2.2.2.2.2.2.2.2.2.2.2.2.2.2.2.2.2.2.2.2.2.2.2.2.2.2.2.2.2.2.2.2.2.2.2.2.2.2.2.2.2.2.2.2.2.2.2.2.2.2.2.2.2.2.2.2.2.2.2.2.2.2.2.2.2.2.2.2.2.1
theorem fx_o59 : (∀ p, fxB p 59 = (Pure.pure (.istore_n 0) : Jvm.ClassFile.Decoder Jvm.ClassFile.Instr)) := fx_s.2.2.2.2.2.2.2.2.2.2.2.2.2.2.2.2.2.2.2.2.2.2.2.2.2.2.2.2.2.2.2.2.2.2.2.2.2.2.2.2.2.2.2.2.2.2.2.2.2.2.2.2.2.2.2.2.2.2.2.2.2.2.2.2.2.2.2.2.2.2.2.2.2.2.2.2.2.2.2.2.2.2.2.2.2.2.1
theorem fx_o130 : (∀ p, fxB p 130 = (Pure.pure .ixor : Jvm.ClassFile.Decoder Jvm.ClassFile.Instr)) := fx_s.2.2.2.2.2.2.2.2.2.2.2.2.2.2.2.2.2.2.2.2.2.2.2.2.2.2.2.2.2.2.2.2.2.2.2.2.2.2.2.2.2.2.2.2.2.2.2.2.2.2.2.2.2.2.2.2.2.2.2.2.2.2.2.2.2.2.2.2.2.2.2.2.2.2.2.2.2.2.2.2.2.2.2.2.2.2.2.1
theorem fx_o105 : (∀ p, fxB p 105 = (Pure.pure .lmul : Jvm.ClassFile.Decoder Jvm.ClassFile.Instr)) := fx_s.2.2.2.2.2.2.2.2.2.2.2.2.2.2.2.2.2.2.2.2.2.2.2.2.2.2.2.2.2.2.2.2.2.2.2.2.2.2.2.2.2.2.2.2.2.2.2.2.2.2.2.2.2.2.2.2.2.2.2.2.2.2.2.2.2.2.2.2.2.2.2.2.2.2.2.2.2.2.2.2.2.2.2.2.2.2.2.2.1
theorem fx_o97 : (∀ p, fxB p 97 = (Pure.pure .ladd : Jvm.ClassFile.Decoder Jvm.ClassFile.Instr)) := fx_s.2.2.2.2.2.2.2.2.2.2.2.2.2.2.2.2.2.2.2.2.2.2.2.2.2.2.2.2.2.2.2.2.2.2.2.2.2.2.2.2.2.2.2.2.2.2.2.2.2.2.2.2.2.2.2.2.2.2.2.2.2.2.2.2.2.2.2.2.2.2.2.2.2.2.2.2.2.2.2.2.2.2.2.2.2.2.2.2.2.1
theorem fx_o192 : (∀ p, fxB p 192 = ((Jvm.ClassFile.Reader.u2 >>= fun x => Pure.pure (.checkcast x)) : Jvm.ClassFile.Decoder Jvm.ClassFile.Instr)) := fx_s.2.2.2.2.2.2.2.2.2.2.2.2.2.2.2.2.2.2.2.2.2.2.2.2.2.2.2.2.2.2.2.2.2.2.2.2.2.2.2.2.2.2.2.2.2.2.2.2.2.2.2.2.2.2.2.2.2.2.2.2.2.2.2.2.2.2.2.2.2.2.2.2.2.2.2.2.2.2.2.2.2.2.2.2.2.2.2.2.2.2.1
theorem fx_o90 : (∀ p, fxB p 90 = (Pure.pure .dup_x1 : Jvm.ClassFile.Decoder Jvm.ClassFile.Instr)) := fx_s.2.2.2.2.2.2.2.2.2.2.2.2.2.2.2.2.2.2.2.2.2.2.2.2.2.2.2.2.2.2.2.2.2.2.2.2.2.2.2.2.2.2.2.2.2.2.2.2.2.2.2.2.2.2.2.2.2.2.2.2.2.2.2.2.2.2.2.2.2.2.2.2.2.2.2.2.2.2.2.2.2.2.2.2.2.2.2.2.2.2.2.1
theorem fx_o156 : (∀ p, fxB p 156 = ((Jvm.ClassFile.Reader.s2 >>= fun x => Pure.pure (.ifCond .ge x)) : Jvm.ClassFile.Decoder Jvm.ClassFile.Instr)) := fx_s.2.2.2.2.2.2.2.2.2.2.2.2.2.2.2.2.2.2.2.2.2.2.2.2.2.2.2.2.2.2.2.2.2.2.2.2.2.2.2.2.2.2.2.2.2.2.2.2.2.2.2.2.2.2.2.2.2.2.2.2.2.2.2.2.2.2.2.2.2.2.2.2.2.2.2.2.2.2.2.2.2.2.2.2.2.2.2.2.2.2.2.2.1
theorem fx_o88 : (∀ p, fxB p 88 = (Pure.pure .pop2 : Jvm.ClassFile.Decoder Jvm.ClassFile.Instr)) := fx_s.2.2.2.2.2.2.2.2.2.2.2.2.2.2.2.2.2.2.2.2.2.2.2.2.2.2.2.2.2.2.2.2.2.2.2.2.2.2.2.2.2.2.2.2.2.2.2.2.2.2.2.2.2.2.2.2.2.2.2.2.2.2.2.2.2.2.2.2.2.2.2.2.2.2.2.2.2.2.2.2.2.2.2.2.2.2.2.2.2.2.2.2.2.1
theorem fx_o32 : (∀ p, fxB p 32 = (Pure.pure (.lload_n 2) : Jvm.ClassFile.Decoder Jvm.ClassFile.Instr)) := fx_s.2.2.2.2.2.2.2.2.2.2.2.2.2.2.2.2.2.2.2.2.2.2.2.2.2.2.2.2.2.2.2.2.2.2.2.2.2.2.2.2.2.2.2.2.2.2.2.2.2.2.2.2.2.2.2.2.2.2.2.2.2.2.2.2.2.2.2.2.2.2.2.2.2.2.2.2.2.2.2.2.2.2.2.2.2.2.2.2.2.2.2.2.2.2.1
theorem fx_o145 : (∀ p, fxB p 145 = (Pure.pure .i2b : Jvm.ClassFile.Decoder Jvm.ClassFile.Instr)) := fx_s.2.2.2.2.2.2.2.2.2.2.2.2.2.2.2.2.2.2.2.2.2.2.2.2.2.2.2.2.2.2.2.2.2.2.2.2.2.2.2.2.2.2.2.2.2.2.2.2.2.2.2.2.2.2.2.2.2.2.2.2.2.2.2.2.2.2.2.2.2.2.2.2.2.2.2.2.2.2.2.2.2.2.2.2.2.2.2.2.2.2.2.2.2.2.2.1
theorem fx_o1 : (∀ p, fxB p 1 = (Pure.pure .aconst_null : Jvm.ClassFile.Decoder Jvm.ClassFile.Instr)) := fx_s.2.2.2.2.2.2.2.2.2.2.2.2.2.2.2.2.2.2.2.2.2.2.2.2.2.2.2.2.2.2.2.2.2.2.2.2.2.2.2.2.2.2.2.2.2.2.2.2.2.2.2.2.2.2.2.2.2.2.2.2.2.2.2.2.2.2.2.2.2.2.2.2.2.2.2.2.2.2.2.2.2.2.2.2.2.2.2.2.2.2.2.2.2.2.2.2.1
theorem fx_o17 : (∀ p, fxB p 17 = ((Jvm.ClassFile.Reader.s2 >>= fun x => Pure.pure (.sipush x)) : Jvm.ClassFile.Decoder Jvm.ClassFile.Instr)) := fx_s.2.2.2.2.2.2.2.2.2.2.2.2.2.2.2.2.2.2.2.2.2.2.2.2.2.2.2.2.2.2.2.2.2.2.2.2.2.2.2.2.2.2.2.2.2.2.2.2.2.2.2.2.2.2.2.2.2.2.2.2.2.2.2.2.2.2.2.2.2.2.2.2.2.2.2.2.2.2.2.2.2.2.2.2.2.2.2.2.2.2.2.2.2.2.2.2.2.1
theorem fx_o148 : (∀ p, fxB p 148 = (Pure.pure .lcmp : Jvm.ClassFile.Decoder Jvm.ClassFile.Instr)) := fx_s.2.2.2.2.2.2.2.2.2.2.2.2.2.2.2.2.2.2.2.2.2.2.2.2.2.2.2.2.2.2.2.2.2.2.2.2.2.2.2.2.2.2.2.2.2.2.2.2.2.2.2.2.2.2.2.2.2.2.2.2.2.2.2.2.2.2.2.2.2.2.2.2.2.2.2.2.2.2.2.2.2.2.2.2.2.2.2.2.2.2.2.2.2.2.2.2.2.2
def fk0 (n : Nat) : Option Jvm.ClassFile.Instr := (cond (Nat.beq n 42) (some ((.aload_n 0) : Jvm.ClassFile.Instr)) (cond (Nat.beq n 27) (some ((.iload_n 1) : Jvm.ClassFile.Instr)) (cond (Nat.beq n 172) (some (.ireturn : Jvm.ClassFile.Instr)) (cond (Nat.beq n 3) (some ((.iconst 0) : Jvm.ClassFile.Instr)) (cond (Nat.beq n 28) (some ((.iload_n 2) : Jvm.ClassFile.Instr)) (cond (Nat.beq n 4) (some ((.iconst 1) : Jvm.ClassFile.Instr)) (cond (Nat.beq n 96) (some (.iadd : Jvm.ClassFile.Instr)) (cond (Nat.beq n 46) (some (.iaload : Jvm.ClassFile.Instr)) (cond (Nat.beq n 29) (some ((.iload_n 3) : Jvm.ClassFile.Instr)) (cond (Nat.beq n 5) (some ((.iconst 2) : Jvm.ClassFile.Instr)) (cond (Nat.beq n 45) (some ((.aload_n 3) : Jvm.ClassFile.Instr)) (cond (Nat.beq n 43) (some ((.aload_n 1) : Jvm.ClassFile.Instr)) (cond (Nat.beq n 50) (some (.aaload : Jvm.ClassFile.Instr)) (cond (Nat.beq n 44) (some ((.aload_n 2) : Jvm.ClassFile.Instr)) (cond (Nat.beq n 2) (some ((.iconst (-1)) : Jvm.ClassFile.Instr)) (cond (Nat.beq n 6) (some ((.iconst 3) : Jvm.ClassFile.Instr)) (cond (Nat.beq n 89) (some (.dup : Jvm.ClassFile.Instr)) (cond (Nat.beq n 133) (some (.i2l : Jvm.ClassFile.Instr)) (cond (Nat.beq n 87) (some (.pop : Jvm.ClassFile.Instr)) (cond (Nat.beq n 7) (some ((.iconst 4) : Jvm.ClassFile.Instr)) (cond (Nat.beq n 62) (some ((.istore_n 3) : Jvm.ClassFile.Instr)) (cond (Nat.beq n 26) (some ((.iload_n 0) : Jvm.ClassFile.Instr)) (cond (Nat.beq n 177) (some (.return_ : Jvm.ClassFile.Instr)) (cond (Nat.beq n 60) (some ((.istore_n 1) : Jvm.ClassFile.Instr)) (cond (Nat.beq n 100) (some (.isub : Jvm.ClassFile.Instr)) (cond (Nat.beq n 61) (some ((.istore_n 2) : Jvm.ClassFile.Instr)) (cond (Nat.beq n 176) (some (.areturn : Jvm.ClassFile.Instr)) (cond (Nat.beq n 78) (some ((.astore_n 3) : Jvm.ClassFile.Instr)) (cond (Nat.beq n 83) (some (.aastore : Jvm.ClassFile.Instr)) (cond (Nat.beq n 79) (some (.iastore : Jvm.ClassFile.Instr)) (cond (Nat.beq n 64) (some ((.lstore_n 1) : Jvm.ClassFile.Instr)) (cond (Nat.beq n 31) (some ((.lload_n 1) : Jvm.ClassFile.Instr)) (cond (Nat.beq n 190) (some (.arraylength : Jvm.ClassFile.Instr)) (cond (Nat.beq n 104) (some (.imul : Jvm.ClassFile.Instr)) (cond (Nat.beq n 112) (some (.irem : Jvm.ClassFile.Instr)) (cond (Nat.beq n 84) (some (.bastore : Jvm.ClassFile.Instr)) (cond (Nat.beq n 191) (some (.athrow : Jvm.ClassFile.Instr)) (cond (Nat.beq n 8) (some ((.iconst 5) : Jvm.ClassFile.Instr)) (cond (Nat.beq n 173) (some (.lreturn : Jvm.ClassFile.Instr)) (cond (Nat.beq n 108) (some (.idiv : Jvm.ClassFile.Instr)) (cond (Nat.beq n 77) (some ((.astore_n 2) : Jvm.ClassFile.Instr)) (cond (Nat.beq n 66) (some ((.lstore_n 3) : Jvm.ClassFile.Instr)) (cond (Nat.beq n 33) (some ((.lload_n 3) : Jvm.ClassFile.Instr)) (cond (Nat.beq n 10) (some ((.lconst 1) : Jvm.ClassFile.Instr)) (cond (Nat.beq n 30) (some ((.lload_n 0) : Jvm.ClassFile.Instr)) (cond (Nat.beq n 9) (some ((.lconst 0) : Jvm.ClassFile.Instr)) (cond (Nat.beq n 120) (some (.ishl : Jvm.ClassFile.Instr)) (cond (Nat.beq n 92) (some (.dup2 : Jvm.ClassFile.Instr)) (cond (Nat.beq n 116) (some (.ineg : Jvm.ClassFile.Instr)) (cond (Nat.beq n 51) (some (.baload : Jvm.ClassFile.Instr)) (cond (Nat.beq n 76) (some ((.astore_n 1) : Jvm.ClassFile.Instr)) (cond (Nat.beq n 126) (some (.iand : Jvm.ClassFile.Instr)) (cond (Nat.beq n 122) (some (.ishr : Jvm.ClassFile.Instr)) (cond (Nat.beq n 59) (some ((.istore_n 0) : Jvm.ClassFile.Instr)) (cond (Nat.beq n 130) (some (.ixor : Jvm.ClassFile.Instr)) (cond (Nat.beq n 105) (some (.lmul : Jvm.ClassFile.Instr)) (cond (Nat.beq n 97) (some (.ladd : Jvm.ClassFile.Instr)) (cond (Nat.beq n 90) (some (.dup_x1 : Jvm.ClassFile.Instr)) (cond (Nat.beq n 88) (some (.pop2 : Jvm.ClassFile.Instr)) (cond (Nat.beq n 32) (some ((.lload_n 2) : Jvm.ClassFile.Instr)) (cond (Nat.beq n 145) (some (.i2b : Jvm.ClassFile.Instr)) (cond (Nat.beq n 1) (some (.aconst_null : Jvm.ClassFile.Instr)) (cond (Nat.beq n 148) (some (.lcmp : Jvm.ClassFile.Instr)) none)))))))))))))))))))))))))))))))))))))))))))))))))))))))))))))))
theorem fk0_ok {n : Nat} {I : Jvm.ClassFile.Instr} (h : fk0 n = some I) (p : Nat) : fxB p n = (Pure.pure I : Jvm.ClassFile.Decoder Jvm.ClassFile.Instr) := by
  unfold fk0 at h
  cases q42 : Nat.beq n 42
  case true =>
    rw [q42] at h; have h2 : some ((.aload_n 0) : Jvm.ClassFile.Instr) = some I := h; cases h2
    have hn := Nat.eq_of_beq_eq_true q42; rw [hn]; exact fx_o42 p
  rw [q42] at h
  cases q27 : Nat.beq n 27
  case true =>
    rw [q27] at h; have h2 : some ((.iload_n 1) : Jvm.ClassFile.Instr) = some I := h; cases h2
    have hn := Nat.eq_of_beq_eq_true q27; rw [hn]; exact fx_o27 p
  rw [q27] at h
  cases q172 : Nat.beq n 172
  case true =>
    rw [q172] at h; have h2 : some (.ireturn : Jvm.ClassFile.Instr) = some I := h; cases h2
    have hn := Nat.eq_of_beq_eq_true q172; rw [hn]; exact fx_o172 p
  rw [q172] at h
  cases q3 : Nat.beq n 3
  case true =>
    rw [q3] at h; have h2 : some ((.iconst 0) : Jvm.ClassFile.Instr) = some I := h; cases h2
    have hn := Nat.eq_of_beq_eq_true q3; rw [hn]; exact fx_o3 p
  rw [q3] at h
  cases q28 : Nat.beq n 28
  case true =>
    rw [q28] at h; have h2 : some ((.iload_n 2) : Jvm.ClassFile.Instr) = some I := h; cases h2
    have hn := Nat.eq_of_beq_eq_true q28; rw [hn]; exact fx_o28 p
  rw [q28] at h
  cases q4 : Nat.beq n 4
  case true =>
    rw [q4] at h; have h2 : some ((.iconst 1) : Jvm.ClassFile.Instr) = some I := h; cases h2
    have hn := Nat.eq_of_beq_eq_true q4; rw [hn]; exact fx_o4 p
  rw [q4] at h
  cases q96 : Nat.beq n 96
  case true =>
    rw [q96] at h; have h2 : some (.iadd : Jvm.ClassFile.Instr) = some I := h; cases h2
    have hn := Nat.eq_of_beq_eq_true q96; rw [hn]; exact fx_o96 p
  rw [q96] at h
  cases q46 : Nat.beq n 46
  case true =>
    rw [q46] at h; have h2 : some (.iaload : Jvm.ClassFile.Instr) = some I := h; cases h2
    have hn := Nat.eq_of_beq_eq_true q46; rw [hn]; exact fx_o46 p
  rw [q46] at h
  cases q29 : Nat.beq n 29
  case true =>
    rw [q29] at h; have h2 : some ((.iload_n 3) : Jvm.ClassFile.Instr) = some I := h; cases h2
    have hn := Nat.eq_of_beq_eq_true q29; rw [hn]; exact fx_o29 p
  rw [q29] at h
  cases q5 : Nat.beq n 5
  case true =>
    rw [q5] at h; have h2 : some ((.iconst 2) : Jvm.ClassFile.Instr) = some I := h; cases h2
    have hn := Nat.eq_of_beq_eq_true q5; rw [hn]; exact fx_o5 p
  rw [q5] at h
  cases q45 : Nat.beq n 45
  case true =>
    rw [q45] at h; have h2 : some ((.aload_n 3) : Jvm.ClassFile.Instr) = some I := h; cases h2
    have hn := Nat.eq_of_beq_eq_true q45; rw [hn]; exact fx_o45 p
  rw [q45] at h
  cases q43 : Nat.beq n 43
  case true =>
    rw [q43] at h; have h2 : some ((.aload_n 1) : Jvm.ClassFile.Instr) = some I := h; cases h2
    have hn := Nat.eq_of_beq_eq_true q43; rw [hn]; exact fx_o43 p
  rw [q43] at h
  cases q50 : Nat.beq n 50
  case true =>
    rw [q50] at h; have h2 : some (.aaload : Jvm.ClassFile.Instr) = some I := h; cases h2
    have hn := Nat.eq_of_beq_eq_true q50; rw [hn]; exact fx_o50 p
  rw [q50] at h
  cases q44 : Nat.beq n 44
  case true =>
    rw [q44] at h; have h2 : some ((.aload_n 2) : Jvm.ClassFile.Instr) = some I := h; cases h2
    have hn := Nat.eq_of_beq_eq_true q44; rw [hn]; exact fx_o44 p
  rw [q44] at h
  cases q2 : Nat.beq n 2
  case true =>
    rw [q2] at h; have h2 : some ((.iconst (-1)) : Jvm.ClassFile.Instr) = some I := h; cases h2
    have hn := Nat.eq_of_beq_eq_true q2; rw [hn]; exact fx_o2 p
  rw [q2] at h
  cases q6 : Nat.beq n 6
  case true =>
    rw [q6] at h; have h2 : some ((.iconst 3) : Jvm.ClassFile.Instr) = some I := h; cases h2
    have hn := Nat.eq_of_beq_eq_true q6; rw [hn]; exact fx_o6 p
  rw [q6] at h
  cases q89 : Nat.beq n 89
  case true =>
    rw [q89] at h; have h2 : some (.dup : Jvm.ClassFile.Instr) = some I := h; cases h2
    have hn := Nat.eq_of_beq_eq_true q89; rw [hn]; exact fx_o89 p
  rw [q89] at h
  cases q133 : Nat.beq n 133
  case true =>
    rw [q133] at h; have h2 : some (.i2l : Jvm.ClassFile.Instr) = some I := h; cases h2
    have hn := Nat.eq_of_beq_eq_true q133; rw [hn]; exact fx_o133 p
  rw [q133] at h
  cases q87 : Nat.beq n 87
  case true =>
    rw [q87] at h; have h2 : some (.pop : Jvm.ClassFile.Instr) = some I := h; cases h2
    have hn := Nat.eq_of_beq_eq_true q87; rw [hn]; exact fx_o87 p
  rw [q87] at h
  cases q7 : Nat.beq n 7
  case true =>
    rw [q7] at h; have h2 : some ((.iconst 4) : Jvm.ClassFile.Instr) = some I := h; cases h2
    have hn := Nat.eq_of_beq_eq_true q7; rw [hn]; exact fx_o7 p
  rw [q7] at h
  cases q62 : Nat.beq n 62
  case true =>
    rw [q62] at h; have h2 : some ((.istore_n 3) : Jvm.ClassFile.Instr) = some I := h; cases h2
    have hn := Nat.eq_of_beq_eq_true q62; rw [hn]; exact fx_o62 p
  rw [q62] at h
  cases q26 : Nat.beq n 26
  case true =>
    rw [q26] at h; have h2 : some ((.iload_n 0) : Jvm.ClassFile.Instr) = some I := h; cases h2
    have hn := Nat.eq_of_beq_eq_true q26; rw [hn]; exact fx_o26 p
  rw [q26] at h
  cases q177 : Nat.beq n 177
  case true =>
    rw [q177] at h; have h2 : some (.return_ : Jvm.ClassFile.Instr) = some I := h; cases h2
    have hn := Nat.eq_of_beq_eq_true q177; rw [hn]; exact fx_o177 p
  rw [q177] at h
  cases q60 : Nat.beq n 60
  case true =>
    rw [q60] at h; have h2 : some ((.istore_n 1) : Jvm.ClassFile.Instr) = some I := h; cases h2
    have hn := Nat.eq_of_beq_eq_true q60; rw [hn]; exact fx_o60 p
  rw [q60] at h
  cases q100 : Nat.beq n 100
  case true =>
    rw [q100] at h; have h2 : some (.isub : Jvm.ClassFile.Instr) = some I := h; cases h2
    have hn := Nat.eq_of_beq_eq_true q100; rw [hn]; exact fx_o100 p
  rw [q100] at h
  cases q61 : Nat.beq n 61
  case true =>
    rw [q61] at h; have h2 : some ((.istore_n 2) : Jvm.ClassFile.Instr) = some I := h; cases h2
    have hn := Nat.eq_of_beq_eq_true q61; rw [hn]; exact fx_o61 p
  rw [q61] at h
  cases q176 : Nat.beq n 176
  case true =>
    rw [q176] at h; have h2 : some (.areturn : Jvm.ClassFile.Instr) = some I := h; cases h2
    have hn := Nat.eq_of_beq_eq_true q176; rw [hn]; exact fx_o176 p
  rw [q176] at h
  cases q78 : Nat.beq n 78
  case true =>
    rw [q78] at h; have h2 : some ((.astore_n 3) : Jvm.ClassFile.Instr) = some I := h; cases h2
    have hn := Nat.eq_of_beq_eq_true q78; rw [hn]; exact fx_o78 p
  rw [q78] at h
  cases q83 : Nat.beq n 83
  case true =>
    rw [q83] at h; have h2 : some (.aastore : Jvm.ClassFile.Instr) = some I := h; cases h2
    have hn := Nat.eq_of_beq_eq_true q83; rw [hn]; exact fx_o83 p
  rw [q83] at h
  cases q79 : Nat.beq n 79
  case true =>
    rw [q79] at h; have h2 : some (.iastore : Jvm.ClassFile.Instr) = some I := h; cases h2
    have hn := Nat.eq_of_beq_eq_true q79; rw [hn]; exact fx_o79 p
  rw [q79] at h
  cases q64 : Nat.beq n 64
  case true =>
    rw [q64] at h; have h2 : some ((.lstore_n 1) : Jvm.ClassFile.Instr) = some I := h; cases h2
    have hn := Nat.eq_of_beq_eq_true q64; rw [hn]; exact fx_o64 p
  rw [q64] at h
  cases q31 : Nat.beq n 31
  case true =>
    rw [q31] at h; have h2 : some ((.lload_n 1) : Jvm.ClassFile.Instr) = some I := h; cases h2
    have hn := Nat.eq_of_beq_eq_true q31; rw [hn]; exact fx_o31 p
  rw [q31] at h
  cases q190 : Nat.beq n 190
  case true =>
    rw [q190] at h; have h2 : some (.arraylength : Jvm.ClassFile.Instr) = some I := h; cases h2
    have hn := Nat.eq_of_beq_eq_true q190; rw [hn]; exact fx_o190 p
  rw [q190] at h
  cases q104 : Nat.beq n 104
  case true =>
    rw [q104] at h; have h2 : some (.imul : Jvm.ClassFile.Instr) = some I := h; cases h2
    have hn := Nat.eq_of_beq_eq_true q104; rw [hn]; exact fx_o104 p
  rw [q104] at h
  cases q112 : Nat.beq n 112
  case true =>
    rw [q112] at h; have h2 : some (.irem : Jvm.ClassFile.Instr) = some I := h; cases h2
    have hn := Nat.eq_of_beq_eq_true q112; rw [hn]; exact fx_o112 p
  rw [q112] at h
  cases q84 : Nat.beq n 84
  case true =>
    rw [q84] at h; have h2 : some (.bastore : Jvm.ClassFile.Instr) = some I := h; cases h2
    have hn := Nat.eq_of_beq_eq_true q84; rw [hn]; exact fx_o84 p
  rw [q84] at h
  cases q191 : Nat.beq n 191
  case true =>
    rw [q191] at h; have h2 : some (.athrow : Jvm.ClassFile.Instr) = some I := h; cases h2
    have hn := Nat.eq_of_beq_eq_true q191; rw [hn]; exact fx_o191 p
  rw [q191] at h
  cases q8 : Nat.beq n 8
  case true =>
    rw [q8] at h; have h2 : some ((.iconst 5) : Jvm.ClassFile.Instr) = some I := h; cases h2
    have hn := Nat.eq_of_beq_eq_true q8; rw [hn]; exact fx_o8 p
  rw [q8] at h
  cases q173 : Nat.beq n 173
  case true =>
    rw [q173] at h; have h2 : some (.lreturn : Jvm.ClassFile.Instr) = some I := h; cases h2
    have hn := Nat.eq_of_beq_eq_true q173; rw [hn]; exact fx_o173 p
  rw [q173] at h
  cases q108 : Nat.beq n 108
  case true =>
    rw [q108] at h; have h2 : some (.idiv : Jvm.ClassFile.Instr) = some I := h; cases h2
    have hn := Nat.eq_of_beq_eq_true q108; rw [hn]; exact fx_o108 p
  rw [q108] at h
  cases q77 : Nat.beq n 77
  case true =>
    rw [q77] at h; have h2 : some ((.astore_n 2) : Jvm.ClassFile.Instr) = some I := h; cases h2
    have hn := Nat.eq_of_beq_eq_true q77; rw [hn]; exact fx_o77 p
  rw [q77] at h
  cases q66 : Nat.beq n 66
  case true =>
    rw [q66] at h; have h2 : some ((.lstore_n 3) : Jvm.ClassFile.Instr) = some I := h; cases h2
    have hn := Nat.eq_of_beq_eq_true q66; rw [hn]; exact fx_o66 p
  rw [q66] at h
  cases q33 : Nat.beq n 33
  case true =>
    rw [q33] at h; have h2 : some ((.lload_n 3) : Jvm.ClassFile.Instr) = some I := h; cases h2
    have hn := Nat.eq_of_beq_eq_true q33; rw [hn]; exact fx_o33 p
  rw [q33] at h
  cases q10 : Nat.beq n 10
  case true =>
    rw [q10] at h; have h2 : some ((.lconst 1) : Jvm.ClassFile.Instr) = some I := h; cases h2
    have hn := Nat.eq_of_beq_eq_true q10; rw [hn]; exact fx_o10 p
  rw [q10] at h
  cases q30 : Nat.beq n 30
  case true =>
    rw [q30] at h; have h2 : some ((.lload_n 0) : Jvm.ClassFile.Instr) = some I := h; cases h2
    have hn := Nat.eq_of_beq_eq_true q30; rw [hn]; exact fx_o30 p
  rw [q30] at h
  cases q9 : Nat.beq n 9
  case true =>
    rw [q9] at h; have h2 : some ((.lconst 0) : Jvm.ClassFile.Instr) = some I := h; cases h2
    have hn := Nat.eq_of_beq_eq_true q9; rw [hn]; exact fx_o9 p
  rw [q9] at h
  cases q120 : Nat.beq n 120
  case true =>
    rw [q120] at h; have h2 : some (.ishl : Jvm.ClassFile.Instr) = some I := h; cases h2
    have hn := Nat.eq_of_beq_eq_true q120; rw [hn]; exact fx_o120 p
  rw [q120] at h
  cases q92 : Nat.beq n 92
  case true =>
    rw [q92] at h; have h2 : some (.dup2 : Jvm.ClassFile.Instr) = some I := h; cases h2
    have hn := Nat.eq_of_beq_eq_true q92; rw [hn]; exact fx_o92 p
  rw [q92] at h
  cases q116 : Nat.beq n 116
  case true =>
    rw [q116] at h; have h2 : some (.ineg : Jvm.ClassFile.Instr) = some I := h; cases h2
    have hn := Nat.eq_of_beq_eq_true q116; rw [hn]; exact fx_o116 p
  rw [q116] at h
  cases q51 : Nat.beq n 51
  case true =>
    rw [q51] at h; have h2 : some (.baload : Jvm.ClassFile.Instr) = some I := h; cases h2
    have hn := Nat.eq_of_beq_eq_true q51; rw [hn]; exact fx_o51 p
  rw [q51] at h
  cases q76 : Nat.beq n 76
  case true =>
    rw [q76] at h; have h2 : some ((.astore_n 1) : Jvm.ClassFile.Instr) = some I := h; cases h2
    have hn := Nat.eq_of_beq_eq_true q76; rw [hn]; exact fx_o76 p
  rw [q76] at h
  cases q126 : Nat.beq n 126
  case true =>
    rw [q126] at h; have h2 : some (.iand : Jvm.ClassFile.Instr) = some I := h; cases h2
    have hn := Nat.eq_of_beq_eq_true q126; rw [hn]; exact fx_o126 p
  rw [q126] at h
  cases q122 : Nat.beq n 122
  case true =>
    rw [q122] at h; have h2 : some (.ishr : Jvm.ClassFile.Instr) = some I := h; cases h2
    have hn := Nat.eq_of_beq_eq_true q122; rw [hn]; exact fx_o122 p
  rw [q122] at h
  cases q59 : Nat.beq n 59
  case true =>
    rw [q59] at h; have h2 : some ((.istore_n 0) : Jvm.ClassFile.Instr) = some I := h; cases h2
    have hn := Nat.eq_of_beq_eq_true q59; rw [hn]; exact fx_o59 p
  rw [q59] at h
  cases q130 : Nat.beq n 130
  case true =>
    rw [q130] at h; have h2 : some (.ixor : Jvm.ClassFile.Instr) = some I := h; cases h2
    have hn := Nat.eq_of_beq_eq_true q130; rw [hn]; exact fx_o130 p
  rw [q130] at h
  cases q105 : Nat.beq n 105
  case true =>
    rw [q105] at h; have h2 : some (.lmul : Jvm.ClassFile.Instr) = some I := h; cases h2
    have hn := Nat.eq_of_beq_eq_true q105; rw [hn]; exact fx_o105 p
  rw [q105] at h
  cases q97 : Nat.beq n 97
  case true =>
    rw [q97] at h; have h2 : some (.ladd : Jvm.ClassFile.Instr) = some I := h; cases h2
    have hn := Nat.eq_of_beq_eq_true q97; rw [hn]; exact fx_o97 p
  rw [q97] at h
  cases q90 : Nat.beq n 90
  case true =>
    rw [q90] at h; have h2 : some (.dup_x1 : Jvm.ClassFile.Instr) = some I := h; cases h2
    have hn := Nat.eq_of_beq_eq_true q90; rw [hn]; exact fx_o90 p
  rw [q90] at h
  cases q88 : Nat.beq n 88
  case true =>
    rw [q88] at h; have h2 : some (.pop2 : Jvm.ClassFile.Instr) = some I := h; cases h2
    have hn := Nat.eq_of_beq_eq_true q88; rw [hn]; exact fx_o88 p
  rw [q88] at h
  cases q32 : Nat.beq n 32
  case true =>
    rw [q32] at h; have h2 : some ((.lload_n 2) : Jvm.ClassFile.Instr) = some I := h; cases h2
    have hn := Nat.eq_of_beq_eq_true q32; rw [hn]; exact fx_o32 p
  rw [q32] at h
  cases q145 : Nat.beq n 145
  case true =>
    rw [q145] at h; have h2 : some (.i2b : Jvm.ClassFile.Instr) = some I := h; cases h2
    have hn := Nat.eq_of_beq_eq_true q145; rw [hn]; exact fx_o145 p
  rw [q145] at h
  cases q1 : Nat.beq n 1
  case true =>
    rw [q1] at h; have h2 : some (.aconst_null : Jvm.ClassFile.Instr) = some I := h; cases h2
    have hn := Nat.eq_of_beq_eq_true q1; rw [hn]; exact fx_o1 p
  rw [q1] at h
  cases q148 : Nat.beq n 148
  case true =>
    rw [q148] at h; have h2 : some (.lcmp : Jvm.ClassFile.Instr) = some I := h; cases h2
    have hn := Nat.eq_of_beq_eq_true q148; rw [hn]; exact fx_o148 p
  rw [q148] at h
  have h2 : none = some I := h; cases h2
def fk1 (n : Nat) : Option (Nat → Jvm.ClassFile.Instr) := (cond (Nat.beq n 21) (some (fun x => .iload x : (Nat → Jvm.ClassFile.Instr))) (cond (Nat.beq n 54) (some (fun x => .istore x : (Nat → Jvm.ClassFile.Instr))) (cond (Nat.beq n 25) (some (fun x => .aload x : (Nat → Jvm.ClassFile.Instr))) (cond (Nat.beq n 58) (some (fun x => .astore x : (Nat → Jvm.ClassFile.Instr))) (cond (Nat.beq n 18) (some (fun x => .ldc x : (Nat → Jvm.ClassFile.Instr))) (cond (Nat.beq n 55) (some (fun x => .lstore x : (Nat → Jvm.ClassFile.Instr))) (cond (Nat.beq n 22) (some (fun x => .lload x : (Nat → Jvm.ClassFile.Instr))) none)))))))
theorem fk1_ok {n : Nat} {f : (Nat → Jvm.ClassFile.Instr)} (h : fk1 n = some f) (p : Nat) : fxB p n = ((Jvm.ClassFile.Reader.u1 >>= fun x => Pure.pure (f x)) : Jvm.ClassFile.Decoder Jvm.ClassFile.Instr) := by
  unfold fk1 at h
  cases q21 : Nat.beq n 21
  case true =>
    rw [q21] at h; have h2 : some (fun x => .iload x : (Nat → Jvm.ClassFile.Instr)) = some f := h; cases h2
    have hn := Nat.eq_of_beq_eq_true q21; rw [hn]; exact fx_o21 p
  rw [q21] at h
  cases q54 : Nat.beq n 54
  case true =>
    rw [q54] at h; have h2 : some (fun x => .istore x : (Nat → Jvm.ClassFile.Instr)) = some f := h; cases h2
    have hn := Nat.eq_of_beq_eq_true q54; rw [hn]; exact fx_o54 p
  rw [q54] at h
  cases q25 : Nat.beq n 25
  case true =>
    rw [q25] at h; have h2 : some (fun x => .aload x : (Nat → Jvm.ClassFile.Instr)) = some f := h; cases h2
    have hn := Nat.eq_of_beq_eq_true q25; rw [hn]; exact fx_o25 p
  rw [q25] at h
  cases q58 : Nat.beq n 58
  case true =>
    rw [q58] at h; have h2 : some (fun x => .astore x : (Nat → Jvm.ClassFile.Instr)) = some f := h; cases h2
    have hn := Nat.eq_of_beq_eq_true q58; rw [hn]; exact fx_o58 p
  rw [q58] at h
  cases q18 : Nat.beq n 18
  case true =>
    rw [q18] at h; have h2 : some (fun x => .ldc x : (Nat → Jvm.ClassFile.Instr)) = some f := h; cases h2
    have hn := Nat.eq_of_beq_eq_true q18; rw [hn]; exact fx_o18 p
  rw [q18] at h
  cases q55 : Nat.beq n 55
  case true =>
    rw [q55] at h; have h2 : some (fun x => .lstore x : (Nat → Jvm.ClassFile.Instr)) = some f := h; cases h2
    have hn := Nat.eq_of_beq_eq_true q55; rw [hn]; exact fx_o55 p
  rw [q55] at h
  cases q22 : Nat.beq n 22
  case true =>
    rw [q22] at h; have h2 : some (fun x => .lload x : (Nat → Jvm.ClassFile.Instr)) = some f := h; cases h2
    have hn := Nat.eq_of_beq_eq_true q22; rw [hn]; exact fx_o22 p
  rw [q22] at h
  have h2 : none = some f := h; cases h2
def fk2 (n : Nat) : Option (Nat → Jvm.ClassFile.Instr) := (cond (Nat.beq n 182) (some (fun x => .invokevirtual x : (Nat → Jvm.ClassFile.Instr))) (cond (Nat.beq n 180) (some (fun x => .getfield x : (Nat → Jvm.ClassFile.Instr))) (cond (Nat.beq n 184) (some (fun x => .invokestatic x : (Nat → Jvm.ClassFile.Instr))) (cond (Nat.beq n 181) (some (fun x => .putfield x : (Nat → Jvm.ClassFile.Instr))) (cond (Nat.beq n 183) (some (fun x => .invokespecial x : (Nat → Jvm.ClassFile.Instr))) (cond (Nat.beq n 187) (some (fun x => .new x : (Nat → Jvm.ClassFile.Instr))) (cond (Nat.beq n 178) (some (fun x => .getstatic x : (Nat → Jvm.ClassFile.Instr))) (cond (Nat.beq n 19) (some (fun x => .ldc_w x : (Nat → Jvm.ClassFile.Instr))) (cond (Nat.beq n 189) (some (fun x => .anewarray x : (Nat → Jvm.ClassFile.Instr))) (cond (Nat.beq n 20) (some (fun x => .ldc2_w x : (Nat → Jvm.ClassFile.Instr))) (cond (Nat.beq n 192) (some (fun x => .checkcast x : (Nat → Jvm.ClassFile.Instr))) none)))))))))))
theorem fk2_ok {n : Nat} {f : (Nat → Jvm.ClassFile.Instr)} (h : fk2 n = some f) (p : Nat) : fxB p n = ((Jvm.ClassFile.Reader.u2 >>= fun x => Pure.pure (f x)) : Jvm.ClassFile.Decoder Jvm.ClassFile.Instr) := by
  unfold fk2 at h
  cases q182 : Nat.beq n 182
  case true =>
    rw [q182] at h; have h2 : some (fun x => .invokevirtual x : (Nat → Jvm.ClassFile.Instr)) = some f := h; cases h2
    have hn := Nat.eq_of_beq_eq_true q182; rw [hn]; exact fx_o182 p
  rw [q182] at h
  cases q180 : Nat.beq n 180
  case true =>
    rw [q180] at h; have h2 : some (fun x => .getfield x : (Nat → Jvm.ClassFile.Instr)) = some f := h; cases h2
    have hn := Nat.eq_of_beq_eq_true q180; rw [hn]; exact fx_o180 p
  rw [q180] at h
  cases q184 : Nat.beq n 184
  case true =>
    rw [q184] at h; have h2 : some (fun x => .invokestatic x : (Nat → Jvm.ClassFile.Instr)) = some f := h; cases h2
    have hn := Nat.eq_of_beq_eq_true q184; rw [hn]; exact fx_o184 p
  rw [q184] at h
  cases q181 : Nat.beq n 181
  case true =>
    rw [q181] at h; have h2 : some (fun x => .putfield x : (Nat → Jvm.ClassFile.Instr)) = some f := h; cases h2
    have hn := Nat.eq_of_beq_eq_true q181; rw [hn]; exact fx_o181 p
  rw [q181] at h
  cases q183 : Nat.beq n 183
  case true =>
    rw [q183] at h; have h2 : some (fun x => .invokespecial x : (Nat → Jvm.ClassFile.Instr)) = some f := h; cases h2
    have hn := Nat.eq_of_beq_eq_true q183; rw [hn]; exact fx_o183 p
  rw [q183] at h
  cases q187 : Nat.beq n 187
  case true =>
    rw [q187] at h; have h2 : some (fun x => .new x : (Nat → Jvm.ClassFile.Instr)) = some f := h; cases h2
    have hn := Nat.eq_of_beq_eq_true q187; rw [hn]; exact fx_o187 p
  rw [q187] at h
  cases q178 : Nat.beq n 178
  case true =>
    rw [q178] at h; have h2 : some (fun x => .getstatic x : (Nat → Jvm.ClassFile.Instr)) = some f := h; cases h2
    have hn := Nat.eq_of_beq_eq_true q178; rw [hn]; exact fx_o178 p
  rw [q178] at h
  cases q19 : Nat.beq n 19
  case true =>
    rw [q19] at h; have h2 : some (fun x => .ldc_w x : (Nat → Jvm.ClassFile.Instr)) = some f := h; cases h2
    have hn := Nat.eq_of_beq_eq_true q19; rw [hn]; exact fx_o19 p
  rw [q19] at h
  cases q189 : Nat.beq n 189
  case true =>
    rw [q189] at h; have h2 : some (fun x => .anewarray x : (Nat → Jvm.ClassFile.Instr)) = some f := h; cases h2
    have hn := Nat.eq_of_beq_eq_true q189; rw [hn]; exact fx_o189 p
  rw [q189] at h
  cases q20 : Nat.beq n 20
  case true =>
    rw [q20] at h; have h2 : some (fun x => .ldc2_w x : (Nat → Jvm.ClassFile.Instr)) = some f := h; cases h2
    have hn := Nat.eq_of_beq_eq_true q20; rw [hn]; exact fx_o20 p
  rw [q20] at h
  cases q192 : Nat.beq n 192
  case true =>
    rw [q192] at h; have h2 : some (fun x => .checkcast x : (Nat → Jvm.ClassFile.Instr)) = some f := h; cases h2
    have hn := Nat.eq_of_beq_eq_true q192; rw [hn]; exact fx_o192 p
  rw [q192] at h
  have h2 : none = some f := h; cases h2
def fk3 (n : Nat) : Option (Int → Jvm.ClassFile.Instr) := (cond (Nat.beq n 167) (some (fun x => .goto x : (Int → Jvm.ClassFile.Instr))) (cond (Nat.beq n 153) (some (fun x => .ifCond .eq x : (Int → Jvm.ClassFile.Instr))) (cond (Nat.beq n 160) (some (fun x => .if_icmp .ne x : (Int → Jvm.ClassFile.Instr))) (cond (Nat.beq n 154) (some (fun x => .ifCond .ne x : (Int → Jvm.ClassFile.Instr))) (cond (Nat.beq n 162) (some (fun x => .if_icmp .ge x : (Int → Jvm.ClassFile.Instr))) (cond (Nat.beq n 159) (some (fun x => .if_icmp .eq x : (Int → Jvm.ClassFile.Instr))) (cond (Nat.beq n 163) (some (fun x => .if_icmp .gt x : (Int → Jvm.ClassFile.Instr))) (cond (Nat.beq n 155) (some (fun x => .ifCond .lt x : (Int → Jvm.ClassFile.Instr))) (cond (Nat.beq n 161) (some (fun x => .if_icmp .lt x : (Int → Jvm.ClassFile.Instr))) (cond (Nat.beq n 164) (some (fun x => .if_icmp .le x : (Int → Jvm.ClassFile.Instr))) (cond (Nat.beq n 198) (some (fun x => .ifnull x : (Int → Jvm.ClassFile.Instr))) (cond (Nat.beq n 199) (some (fun x => .ifnonnull x : (Int → Jvm.ClassFile.Instr))) (cond (Nat.beq n 166) (some (fun x => .if_acmp .ne x : (Int → Jvm.ClassFile.Instr))) (cond (Nat.beq n 158) (some (fun x => .ifCond .le x : (Int → Jvm.ClassFile.Instr))) (cond (Nat.beq n 156) (some (fun x => .ifCond .ge x : (Int → Jvm.ClassFile.Instr))) (cond (Nat.beq n 17) (some (fun x => .sipush x : (Int → Jvm.ClassFile.Instr))) none))))))))))))))))
theorem fk3_ok {n : Nat} {f : (Int → Jvm.ClassFile.Instr)} (h : fk3 n = some f) (p : Nat) : fxB p n = ((Jvm.ClassFile.Reader.s2 >>= fun x => Pure.pure (f x)) : Jvm.ClassFile.Decoder Jvm.ClassFile.Instr) := by
  unfold fk3 at h
  cases q167 : Nat.beq n 167
  case true =>
    rw [q167] at h; have h2 : some (fun x => .goto x : (Int → Jvm.ClassFile.Instr)) = some f := h; cases h2
    have hn := Nat.eq_of_beq_eq_true q167; rw [hn]; exact fx_o167 p
  rw [q167] at h
  cases q153 : Nat.beq n 153
  case true =>
    rw [q153] at h; have h2 : some (fun x => .ifCond .eq x : (Int → Jvm.ClassFile.Instr)) = some f := h; cases h2
    have hn := Nat.eq_of_beq_eq_true q153; rw [hn]; exact fx_o153 p
  rw [q153] at h
  cases q160 : Nat.beq n 160
  case true =>
    rw [q160] at h; have h2 : some (fun x => .if_icmp .ne x : (Int → Jvm.ClassFile.Instr)) = some f := h; cases h2
    have hn := Nat.eq_of_beq_eq_true q160; rw [hn]; exact fx_o160 p
  rw [q160] at h
  cases q154 : Nat.beq n 154
  case true =>
    rw [q154] at h; have h2 : some (fun x => .ifCond .ne x : (Int → Jvm.ClassFile.Instr)) = some f := h; cases h2
    have hn := Nat.eq_of_beq_eq_true q154; rw [hn]; exact fx_o154 p
  rw [q154] at h
  cases q162 : Nat.beq n 162
  case true =>
    rw [q162] at h; have h2 : some (fun x => .if_icmp .ge x : (Int → Jvm.ClassFile.Instr)) = some f := h; cases h2
    have hn := Nat.eq_of_beq_eq_true q162; rw [hn]; exact fx_o162 p
  rw [q162] at h
  cases q159 : Nat.beq n 159
  case true =>
    rw [q159] at h; have h2 : some (fun x => .if_icmp .eq x : (Int → Jvm.ClassFile.Instr)) = some f := h; cases h2
    have hn := Nat.eq_of_beq_eq_true q159; rw [hn]; exact fx_o159 p
  rw [q159] at h
  cases q163 : Nat.beq n 163
  case true =>
    rw [q163] at h; have h2 : some (fun x => .if_icmp .gt x : (Int → Jvm.ClassFile.Instr)) = some f := h; cases h2
    have hn := Nat.eq_of_beq_eq_true q163; rw [hn]; exact fx_o163 p
  rw [q163] at h
  cases q155 : Nat.beq n 155
  case true =>
    rw [q155] at h; have h2 : some (fun x => .ifCond .lt x : (Int → Jvm.ClassFile.Instr)) = some f := h; cases h2
    have hn := Nat.eq_of_beq_eq_true q155; rw [hn]; exact fx_o155 p
  rw [q155] at h
  cases q161 : Nat.beq n 161
  case true =>
    rw [q161] at h; have h2 : some (fun x => .if_icmp .lt x : (Int → Jvm.ClassFile.Instr)) = some f := h; cases h2
    have hn := Nat.eq_of_beq_eq_true q161; rw [hn]; exact fx_o161 p
  rw [q161] at h
  cases q164 : Nat.beq n 164
  case true =>
    rw [q164] at h; have h2 : some (fun x => .if_icmp .le x : (Int → Jvm.ClassFile.Instr)) = some f := h; cases h2
    have hn := Nat.eq_of_beq_eq_true q164; rw [hn]; exact fx_o164 p
  rw [q164] at h
  cases q198 : Nat.beq n 198
  case true =>
    rw [q198] at h; have h2 : some (fun x => .ifnull x : (Int → Jvm.ClassFile.Instr)) = some f := h; cases h2
    have hn := Nat.eq_of_beq_eq_true q198; rw [hn]; exact fx_o198 p
  rw [q198] at h
  cases q199 : Nat.beq n 199
  case true =>
    rw [q199] at h; have h2 : some (fun x => .ifnonnull x : (Int → Jvm.ClassFile.Instr)) = some f := h; cases h2
    have hn := Nat.eq_of_beq_eq_true q199; rw [hn]; exact fx_o199 p
  rw [q199] at h
  cases q166 : Nat.beq n 166
  case true =>
    rw [q166] at h; have h2 : some (fun x => .if_acmp .ne x : (Int → Jvm.ClassFile.Instr)) = some f := h; cases h2
    have hn := Nat.eq_of_beq_eq_true q166; rw [hn]; exact fx_o166 p
  rw [q166] at h
  cases q158 : Nat.beq n 158
  case true =>
    rw [q158] at h; have h2 : some (fun x => .ifCond .le x : (Int → Jvm.ClassFile.Instr)) = some f := h; cases h2
    have hn := Nat.eq_of_beq_eq_true q158; rw [hn]; exact fx_o158 p
  rw [q158] at h
  cases q156 : Nat.beq n 156
  case true =>
    rw [q156] at h; have h2 : some (fun x => .ifCond .ge x : (Int → Jvm.ClassFile.Instr)) = some f := h; cases h2
    have hn := Nat.eq_of_beq_eq_true q156; rw [hn]; exact fx_o156 p
  rw [q156] at h
  cases q17 : Nat.beq n 17
  case true =>
    rw [q17] at h; have h2 : some (fun x => .sipush x : (Int → Jvm.ClassFile.Instr)) = some f := h; cases h2
    have hn := Nat.eq_of_beq_eq_true q17; rw [hn]; exact fx_o17 p
  rw [q17] at h
  have h2 : none = some f := h; cases h2
def fk4 (n : Nat) : Option (Int → Jvm.ClassFile.Instr) := (cond (Nat.beq n 16) (some (fun x => .bipush x : (Int → Jvm.ClassFile.Instr))) none)
theorem fk4_ok {n : Nat} {f : (Int → Jvm.ClassFile.Instr)} (h : fk4 n = some f) (p : Nat) : fxB p n = ((Jvm.ClassFile.Reader.s1 >>= fun x => Pure.pure (f x)) : Jvm.ClassFile.Decoder Jvm.ClassFile.Instr) := by
  unfold fk4 at h
  cases q16 : Nat.beq n 16
  case true =>
    rw [q16] at h; have h2 : some (fun x => .bipush x : (Int → Jvm.ClassFile.Instr)) = some f := h; cases h2
    have hn := Nat.eq_of_beq_eq_true q16; rw [hn]; exact fx_o16 p
  rw [q16] at h
  have h2 : none = some f := h; cases h2
def fd3 (b0 b1 : Nat) (t : List UInt8) : Option (Jvm.ClassFile.Instr × Nat) :=
  match t with
  | [] => none
  | b2 :: _ => (fk2 b0).elim ((fk3 b0).elim none (fun f => some (f (Jvm.ClassFile.Reader.signed 16 (b1 * 256 + b2.toNat)), 3))) (fun f => some (f (b1 * 256 + b2.toNat), 3))
def fd2 (b0 : Nat) (t : List UInt8) : Option (Jvm.ClassFile.Instr × Nat) :=
  match t with
  | [] => none
  | b1 :: t2 => (fk1 b0).elim ((fk4 b0).elim (fd3 b0 b1.toNat t2) (fun f => some (f (Jvm.ClassFile.Reader.signed 8 b1.toNat), 2))) (fun f => some (f b1.toNat, 2))
def fd1 (t : List UInt8) : Option (Jvm.ClassFile.Instr × Nat) :=
  match t with
  | [] => none
  | b0 :: t1 => (fk0 b0.toNat).elim (fd2 b0.toNat t1) (fun I => some (I, 1))
def fdecl (l : List UInt8) (i : Nat) : Option (Jvm.ClassFile.Instr × Nat) := fd1 (l.drop i)
theorem fx_bind {α β : Type} (r : Jvm.ClassFile.Decoder α) (f : α → Jvm.ClassFile.Decoder β) (c : ByteArray) (p : Nat) (a : α) (q : Nat) (h : Jvm.ClassFile.Reader.runAt r c p = .ok (a, q)) : Jvm.ClassFile.Reader.runAt (r >>= f) c p = Jvm.ClassFile.Reader.runAt (f a) c q := by
  have e : Jvm.ClassFile.Reader.runAt (r >>= f) c p = Except.bind (Jvm.ClassFile.Reader.runAt r c p) (fun x => Jvm.ClassFile.Reader.runAt (f x.1) c x.2) := rfl
  rw [e, h]; rfl
theorem fx_u1 {c : ByteArray} {p : Nat} {b : UInt8} (h : c.data.toList[p]? = some b) : Jvm.ClassFile.Reader.runAt (Jvm.ClassFile.Reader.u1 : Jvm.ClassFile.Decoder Nat) c p = .ok (b.toNat, p + 1) := by
  obtain ⟨hl, hv⟩ := List.getElem?_eq_some_iff.mp h
  have hs : p < c.size := hl
  have e : Jvm.ClassFile.Reader.runAt (Jvm.ClassFile.Reader.u1 : Jvm.ClassFile.Decoder Nat) c p = Jvm.ClassFile.Reader.runAt (dite (p < c.size) (fun h => ((set (p + 1) : Jvm.ClassFile.Decoder PUnit) >>= fun _ => Pure.pure (c[p]'h).toNat)) (fun _ => throw (Jvm.ClassFile.HasTruncated.truncated p)) : Jvm.ClassFile.Decoder Nat) c p := rfl
  rw [e, dif_pos hs, ← hv]; rfl
theorem fx_u2 {c : ByteArray} {p : Nat} {b d : UInt8} (h : c.data.toList[p]? = some b) (h1 : c.data.toList[p + 1]? = some d) : Jvm.ClassFile.Reader.runAt (Jvm.ClassFile.Reader.u2 : Jvm.ClassFile.Decoder Nat) c p = .ok (b.toNat * 256 + d.toNat, p + 2) := by
  have e : (Jvm.ClassFile.Reader.u2 : Jvm.ClassFile.Decoder Nat) = ((Jvm.ClassFile.Reader.u1 >>= fun hi => Jvm.ClassFile.Reader.u1 >>= fun lo => Pure.pure (hi * 256 + lo)) : Jvm.ClassFile.Decoder Nat) := rfl
  rw [e, fx_bind _ _ _ _ _ _ (fx_u1 h), fx_bind _ _ _ _ _ _ (fx_u1 h1)]; rfl
theorem fx_s2 {c : ByteArray} {p : Nat} {b d : UInt8} (h : c.data.toList[p]? = some b) (h1 : c.data.toList[p + 1]? = some d) : Jvm.ClassFile.Reader.runAt (Jvm.ClassFile.Reader.s2 : Jvm.ClassFile.Decoder Int) c p = .ok (Jvm.ClassFile.Reader.signed 16 (b.toNat * 256 + d.toNat), p + 2) := by
  have e : Jvm.ClassFile.Reader.runAt (Jvm.ClassFile.Reader.s2 : Jvm.ClassFile.Decoder Int) c p = Except.bind (Jvm.ClassFile.Reader.runAt (Jvm.ClassFile.Reader.u2 : Jvm.ClassFile.Decoder Nat) c p) (fun x => .ok (Jvm.ClassFile.Reader.signed 16 x.1, x.2)) := rfl
  rw [e, fx_u2 h h1]; rfl
theorem fx_s1 {c : ByteArray} {p : Nat} {b : UInt8} (h : c.data.toList[p]? = some b) : Jvm.ClassFile.Reader.runAt (Jvm.ClassFile.Reader.s1 : Jvm.ClassFile.Decoder Int) c p = .ok (Jvm.ClassFile.Reader.signed 8 b.toNat, p + 1) := by
  have e : Jvm.ClassFile.Reader.runAt (Jvm.ClassFile.Reader.s1 : Jvm.ClassFile.Decoder Int) c p = Except.bind (Jvm.ClassFile.Reader.runAt (Jvm.ClassFile.Reader.u1 : Jvm.ClassFile.Decoder Nat) c p) (fun x => .ok (Jvm.ClassFile.Reader.signed 8 x.1, x.2)) := rfl
  rw [e, fx_u1 h]; rfl
theorem fx_dec {c : ByteArray} {p q n : Nat} {I : Jvm.ClassFile.Instr} (h : Jvm.ClassFile.Reader.runAt (Jvm.ClassFile.Decoder.instr p) c p = .ok (I, q)) (hn : q - p = n) : decode c p = .ok (I, n) := by
  rw [← hn]; unfold Jvm.ClassFile.decode; rw [h]; rfl
theorem fx_k0 {c : ByteArray} {p : Nat} {b : UInt8} {I : Jvm.ClassFile.Instr} (h : c.data.toList[p]? = some b) (hb : fxB p b.toNat = (Pure.pure I : Jvm.ClassFile.Decoder (Jvm.ClassFile.Instr))) : decode c p = .ok (I, 1) := by
  refine fx_dec (q := p + 1) ?_ (by omega)
  rw [fx_s.1 p, fx_bind _ _ _ _ _ _ (fx_u1 h), hb]; rfl
theorem fx_k1 {c : ByteArray} {p : Nat} {b b1 : UInt8} {f : Nat → Jvm.ClassFile.Instr} (h : c.data.toList[p]? = some b) (h1 : c.data.toList[p + 1]? = some b1) (hb : fxB p b.toNat = ((Jvm.ClassFile.Reader.u1 >>= fun x => Pure.pure (f x)) : Jvm.ClassFile.Decoder (Jvm.ClassFile.Instr))) : decode c p = .ok (f b1.toNat, 2) := by
  refine fx_dec (q := p + 1 + 1) ?_ (by omega)
  rw [fx_s.1 p, fx_bind _ _ _ _ _ _ (fx_u1 h), hb, fx_bind _ _ _ _ _ _ (fx_u1 h1)]; rfl
theorem fx_k4 {c : ByteArray} {p : Nat} {b b1 : UInt8} {f : Int → Jvm.ClassFile.Instr} (h : c.data.toList[p]? = some b) (h1 : c.data.toList[p + 1]? = some b1) (hb : fxB p b.toNat = ((Jvm.ClassFile.Reader.s1 >>= fun x => Pure.pure (f x)) : Jvm.ClassFile.Decoder (Jvm.ClassFile.Instr))) : decode c p = .ok (f (Jvm.ClassFile.Reader.signed 8 b1.toNat), 2) := by
  refine fx_dec (q := p + 1 + 1) ?_ (by omega)
  rw [fx_s.1 p, fx_bind _ _ _ _ _ _ (fx_u1 h), hb, fx_bind _ _ _ _ _ _ (fx_s1 h1)]; rfl
theorem fx_k2 {c : ByteArray} {p : Nat} {b b1 b2 : UInt8} {f : Nat → Jvm.ClassFile.Instr} (h : c.data.toList[p]? = some b) (h1 : c.data.toList[p + 1]? = some b1) (h2 : c.data.toList[p + 1 + 1]? = some b2) (hb : fxB p b.toNat = ((Jvm.ClassFile.Reader.u2 >>= fun x => Pure.pure (f x)) : Jvm.ClassFile.Decoder (Jvm.ClassFile.Instr))) : decode c p = .ok (f (b1.toNat * 256 + b2.toNat), 3) := by
  refine fx_dec (q := p + 1 + 2) ?_ (by omega)
  rw [fx_s.1 p, fx_bind _ _ _ _ _ _ (fx_u1 h), hb, fx_bind _ _ _ _ _ _ (fx_u2 h1 h2)]; rfl
theorem fx_k3 {c : ByteArray} {p : Nat} {b b1 b2 : UInt8} {f : Int → Jvm.ClassFile.Instr} (h : c.data.toList[p]? = some b) (h1 : c.data.toList[p + 1]? = some b1) (h2 : c.data.toList[p + 1 + 1]? = some b2) (hb : fxB p b.toNat = ((Jvm.ClassFile.Reader.s2 >>= fun x => Pure.pure (f x)) : Jvm.ClassFile.Decoder (Jvm.ClassFile.Instr))) : decode c p = .ok (f (Jvm.ClassFile.Reader.signed 16 (b1.toNat * 256 + b2.toNat)), 3) := by
  refine fx_dec (q := p + 1 + 2) ?_ (by omega)
  rw [fx_s.1 p, fx_bind _ _ _ _ _ _ (fx_u1 h), hb, fx_bind _ _ _ _ _ _ (fx_s2 h1 h2)]; rfl
theorem fx_ok {c : ByteArray} {d i : Nat} {T : List UInt8} {r : Jvm.ClassFile.Instr × Nat} (h : c.data.toList.drop d = T) (e : fdecl T i = some r) : decode c (d + i) = .ok r := by
  have G : ∀ (t : List UInt8) (j : Nat), T.drop i = t → c.data.toList[d + i + j]? = t[j]? := by
    intro t j hT
    rw [← hT, ← h, List.drop_drop, List.getElem?_drop]
  unfold fdecl at e
  cases hT : T.drop i with
  | nil => rw [hT] at e; have e2 : (none : Option (Jvm.ClassFile.Instr × Nat)) = some r := e; cases e2
  | cons b0 t1 =>
    rw [hT] at e
    have g0 : c.data.toList[d + i]? = some b0 := G _ 0 hT
    replace e : (fk0 b0.toNat).elim (fd2 b0.toNat t1) (fun I => some (I, 1)) = some r := e
    cases h0 : fk0 b0.toNat with
    | some I => rw [h0] at e; have e2 : some (I, 1) = some r := e; cases e2; exact fx_k0 g0 (fk0_ok h0 _)
    | none =>
      rw [h0] at e
      replace e : fd2 b0.toNat t1 = some r := e
      cases t1 with
      | nil => have e2 : (none : Option (Jvm.ClassFile.Instr × Nat)) = some r := e; cases e2
      | cons b1 t2 =>
        have g1 : c.data.toList[d + i + 1]? = some b1 := G _ 1 hT
        replace e : (fk1 b0.toNat).elim ((fk4 b0.toNat).elim (fd3 b0.toNat b1.toNat t2) (fun f => some (f (Jvm.ClassFile.Reader.signed 8 b1.toNat), 2))) (fun f => some (f b1.toNat, 2)) = some r := e
        cases h1 : fk1 b0.toNat with
        | some f => rw [h1] at e; have e2 : some (f b1.toNat, 2) = some r := e; cases e2; exact fx_k1 g0 g1 (fk1_ok h1 _)
        | none =>
          rw [h1] at e
          replace e : (fk4 b0.toNat).elim (fd3 b0.toNat b1.toNat t2) (fun f => some (f (Jvm.ClassFile.Reader.signed 8 b1.toNat), 2)) = some r := e
          cases h4 : fk4 b0.toNat with
          | some f => rw [h4] at e; have e2 : some (f (Jvm.ClassFile.Reader.signed 8 b1.toNat), 2) = some r := e; cases e2; exact fx_k4 g0 g1 (fk4_ok h4 _)
          | none =>
            rw [h4] at e
            replace e : fd3 b0.toNat b1.toNat t2 = some r := e
            cases t2 with
            | nil => have e2 : (none : Option (Jvm.ClassFile.Instr × Nat)) = some r := e; cases e2
            | cons b2 t3 =>
              have g2 : c.data.toList[d + i + 1 + 1]? = some b2 := G _ 2 hT
              replace e : (fk2 b0.toNat).elim ((fk3 b0.toNat).elim none (fun f => some (f (Jvm.ClassFile.Reader.signed 16 (b1.toNat * 256 + b2.toNat)), 3))) (fun f => some (f (b1.toNat * 256 + b2.toNat), 3)) = some r := e
              cases h2 : fk2 b0.toNat with
              | some f => rw [h2] at e; have e2 : some (f (b1.toNat * 256 + b2.toNat), 3) = some r := e; cases e2; exact fx_k2 g0 g1 g2 (fk2_ok h2 _)
              | none =>
                rw [h2] at e
                replace e : (fk3 b0.toNat).elim none (fun f => some (f (Jvm.ClassFile.Reader.signed 16 (b1.toNat * 256 + b2.toNat)), 3)) = some r := e
                cases h3 : fk3 b0.toNat with
                | some f => rw [h3] at e; have e2 : some (f (Jvm.ClassFile.Reader.signed 16 (b1.toNat * 256 + b2.toNat)), 3) = some r := e; cases e2; exact fx_k3 g0 g1 g2 (fk3_ok h3 _)
                | none => rw [h3] at e; have e2 : (none : Option (Jvm.ClassFile.Instr × Nat)) = some r := e; cases e2
theorem fx_ok0 {c : ByteArray} {i : Nat} {r : Jvm.ClassFile.Instr × Nat} (e : fdecl c.data.toList i = some r) : decode c i = .ok r := by
  have h : c.data.toList.drop 0 = c.data.toList := rfl
  have h2 := fx_ok h e
  rw [Nat.zero_add] at h2
  exact h2
theorem fx_nx {l a t : List UInt8} {d n : Nat} (h : l.drop d = a ++ t) (ha : a.length = n) : l.drop (d + n) = t := by
  rw [← List.drop_drop, h, ← ha, List.drop_left]
