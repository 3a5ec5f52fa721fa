/-! DECODING BY A WALK OVER THE BYTES -/
theorem zu1 {code : ByteArray} {p : Nat} {b : UInt8} (h : code.data[p]? = some b) : (Reader.u1 : Decoder Nat).runAt code p = .ok (b.toNat, p + 1) := by
  obtain ⟨h1, h2⟩ := Array.getElem?_eq_some_iff.mp h
  have h3 : p < code.size := h1
  have h4 : code[p]'h3 = b := h2
  have h5 : (Reader.u1 : Decoder Nat) code p = (if h : p < code.size then ((set (p + 1) >>= fun _ => Pure.pure (code[p]'h).toNat : Decoder Nat)) else (throw (HasTruncated.truncated p) : Decoder Nat)) code p := rfl
  show (Reader.u1 : Decoder Nat) code p = _
  rw [h5, dif_pos h3, h4]
  rfl
theorem zbind {α β : Type} {code : ByteArray} {p q : Nat} {r : Decoder α} {k : α → Decoder β} {a : α} (h : r.runAt code p = .ok (a, q)) : (r >>= k).runAt code p = (k a).runAt code q := by
  have e : r code p = .ok (a, q) := h
  show Except.bind (r code p) (fun x => k x.1 code x.2) = _
  rw [e]
  rfl
theorem zmap {α β : Type} {code : ByteArray} {p q : Nat} {r : Decoder α} {g : α → β} {a : α} (h : r.runAt code p = .ok (a, q)) : (g <$> r).runAt code p = .ok (g a, q) := by
  have e : r code p = .ok (a, q) := h
  show Except.bind (r code p) (fun x => Except.ok (g x.1, x.2)) = _
  rw [e]
  rfl
theorem zu2 {code : ByteArray} {p : Nat} {a b : UInt8} (h : code.data[p]? = some a) (h2 : code.data[p + 1]? = some b) : (Reader.u2 : Decoder Nat).runAt code p = .ok (a.toNat * 256 + b.toNat, p + 2) :=
  (zbind (zu1 h)).trans (zbind (zu1 h2))
theorem zs1 {code : ByteArray} {p : Nat} {a : UInt8} (h : code.data[p]? = some a) : (Reader.s1 : Decoder Int).runAt code p = .ok (Reader.signed 8 a.toNat, p + 1) := zmap (zu1 h)
theorem zs2 {code : ByteArray} {p : Nat} {a b : UInt8} (h : code.data[p]? = some a) (h2 : code.data[p + 1]? = some b) : (Reader.s2 : Decoder Int).runAt code p = .ok (Reader.signed 16 (a.toNat * 256 + b.toNat), p + 2) := zmap (zu2 h h2)
theorem zdec {code : ByteArray} {p q : Nat} {ins : Instr} (h : (Decoder.instr p).runAt code p = .ok (ins, q)) : decode code p = .ok (ins, q - p) := by
  show Except.bind ((Decoder.instr p).runAt code p) (fun x => Except.ok (x.1, x.2 - p)) = _
  rw [h]
  rfl
/-- the instruction at three bytes -/
def zdb (b0 b1 b2 : Nat) : Option (Instr × Nat) :=
  match b0 with
  | 2 => some (.iconst (-1), 1)
  | 3 => some (.iconst 0, 1)
  | 4 => some (.iconst 1, 1)
  | 5 => some (.iconst 2, 1)
  | 6 => some (.iconst 3, 1)
  | 7 => some (.iconst 4, 1)
  | 8 => some (.iconst 5, 1)
  | 9 => some (.lconst 0, 1)
  | 10 => some (.lconst 1, 1)
  | 16 => some (.bipush (Reader.signed 8 b1), 2)
  | 17 => some (.sipush (Reader.signed 16 (b1 * 256 + b2)), 3)
  | 18 => some (.ldc b1, 2)
  | 19 => some (.ldc_w (b1 * 256 + b2), 3)
  | 20 => some (.ldc2_w (b1 * 256 + b2), 3)
  | 21 => some (.iload b1, 2)
  | 22 => some (.lload b1, 2)
  | 25 => some (.aload b1, 2)
  | 26 => some (.iload_n 0, 1)
  | 27 => some (.iload_n 1, 1)
  | 28 => some (.iload_n 2, 1)
  | 29 => some (.iload_n 3, 1)
  | 30 => some (.lload_n 0, 1)
  | 31 => some (.lload_n 1, 1)
  | 32 => some (.lload_n 2, 1)
  | 33 => some (.lload_n 3, 1)
  | 42 => some (.aload_n 0, 1)
  | 43 => some (.aload_n 1, 1)
  | 44 => some (.aload_n 2, 1)
  | 45 => some (.aload_n 3, 1)
  | 46 => some (.iaload, 1)
  | 47 => some (.laload, 1)
  | 51 => some (.baload, 1)
  | 54 => some (.istore b1, 2)
  | 55 => some (.lstore b1, 2)
  | 58 => some (.astore b1, 2)
  | 59 => some (.istore_n 0, 1)
  | 60 => some (.istore_n 1, 1)
  | 61 => some (.istore_n 2, 1)
  | 62 => some (.istore_n 3, 1)
  | 63 => some (.lstore_n 0, 1)
  | 64 => some (.lstore_n 1, 1)
  | 65 => some (.lstore_n 2, 1)
  | 66 => some (.lstore_n 3, 1)
  | 75 => some (.astore_n 0, 1)
  | 76 => some (.astore_n 1, 1)
  | 77 => some (.astore_n 2, 1)
  | 78 => some (.astore_n 3, 1)
  | 79 => some (.iastore, 1)
  | 80 => some (.lastore, 1)
  | 84 => some (.bastore, 1)
  | 87 => some (.pop, 1)
  | 88 => some (.pop2, 1)
  | 89 => some (.dup, 1)
  | 92 => some (.dup2, 1)
  | 96 => some (.iadd, 1)
  | 97 => some (.ladd, 1)
  | 100 => some (.isub, 1)
  | 101 => some (.lsub, 1)
  | 104 => some (.imul, 1)
  | 105 => some (.lmul, 1)
  | 108 => some (.idiv, 1)
  | 109 => some (.ldiv, 1)
  | 112 => some (.irem, 1)
  | 113 => some (.lrem, 1)
  | 116 => some (.ineg, 1)
  | 117 => some (.lneg, 1)
  | 120 => some (.ishl, 1)
  | 121 => some (.lshl, 1)
  | 122 => some (.ishr, 1)
  | 123 => some (.lshr, 1)
  | 124 => some (.iushr, 1)
  | 126 => some (.iand, 1)
  | 127 => some (.land, 1)
  | 128 => some (.ior, 1)
  | 130 => some (.ixor, 1)
  | 132 => some (.iinc b1 (Reader.signed 8 b2), 3)
  | 133 => some (.i2l, 1)
  | 136 => some (.l2i, 1)
  | 145 => some (.i2b, 1)
  | 146 => some (.i2c, 1)
  | 148 => some (.lcmp, 1)
  | 153 => some (.ifCond .eq (Reader.signed 16 (b1 * 256 + b2)), 3)
  | 154 => some (.ifCond .ne (Reader.signed 16 (b1 * 256 + b2)), 3)
  | 155 => some (.ifCond .lt (Reader.signed 16 (b1 * 256 + b2)), 3)
  | 156 => some (.ifCond .ge (Reader.signed 16 (b1 * 256 + b2)), 3)
  | 157 => some (.ifCond .gt (Reader.signed 16 (b1 * 256 + b2)), 3)
  | 158 => some (.ifCond .le (Reader.signed 16 (b1 * 256 + b2)), 3)
  | 159 => some (.if_icmp .eq (Reader.signed 16 (b1 * 256 + b2)), 3)
  | 160 => some (.if_icmp .ne (Reader.signed 16 (b1 * 256 + b2)), 3)
  | 161 => some (.if_icmp .lt (Reader.signed 16 (b1 * 256 + b2)), 3)
  | 162 => some (.if_icmp .ge (Reader.signed 16 (b1 * 256 + b2)), 3)
  | 163 => some (.if_icmp .gt (Reader.signed 16 (b1 * 256 + b2)), 3)
  | 164 => some (.if_icmp .le (Reader.signed 16 (b1 * 256 + b2)), 3)
  | 165 => some (.if_acmp .eq (Reader.signed 16 (b1 * 256 + b2)), 3)
  | 166 => some (.if_acmp .ne (Reader.signed 16 (b1 * 256 + b2)), 3)
  | 167 => some (.goto (Reader.signed 16 (b1 * 256 + b2)), 3)
  | 172 => some (.ireturn, 1)
  | 173 => some (.lreturn, 1)
  | 176 => some (.areturn, 1)
  | 177 => some (.return_, 1)
  | 178 => some (.getstatic (b1 * 256 + b2), 3)
  | 180 => some (.getfield (b1 * 256 + b2), 3)
  | 181 => some (.putfield (b1 * 256 + b2), 3)
  | 182 => some (.invokevirtual (b1 * 256 + b2), 3)
  | 183 => some (.invokespecial (b1 * 256 + b2), 3)
  | 184 => some (.invokestatic (b1 * 256 + b2), 3)
  | 187 => some (.new (b1 * 256 + b2), 3)
  | 190 => some (.arraylength, 1)
  | 188 => match b1 with
    | 4 => some (.newarray .boolean, 2)
    | 10 => some (.newarray .int, 2)
    | 11 => some (.newarray .long, 2)
    | _ => none
  | _ => none
set_option maxHeartbeats 8000000 in
theorem zdb_ok {code : ByteArray} {p : Nat} {c0 c1 c2 : UInt8} {r : Instr × Nat} (h0 : code.data[p]? = some c0) (h1 : (∃ r, zdb c0.toNat c1.toNat c2.toNat = some r ∧ 2 ≤ r.2) → code.data[p + 1]? = some c1) (h2 : (∃ r, zdb c0.toNat c1.toNat c2.toNat = some r ∧ 3 ≤ r.2) → code.data[p + 2]? = some c2) (h : zdb c0.toNat c1.toNat c2.toNat = some r) : decode code p = .ok r := by
  have e0 := zu1 h0
  have g1 : 2 ≤ r.2 → code.data[p + 1]? = some c1 := fun q => h1 ⟨r, h, q⟩
  have g2 : 3 ≤ r.2 → code.data[p + 2]? = some c2 := fun q => h2 ⟨r, h, q⟩
  clear h1 h2
  have fin : ∀ {ins : Instr} {len : Nat}, (Decoder.instr p).runAt code p = .ok (ins, p + len) → decode code p = .ok (ins, len) := fun q => by
    have := zdec q
    rwa [Nat.add_sub_cancel_left] at this
  unfold zdb at h
  split at h
  all_goals try (rename_i hb; rw [hb] at e0)
  · cases h; exact fin ((zbind e0).trans rfl)
  · cases h; exact fin ((zbind e0).trans rfl)
  · cases h; exact fin ((zbind e0).trans rfl)
  · cases h; exact fin ((zbind e0).trans rfl)
  · cases h; exact fin ((zbind e0).trans rfl)
  · cases h; exact fin ((zbind e0).trans rfl)
  · cases h; exact fin ((zbind e0).trans rfl)
  · cases h; exact fin ((zbind e0).trans rfl)
  · cases h; exact fin ((zbind e0).trans rfl)
  · cases h; exact fin ((zbind e0).trans ((zbind (zs1 (g1 (Nat.le_refl _)))).trans rfl))
  · cases h; exact fin ((zbind e0).trans ((zbind (zs2 (g1 (show 2 ≤ 3 by decide)) (g2 (Nat.le_refl _)))).trans rfl))
  · cases h; exact fin ((zbind e0).trans ((zbind (zu1 (g1 (Nat.le_refl _)))).trans rfl))
  · cases h; exact fin ((zbind e0).trans ((zbind (zu2 (g1 (show 2 ≤ 3 by decide)) (g2 (Nat.le_refl _)))).trans rfl))
  · cases h; exact fin ((zbind e0).trans ((zbind (zu2 (g1 (show 2 ≤ 3 by decide)) (g2 (Nat.le_refl _)))).trans rfl))
  · cases h; exact fin ((zbind e0).trans ((zbind (zu1 (g1 (Nat.le_refl _)))).trans rfl))
  · cases h; exact fin ((zbind e0).trans ((zbind (zu1 (g1 (Nat.le_refl _)))).trans rfl))
  · cases h; exact fin ((zbind e0).trans ((zbind (zu1 (g1 (Nat.le_refl _)))).trans rfl))
  · cases h; exact fin ((zbind e0).trans rfl)
  · cases h; exact fin ((zbind e0).trans rfl)
  · cases h; exact fin ((zbind e0).trans rfl)
  · cases h; exact fin ((zbind e0).trans rfl)
  · cases h; exact fin ((zbind e0).trans rfl)
  · cases h; exact fin ((zbind e0).trans rfl)
  · cases h; exact fin ((zbind e0).trans rfl)
  · cases h; exact fin ((zbind e0).trans rfl)
  · cases h; exact fin ((zbind e0).trans rfl)
  · cases h; exact fin ((zbind e0).trans rfl)
  · cases h; exact fin ((zbind e0).trans rfl)
  · cases h; exact fin ((zbind e0).trans rfl)
  · cases h; exact fin ((zbind e0).trans rfl)
  · cases h; exact fin ((zbind e0).trans rfl)
  · cases h; exact fin ((zbind e0).trans rfl)
  · cases h; exact fin ((zbind e0).trans ((zbind (zu1 (g1 (Nat.le_refl _)))).trans rfl))
  · cases h; exact fin ((zbind e0).trans ((zbind (zu1 (g1 (Nat.le_refl _)))).trans rfl))
  · cases h; exact fin ((zbind e0).trans ((zbind (zu1 (g1 (Nat.le_refl _)))).trans rfl))
  · cases h; exact fin ((zbind e0).trans rfl)
  · cases h; exact fin ((zbind e0).trans rfl)
  · cases h; exact fin ((zbind e0).trans rfl)
  · cases h; exact fin ((zbind e0).trans rfl)
  · cases h; exact fin ((zbind e0).trans rfl)
  · cases h; exact fin ((zbind e0).trans rfl)
  · cases h; exact fin ((zbind e0).trans rfl)
  · cases h; exact fin ((zbind e0).trans rfl)
  · cases h; exact fin ((zbind e0).trans rfl)
  · cases h; exact fin ((zbind e0).trans rfl)
  · cases h; exact fin ((zbind e0).trans rfl)
  · cases h; exact fin ((zbind e0).trans rfl)
  · cases h; exact fin ((zbind e0).trans rfl)
  · cases h; exact fin ((zbind e0).trans rfl)
  · cases h; exact fin ((zbind e0).trans rfl)
  · cases h; exact fin ((zbind e0).trans rfl)
  · cases h; exact fin ((zbind e0).trans rfl)
  · cases h; exact fin ((zbind e0).trans rfl)
  · cases h; exact fin ((zbind e0).trans rfl)
  · cases h; exact fin ((zbind e0).trans rfl)
  · cases h; exact fin ((zbind e0).trans rfl)
  · cases h; exact fin ((zbind e0).trans rfl)
  · cases h; exact fin ((zbind e0).trans rfl)
  · cases h; exact fin ((zbind e0).trans rfl)
  · cases h; exact fin ((zbind e0).trans rfl)
  · cases h; exact fin ((zbind e0).trans rfl)
  · cases h; exact fin ((zbind e0).trans rfl)
  · cases h; exact fin ((zbind e0).trans rfl)
  · cases h; exact fin ((zbind e0).trans rfl)
  · cases h; exact fin ((zbind e0).trans rfl)
  · cases h; exact fin ((zbind e0).trans rfl)
  · cases h; exact fin ((zbind e0).trans rfl)
  · cases h; exact fin ((zbind e0).trans rfl)
  · cases h; exact fin ((zbind e0).trans rfl)
  · cases h; exact fin ((zbind e0).trans rfl)
  · cases h; exact fin ((zbind e0).trans rfl)
  · cases h; exact fin ((zbind e0).trans rfl)
  · cases h; exact fin ((zbind e0).trans rfl)
  · cases h; exact fin ((zbind e0).trans rfl)
  · cases h; exact fin ((zbind e0).trans rfl)
  · cases h; exact fin ((zbind e0).trans ((zbind (zu1 (g1 (show 2 ≤ 3 by decide)))).trans ((zbind (zs1 (g2 (Nat.le_refl _)))).trans rfl)))
  · cases h; exact fin ((zbind e0).trans rfl)
  · cases h; exact fin ((zbind e0).trans rfl)
  · cases h; exact fin ((zbind e0).trans rfl)
  · cases h; exact fin ((zbind e0).trans rfl)
  · cases h; exact fin ((zbind e0).trans rfl)
  · cases h; exact fin ((zbind e0).trans ((zbind (zs2 (g1 (show 2 ≤ 3 by decide)) (g2 (Nat.le_refl _)))).trans rfl))
  · cases h; exact fin ((zbind e0).trans ((zbind (zs2 (g1 (show 2 ≤ 3 by decide)) (g2 (Nat.le_refl _)))).trans rfl))
  · cases h; exact fin ((zbind e0).trans ((zbind (zs2 (g1 (show 2 ≤ 3 by decide)) (g2 (Nat.le_refl _)))).trans rfl))
  · cases h; exact fin ((zbind e0).trans ((zbind (zs2 (g1 (show 2 ≤ 3 by decide)) (g2 (Nat.le_refl _)))).trans rfl))
  · cases h; exact fin ((zbind e0).trans ((zbind (zs2 (g1 (show 2 ≤ 3 by decide)) (g2 (Nat.le_refl _)))).trans rfl))
  · cases h; exact fin ((zbind e0).trans ((zbind (zs2 (g1 (show 2 ≤ 3 by decide)) (g2 (Nat.le_refl _)))).trans rfl))
  · cases h; exact fin ((zbind e0).trans ((zbind (zs2 (g1 (show 2 ≤ 3 by decide)) (g2 (Nat.le_refl _)))).trans rfl))
  · cases h; exact fin ((zbind e0).trans ((zbind (zs2 (g1 (show 2 ≤ 3 by decide)) (g2 (Nat.le_refl _)))).trans rfl))
  · cases h; exact fin ((zbind e0).trans ((zbind (zs2 (g1 (show 2 ≤ 3 by decide)) (g2 (Nat.le_refl _)))).trans rfl))
  · cases h; exact fin ((zbind e0).trans ((zbind (zs2 (g1 (show 2 ≤ 3 by decide)) (g2 (Nat.le_refl _)))).trans rfl))
  · cases h; exact fin ((zbind e0).trans ((zbind (zs2 (g1 (show 2 ≤ 3 by decide)) (g2 (Nat.le_refl _)))).trans rfl))
  · cases h; exact fin ((zbind e0).trans ((zbind (zs2 (g1 (show 2 ≤ 3 by decide)) (g2 (Nat.le_refl _)))).trans rfl))
  · cases h; exact fin ((zbind e0).trans ((zbind (zs2 (g1 (show 2 ≤ 3 by decide)) (g2 (Nat.le_refl _)))).trans rfl))
  · cases h; exact fin ((zbind e0).trans ((zbind (zs2 (g1 (show 2 ≤ 3 by decide)) (g2 (Nat.le_refl _)))).trans rfl))
  · cases h; exact fin ((zbind e0).trans ((zbind (zs2 (g1 (show 2 ≤ 3 by decide)) (g2 (Nat.le_refl _)))).trans rfl))
  · cases h; exact fin ((zbind e0).trans rfl)
  · cases h; exact fin ((zbind e0).trans rfl)
  · cases h; exact fin ((zbind e0).trans rfl)
  · cases h; exact fin ((zbind e0).trans rfl)
  · cases h; exact fin ((zbind e0).trans ((zbind (zu2 (g1 (show 2 ≤ 3 by decide)) (g2 (Nat.le_refl _)))).trans rfl))
  · cases h; exact fin ((zbind e0).trans ((zbind (zu2 (g1 (show 2 ≤ 3 by decide)) (g2 (Nat.le_refl _)))).trans rfl))
  · cases h; exact fin ((zbind e0).trans ((zbind (zu2 (g1 (show 2 ≤ 3 by decide)) (g2 (Nat.le_refl _)))).trans rfl))
  · cases h; exact fin ((zbind e0).trans ((zbind (zu2 (g1 (show 2 ≤ 3 by decide)) (g2 (Nat.le_refl _)))).trans rfl))
  · cases h; exact fin ((zbind e0).trans ((zbind (zu2 (g1 (show 2 ≤ 3 by decide)) (g2 (Nat.le_refl _)))).trans rfl))
  · cases h; exact fin ((zbind e0).trans ((zbind (zu2 (g1 (show 2 ≤ 3 by decide)) (g2 (Nat.le_refl _)))).trans rfl))
  · cases h; exact fin ((zbind e0).trans ((zbind (zu2 (g1 (show 2 ≤ 3 by decide)) (g2 (Nat.le_refl _)))).trans rfl))
  · cases h; exact fin ((zbind e0).trans rfl)
  · split at h
    · rename_i h9
      cases h
      have e1 := zu1 (g1 (Nat.le_refl _))
      rw [h9] at e1
      exact fin ((zbind e0).trans ((zbind e1).trans rfl))
    · rename_i h9
      cases h
      have e1 := zu1 (g1 (Nat.le_refl _))
      rw [h9] at e1
      exact fin ((zbind e0).trans ((zbind e1).trans rfl))
    · rename_i h9
      cases h
      have e1 := zu1 (g1 (Nat.le_refl _))
      rw [h9] at e1
      exact fin ((zbind e0).trans ((zbind e1).trans rfl))
    · cases h
  · cases h
def zqb (b : Nat) (c : Jvm.ClassFile.Cond) : Nat :=
  match c with
  | .eq => b
  | .ne => b + 1
  | .lt => b + 2
  | .ge => b + 3
  | .gt => b + 4
  | .le => b + 5
def zqa (a : Jvm.ClassFile.ArrayType) : Nat :=
  match a with
  | .boolean => 4
  | .int => 10
  | .long => 11
  | _ => 300
def zdq (c0 c1 c2 : Nat) (i : Instr) (n : Nat) : Bool :=
  match i with
  | .bipush k => Nat.beq n 2 && (Nat.beq c0 16 && decide (Reader.signed 8 c1 = k))
  | .sipush k => Nat.beq n 3 && (Nat.beq c0 17 && decide (Reader.signed 16 (c1 * 256 + c2) = k))
  | .ldc k => Nat.beq n 2 && (Nat.beq c0 18 && Nat.beq c1 k)
  | .ldc_w k => Nat.beq n 3 && (Nat.beq c0 19 && Nat.beq (c1 * 256 + c2) k)
  | .ldc2_w k => Nat.beq n 3 && (Nat.beq c0 20 && Nat.beq (c1 * 256 + c2) k)
  | .iload k => Nat.beq n 2 && (Nat.beq c0 21 && Nat.beq c1 k)
  | .lload k => Nat.beq n 2 && (Nat.beq c0 22 && Nat.beq c1 k)
  | .aload k => Nat.beq n 2 && (Nat.beq c0 25 && Nat.beq c1 k)
  | .iaload => Nat.beq n 1 && Nat.beq c0 46
  | .laload => Nat.beq n 1 && Nat.beq c0 47
  | .baload => Nat.beq n 1 && Nat.beq c0 51
  | .istore k => Nat.beq n 2 && (Nat.beq c0 54 && Nat.beq c1 k)
  | .lstore k => Nat.beq n 2 && (Nat.beq c0 55 && Nat.beq c1 k)
  | .astore k => Nat.beq n 2 && (Nat.beq c0 58 && Nat.beq c1 k)
  | .iastore => Nat.beq n 1 && Nat.beq c0 79
  | .lastore => Nat.beq n 1 && Nat.beq c0 80
  | .bastore => Nat.beq n 1 && Nat.beq c0 84
  | .pop => Nat.beq n 1 && Nat.beq c0 87
  | .pop2 => Nat.beq n 1 && Nat.beq c0 88
  | .dup => Nat.beq n 1 && Nat.beq c0 89
  | .dup2 => Nat.beq n 1 && Nat.beq c0 92
  | .iadd => Nat.beq n 1 && Nat.beq c0 96
  | .ladd => Nat.beq n 1 && Nat.beq c0 97
  | .isub => Nat.beq n 1 && Nat.beq c0 100
  | .lsub => Nat.beq n 1 && Nat.beq c0 101
  | .imul => Nat.beq n 1 && Nat.beq c0 104
  | .lmul => Nat.beq n 1 && Nat.beq c0 105
  | .idiv => Nat.beq n 1 && Nat.beq c0 108
  | .ldiv => Nat.beq n 1 && Nat.beq c0 109
  | .irem => Nat.beq n 1 && Nat.beq c0 112
  | .lrem => Nat.beq n 1 && Nat.beq c0 113
  | .ineg => Nat.beq n 1 && Nat.beq c0 116
  | .lneg => Nat.beq n 1 && Nat.beq c0 117
  | .ishl => Nat.beq n 1 && Nat.beq c0 120
  | .lshl => Nat.beq n 1 && Nat.beq c0 121
  | .ishr => Nat.beq n 1 && Nat.beq c0 122
  | .lshr => Nat.beq n 1 && Nat.beq c0 123
  | .iushr => Nat.beq n 1 && Nat.beq c0 124
  | .iand => Nat.beq n 1 && Nat.beq c0 126
  | .land => Nat.beq n 1 && Nat.beq c0 127
  | .ior => Nat.beq n 1 && Nat.beq c0 128
  | .ixor => Nat.beq n 1 && Nat.beq c0 130
  | .iinc i k => Nat.beq n 3 && (Nat.beq c0 132 && (Nat.beq c1 i && decide (Reader.signed 8 c2 = k)))
  | .i2l => Nat.beq n 1 && Nat.beq c0 133
  | .l2i => Nat.beq n 1 && Nat.beq c0 136
  | .i2b => Nat.beq n 1 && Nat.beq c0 145
  | .i2c => Nat.beq n 1 && Nat.beq c0 146
  | .lcmp => Nat.beq n 1 && Nat.beq c0 148
  | .goto k => Nat.beq n 3 && (Nat.beq c0 167 && decide (Reader.signed 16 (c1 * 256 + c2) = k))
  | .ireturn => Nat.beq n 1 && Nat.beq c0 172
  | .lreturn => Nat.beq n 1 && Nat.beq c0 173
  | .areturn => Nat.beq n 1 && Nat.beq c0 176
  | .return_ => Nat.beq n 1 && Nat.beq c0 177
  | .getstatic k => Nat.beq n 3 && (Nat.beq c0 178 && Nat.beq (c1 * 256 + c2) k)
  | .getfield k => Nat.beq n 3 && (Nat.beq c0 180 && Nat.beq (c1 * 256 + c2) k)
  | .putfield k => Nat.beq n 3 && (Nat.beq c0 181 && Nat.beq (c1 * 256 + c2) k)
  | .invokevirtual k => Nat.beq n 3 && (Nat.beq c0 182 && Nat.beq (c1 * 256 + c2) k)
  | .invokespecial k => Nat.beq n 3 && (Nat.beq c0 183 && Nat.beq (c1 * 256 + c2) k)
  | .invokestatic k => Nat.beq n 3 && (Nat.beq c0 184 && Nat.beq (c1 * 256 + c2) k)
  | .new k => Nat.beq n 3 && (Nat.beq c0 187 && Nat.beq (c1 * 256 + c2) k)
  | .arraylength => Nat.beq n 1 && Nat.beq c0 190
  | .iconst k => Nat.beq n 1 && (Nat.ble 2 c0 && (Nat.ble c0 8 && decide ((c0 : Int) = k + 3)))
  | .lconst k => Nat.beq n 1 && Nat.beq c0 (9 + k.val)
  | .iload_n k => Nat.beq n 1 && Nat.beq c0 (26 + k.val)
  | .lload_n k => Nat.beq n 1 && Nat.beq c0 (30 + k.val)
  | .aload_n k => Nat.beq n 1 && Nat.beq c0 (42 + k.val)
  | .istore_n k => Nat.beq n 1 && Nat.beq c0 (59 + k.val)
  | .lstore_n k => Nat.beq n 1 && Nat.beq c0 (63 + k.val)
  | .astore_n k => Nat.beq n 1 && Nat.beq c0 (75 + k.val)
  | .ifCond c k => Nat.beq n 3 && (Nat.beq c0 (zqb 153 c) && decide (Reader.signed 16 (c1 * 256 + c2) = k))
  | .if_icmp c k => Nat.beq n 3 && (Nat.beq c0 (zqb 159 c) && decide (Reader.signed 16 (c1 * 256 + c2) = k))
  | .newarray a => Nat.beq n 2 && (Nat.beq c0 188 && Nat.beq c1 (zqa a) && Nat.blt c1 256)
  | _ => false
set_option maxHeartbeats 4000000 in
theorem zdq_ok {c0 c1 c2 : Nat} {i : Instr} {n : Nat} (h : zdq c0 c1 c2 i n = true) : zdb c0 c1 c2 = some (i, n) := by
  cases i with
  | bipush k =>
    replace h : (Nat.beq n 2 && (Nat.beq c0 16 && decide (Reader.signed 8 c1 = k))) = true := h
    simp only [Bool.and_eq_true, decide_eq_true_eq, Nat.beq_eq, Nat.ble_eq, Nat.blt_eq] at h
    obtain ⟨rfl, rfl, rfl⟩ := h; rfl
  | sipush k =>
    replace h : (Nat.beq n 3 && (Nat.beq c0 17 && decide (Reader.signed 16 (c1 * 256 + c2) = k))) = true := h
    simp only [Bool.and_eq_true, decide_eq_true_eq, Nat.beq_eq, Nat.ble_eq, Nat.blt_eq] at h
    obtain ⟨rfl, rfl, rfl⟩ := h; rfl
  | ldc k =>
    replace h : (Nat.beq n 2 && (Nat.beq c0 18 && Nat.beq c1 k)) = true := h
    simp only [Bool.and_eq_true, decide_eq_true_eq, Nat.beq_eq, Nat.ble_eq, Nat.blt_eq] at h
    obtain ⟨rfl, rfl, rfl⟩ := h; rfl
  | ldc_w k =>
    replace h : (Nat.beq n 3 && (Nat.beq c0 19 && Nat.beq (c1 * 256 + c2) k)) = true := h
    simp only [Bool.and_eq_true, decide_eq_true_eq, Nat.beq_eq, Nat.ble_eq, Nat.blt_eq] at h
    obtain ⟨rfl, rfl, rfl⟩ := h; rfl
  | ldc2_w k =>
    replace h : (Nat.beq n 3 && (Nat.beq c0 20 && Nat.beq (c1 * 256 + c2) k)) = true := h
    simp only [Bool.and_eq_true, decide_eq_true_eq, Nat.beq_eq, Nat.ble_eq, Nat.blt_eq] at h
    obtain ⟨rfl, rfl, rfl⟩ := h; rfl
  | iload k =>
    replace h : (Nat.beq n 2 && (Nat.beq c0 21 && Nat.beq c1 k)) = true := h
    simp only [Bool.and_eq_true, decide_eq_true_eq, Nat.beq_eq, Nat.ble_eq, Nat.blt_eq] at h
    obtain ⟨rfl, rfl, rfl⟩ := h; rfl
  | lload k =>
    replace h : (Nat.beq n 2 && (Nat.beq c0 22 && Nat.beq c1 k)) = true := h
    simp only [Bool.and_eq_true, decide_eq_true_eq, Nat.beq_eq, Nat.ble_eq, Nat.blt_eq] at h
    obtain ⟨rfl, rfl, rfl⟩ := h; rfl
  | aload k =>
    replace h : (Nat.beq n 2 && (Nat.beq c0 25 && Nat.beq c1 k)) = true := h
    simp only [Bool.and_eq_true, decide_eq_true_eq, Nat.beq_eq, Nat.ble_eq, Nat.blt_eq] at h
    obtain ⟨rfl, rfl, rfl⟩ := h; rfl
  | iaload  =>
    replace h : (Nat.beq n 1 && Nat.beq c0 46) = true := h
    simp only [Bool.and_eq_true, decide_eq_true_eq, Nat.beq_eq, Nat.ble_eq, Nat.blt_eq] at h
    obtain ⟨rfl, rfl⟩ := h; rfl
  | laload  =>
    replace h : (Nat.beq n 1 && Nat.beq c0 47) = true := h
    simp only [Bool.and_eq_true, decide_eq_true_eq, Nat.beq_eq, Nat.ble_eq, Nat.blt_eq] at h
    obtain ⟨rfl, rfl⟩ := h; rfl
  | baload  =>
    replace h : (Nat.beq n 1 && Nat.beq c0 51) = true := h
    simp only [Bool.and_eq_true, decide_eq_true_eq, Nat.beq_eq, Nat.ble_eq, Nat.blt_eq] at h
    obtain ⟨rfl, rfl⟩ := h; rfl
  | istore k =>
    replace h : (Nat.beq n 2 && (Nat.beq c0 54 && Nat.beq c1 k)) = true := h
    simp only [Bool.and_eq_true, decide_eq_true_eq, Nat.beq_eq, Nat.ble_eq, Nat.blt_eq] at h
    obtain ⟨rfl, rfl, rfl⟩ := h; rfl
  | lstore k =>
    replace h : (Nat.beq n 2 && (Nat.beq c0 55 && Nat.beq c1 k)) = true := h
    simp only [Bool.and_eq_true, decide_eq_true_eq, Nat.beq_eq, Nat.ble_eq, Nat.blt_eq] at h
    obtain ⟨rfl, rfl, rfl⟩ := h; rfl
  | astore k =>
    replace h : (Nat.beq n 2 && (Nat.beq c0 58 && Nat.beq c1 k)) = true := h
    simp only [Bool.and_eq_true, decide_eq_true_eq, Nat.beq_eq, Nat.ble_eq, Nat.blt_eq] at h
    obtain ⟨rfl, rfl, rfl⟩ := h; rfl
  | iastore  =>
    replace h : (Nat.beq n 1 && Nat.beq c0 79) = true := h
    simp only [Bool.and_eq_true, decide_eq_true_eq, Nat.beq_eq, Nat.ble_eq, Nat.blt_eq] at h
    obtain ⟨rfl, rfl⟩ := h; rfl
  | lastore  =>
    replace h : (Nat.beq n 1 && Nat.beq c0 80) = true := h
    simp only [Bool.and_eq_true, decide_eq_true_eq, Nat.beq_eq, Nat.ble_eq, Nat.blt_eq] at h
    obtain ⟨rfl, rfl⟩ := h; rfl
  | bastore  =>
    replace h : (Nat.beq n 1 && Nat.beq c0 84) = true := h
    simp only [Bool.and_eq_true, decide_eq_true_eq, Nat.beq_eq, Nat.ble_eq, Nat.blt_eq] at h
    obtain ⟨rfl, rfl⟩ := h; rfl
  | pop  =>
    replace h : (Nat.beq n 1 && Nat.beq c0 87) = true := h
    simp only [Bool.and_eq_true, decide_eq_true_eq, Nat.beq_eq, Nat.ble_eq, Nat.blt_eq] at h
    obtain ⟨rfl, rfl⟩ := h; rfl
  | pop2  =>
    replace h : (Nat.beq n 1 && Nat.beq c0 88) = true := h
    simp only [Bool.and_eq_true, decide_eq_true_eq, Nat.beq_eq, Nat.ble_eq, Nat.blt_eq] at h
    obtain ⟨rfl, rfl⟩ := h; rfl
  | dup  =>
    replace h : (Nat.beq n 1 && Nat.beq c0 89) = true := h
    simp only [Bool.and_eq_true, decide_eq_true_eq, Nat.beq_eq, Nat.ble_eq, Nat.blt_eq] at h
    obtain ⟨rfl, rfl⟩ := h; rfl
  | dup2  =>
    replace h : (Nat.beq n 1 && Nat.beq c0 92) = true := h
    simp only [Bool.and_eq_true, decide_eq_true_eq, Nat.beq_eq, Nat.ble_eq, Nat.blt_eq] at h
    obtain ⟨rfl, rfl⟩ := h; rfl
  | iadd  =>
    replace h : (Nat.beq n 1 && Nat.beq c0 96) = true := h
    simp only [Bool.and_eq_true, decide_eq_true_eq, Nat.beq_eq, Nat.ble_eq, Nat.blt_eq] at h
    obtain ⟨rfl, rfl⟩ := h; rfl
  | ladd  =>
    replace h : (Nat.beq n 1 && Nat.beq c0 97) = true := h
    simp only [Bool.and_eq_true, decide_eq_true_eq, Nat.beq_eq, Nat.ble_eq, Nat.blt_eq] at h
    obtain ⟨rfl, rfl⟩ := h; rfl
  | isub  =>
    replace h : (Nat.beq n 1 && Nat.beq c0 100) = true := h
    simp only [Bool.and_eq_true, decide_eq_true_eq, Nat.beq_eq, Nat.ble_eq, Nat.blt_eq] at h
    obtain ⟨rfl, rfl⟩ := h; rfl
  | lsub  =>
    replace h : (Nat.beq n 1 && Nat.beq c0 101) = true := h
    simp only [Bool.and_eq_true, decide_eq_true_eq, Nat.beq_eq, Nat.ble_eq, Nat.blt_eq] at h
    obtain ⟨rfl, rfl⟩ := h; rfl
  | imul  =>
    replace h : (Nat.beq n 1 && Nat.beq c0 104) = true := h
    simp only [Bool.and_eq_true, decide_eq_true_eq, Nat.beq_eq, Nat.ble_eq, Nat.blt_eq] at h
    obtain ⟨rfl, rfl⟩ := h; rfl
  | lmul  =>
    replace h : (Nat.beq n 1 && Nat.beq c0 105) = true := h
    simp only [Bool.and_eq_true, decide_eq_true_eq, Nat.beq_eq, Nat.ble_eq, Nat.blt_eq] at h
    obtain ⟨rfl, rfl⟩ := h; rfl
  | idiv  =>
    replace h : (Nat.beq n 1 && Nat.beq c0 108) = true := h
    simp only [Bool.and_eq_true, decide_eq_true_eq, Nat.beq_eq, Nat.ble_eq, Nat.blt_eq] at h
    obtain ⟨rfl, rfl⟩ := h; rfl
  | ldiv  =>
    replace h : (Nat.beq n 1 && Nat.beq c0 109) = true := h
    simp only [Bool.and_eq_true, decide_eq_true_eq, Nat.beq_eq, Nat.ble_eq, Nat.blt_eq] at h
    obtain ⟨rfl, rfl⟩ := h; rfl
  | irem  =>
    replace h : (Nat.beq n 1 && Nat.beq c0 112) = true := h
    simp only [Bool.and_eq_true, decide_eq_true_eq, Nat.beq_eq, Nat.ble_eq, Nat.blt_eq] at h
    obtain ⟨rfl, rfl⟩ := h; rfl
  | lrem  =>
    replace h : (Nat.beq n 1 && Nat.beq c0 113) = true := h
    simp only [Bool.and_eq_true, decide_eq_true_eq, Nat.beq_eq, Nat.ble_eq, Nat.blt_eq] at h
    obtain ⟨rfl, rfl⟩ := h; rfl
  | ineg  =>
    replace h : (Nat.beq n 1 && Nat.beq c0 116) = true := h
    simp only [Bool.and_eq_true, decide_eq_true_eq, Nat.beq_eq, Nat.ble_eq, Nat.blt_eq] at h
    obtain ⟨rfl, rfl⟩ := h; rfl
  | lneg  =>
    replace h : (Nat.beq n 1 && Nat.beq c0 117) = true := h
    simp only [Bool.and_eq_true, decide_eq_true_eq, Nat.beq_eq, Nat.ble_eq, Nat.blt_eq] at h
    obtain ⟨rfl, rfl⟩ := h; rfl
  | ishl  =>
    replace h : (Nat.beq n 1 && Nat.beq c0 120) = true := h
    simp only [Bool.and_eq_true, decide_eq_true_eq, Nat.beq_eq, Nat.ble_eq, Nat.blt_eq] at h
    obtain ⟨rfl, rfl⟩ := h; rfl
  | lshl  =>
    replace h : (Nat.beq n 1 && Nat.beq c0 121) = true := h
    simp only [Bool.and_eq_true, decide_eq_true_eq, Nat.beq_eq, Nat.ble_eq, Nat.blt_eq] at h
    obtain ⟨rfl, rfl⟩ := h; rfl
  | ishr  =>
    replace h : (Nat.beq n 1 && Nat.beq c0 122) = true := h
    simp only [Bool.and_eq_true, decide_eq_true_eq, Nat.beq_eq, Nat.ble_eq, Nat.blt_eq] at h
    obtain ⟨rfl, rfl⟩ := h; rfl
  | lshr  =>
    replace h : (Nat.beq n 1 && Nat.beq c0 123) = true := h
    simp only [Bool.and_eq_true, decide_eq_true_eq, Nat.beq_eq, Nat.ble_eq, Nat.blt_eq] at h
    obtain ⟨rfl, rfl⟩ := h; rfl
  | iushr  =>
    replace h : (Nat.beq n 1 && Nat.beq c0 124) = true := h
    simp only [Bool.and_eq_true, decide_eq_true_eq, Nat.beq_eq, Nat.ble_eq, Nat.blt_eq] at h
    obtain ⟨rfl, rfl⟩ := h; rfl
  | iand  =>
    replace h : (Nat.beq n 1 && Nat.beq c0 126) = true := h
    simp only [Bool.and_eq_true, decide_eq_true_eq, Nat.beq_eq, Nat.ble_eq, Nat.blt_eq] at h
    obtain ⟨rfl, rfl⟩ := h; rfl
  | land  =>
    replace h : (Nat.beq n 1 && Nat.beq c0 127) = true := h
    simp only [Bool.and_eq_true, decide_eq_true_eq, Nat.beq_eq, Nat.ble_eq, Nat.blt_eq] at h
    obtain ⟨rfl, rfl⟩ := h; rfl
  | ior  =>
    replace h : (Nat.beq n 1 && Nat.beq c0 128) = true := h
    simp only [Bool.and_eq_true, decide_eq_true_eq, Nat.beq_eq, Nat.ble_eq, Nat.blt_eq] at h
    obtain ⟨rfl, rfl⟩ := h; rfl
  | ixor  =>
    replace h : (Nat.beq n 1 && Nat.beq c0 130) = true := h
    simp only [Bool.and_eq_true, decide_eq_true_eq, Nat.beq_eq, Nat.ble_eq, Nat.blt_eq] at h
    obtain ⟨rfl, rfl⟩ := h; rfl
  | iinc i k =>
    replace h : (Nat.beq n 3 && (Nat.beq c0 132 && (Nat.beq c1 i && decide (Reader.signed 8 c2 = k)))) = true := h
    simp only [Bool.and_eq_true, decide_eq_true_eq, Nat.beq_eq, Nat.ble_eq, Nat.blt_eq] at h
    obtain ⟨rfl, rfl, rfl, rfl⟩ := h; rfl
  | i2l  =>
    replace h : (Nat.beq n 1 && Nat.beq c0 133) = true := h
    simp only [Bool.and_eq_true, decide_eq_true_eq, Nat.beq_eq, Nat.ble_eq, Nat.blt_eq] at h
    obtain ⟨rfl, rfl⟩ := h; rfl
  | l2i  =>
    replace h : (Nat.beq n 1 && Nat.beq c0 136) = true := h
    simp only [Bool.and_eq_true, decide_eq_true_eq, Nat.beq_eq, Nat.ble_eq, Nat.blt_eq] at h
    obtain ⟨rfl, rfl⟩ := h; rfl
  | i2b  =>
    replace h : (Nat.beq n 1 && Nat.beq c0 145) = true := h
    simp only [Bool.and_eq_true, decide_eq_true_eq, Nat.beq_eq, Nat.ble_eq, Nat.blt_eq] at h
    obtain ⟨rfl, rfl⟩ := h; rfl
  | i2c  =>
    replace h : (Nat.beq n 1 && Nat.beq c0 146) = true := h
    simp only [Bool.and_eq_true, decide_eq_true_eq, Nat.beq_eq, Nat.ble_eq, Nat.blt_eq] at h
    obtain ⟨rfl, rfl⟩ := h; rfl
  | lcmp  =>
    replace h : (Nat.beq n 1 && Nat.beq c0 148) = true := h
    simp only [Bool.and_eq_true, decide_eq_true_eq, Nat.beq_eq, Nat.ble_eq, Nat.blt_eq] at h
    obtain ⟨rfl, rfl⟩ := h; rfl
  | goto k =>
    replace h : (Nat.beq n 3 && (Nat.beq c0 167 && decide (Reader.signed 16 (c1 * 256 + c2) = k))) = true := h
    simp only [Bool.and_eq_true, decide_eq_true_eq, Nat.beq_eq, Nat.ble_eq, Nat.blt_eq] at h
    obtain ⟨rfl, rfl, rfl⟩ := h; rfl
  | ireturn  =>
    replace h : (Nat.beq n 1 && Nat.beq c0 172) = true := h
    simp only [Bool.and_eq_true, decide_eq_true_eq, Nat.beq_eq, Nat.ble_eq, Nat.blt_eq] at h
    obtain ⟨rfl, rfl⟩ := h; rfl
  | lreturn  =>
    replace h : (Nat.beq n 1 && Nat.beq c0 173) = true := h
    simp only [Bool.and_eq_true, decide_eq_true_eq, Nat.beq_eq, Nat.ble_eq, Nat.blt_eq] at h
    obtain ⟨rfl, rfl⟩ := h; rfl
  | areturn  =>
    replace h : (Nat.beq n 1 && Nat.beq c0 176) = true := h
    simp only [Bool.and_eq_true, decide_eq_true_eq, Nat.beq_eq, Nat.ble_eq, Nat.blt_eq] at h
    obtain ⟨rfl, rfl⟩ := h; rfl
  | return_  =>
    replace h : (Nat.beq n 1 && Nat.beq c0 177) = true := h
    simp only [Bool.and_eq_true, decide_eq_true_eq, Nat.beq_eq, Nat.ble_eq, Nat.blt_eq] at h
    obtain ⟨rfl, rfl⟩ := h; rfl
  | getstatic k =>
    replace h : (Nat.beq n 3 && (Nat.beq c0 178 && Nat.beq (c1 * 256 + c2) k)) = true := h
    simp only [Bool.and_eq_true, decide_eq_true_eq, Nat.beq_eq, Nat.ble_eq, Nat.blt_eq] at h
    obtain ⟨rfl, rfl, rfl⟩ := h; rfl
  | getfield k =>
    replace h : (Nat.beq n 3 && (Nat.beq c0 180 && Nat.beq (c1 * 256 + c2) k)) = true := h
    simp only [Bool.and_eq_true, decide_eq_true_eq, Nat.beq_eq, Nat.ble_eq, Nat.blt_eq] at h
    obtain ⟨rfl, rfl, rfl⟩ := h; rfl
  | putfield k =>
    replace h : (Nat.beq n 3 && (Nat.beq c0 181 && Nat.beq (c1 * 256 + c2) k)) = true := h
    simp only [Bool.and_eq_true, decide_eq_true_eq, Nat.beq_eq, Nat.ble_eq, Nat.blt_eq] at h
    obtain ⟨rfl, rfl, rfl⟩ := h; rfl
  | invokevirtual k =>
    replace h : (Nat.beq n 3 && (Nat.beq c0 182 && Nat.beq (c1 * 256 + c2) k)) = true := h
    simp only [Bool.and_eq_true, decide_eq_true_eq, Nat.beq_eq, Nat.ble_eq, Nat.blt_eq] at h
    obtain ⟨rfl, rfl, rfl⟩ := h; rfl
  | invokespecial k =>
    replace h : (Nat.beq n 3 && (Nat.beq c0 183 && Nat.beq (c1 * 256 + c2) k)) = true := h
    simp only [Bool.and_eq_true, decide_eq_true_eq, Nat.beq_eq, Nat.ble_eq, Nat.blt_eq] at h
    obtain ⟨rfl, rfl, rfl⟩ := h; rfl
  | invokestatic k =>
    replace h : (Nat.beq n 3 && (Nat.beq c0 184 && Nat.beq (c1 * 256 + c2) k)) = true := h
    simp only [Bool.and_eq_true, decide_eq_true_eq, Nat.beq_eq, Nat.ble_eq, Nat.blt_eq] at h
    obtain ⟨rfl, rfl, rfl⟩ := h; rfl
  | new k =>
    replace h : (Nat.beq n 3 && (Nat.beq c0 187 && Nat.beq (c1 * 256 + c2) k)) = true := h
    simp only [Bool.and_eq_true, decide_eq_true_eq, Nat.beq_eq, Nat.ble_eq, Nat.blt_eq] at h
    obtain ⟨rfl, rfl, rfl⟩ := h; rfl
  | arraylength  =>
    replace h : (Nat.beq n 1 && Nat.beq c0 190) = true := h
    simp only [Bool.and_eq_true, decide_eq_true_eq, Nat.beq_eq, Nat.ble_eq, Nat.blt_eq] at h
    obtain ⟨rfl, rfl⟩ := h; rfl
  | iconst k =>
    replace h : (Nat.beq n 1 && (Nat.ble 2 c0 && (Nat.ble c0 8 && decide ((c0 : Int) = k + 3)))) = true := h
    simp only [Bool.and_eq_true, decide_eq_true_eq, Nat.beq_eq, Nat.ble_eq, Nat.blt_eq] at h
    obtain ⟨rfl, h1, h2, h3⟩ := h
    rcases (by omega : c0 = 2 ∨ c0 = 3 ∨ c0 = 4 ∨ c0 = 5 ∨ c0 = 6 ∨ c0 = 7 ∨ c0 = 8) with rfl | rfl | rfl | rfl | rfl | rfl | rfl
    · obtain rfl : k = -1 := by omega
      rfl
    · obtain rfl : k = 0 := by omega
      rfl
    · obtain rfl : k = 1 := by omega
      rfl
    · obtain rfl : k = 2 := by omega
      rfl
    · obtain rfl : k = 3 := by omega
      rfl
    · obtain rfl : k = 4 := by omega
      rfl
    · obtain rfl : k = 5 := by omega
      rfl
  | lconst k =>
    replace h : (Nat.beq n 1 && Nat.beq c0 (9 + k.val)) = true := h
    simp only [Bool.and_eq_true, decide_eq_true_eq, Nat.beq_eq, Nat.ble_eq, Nat.blt_eq] at h
    obtain ⟨rfl, h⟩ := h
    rcases k with ⟨k, hk⟩
    rcases (by omega : k = 0 ∨ k = 1) with rfl | rfl
    · obtain rfl : c0 = 9 := h
      rfl
    · obtain rfl : c0 = 10 := h
      rfl
  | iload_n k =>
    replace h : (Nat.beq n 1 && Nat.beq c0 (26 + k.val)) = true := h
    simp only [Bool.and_eq_true, decide_eq_true_eq, Nat.beq_eq, Nat.ble_eq, Nat.blt_eq] at h
    obtain ⟨rfl, h⟩ := h
    rcases k with ⟨k, hk⟩
    rcases (by omega : k = 0 ∨ k = 1 ∨ k = 2 ∨ k = 3) with rfl | rfl | rfl | rfl
    · obtain rfl : c0 = 26 := h
      rfl
    · obtain rfl : c0 = 27 := h
      rfl
    · obtain rfl : c0 = 28 := h
      rfl
    · obtain rfl : c0 = 29 := h
      rfl
  | lload_n k =>
    replace h : (Nat.beq n 1 && Nat.beq c0 (30 + k.val)) = true := h
    simp only [Bool.and_eq_true, decide_eq_true_eq, Nat.beq_eq, Nat.ble_eq, Nat.blt_eq] at h
    obtain ⟨rfl, h⟩ := h
    rcases k with ⟨k, hk⟩
    rcases (by omega : k = 0 ∨ k = 1 ∨ k = 2 ∨ k = 3) with rfl | rfl | rfl | rfl
    · obtain rfl : c0 = 30 := h
      rfl
    · obtain rfl : c0 = 31 := h
      rfl
    · obtain rfl : c0 = 32 := h
      rfl
    · obtain rfl : c0 = 33 := h
      rfl
  | aload_n k =>
    replace h : (Nat.beq n 1 && Nat.beq c0 (42 + k.val)) = true := h
    simp only [Bool.and_eq_true, decide_eq_true_eq, Nat.beq_eq, Nat.ble_eq, Nat.blt_eq] at h
    obtain ⟨rfl, h⟩ := h
    rcases k with ⟨k, hk⟩
    rcases (by omega : k = 0 ∨ k = 1 ∨ k = 2 ∨ k = 3) with rfl | rfl | rfl | rfl
    · obtain rfl : c0 = 42 := h
      rfl
    · obtain rfl : c0 = 43 := h
      rfl
    · obtain rfl : c0 = 44 := h
      rfl
    · obtain rfl : c0 = 45 := h
      rfl
  | istore_n k =>
    replace h : (Nat.beq n 1 && Nat.beq c0 (59 + k.val)) = true := h
    simp only [Bool.and_eq_true, decide_eq_true_eq, Nat.beq_eq, Nat.ble_eq, Nat.blt_eq] at h
    obtain ⟨rfl, h⟩ := h
    rcases k with ⟨k, hk⟩
    rcases (by omega : k = 0 ∨ k = 1 ∨ k = 2 ∨ k = 3) with rfl | rfl | rfl | rfl
    · obtain rfl : c0 = 59 := h
      rfl
    · obtain rfl : c0 = 60 := h
      rfl
    · obtain rfl : c0 = 61 := h
      rfl
    · obtain rfl : c0 = 62 := h
      rfl
  | lstore_n k =>
    replace h : (Nat.beq n 1 && Nat.beq c0 (63 + k.val)) = true := h
    simp only [Bool.and_eq_true, decide_eq_true_eq, Nat.beq_eq, Nat.ble_eq, Nat.blt_eq] at h
    obtain ⟨rfl, h⟩ := h
    rcases k with ⟨k, hk⟩
    rcases (by omega : k = 0 ∨ k = 1 ∨ k = 2 ∨ k = 3) with rfl | rfl | rfl | rfl
    · obtain rfl : c0 = 63 := h
      rfl
    · obtain rfl : c0 = 64 := h
      rfl
    · obtain rfl : c0 = 65 := h
      rfl
    · obtain rfl : c0 = 66 := h
      rfl
  | astore_n k =>
    replace h : (Nat.beq n 1 && Nat.beq c0 (75 + k.val)) = true := h
    simp only [Bool.and_eq_true, decide_eq_true_eq, Nat.beq_eq, Nat.ble_eq, Nat.blt_eq] at h
    obtain ⟨rfl, h⟩ := h
    rcases k with ⟨k, hk⟩
    rcases (by omega : k = 0 ∨ k = 1 ∨ k = 2 ∨ k = 3) with rfl | rfl | rfl | rfl
    · obtain rfl : c0 = 75 := h
      rfl
    · obtain rfl : c0 = 76 := h
      rfl
    · obtain rfl : c0 = 77 := h
      rfl
    · obtain rfl : c0 = 78 := h
      rfl
  | ifCond c k =>
    replace h : (Nat.beq n 3 && (Nat.beq c0 (zqb 153 c) && decide (Reader.signed 16 (c1 * 256 + c2) = k))) = true := h
    simp only [Bool.and_eq_true, decide_eq_true_eq, Nat.beq_eq, Nat.ble_eq, Nat.blt_eq] at h
    obtain ⟨rfl, h1, rfl⟩ := h
    cases c
    all_goals (simp only [zqb] at h1; subst h1; rfl)
  | if_icmp c k =>
    replace h : (Nat.beq n 3 && (Nat.beq c0 (zqb 159 c) && decide (Reader.signed 16 (c1 * 256 + c2) = k))) = true := h
    simp only [Bool.and_eq_true, decide_eq_true_eq, Nat.beq_eq, Nat.ble_eq, Nat.blt_eq] at h
    obtain ⟨rfl, h1, rfl⟩ := h
    cases c
    all_goals (simp only [zqb] at h1; subst h1; rfl)
  | newarray a =>
    replace h : (Nat.beq n 2 && (Nat.beq c0 188 && Nat.beq c1 (zqa a) && Nat.blt c1 256)) = true := h
    simp only [Bool.and_eq_true, decide_eq_true_eq, Nat.beq_eq, Nat.ble_eq, Nat.blt_eq] at h
    obtain ⟨rfl, ⟨rfl, h1⟩, h2⟩ := h
    cases a
    all_goals (simp only [zqa] at h1; subst h1; first | rfl | exact absurd h2 (by decide))
  | _ => exact absurd h Bool.false_ne_true
/-- the entries, in the order of their places, over what is left of the bytes from place q on -/
def zwalk (code : ByteArray) : List UInt8 → Nat → List zE → Bool
  | _, _, [] => true
  | bs, q, e :: es =>
    let bs' := bs.drop (e.1 - q)
    Nat.ble q e.1 && ((match bs' with
      | [] => false
      | [c0] => zdq c0.toNat 0 0 e.2.1 (e.2.2.1 - e.1) && Nat.beq (e.2.2.1 - e.1) 1
      | [c0, c1] => zdq c0.toNat c1.toNat 0 e.2.1 (e.2.2.1 - e.1) && Nat.ble (e.2.2.1 - e.1) 2
      | c0 :: c1 :: c2 :: _ => match e.2.1 with
        | .tableswitch _ _ _ _ => decide (decode code e.1 = .ok (e.2.1, e.2.2.1 - e.1))
        | _ => zdq c0.toNat c1.toNat c2.toNat e.2.1 (e.2.2.1 - e.1)) && zwalk code bs' e.1 es)
theorem zwalk_ok {code : ByteArray} : ∀ (es : List zE) (bs : List UInt8) (q : Nat), code.data.toList.drop q = bs → zwalk code bs q es = true → ∀ e ∈ es, decode code e.1 = .ok (e.2.1, e.2.2.1 - e.1)
  | [], _, _, _, _, _, h => by cases h
  | e :: es, bs, q, hb, h, e', he' => by
    unfold zwalk at h
    simp only [Bool.and_eq_true] at h
    obtain ⟨h1, h2, h3⟩ := h
    have h1 := Nat.le_of_ble_eq_true h1
    have hd : code.data.toList.drop e.1 = bs.drop (e.1 - q) := by
      rw [← hb, List.drop_drop]
      congr 1
      omega
    rcases List.mem_cons.mp he' with rfl | he'
    · have at' : ∀ (k : Nat), code.data[e'.1 + k]? = (bs.drop (e'.1 - q))[k]? := by
        intro k
        rw [← hd, List.getElem?_drop, Array.getElem?_toList]
      split at h2
      · cases h2
      · rename_i c0 hc
        simp only [Bool.and_eq_true] at h2
        have h2 := And.intro (zdq_ok h2.1) h2.2
        have h4 := Nat.eq_of_beq_eq_true h2.2
        exact zdb_ok (c1 := 0) (c2 := 0) (by have := at' 0; rw [hc] at this; exact this) (fun ⟨r, g1, g2⟩ => by rw [show (0 : UInt8).toNat = 0 from rfl, h2.1] at g1; cases g1; exact absurd g2 (by show ¬ 2 ≤ e'.2.2.1 - e'.1; omega)) (fun ⟨r, g1, g2⟩ => by rw [show (0 : UInt8).toNat = 0 from rfl, h2.1] at g1; cases g1; exact absurd g2 (by show ¬ 3 ≤ e'.2.2.1 - e'.1; omega)) h2.1
      · rename_i c0 c1 hc
        simp only [Bool.and_eq_true] at h2
        have h2 := And.intro (zdq_ok h2.1) h2.2
        have h4 := Nat.le_of_ble_eq_true h2.2
        exact zdb_ok (c1 := c1) (c2 := 0) (by have := at' 0; rw [hc] at this; exact this) (fun _ => by have := at' 1; rw [hc] at this; exact this) (fun ⟨r, g1, g2⟩ => by rw [show (0 : UInt8).toNat = 0 from rfl, h2.1] at g1; cases g1; exact absurd g2 (by show ¬ 3 ≤ e'.2.2.1 - e'.1; omega)) h2.1
      · rename_i c0 c1 c2 bs3 hc
        split at h2
        · simpa using h2
        · have h2 := zdq_ok h2
          exact zdb_ok (c1 := c1) (c2 := c2) (by have := at' 0; rw [hc] at this; exact this) (fun _ => by have := at' 1; rw [hc] at this; exact this) (fun _ => by have := at' 2; rw [hc] at this; exact this) h2
    · exact zwalk_ok es _ e.1 hd h3 e' he'
