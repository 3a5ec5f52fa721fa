/-! DECODING BY A WALK OVER THE BYTES -/
theorem zu1 {code : ByteArray} {p : Nat} {b : UInt8} (h : code.data[p]? = some b) : (Reader.u1 : Decoder Nat).runAt code p = .ok (b.toNat, p + 1) := by
  obtain ⟨h1, h2⟩ := Array.getElem?_eq_some_iff.mp h
  have h3 : p < code.size := h1
  have h4 : code[p]'h3 = b := h2
  have h5 : (Reader.u1 : Decoder Nat) code p = (if h : p < code.size then ((set (p + 1) >>= fun _ => Pure.pure (code[p]'h).toNat : Decoder Nat)) else (throw (HasTruncated.truncated p) : Decoder Nat)) code p := rfl
  show (Reader.u1 : Decoder Nat) code p = _
  rw [h5, dif_pos h3, h4]
  rfl
theorem zbind {α β : Type} {code : ByteArray} {p q : Nat} {r : Decoder α} {k : α → Decoder β} {a : α} (h : r.runAt code p = .ok (a, q)) : (r >>= k).runAt code p = (k a).runAt code q := by
  have e : r code p = .ok (a, q) := h
  show Except.bind (r code p) (fun x => k x.1 code x.2) = _
  rw [e]
  rfl
theorem zmap {α β : Type} {code : ByteArray} {p q : Nat} {r : Decoder α} {g : α → β} {a : α} (h : r.runAt code p = .ok (a, q)) : (g <$> r).runAt code p = .ok (g a, q) := by
  have e : r code p = .ok (a, q) := h
  show Except.bind (r code p) (fun x => Except.ok (g x.1, x.2)) = _
  rw [e]
  rfl
theorem zu2 {code : ByteArray} {p : Nat} {a b : UInt8} (h : code.data[p]? = some a) (h2 : code.data[p + 1]? = some b) : (Reader.u2 : Decoder Nat).runAt code p = .ok (a.toNat * 256 + b.toNat, p + 2) :=
  (zbind (zu1 h)).trans (zbind (zu1 h2))
theorem zs1 {code : ByteArray} {p : Nat} {a : UInt8} (h : code.data[p]? = some a) : (Reader.s1 : Decoder Int).runAt code p = .ok (Reader.signed 8 a.toNat, p + 1) := zmap (zu1 h)
theorem zs2 {code : ByteArray} {p : Nat} {a b : UInt8} (h : code.data[p]? = some a) (h2 : code.data[p + 1]? = some b) : (Reader.s2 : Decoder Int).runAt code p = .ok (Reader.signed 16 (a.toNat * 256 + b.toNat), p + 2) := zmap (zu2 h h2)
theorem zdec {code : ByteArray} {p q : Nat} {ins : Instr} (h : (Decoder.instr p).runAt code p = .ok (ins, q)) : decode code p = .ok (ins, q - p) := by
  show Except.bind ((Decoder.instr p).runAt code p) (fun x => Except.ok (x.1, x.2 - p)) = _
  rw [h]
  rfl
/-- the instruction at three bytes -/
def zdb (b0 b1 b2 : Nat) : Option (Instr × Nat) :=
  match b0 with
  | 2 => some (.iconst (-1), 1)
  | 3 => some (.iconst 0, 1)
  | 4 => some (.iconst 1, 1)
  | 5 => some (.iconst 2, 1)
  | 6 => some (.iconst 3, 1)
  | 7 => some (.iconst 4, 1)
  | 8 => some (.iconst 5, 1)
  | 9 => some (.lconst 0, 1)
  | 10 => some (.lconst 1, 1)
  | 16 => some (.bipush (Reader.signed 8 b1), 2)
  | 17 => some (.sipush (Reader.signed 16 (b1 * 256 + b2)), 3)
  | 18 => some (.ldc b1, 2)
  | 19 => some (.ldc_w (b1 * 256 + b2), 3)
  | 20 => some (.ldc2_w (b1 * 256 + b2), 3)
  | 21 => some (.iload b1, 2)
  | 22 => some (.lload b1, 2)
  | 25 => some (.aload b1, 2)
  | 26 => some (.iload_n 0, 1)
  | 27 => some (.iload_n 1, 1)
  | 28 => some (.iload_n 2, 1)
  | 29 => some (.iload_n 3, 1)
  | 30 => some (.lload_n 0, 1)
  | 31 => some (.lload_n 1, 1)
  | 32 => some (.lload_n 2, 1)
  | 33 => some (.lload_n 3, 1)
  | 42 => some (.aload_n 0, 1)
  | 43 => some (.aload_n 1, 1)
  | 44 => some (.aload_n 2, 1)
  | 45 => some (.aload_n 3, 1)
  | 46 => some (.iaload, 1)
  | 47 => some (.laload, 1)
  | 51 => some (.baload, 1)
  | 54 => some (.istore b1, 2)
  | 55 => some (.lstore b1, 2)
  | 58 => some (.astore b1, 2)
  | 59 => some (.istore_n 0, 1)
  | 60 => some (.istore_n 1, 1)
  | 61 => some (.istore_n 2, 1)
  | 62 => some (.istore_n 3, 1)
  | 63 => some (.lstore_n 0, 1)
  | 64 => some (.lstore_n 1, 1)
  | 65 => some (.lstore_n 2, 1)
  | 66 => some (.lstore_n 3, 1)
  | 75 => some (.astore_n 0, 1)
  | 76 => some (.astore_n 1, 1)
  | 77 => some (.astore_n 2, 1)
  | 78 => some (.astore_n 3, 1)
  | 79 => some (.iastore, 1)
  | 80 => some (.lastore, 1)
  | 84 => some (.bastore, 1)
  | 87 => some (.pop, 1)
  | 88 => some (.pop2, 1)
  | 89 => some (.dup, 1)
  | 92 => some (.dup2, 1)
  | 96 => some (.iadd, 1)
  | 97 => some (.ladd, 1)
  | 100 => some (.isub, 1)
  | 101 => some (.lsub, 1)
  | 104 => some (.imul, 1)
  | 105 => some (.lmul, 1)
  | 108 => some (.idiv, 1)
  | 109 => some (.ldiv, 1)
  | 112 => some (.irem, 1)
  | 113 => some (.lrem, 1)
  | 116 => some (.ineg, 1)
  | 117 => some (.lneg, 1)
  | 120 => some (.ishl, 1)
  | 121 => some (.lshl, 1)
  | 122 => some (.ishr, 1)
  | 123 => some (.lshr, 1)
  | 124 => some (.iushr, 1)
  | 126 => some (.iand, 1)
  | 127 => some (.land, 1)
  | 128 => some (.ior, 1)
  | 130 => some (.ixor, 1)
  | 132 => some (.iinc b1 (Reader.signed 8 b2), 3)
  | 133 => some (.i2l, 1)
  | 136 => some (.l2i, 1)
  | 145 => some (.i2b, 1)
  | 146 => some (.i2c, 1)
  | 148 => some (.lcmp, 1)
  | 153 => some (.ifCond .eq (Reader.signed 16 (b1 * 256 + b2)), 3)
  | 154 => some (.ifCond .ne (Reader.signed 16 (b1 * 256 + b2)), 3)
  | 155 => some (.ifCond .lt (Reader.signed 16 (b1 * 256 + b2)), 3)
  | 156 => some (.ifCond .ge (Reader.signed 16 (b1 * 256 + b2)), 3)
  | 157 => some (.ifCond .gt (Reader.signed 16 (b1 * 256 + b2)), 3)
  | 158 => some (.ifCond .le (Reader.signed 16 (b1 * 256 + b2)), 3)
  | 159 => some (.if_icmp .eq (Reader.signed 16 (b1 * 256 + b2)), 3)
  | 160 => some (.if_icmp .ne (Reader.signed 16 (b1 * 256 + b2)), 3)
  | 161 => some (.if_icmp .lt (Reader.signed 16 (b1 * 256 + b2)), 3)
  | 162 => some (.if_icmp .ge (Reader.signed 16 (b1 * 256 + b2)), 3)
  | 163 => some (.if_icmp .gt (Reader.signed 16 (b1 * 256 + b2)), 3)
  | 164 => some (.if_icmp .le (Reader.signed 16 (b1 * 256 + b2)), 3)
  | 165 => some (.if_acmp .eq (Reader.signed 16 (b1 * 256 + b2)), 3)
  | 166 => some (.if_acmp .ne (Reader.signed 16 (b1 * 256 + b2)), 3)
  | 167 => some (.goto (Reader.signed 16 (b1 * 256 + b2)), 3)
  | 172 => some (.ireturn, 1)
  | 173 => some (.lreturn, 1)
  | 176 => some (.areturn, 1)
  | 177 => some (.return_, 1)
  | 178 => some (.getstatic (b1 * 256 + b2), 3)
  | 180 => some (.getfield (b1 * 256 + b2), 3)
  | 181 => some (.putfield (b1 * 256 + b2), 3)
  | 182 => some (.invokevirtual (b1 * 256 + b2), 3)
  | 183 => some (.invokespecial (b1 * 256 + b2), 3)
  | 184 => some (.invokestatic (b1 * 256 + b2), 3)
  | 187 => some (.new (b1 * 256 + b2), 3)
  | 190 => some (.arraylength, 1)
  | 188 => match b1 with
    | 4 => some (.newarray .boolean, 2)
    | 10 => some (.newarray .int, 2)
    | 11 => some (.newarray .long, 2)
    | _ => none
  | _ => none
set_option maxHeartbeats 8000000 in
theorem zdb_ok {code : ByteArray} {p : Nat} {c0 c1 c2 : UInt8} {r : Instr × Nat} (h0 : code.data[p]? = some c0) (h1 : (∃ r, zdb c0.toNat c1.toNat c2.toNat = some r ∧ 2 ≤ r.2) → code.data[p + 1]? = some c1) (h2 : (∃ r, zdb c0.toNat c1.toNat c2.toNat = some r ∧ 3 ≤ r.2) → code.data[p + 2]? = some c2) (h : zdb c0.toNat c1.toNat c2.toNat = some r) : decode code p = .ok r := by
  have e0 := zu1 h0
  have g1 : 2 ≤ r.2 → code.data[p + 1]? = some c1 := fun q => h1 ⟨r, h, q⟩
  have g2 : 3 ≤ r.2 → code.data[p + 2]? = some c2 := fun q => h2 ⟨r, h, q⟩
  clear h1 h2
  have fin : ∀ {ins : Instr} {len : Nat}, (Decoder.instr p).runAt code p = .ok (ins, p + len) → decode code p = .ok (ins, len) := fun q => by
    have := zdec q
    rwa [Nat.add_sub_cancel_left] at this
  unfold zdb at h
  split at h
  all_goals try (rename_i hb; rw [hb] at e0)
  · cases h; exact fin ((zbind e0).trans rfl)
  · cases h; exact fin ((zbind e0).trans rfl)
  · cases h; exact fin ((zbind e0).trans rfl)
  · cases h; exact fin ((zbind e0).trans rfl)
  · cases h; exact fin ((zbind e0).trans rfl)
  · cases h; exact fin ((zbind e0).trans rfl)
  · cases h; exact fin ((zbind e0).trans rfl)
  · cases h; exact fin ((zbind e0).trans rfl)
  · cases h; exact fin ((zbind e0).trans rfl)
  · cases h; exact fin ((zbind e0).trans ((zbind (zs1 (g1 (Nat.le_refl _)))).trans rfl))
  · cases h; exact fin ((zbind e0).trans ((zbind (zs2 (g1 (show 2 ≤ 3 by decide)) (g2 (Nat.le_refl _)))).trans rfl))
  · cases h; exact fin ((zbind e0).trans ((zbind (zu1 (g1 (Nat.le_refl _)))).trans rfl))
  · cases h; exact fin ((zbind e0).trans ((zbind (zu2 (g1 (show 2 ≤ 3 by decide)) (g2 (Nat.le_refl _)))).trans rfl))
  · cases h; exact fin ((zbind e0).trans ((zbind (zu2 (g1 (show 2 ≤ 3 by decide)) (g2 (Nat.le_refl _)))).trans rfl))
  · cases h; exact fin ((zbind e0).trans ((zbind (zu1 (g1 (Nat.le_refl _)))).trans rfl))
  · cases h; exact fin ((zbind e0).trans ((zbind (zu1 (g1 (Nat.le_refl _)))).trans rfl))
  · cases h; exact fin ((zbind e0).trans ((zbind (zu1 (g1 (Nat.le_refl _)))).trans rfl))
  · cases h; exact fin ((zbind e0).trans rfl)
  · cases h; exact fin ((zbind e0).trans rfl)
  · cases h; exact fin ((zbind e0).trans rfl)
  · cases h; exact fin ((zbind e0).trans rfl)
  · cases h; exact fin ((zbind e0).trans rfl)
  · cases h; exact fin ((zbind e0).trans rfl)
  · cases h; exact fin ((zbind e0).trans rfl)
  · cases h; exact fin ((zbind e0).trans rfl)
  · cases h; exact fin ((zbind e0).trans rfl)
  · cases h; exact fin ((zbind e0).trans rfl)
  · cases h; exact fin ((zbind e0).trans rfl)
  · cases h; exact fin ((zbind e0).trans rfl)
  · cases h; exact fin ((zbind e0).trans rfl)
  · cases h; exact fin ((zbind e0).trans rfl)
  · cases h; exact fin ((zbind e0).trans rfl)
  · cases h; exact fin ((zbind e0).trans ((zbind (zu1 (g1 (Nat.le_refl _)))).trans rfl))
  · cases h; exact fin ((zbind e0).trans ((zbind (zu1 (g1 (Nat.le_refl _)))).trans rfl))
  · cases h; exact fin ((zbind e0).trans ((zbind (zu1 (g1 (Nat.le_refl _)))).trans rfl))
  · cases h; exact fin ((zbind e0).trans rfl)
  · cases h; exact fin ((zbind e0).trans rfl)
  · cases h; exact fin ((zbind e0).trans rfl)
  · cases h; exact fin ((zbind e0).trans rfl)
  · cases h; exact fin ((zbind e0).trans rfl)
  · cases h; exact fin ((zbind e0).trans rfl)
  · cases h; exact fin ((zbind e0).trans rfl)
  · cases h; exact fin ((zbind e0).trans rfl)
  · cases h; exact fin ((zbind e0).trans rfl)
  · cases h; exact fin ((zbind e0).trans rfl)
  · cases h; exact fin ((zbind e0).trans rfl)
  · cases h; exact fin ((zbind e0).trans rfl)
  · cases h; exact fin ((zbind e0).trans rfl)
  · cases h; exact fin ((zbind e0).trans rfl)
  · cases h; exact fin ((zbind e0).trans rfl)
  · cases h; exact fin ((zbind e0).trans rfl)
  · cases h; exact fin ((zbind e0).trans rfl)
  · cases h; exact fin ((zbind e0).trans rfl)
  · cases h; exact fin ((zbind e0).trans rfl)
  · cases h; exact fin ((zbind e0).trans rfl)
  · cases h; exact fin ((zbind e0).trans rfl)
  · cases h; exact fin ((zbind e0).trans rfl)
  · cases h; exact fin ((zbind e0).trans rfl)
  · cases h; exact fin ((zbind e0).trans rfl)
  · cases h; exact fin ((zbind e0).trans rfl)
  · cases h; exact fin ((zbind e0).trans rfl)
  · cases h; exact fin ((zbind e0).trans rfl)
  · cases h; exact fin ((zbind e0).trans rfl)
  · cases h; exact fin ((zbind e0).trans rfl)
  · cases h; exact fin ((zbind e0).trans rfl)
  · cases h; exact fin ((zbind e0).trans rfl)
  · cases h; exact fin ((zbind e0).trans rfl)
  · cases h; exact fin ((zbind e0).trans rfl)
  · cases h; exact fin ((zbind e0).trans rfl)
  · cases h; exact fin ((zbind e0).trans rfl)
  · cases h; exact fin ((zbind e0).trans rfl)
  · cases h; exact fin ((zbind e0).trans rfl)
  · cases h; exact fin ((zbind e0).trans rfl)
  · cases h; exact fin ((zbind e0).trans rfl)
  · cases h; exact fin ((zbind e0).trans rfl)
  · cases h; exact fin ((zbind e0).trans ((zbind (zu1 (g1 (show 2 ≤ 3 by decide)))).trans ((zbind (zs1 (g2 (Nat.le_refl _)))).trans rfl)))
  · cases h; exact fin ((zbind e0).trans rfl)
  · cases h; exact fin ((zbind e0).trans rfl)
  · cases h; exact fin ((zbind e0).trans rfl)
  · cases h; exact fin ((zbind e0).trans rfl)
  · cases h; exact fin ((zbind e0).trans rfl)
  · cases h; exact fin ((zbind e0).trans ((zbind (zs2 (g1 (show 2 ≤ 3 by decide)) (g2 (Nat.le_refl _)))).trans rfl))
  · cases h; exact fin ((zbind e0).trans ((zbind (zs2 (g1 (show 2 ≤ 3 by decide)) (g2 (Nat.le_refl _)))).trans rfl))
  · cases h; exact fin ((zbind e0).trans ((zbind (zs2 (g1 (show 2 ≤ 3 by decide)) (g2 (Nat.le_refl _)))).trans rfl))
  · cases h; exact fin ((zbind e0).trans ((zbind (zs2 (g1 (show 2 ≤ 3 by decide)) (g2 (Nat.le_refl _)))).trans rfl))
  · cases h; exact fin ((zbind e0).trans ((zbind (zs2 (g1 (show 2 ≤ 3 by decide)) (g2 (Nat.le_refl _)))).trans rfl))
  · cases h; exact fin ((zbind e0).trans ((zbind (zs2 (g1 (show 2 ≤ 3 by decide)) (g2 (Nat.le_refl _)))).trans rfl))
  · cases h; exact fin ((zbind e0).trans ((zbind (zs2 (g1 (show 2 ≤ 3 by decide)) (g2 (Nat.le_refl _)))).trans rfl))
  · cases h; exact fin ((zbind e0).trans ((zbind (zs2 (g1 (show 2 ≤ 3 by decide)) (g2 (Nat.le_refl _)))).trans rfl))
  · cases h; exact fin ((zbind e0).trans ((zbind (zs2 (g1 (show 2 ≤ 3 by decide)) (g2 (Nat.le_refl _)))).trans rfl))
  · cases h; exact fin ((zbind e0).trans ((zbind (zs2 (g1 (show 2 ≤ 3 by decide)) (g2 (Nat.le_refl _)))).trans rfl))
  · cases h; exact fin ((zbind e0).trans ((zbind (zs2 (g1 (show 2 ≤ 3 by decide)) (g2 (Nat.le_refl _)))).trans rfl))
  · cases h; exact fin ((zbind e0).trans ((zbind (zs2 (g1 (show 2 ≤ 3 by decide)) (g2 (Nat.le_refl _)))).trans rfl))
  · cases h; exact fin ((zbind e0).trans ((zbind (zs2 (g1 (show 2 ≤ 3 by decide)) (g2 (Nat.le_refl _)))).trans rfl))
  · cases h; exact fin ((zbind e0).trans ((zbind (zs2 (g1 (show 2 ≤ 3 by decide)) (g2 (Nat.le_refl _)))).trans rfl))
  · cases h; exact fin ((zbind e0).trans ((zbind (zs2 (g1 (show 2 ≤ 3 by decide)) (g2 (Nat.le_refl _)))).trans rfl))
  · cases h; exact fin ((zbind e0).trans rfl)
  · cases h; exact fin ((zbind e0).trans rfl)
  · cases h; exact fin ((zbind e0).trans rfl)
  · cases h; exact fin ((zbind e0).trans rfl)
  · cases h; exact fin ((zbind e0).trans ((zbind (zu2 (g1 (show 2 ≤ 3 by decide)) (g2 (Nat.le_refl _)))).trans rfl))
  · cases h; exact fin ((zbind e0).trans ((zbind (zu2 (g1 (show 2 ≤ 3 by decide)) (g2 (Nat.le_refl _)))).trans rfl))
  · cases h; exact fin ((zbind e0).trans ((zbind (zu2 (g1 (show 2 ≤ 3 by decide)) (g2 (Nat.le_refl _)))).trans rfl))
  · cases h; exact fin ((zbind e0).trans ((zbind (zu2 (g1 (show 2 ≤ 3 by decide)) (g2 (Nat.le_refl _)))).trans rfl))
  · cases h; exact fin ((zbind e0).trans ((zbind (zu2 (g1 (show 2 ≤ 3 by decide)) (g2 (Nat.le_refl _)))).trans rfl))
  · cases h; exact fin ((zbind e0).trans ((zbind (zu2 (g1 (show 2 ≤ 3 by decide)) (g2 (Nat.le_refl _)))).trans rfl))
  · cases h; exact fin ((zbind e0).trans ((zbind (zu2 (g1 (show 2 ≤ 3 by decide)) (g2 (Nat.le_refl _)))).trans rfl))
  · cases h; exact fin ((zbind e0).trans rfl)
  · split at h
    · rename_i h9
      cases h
      have e1 := zu1 (g1 (Nat.le_refl _))
      rw [h9] at e1
      exact fin ((zbind e0).trans ((zbind e1).trans rfl))
    · rename_i h9
      cases h
      have e1 := zu1 (g1 (Nat.le_refl _))
      rw [h9] at e1
      exact fin ((zbind e0).trans ((zbind e1).trans rfl))
    · rename_i h9
      cases h
      have e1 := zu1 (g1 (Nat.le_refl _))
      rw [h9] at e1
      exact fin ((zbind e0).trans ((zbind e1).trans rfl))
    · cases h
  · cases h
/-- the entries, in the order of their places, over what is left of the bytes from place q on -/
def zwalk (code : ByteArray) : List UInt8 → Nat → List zE → Bool
  | _, _, [] => true
  | bs, q, e :: es =>
    let bs' := bs.drop (e.1 - q)
    Nat.ble q e.1 && ((match bs' with
      | [] => false
      | [c0] => decide (zdb c0.toNat 0 0 = some (e.2.1, e.2.2.1 - e.1)) && Nat.beq (e.2.2.1 - e.1) 1
      | [c0, c1] => decide (zdb c0.toNat c1.toNat 0 = some (e.2.1, e.2.2.1 - e.1)) && Nat.ble (e.2.2.1 - e.1) 2
      | c0 :: c1 :: c2 :: _ => match e.2.1 with
        | .tableswitch _ _ _ _ => decide (decode code e.1 = .ok (e.2.1, e.2.2.1 - e.1))
        | _ => decide (zdb c0.toNat c1.toNat c2.toNat = some (e.2.1, e.2.2.1 - e.1))) && zwalk code bs' e.1 es)
theorem zwalk_ok {code : ByteArray} : ∀ (es : List zE) (bs : List UInt8) (q : Nat), code.data.toList.drop q = bs → zwalk code bs q es = true → ∀ e ∈ es, decode code e.1 = .ok (e.2.1, e.2.2.1 - e.1)
  | [], _, _, _, _, _, h => by cases h
  | e :: es, bs, q, hb, h, e', he' => by
    unfold zwalk at h
    simp only [Bool.and_eq_true] at h
    obtain ⟨h1, h2, h3⟩ := h
    have h1 := Nat.le_of_ble_eq_true h1
    have hd : code.data.toList.drop e.1 = bs.drop (e.1 - q) := by
      rw [← hb, List.drop_drop]
      congr 1
      omega
    rcases List.mem_cons.mp he' with rfl | he'
    · have at' : ∀ (k : Nat), code.data[e'.1 + k]? = (bs.drop (e'.1 - q))[k]? := by
        intro k
        rw [← hd, List.getElem?_drop, Array.getElem?_toList]
      split at h2
      · cases h2
      · rename_i c0 hc
        simp only [Bool.and_eq_true, decide_eq_true_eq] at h2
        have h4 := Nat.eq_of_beq_eq_true h2.2
        exact zdb_ok (c1 := 0) (c2 := 0) (by have := at' 0; rw [hc] at this; exact this) (fun ⟨r, g1, g2⟩ => by rw [show (0 : UInt8).toNat = 0 from rfl, h2.1] at g1; cases g1; exact absurd g2 (by show ¬ 2 ≤ e'.2.2.1 - e'.1; omega)) (fun ⟨r, g1, g2⟩ => by rw [show (0 : UInt8).toNat = 0 from rfl, h2.1] at g1; cases g1; exact absurd g2 (by show ¬ 3 ≤ e'.2.2.1 - e'.1; omega)) h2.1
      · rename_i c0 c1 hc
        simp only [Bool.and_eq_true, decide_eq_true_eq] at h2
        have h4 := Nat.le_of_ble_eq_true h2.2
        exact zdb_ok (c1 := c1) (c2 := 0) (by have := at' 0; rw [hc] at this; exact this) (fun _ => by have := at' 1; rw [hc] at this; exact this) (fun ⟨r, g1, g2⟩ => by rw [show (0 : UInt8).toNat = 0 from rfl, h2.1] at g1; cases g1; exact absurd g2 (by show ¬ 3 ≤ e'.2.2.1 - e'.1; omega)) h2.1
      · rename_i c0 c1 c2 bs3 hc
        split at h2
        · simpa using h2
        · simp only [decide_eq_true_eq] at h2
          exact zdb_ok (c1 := c1) (c2 := c2) (by have := at' 0; rw [hc] at this; exact this) (fun _ => by have := at' 1; rw [hc] at this; exact this) (fun _ => by have := at' 2; rw [hc] at this; exact this) h2
    · exact zwalk_ok es _ e.1 hd h3 e' he'
