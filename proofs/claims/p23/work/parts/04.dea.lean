/-- the code's byte at p -/
def bq (c : ByteArray) (p b : Nat) : Prop := (c.data.toList[p]?).map UInt8.toNat = some b
def nq : List Nat → Nat → Option Nat
  | [], _ => none
  | a :: _, 0 => some a
  | _ :: l, n + 1 => nq l n
theorem nq_eq : ∀ (w : List Nat) (i : Nat), nq w i = w[i]?
  | [], _ => rfl
  | _ :: _, 0 => rfl
  | _ :: l, n + 1 => nq_eq l n
theorem bq_in {c : ByteArray} {a n : Nat} {w : List Nat} (h : ((c.data.toList.drop a).take n).map UInt8.toNat = w) (i : Nat) {b : Nat} (e : nq w i = some b) : bq c (a + i) b := by
  rw [nq_eq, ← h, List.getElem?_map, List.getElem?_take] at e
  unfold bq
  by_cases hi : i < n
  · rw [if_pos hi, List.getElem?_drop] at e; exact e
  · rw [if_neg hi] at e; cases e
theorem bq_u1 {c : ByteArray} {p b : Nat} (h : bq c p b) : (Jvm.ClassFile.Reader.u1 : Jvm.ClassFile.Decoder Nat) c p = .ok (b, p + 1) := by
  unfold bq at h
  have hl : p < c.data.toList.length := by
    rcases Nat.lt_or_ge p c.data.toList.length with z | z
    · exact z
    · rw [List.getElem?_eq_none z] at h; cases h
  have hp : p < c.size := by first | exact hl | simpa using hl
  rw [List.getElem?_eq_getElem hl] at h
  have hb : (c[p]'hp).toNat = b := Option.some.inj h
  subst hb
  show (dite (p < c.size) (fun h => (do MonadStateOf.set (p + 1); Pure.pure (c[p]'h).toNat : Jvm.ClassFile.Decoder Nat)) (fun _ => MonadExcept.throw (Jvm.ClassFile.HasTruncated.truncated p))) c p = _
  rw [dif_pos hp]
  first | done | rfl
theorem bq_bind {α β : Type} {r : Jvm.ClassFile.Decoder α} {f : α → Jvm.ClassFile.Decoder β} {c : ByteArray} {p q : Nat} {a : α} (h : r c p = .ok (a, q)) : (r >>= f) c p = f a c q := by
  have e : (r >>= f) c p = Except.bind (r c p) (fun y => f y.1 c y.2) := by first | rfl | (show (do let (a, s) ← r c p; f a c s : Except Jvm.ClassFile.DecodeError (β × Nat)) = _; cases r c p <;> rfl)
  exact e.trans (by rw [h]; first | done | rfl)
theorem bq_map {α β : Type} {r : Jvm.ClassFile.Decoder α} {g : α → β} {c : ByteArray} {p q : Nat} {a : α} (h : r c p = .ok (a, q)) : (g <$> r) c p = .ok (g a, q) := by
  have e : (g <$> r) c p = Except.bind (r c p) (fun y => Except.ok (g y.1, y.2)) := by first | rfl | (show (do let (a, s) ← r c p; .ok (g a, s) : Except Jvm.ClassFile.DecodeError (β × Nat)) = _; cases r c p <;> rfl)
  exact e.trans (by rw [h]; first | done | rfl)
theorem bq_s1 {c : ByteArray} {p b : Nat} (h : bq c p b) : (Jvm.ClassFile.Reader.s1 : Jvm.ClassFile.Decoder Int) c p = .ok (Jvm.ClassFile.Reader.signed 8 b, p + 1) := by
  show ((Jvm.ClassFile.Reader.signed 8) <$> (Jvm.ClassFile.Reader.u1 : Jvm.ClassFile.Decoder Nat)) c p = _
  exact bq_map (r := (Jvm.ClassFile.Reader.u1 : Jvm.ClassFile.Decoder Nat)) (g := Jvm.ClassFile.Reader.signed 8) (bq_u1 h)
theorem bq_u2 {c : ByteArray} {p a b : Nat} (h : bq c p a) (h1 : bq c (p + 1) b) : (Jvm.ClassFile.Reader.u2 : Jvm.ClassFile.Decoder Nat) c p = .ok (a * 256 + b, p + 1 + 1) := by
  show ((Jvm.ClassFile.Reader.u1 : Jvm.ClassFile.Decoder Nat) >>= fun hi => ((Jvm.ClassFile.Reader.u1 : Jvm.ClassFile.Decoder Nat) >>= fun lo => (Pure.pure (hi * 256 + lo) : Jvm.ClassFile.Decoder Nat))) c p = _
  refine (bq_bind (bq_u1 h)).trans ?_
  refine (bq_bind (bq_u1 h1)).trans ?_
  rfl
theorem bq_s2 {c : ByteArray} {p a b : Nat} (h : bq c p a) (h1 : bq c (p + 1) b) : (Jvm.ClassFile.Reader.s2 : Jvm.ClassFile.Decoder Int) c p = .ok (Jvm.ClassFile.Reader.signed 16 (a * 256 + b), p + 1 + 1) := by
  show ((Jvm.ClassFile.Reader.signed 16) <$> (Jvm.ClassFile.Reader.u2 : Jvm.ClassFile.Decoder Nat)) c p = _
  exact bq_map (r := (Jvm.ClassFile.Reader.u2 : Jvm.ClassFile.Decoder Nat)) (g := Jvm.ClassFile.Reader.signed 16) (bq_u2 h h1)
theorem bq_op {c : ByteArray} {p b : Nat} {g : Jvm.ClassFile.Decoder Instr} (f : Nat → Jvm.ClassFile.Decoder Instr) (ef : Jvm.ClassFile.Decoder.instr p = ((Jvm.ClassFile.Reader.u1 : Jvm.ClassFile.Decoder Nat) >>= f)) (eg : f b = g) (h : bq c p b) : Jvm.ClassFile.Decoder.instr p c p = g c (p + 1) := by rw [ef, bq_bind (bq_u1 h), eg]
theorem bq_dec {c : ByteArray} {p n : Nat} {i : Instr} (h : Jvm.ClassFile.Decoder.instr p c p = .ok (i, p + n)) : decode c p = .ok (i, n) := by
  have e : decode c p = Except.bind (Jvm.ClassFile.Decoder.instr p c p) (fun y => Except.ok (y.1, y.2 - p)) := by first | rfl | (show (do let (j, s) ← Jvm.ClassFile.Decoder.instr p c p; Pure.pure (j, s - p) : Except Jvm.ClassFile.DecodeError (Instr × Nat)) = _; cases Jvm.ClassFile.Decoder.instr p c p <;> rfl)
  refine e.trans ?_
  rw [h]
  show Except.ok (i, p + n - p) = _
  rw [Nat.add_sub_cancel_left]
set_option maxRecDepth 100000 in
theorem oq_2 {c : ByteArray} {p : Nat} (h : bq c p 2) : decode c p = .ok (.iconst (-1), 1) := bq_dec ((bq_op (c := c) (p := p) (b := 2) (g := Pure.pure (.iconst (-1))) _ rfl rfl h).trans rfl)
set_option maxRecDepth 100000 in
theorem oq_3 {c : ByteArray} {p : Nat} (h : bq c p 3) : decode c p = .ok (.iconst 0, 1) := bq_dec ((bq_op (c := c) (p := p) (b := 3) (g := Pure.pure (.iconst 0)) _ rfl rfl h).trans rfl)
set_option maxRecDepth 100000 in
theorem oq_4 {c : ByteArray} {p : Nat} (h : bq c p 4) : decode c p = .ok (.iconst 1, 1) := bq_dec ((bq_op (c := c) (p := p) (b := 4) (g := Pure.pure (.iconst 1)) _ rfl rfl h).trans rfl)
set_option maxRecDepth 100000 in
theorem oq_5 {c : ByteArray} {p : Nat} (h : bq c p 5) : decode c p = .ok (.iconst 2, 1) := bq_dec ((bq_op (c := c) (p := p) (b := 5) (g := Pure.pure (.iconst 2)) _ rfl rfl h).trans rfl)
set_option maxRecDepth 100000 in
theorem oq_6 {c : ByteArray} {p : Nat} (h : bq c p 6) : decode c p = .ok (.iconst 3, 1) := bq_dec ((bq_op (c := c) (p := p) (b := 6) (g := Pure.pure (.iconst 3)) _ rfl rfl h).trans rfl)
set_option maxRecDepth 100000 in
theorem oq_7 {c : ByteArray} {p : Nat} (h : bq c p 7) : decode c p = .ok (.iconst 4, 1) := bq_dec ((bq_op (c := c) (p := p) (b := 7) (g := Pure.pure (.iconst 4)) _ rfl rfl h).trans rfl)
set_option maxRecDepth 100000 in
theorem oq_8 {c : ByteArray} {p : Nat} (h : bq c p 8) : decode c p = .ok (.iconst 5, 1) := bq_dec ((bq_op (c := c) (p := p) (b := 8) (g := Pure.pure (.iconst 5)) _ rfl rfl h).trans rfl)
set_option maxRecDepth 100000 in
theorem oq_9 {c : ByteArray} {p : Nat} (h : bq c p 9) : decode c p = .ok (.lconst 0, 1) := bq_dec ((bq_op (c := c) (p := p) (b := 9) (g := Pure.pure (.lconst 0)) _ rfl rfl h).trans rfl)
set_option maxRecDepth 100000 in
theorem oq_16 {c : ByteArray} {p a : Nat} {n : Int} (h : bq c p 16) (h1 : bq c (p + 1) a) (e : Jvm.ClassFile.Reader.signed 8 a = n) : decode c p = .ok (.bipush n, 2) := by
  subst e
  exact bq_dec ((bq_op (c := c) (p := p) (b := 16) (g := do Pure.pure (.bipush (← Jvm.ClassFile.Reader.s1))) _ rfl rfl h).trans ((bq_bind (bq_s1 h1)).trans rfl))
set_option maxRecDepth 100000 in
theorem oq_17 {c : ByteArray} {p a b : Nat} {n : Int} (h : bq c p 17) (h1 : bq c (p + 1) a) (h2 : bq c (p + 2) b) (e : Jvm.ClassFile.Reader.signed 16 (a * 256 + b) = n) : decode c p = .ok (.sipush n, 3) := by
  subst e
  exact bq_dec ((bq_op (c := c) (p := p) (b := 17) (g := do Pure.pure (.sipush (← Jvm.ClassFile.Reader.s2))) _ rfl rfl h).trans ((bq_bind (bq_s2 h1 h2)).trans rfl))
set_option maxRecDepth 100000 in
theorem oq_18 {c : ByteArray} {p a : Nat} (h : bq c p 18) (h1 : bq c (p + 1) a) : decode c p = .ok (.ldc a, 2) := bq_dec ((bq_op (c := c) (p := p) (b := 18) (g := do Pure.pure (.ldc (← Jvm.ClassFile.Reader.u1))) _ rfl rfl h).trans ((bq_bind (bq_u1 h1)).trans rfl))
set_option maxRecDepth 100000 in
theorem oq_19 {c : ByteArray} {p a b n : Nat} (h : bq c p 19) (h1 : bq c (p + 1) a) (h2 : bq c (p + 2) b) (e : a * 256 + b = n) : decode c p = .ok (.ldc_w n, 3) := by
  subst e
  exact bq_dec ((bq_op (c := c) (p := p) (b := 19) (g := do Pure.pure (.ldc_w (← Jvm.ClassFile.Reader.u2))) _ rfl rfl h).trans ((bq_bind (bq_u2 h1 h2)).trans rfl))
set_option maxRecDepth 100000 in
theorem oq_20 {c : ByteArray} {p a b n : Nat} (h : bq c p 20) (h1 : bq c (p + 1) a) (h2 : bq c (p + 2) b) (e : a * 256 + b = n) : decode c p = .ok (.ldc2_w n, 3) := by
  subst e
  exact bq_dec ((bq_op (c := c) (p := p) (b := 20) (g := do Pure.pure (.ldc2_w (← Jvm.ClassFile.Reader.u2))) _ rfl rfl h).trans ((bq_bind (bq_u2 h1 h2)).trans rfl))
set_option maxRecDepth 100000 in
theorem oq_21 {c : ByteArray} {p a : Nat} (h : bq c p 21) (h1 : bq c (p + 1) a) : decode c p = .ok (.iload a, 2) := bq_dec ((bq_op (c := c) (p := p) (b := 21) (g := do Pure.pure (.iload (← Jvm.ClassFile.Reader.u1))) _ rfl rfl h).trans ((bq_bind (bq_u1 h1)).trans rfl))
set_option maxRecDepth 100000 in
theorem oq_22 {c : ByteArray} {p a : Nat} (h : bq c p 22) (h1 : bq c (p + 1) a) : decode c p = .ok (.lload a, 2) := bq_dec ((bq_op (c := c) (p := p) (b := 22) (g := do Pure.pure (.lload (← Jvm.ClassFile.Reader.u1))) _ rfl rfl h).trans ((bq_bind (bq_u1 h1)).trans rfl))
set_option maxRecDepth 100000 in
theorem oq_25 {c : ByteArray} {p a : Nat} (h : bq c p 25) (h1 : bq c (p + 1) a) : decode c p = .ok (.aload a, 2) := bq_dec ((bq_op (c := c) (p := p) (b := 25) (g := do Pure.pure (.aload (← Jvm.ClassFile.Reader.u1))) _ rfl rfl h).trans ((bq_bind (bq_u1 h1)).trans rfl))
set_option maxRecDepth 100000 in
theorem oq_26 {c : ByteArray} {p : Nat} (h : bq c p 26) : decode c p = .ok (.iload_n 0, 1) := bq_dec ((bq_op (c := c) (p := p) (b := 26) (g := Pure.pure (.iload_n 0)) _ rfl rfl h).trans rfl)
set_option maxRecDepth 100000 in
theorem oq_27 {c : ByteArray} {p : Nat} (h : bq c p 27) : decode c p = .ok (.iload_n 1, 1) := bq_dec ((bq_op (c := c) (p := p) (b := 27) (g := Pure.pure (.iload_n 1)) _ rfl rfl h).trans rfl)
set_option maxRecDepth 100000 in
theorem oq_28 {c : ByteArray} {p : Nat} (h : bq c p 28) : decode c p = .ok (.iload_n 2, 1) := bq_dec ((bq_op (c := c) (p := p) (b := 28) (g := Pure.pure (.iload_n 2)) _ rfl rfl h).trans rfl)
set_option maxRecDepth 100000 in
theorem oq_29 {c : ByteArray} {p : Nat} (h : bq c p 29) : decode c p = .ok (.iload_n 3, 1) := bq_dec ((bq_op (c := c) (p := p) (b := 29) (g := Pure.pure (.iload_n 3)) _ rfl rfl h).trans rfl)
set_option maxRecDepth 100000 in
theorem oq_30 {c : ByteArray} {p : Nat} (h : bq c p 30) : decode c p = .ok (.lload_n 0, 1) := bq_dec ((bq_op (c := c) (p := p) (b := 30) (g := Pure.pure (.lload_n 0)) _ rfl rfl h).trans rfl)
set_option maxRecDepth 100000 in
theorem oq_31 {c : ByteArray} {p : Nat} (h : bq c p 31) : decode c p = .ok (.lload_n 1, 1) := bq_dec ((bq_op (c := c) (p := p) (b := 31) (g := Pure.pure (.lload_n 1)) _ rfl rfl h).trans rfl)
set_option maxRecDepth 100000 in
theorem oq_32 {c : ByteArray} {p : Nat} (h : bq c p 32) : decode c p = .ok (.lload_n 2, 1) := bq_dec ((bq_op (c := c) (p := p) (b := 32) (g := Pure.pure (.lload_n 2)) _ rfl rfl h).trans rfl)
set_option maxRecDepth 100000 in
theorem oq_33 {c : ByteArray} {p : Nat} (h : bq c p 33) : decode c p = .ok (.lload_n 3, 1) := bq_dec ((bq_op (c := c) (p := p) (b := 33) (g := Pure.pure (.lload_n 3)) _ rfl rfl h).trans rfl)
set_option maxRecDepth 100000 in
theorem oq_42 {c : ByteArray} {p : Nat} (h : bq c p 42) : decode c p = .ok (.aload_n 0, 1) := bq_dec ((bq_op (c := c) (p := p) (b := 42) (g := Pure.pure (.aload_n 0)) _ rfl rfl h).trans rfl)
set_option maxRecDepth 100000 in
theorem oq_43 {c : ByteArray} {p : Nat} (h : bq c p 43) : decode c p = .ok (.aload_n 1, 1) := bq_dec ((bq_op (c := c) (p := p) (b := 43) (g := Pure.pure (.aload_n 1)) _ rfl rfl h).trans rfl)
set_option maxRecDepth 100000 in
theorem oq_44 {c : ByteArray} {p : Nat} (h : bq c p 44) : decode c p = .ok (.aload_n 2, 1) := bq_dec ((bq_op (c := c) (p := p) (b := 44) (g := Pure.pure (.aload_n 2)) _ rfl rfl h).trans rfl)
set_option maxRecDepth 100000 in
theorem oq_45 {c : ByteArray} {p : Nat} (h : bq c p 45) : decode c p = .ok (.aload_n 3, 1) := bq_dec ((bq_op (c := c) (p := p) (b := 45) (g := Pure.pure (.aload_n 3)) _ rfl rfl h).trans rfl)
set_option maxRecDepth 100000 in
theorem oq_46 {c : ByteArray} {p : Nat} (h : bq c p 46) : decode c p = .ok (.iaload, 1) := bq_dec ((bq_op (c := c) (p := p) (b := 46) (g := Pure.pure (.iaload)) _ rfl rfl h).trans rfl)
set_option maxRecDepth 100000 in
theorem oq_50 {c : ByteArray} {p : Nat} (h : bq c p 50) : decode c p = .ok (.aaload, 1) := bq_dec ((bq_op (c := c) (p := p) (b := 50) (g := Pure.pure (.aaload)) _ rfl rfl h).trans rfl)
set_option maxRecDepth 100000 in
theorem oq_51 {c : ByteArray} {p : Nat} (h : bq c p 51) : decode c p = .ok (.baload, 1) := bq_dec ((bq_op (c := c) (p := p) (b := 51) (g := Pure.pure (.baload)) _ rfl rfl h).trans rfl)
set_option maxRecDepth 100000 in
theorem oq_52 {c : ByteArray} {p : Nat} (h : bq c p 52) : decode c p = .ok (.caload, 1) := bq_dec ((bq_op (c := c) (p := p) (b := 52) (g := Pure.pure (.caload)) _ rfl rfl h).trans rfl)
set_option maxRecDepth 100000 in
theorem oq_54 {c : ByteArray} {p a : Nat} (h : bq c p 54) (h1 : bq c (p + 1) a) : decode c p = .ok (.istore a, 2) := bq_dec ((bq_op (c := c) (p := p) (b := 54) (g := do Pure.pure (.istore (← Jvm.ClassFile.Reader.u1))) _ rfl rfl h).trans ((bq_bind (bq_u1 h1)).trans rfl))
set_option maxRecDepth 100000 in
theorem oq_55 {c : ByteArray} {p a : Nat} (h : bq c p 55) (h1 : bq c (p + 1) a) : decode c p = .ok (.lstore a, 2) := bq_dec ((bq_op (c := c) (p := p) (b := 55) (g := do Pure.pure (.lstore (← Jvm.ClassFile.Reader.u1))) _ rfl rfl h).trans ((bq_bind (bq_u1 h1)).trans rfl))
set_option maxRecDepth 100000 in
theorem oq_58 {c : ByteArray} {p a : Nat} (h : bq c p 58) (h1 : bq c (p + 1) a) : decode c p = .ok (.astore a, 2) := bq_dec ((bq_op (c := c) (p := p) (b := 58) (g := do Pure.pure (.astore (← Jvm.ClassFile.Reader.u1))) _ rfl rfl h).trans ((bq_bind (bq_u1 h1)).trans rfl))
set_option maxRecDepth 100000 in
theorem oq_59 {c : ByteArray} {p : Nat} (h : bq c p 59) : decode c p = .ok (.istore_n 0, 1) := bq_dec ((bq_op (c := c) (p := p) (b := 59) (g := Pure.pure (.istore_n 0)) _ rfl rfl h).trans rfl)
set_option maxRecDepth 100000 in
theorem oq_60 {c : ByteArray} {p : Nat} (h : bq c p 60) : decode c p = .ok (.istore_n 1, 1) := bq_dec ((bq_op (c := c) (p := p) (b := 60) (g := Pure.pure (.istore_n 1)) _ rfl rfl h).trans rfl)
set_option maxRecDepth 100000 in
theorem oq_61 {c : ByteArray} {p : Nat} (h : bq c p 61) : decode c p = .ok (.istore_n 2, 1) := bq_dec ((bq_op (c := c) (p := p) (b := 61) (g := Pure.pure (.istore_n 2)) _ rfl rfl h).trans rfl)
set_option maxRecDepth 100000 in
theorem oq_62 {c : ByteArray} {p : Nat} (h : bq c p 62) : decode c p = .ok (.istore_n 3, 1) := bq_dec ((bq_op (c := c) (p := p) (b := 62) (g := Pure.pure (.istore_n 3)) _ rfl rfl h).trans rfl)
set_option maxRecDepth 100000 in
theorem oq_64 {c : ByteArray} {p : Nat} (h : bq c p 64) : decode c p = .ok (.lstore_n 1, 1) := bq_dec ((bq_op (c := c) (p := p) (b := 64) (g := Pure.pure (.lstore_n 1)) _ rfl rfl h).trans rfl)
set_option maxRecDepth 100000 in
theorem oq_65 {c : ByteArray} {p : Nat} (h : bq c p 65) : decode c p = .ok (.lstore_n 2, 1) := bq_dec ((bq_op (c := c) (p := p) (b := 65) (g := Pure.pure (.lstore_n 2)) _ rfl rfl h).trans rfl)
set_option maxRecDepth 100000 in
theorem oq_66 {c : ByteArray} {p : Nat} (h : bq c p 66) : decode c p = .ok (.lstore_n 3, 1) := bq_dec ((bq_op (c := c) (p := p) (b := 66) (g := Pure.pure (.lstore_n 3)) _ rfl rfl h).trans rfl)
set_option maxRecDepth 100000 in
theorem oq_76 {c : ByteArray} {p : Nat} (h : bq c p 76) : decode c p = .ok (.astore_n 1, 1) := bq_dec ((bq_op (c := c) (p := p) (b := 76) (g := Pure.pure (.astore_n 1)) _ rfl rfl h).trans rfl)
set_option maxRecDepth 100000 in
theorem oq_77 {c : ByteArray} {p : Nat} (h : bq c p 77) : decode c p = .ok (.astore_n 2, 1) := bq_dec ((bq_op (c := c) (p := p) (b := 77) (g := Pure.pure (.astore_n 2)) _ rfl rfl h).trans rfl)
set_option maxRecDepth 100000 in
theorem oq_78 {c : ByteArray} {p : Nat} (h : bq c p 78) : decode c p = .ok (.astore_n 3, 1) := bq_dec ((bq_op (c := c) (p := p) (b := 78) (g := Pure.pure (.astore_n 3)) _ rfl rfl h).trans rfl)
set_option maxRecDepth 100000 in
theorem oq_79 {c : ByteArray} {p : Nat} (h : bq c p 79) : decode c p = .ok (.iastore, 1) := bq_dec ((bq_op (c := c) (p := p) (b := 79) (g := Pure.pure (.iastore)) _ rfl rfl h).trans rfl)
set_option maxRecDepth 100000 in
theorem oq_83 {c : ByteArray} {p : Nat} (h : bq c p 83) : decode c p = .ok (.aastore, 1) := bq_dec ((bq_op (c := c) (p := p) (b := 83) (g := Pure.pure (.aastore)) _ rfl rfl h).trans rfl)
set_option maxRecDepth 100000 in
theorem oq_84 {c : ByteArray} {p : Nat} (h : bq c p 84) : decode c p = .ok (.bastore, 1) := bq_dec ((bq_op (c := c) (p := p) (b := 84) (g := Pure.pure (.bastore)) _ rfl rfl h).trans rfl)
set_option maxRecDepth 100000 in
theorem oq_85 {c : ByteArray} {p : Nat} (h : bq c p 85) : decode c p = .ok (.castore, 1) := bq_dec ((bq_op (c := c) (p := p) (b := 85) (g := Pure.pure (.castore)) _ rfl rfl h).trans rfl)
set_option maxRecDepth 100000 in
theorem oq_87 {c : ByteArray} {p : Nat} (h : bq c p 87) : decode c p = .ok (.pop, 1) := bq_dec ((bq_op (c := c) (p := p) (b := 87) (g := Pure.pure (.pop)) _ rfl rfl h).trans rfl)
set_option maxRecDepth 100000 in
theorem oq_89 {c : ByteArray} {p : Nat} (h : bq c p 89) : decode c p = .ok (.dup, 1) := bq_dec ((bq_op (c := c) (p := p) (b := 89) (g := Pure.pure (.dup)) _ rfl rfl h).trans rfl)
set_option maxRecDepth 100000 in
theorem oq_92 {c : ByteArray} {p : Nat} (h : bq c p 92) : decode c p = .ok (.dup2, 1) := bq_dec ((bq_op (c := c) (p := p) (b := 92) (g := Pure.pure (.dup2)) _ rfl rfl h).trans rfl)
set_option maxRecDepth 100000 in
theorem oq_96 {c : ByteArray} {p : Nat} (h : bq c p 96) : decode c p = .ok (.iadd, 1) := bq_dec ((bq_op (c := c) (p := p) (b := 96) (g := Pure.pure (.iadd)) _ rfl rfl h).trans rfl)
set_option maxRecDepth 100000 in
theorem oq_97 {c : ByteArray} {p : Nat} (h : bq c p 97) : decode c p = .ok (.ladd, 1) := bq_dec ((bq_op (c := c) (p := p) (b := 97) (g := Pure.pure (.ladd)) _ rfl rfl h).trans rfl)
set_option maxRecDepth 100000 in
theorem oq_100 {c : ByteArray} {p : Nat} (h : bq c p 100) : decode c p = .ok (.isub, 1) := bq_dec ((bq_op (c := c) (p := p) (b := 100) (g := Pure.pure (.isub)) _ rfl rfl h).trans rfl)
set_option maxRecDepth 100000 in
theorem oq_104 {c : ByteArray} {p : Nat} (h : bq c p 104) : decode c p = .ok (.imul, 1) := bq_dec ((bq_op (c := c) (p := p) (b := 104) (g := Pure.pure (.imul)) _ rfl rfl h).trans rfl)
set_option maxRecDepth 100000 in
theorem oq_105 {c : ByteArray} {p : Nat} (h : bq c p 105) : decode c p = .ok (.lmul, 1) := bq_dec ((bq_op (c := c) (p := p) (b := 105) (g := Pure.pure (.lmul)) _ rfl rfl h).trans rfl)
set_option maxRecDepth 100000 in
theorem oq_108 {c : ByteArray} {p : Nat} (h : bq c p 108) : decode c p = .ok (.idiv, 1) := bq_dec ((bq_op (c := c) (p := p) (b := 108) (g := Pure.pure (.idiv)) _ rfl rfl h).trans rfl)
set_option maxRecDepth 100000 in
theorem oq_109 {c : ByteArray} {p : Nat} (h : bq c p 109) : decode c p = .ok (.ldiv, 1) := bq_dec ((bq_op (c := c) (p := p) (b := 109) (g := Pure.pure (.ldiv)) _ rfl rfl h).trans rfl)
set_option maxRecDepth 100000 in
theorem oq_112 {c : ByteArray} {p : Nat} (h : bq c p 112) : decode c p = .ok (.irem, 1) := bq_dec ((bq_op (c := c) (p := p) (b := 112) (g := Pure.pure (.irem)) _ rfl rfl h).trans rfl)
set_option maxRecDepth 100000 in
theorem oq_113 {c : ByteArray} {p : Nat} (h : bq c p 113) : decode c p = .ok (.lrem, 1) := bq_dec ((bq_op (c := c) (p := p) (b := 113) (g := Pure.pure (.lrem)) _ rfl rfl h).trans rfl)
set_option maxRecDepth 100000 in
theorem oq_120 {c : ByteArray} {p : Nat} (h : bq c p 120) : decode c p = .ok (.ishl, 1) := bq_dec ((bq_op (c := c) (p := p) (b := 120) (g := Pure.pure (.ishl)) _ rfl rfl h).trans rfl)
set_option maxRecDepth 100000 in
theorem oq_121 {c : ByteArray} {p : Nat} (h : bq c p 121) : decode c p = .ok (.lshl, 1) := bq_dec ((bq_op (c := c) (p := p) (b := 121) (g := Pure.pure (.lshl)) _ rfl rfl h).trans rfl)
set_option maxRecDepth 100000 in
theorem oq_122 {c : ByteArray} {p : Nat} (h : bq c p 122) : decode c p = .ok (.ishr, 1) := bq_dec ((bq_op (c := c) (p := p) (b := 122) (g := Pure.pure (.ishr)) _ rfl rfl h).trans rfl)
set_option maxRecDepth 100000 in
theorem oq_123 {c : ByteArray} {p : Nat} (h : bq c p 123) : decode c p = .ok (.lshr, 1) := bq_dec ((bq_op (c := c) (p := p) (b := 123) (g := Pure.pure (.lshr)) _ rfl rfl h).trans rfl)
set_option maxRecDepth 100000 in
theorem oq_124 {c : ByteArray} {p : Nat} (h : bq c p 124) : decode c p = .ok (.iushr, 1) := bq_dec ((bq_op (c := c) (p := p) (b := 124) (g := Pure.pure (.iushr)) _ rfl rfl h).trans rfl)
set_option maxRecDepth 100000 in
theorem oq_125 {c : ByteArray} {p : Nat} (h : bq c p 125) : decode c p = .ok (.lushr, 1) := bq_dec ((bq_op (c := c) (p := p) (b := 125) (g := Pure.pure (.lushr)) _ rfl rfl h).trans rfl)
set_option maxRecDepth 100000 in
theorem oq_126 {c : ByteArray} {p : Nat} (h : bq c p 126) : decode c p = .ok (.iand, 1) := bq_dec ((bq_op (c := c) (p := p) (b := 126) (g := Pure.pure (.iand)) _ rfl rfl h).trans rfl)
set_option maxRecDepth 100000 in
theorem oq_127 {c : ByteArray} {p : Nat} (h : bq c p 127) : decode c p = .ok (.land, 1) := bq_dec ((bq_op (c := c) (p := p) (b := 127) (g := Pure.pure (.land)) _ rfl rfl h).trans rfl)
set_option maxRecDepth 100000 in
theorem oq_128 {c : ByteArray} {p : Nat} (h : bq c p 128) : decode c p = .ok (.ior, 1) := bq_dec ((bq_op (c := c) (p := p) (b := 128) (g := Pure.pure (.ior)) _ rfl rfl h).trans rfl)
set_option maxRecDepth 100000 in
theorem oq_129 {c : ByteArray} {p : Nat} (h : bq c p 129) : decode c p = .ok (.lor, 1) := bq_dec ((bq_op (c := c) (p := p) (b := 129) (g := Pure.pure (.lor)) _ rfl rfl h).trans rfl)
set_option maxRecDepth 100000 in
theorem oq_130 {c : ByteArray} {p : Nat} (h : bq c p 130) : decode c p = .ok (.ixor, 1) := bq_dec ((bq_op (c := c) (p := p) (b := 130) (g := Pure.pure (.ixor)) _ rfl rfl h).trans rfl)
set_option maxRecDepth 100000 in
theorem oq_132 {c : ByteArray} {p a b : Nat} {n : Int} (h : bq c p 132) (h1 : bq c (p + 1) a) (h2 : bq c (p + 2) b) (e : Jvm.ClassFile.Reader.signed 8 b = n) : decode c p = .ok (.iinc a n, 3) := by
  subst e
  exact bq_dec ((bq_op (c := c) (p := p) (b := 132) (g := do Pure.pure (.iinc (← Jvm.ClassFile.Reader.u1) (← Jvm.ClassFile.Reader.s1))) _ rfl rfl h).trans ((bq_bind (bq_u1 h1)).trans ((bq_bind (bq_s1 h2)).trans rfl)))
set_option maxRecDepth 100000 in
theorem oq_133 {c : ByteArray} {p : Nat} (h : bq c p 133) : decode c p = .ok (.i2l, 1) := bq_dec ((bq_op (c := c) (p := p) (b := 133) (g := Pure.pure (.i2l)) _ rfl rfl h).trans rfl)
set_option maxRecDepth 100000 in
theorem oq_136 {c : ByteArray} {p : Nat} (h : bq c p 136) : decode c p = .ok (.l2i, 1) := bq_dec ((bq_op (c := c) (p := p) (b := 136) (g := Pure.pure (.l2i)) _ rfl rfl h).trans rfl)
set_option maxRecDepth 100000 in
theorem oq_146 {c : ByteArray} {p : Nat} (h : bq c p 146) : decode c p = .ok (.i2c, 1) := bq_dec ((bq_op (c := c) (p := p) (b := 146) (g := Pure.pure (.i2c)) _ rfl rfl h).trans rfl)
set_option maxRecDepth 100000 in
theorem oq_148 {c : ByteArray} {p : Nat} (h : bq c p 148) : decode c p = .ok (.lcmp, 1) := bq_dec ((bq_op (c := c) (p := p) (b := 148) (g := Pure.pure (.lcmp)) _ rfl rfl h).trans rfl)
set_option maxRecDepth 100000 in
theorem oq_153 {c : ByteArray} {p a b : Nat} {n : Int} (h : bq c p 153) (h1 : bq c (p + 1) a) (h2 : bq c (p + 2) b) (e : Jvm.ClassFile.Reader.signed 16 (a * 256 + b) = n) : decode c p = .ok (.ifCond .eq n, 3) := by
  subst e
  exact bq_dec ((bq_op (c := c) (p := p) (b := 153) (g := do Pure.pure (.ifCond .eq (← Jvm.ClassFile.Reader.s2))) _ rfl rfl h).trans ((bq_bind (bq_s2 h1 h2)).trans rfl))
set_option maxRecDepth 100000 in
theorem oq_154 {c : ByteArray} {p a b : Nat} {n : Int} (h : bq c p 154) (h1 : bq c (p + 1) a) (h2 : bq c (p + 2) b) (e : Jvm.ClassFile.Reader.signed 16 (a * 256 + b) = n) : decode c p = .ok (.ifCond .ne n, 3) := by
  subst e
  exact bq_dec ((bq_op (c := c) (p := p) (b := 154) (g := do Pure.pure (.ifCond .ne (← Jvm.ClassFile.Reader.s2))) _ rfl rfl h).trans ((bq_bind (bq_s2 h1 h2)).trans rfl))
set_option maxRecDepth 100000 in
theorem oq_155 {c : ByteArray} {p a b : Nat} {n : Int} (h : bq c p 155) (h1 : bq c (p + 1) a) (h2 : bq c (p + 2) b) (e : Jvm.ClassFile.Reader.signed 16 (a * 256 + b) = n) : decode c p = .ok (.ifCond .lt n, 3) := by
  subst e
  exact bq_dec ((bq_op (c := c) (p := p) (b := 155) (g := do Pure.pure (.ifCond .lt (← Jvm.ClassFile.Reader.s2))) _ rfl rfl h).trans ((bq_bind (bq_s2 h1 h2)).trans rfl))
set_option maxRecDepth 100000 in
theorem oq_156 {c : ByteArray} {p a b : Nat} {n : Int} (h : bq c p 156) (h1 : bq c (p + 1) a) (h2 : bq c (p + 2) b) (e : Jvm.ClassFile.Reader.signed 16 (a * 256 + b) = n) : decode c p = .ok (.ifCond .ge n, 3) := by
  subst e
  exact bq_dec ((bq_op (c := c) (p := p) (b := 156) (g := do Pure.pure (.ifCond .ge (← Jvm.ClassFile.Reader.s2))) _ rfl rfl h).trans ((bq_bind (bq_s2 h1 h2)).trans rfl))
set_option maxRecDepth 100000 in
theorem oq_157 {c : ByteArray} {p a b : Nat} {n : Int} (h : bq c p 157) (h1 : bq c (p + 1) a) (h2 : bq c (p + 2) b) (e : Jvm.ClassFile.Reader.signed 16 (a * 256 + b) = n) : decode c p = .ok (.ifCond .gt n, 3) := by
  subst e
  exact bq_dec ((bq_op (c := c) (p := p) (b := 157) (g := do Pure.pure (.ifCond .gt (← Jvm.ClassFile.Reader.s2))) _ rfl rfl h).trans ((bq_bind (bq_s2 h1 h2)).trans rfl))
set_option maxRecDepth 100000 in
theorem oq_158 {c : ByteArray} {p a b : Nat} {n : Int} (h : bq c p 158) (h1 : bq c (p + 1) a) (h2 : bq c (p + 2) b) (e : Jvm.ClassFile.Reader.signed 16 (a * 256 + b) = n) : decode c p = .ok (.ifCond .le n, 3) := by
  subst e
  exact bq_dec ((bq_op (c := c) (p := p) (b := 158) (g := do Pure.pure (.ifCond .le (← Jvm.ClassFile.Reader.s2))) _ rfl rfl h).trans ((bq_bind (bq_s2 h1 h2)).trans rfl))
set_option maxRecDepth 100000 in
theorem oq_159 {c : ByteArray} {p a b : Nat} {n : Int} (h : bq c p 159) (h1 : bq c (p + 1) a) (h2 : bq c (p + 2) b) (e : Jvm.ClassFile.Reader.signed 16 (a * 256 + b) = n) : decode c p = .ok (.if_icmp .eq n, 3) := by
  subst e
  exact bq_dec ((bq_op (c := c) (p := p) (b := 159) (g := do Pure.pure (.if_icmp .eq (← Jvm.ClassFile.Reader.s2))) _ rfl rfl h).trans ((bq_bind (bq_s2 h1 h2)).trans rfl))
set_option maxRecDepth 100000 in
theorem oq_160 {c : ByteArray} {p a b : Nat} {n : Int} (h : bq c p 160) (h1 : bq c (p + 1) a) (h2 : bq c (p + 2) b) (e : Jvm.ClassFile.Reader.signed 16 (a * 256 + b) = n) : decode c p = .ok (.if_icmp .ne n, 3) := by
  subst e
  exact bq_dec ((bq_op (c := c) (p := p) (b := 160) (g := do Pure.pure (.if_icmp .ne (← Jvm.ClassFile.Reader.s2))) _ rfl rfl h).trans ((bq_bind (bq_s2 h1 h2)).trans rfl))
set_option maxRecDepth 100000 in
theorem oq_161 {c : ByteArray} {p a b : Nat} {n : Int} (h : bq c p 161) (h1 : bq c (p + 1) a) (h2 : bq c (p + 2) b) (e : Jvm.ClassFile.Reader.signed 16 (a * 256 + b) = n) : decode c p = .ok (.if_icmp .lt n, 3) := by
  subst e
  exact bq_dec ((bq_op (c := c) (p := p) (b := 161) (g := do Pure.pure (.if_icmp .lt (← Jvm.ClassFile.Reader.s2))) _ rfl rfl h).trans ((bq_bind (bq_s2 h1 h2)).trans rfl))
set_option maxRecDepth 100000 in
theorem oq_162 {c : ByteArray} {p a b : Nat} {n : Int} (h : bq c p 162) (h1 : bq c (p + 1) a) (h2 : bq c (p + 2) b) (e : Jvm.ClassFile.Reader.signed 16 (a * 256 + b) = n) : decode c p = .ok (.if_icmp .ge n, 3) := by
  subst e
  exact bq_dec ((bq_op (c := c) (p := p) (b := 162) (g := do Pure.pure (.if_icmp .ge (← Jvm.ClassFile.Reader.s2))) _ rfl rfl h).trans ((bq_bind (bq_s2 h1 h2)).trans rfl))
set_option maxRecDepth 100000 in
theorem oq_163 {c : ByteArray} {p a b : Nat} {n : Int} (h : bq c p 163) (h1 : bq c (p + 1) a) (h2 : bq c (p + 2) b) (e : Jvm.ClassFile.Reader.signed 16 (a * 256 + b) = n) : decode c p = .ok (.if_icmp .gt n, 3) := by
  subst e
  exact bq_dec ((bq_op (c := c) (p := p) (b := 163) (g := do Pure.pure (.if_icmp .gt (← Jvm.ClassFile.Reader.s2))) _ rfl rfl h).trans ((bq_bind (bq_s2 h1 h2)).trans rfl))
set_option maxRecDepth 100000 in
theorem oq_164 {c : ByteArray} {p a b : Nat} {n : Int} (h : bq c p 164) (h1 : bq c (p + 1) a) (h2 : bq c (p + 2) b) (e : Jvm.ClassFile.Reader.signed 16 (a * 256 + b) = n) : decode c p = .ok (.if_icmp .le n, 3) := by
  subst e
  exact bq_dec ((bq_op (c := c) (p := p) (b := 164) (g := do Pure.pure (.if_icmp .le (← Jvm.ClassFile.Reader.s2))) _ rfl rfl h).trans ((bq_bind (bq_s2 h1 h2)).trans rfl))
set_option maxRecDepth 100000 in
theorem oq_167 {c : ByteArray} {p a b : Nat} {n : Int} (h : bq c p 167) (h1 : bq c (p + 1) a) (h2 : bq c (p + 2) b) (e : Jvm.ClassFile.Reader.signed 16 (a * 256 + b) = n) : decode c p = .ok (.goto n, 3) := by
  subst e
  exact bq_dec ((bq_op (c := c) (p := p) (b := 167) (g := do Pure.pure (.goto (← Jvm.ClassFile.Reader.s2))) _ rfl rfl h).trans ((bq_bind (bq_s2 h1 h2)).trans rfl))
set_option maxRecDepth 100000 in
theorem oq_172 {c : ByteArray} {p : Nat} (h : bq c p 172) : decode c p = .ok (.ireturn, 1) := bq_dec ((bq_op (c := c) (p := p) (b := 172) (g := Pure.pure (.ireturn)) _ rfl rfl h).trans rfl)
set_option maxRecDepth 100000 in
theorem oq_173 {c : ByteArray} {p : Nat} (h : bq c p 173) : decode c p = .ok (.lreturn, 1) := bq_dec ((bq_op (c := c) (p := p) (b := 173) (g := Pure.pure (.lreturn)) _ rfl rfl h).trans rfl)
set_option maxRecDepth 100000 in
theorem oq_176 {c : ByteArray} {p : Nat} (h : bq c p 176) : decode c p = .ok (.areturn, 1) := bq_dec ((bq_op (c := c) (p := p) (b := 176) (g := Pure.pure (.areturn)) _ rfl rfl h).trans rfl)
set_option maxRecDepth 100000 in
theorem oq_177 {c : ByteArray} {p : Nat} (h : bq c p 177) : decode c p = .ok (.return_, 1) := bq_dec ((bq_op (c := c) (p := p) (b := 177) (g := Pure.pure (.return_)) _ rfl rfl h).trans rfl)
set_option maxRecDepth 100000 in
theorem oq_178 {c : ByteArray} {p a b n : Nat} (h : bq c p 178) (h1 : bq c (p + 1) a) (h2 : bq c (p + 2) b) (e : a * 256 + b = n) : decode c p = .ok (.getstatic n, 3) := by
  subst e
  exact bq_dec ((bq_op (c := c) (p := p) (b := 178) (g := do Pure.pure (.getstatic (← Jvm.ClassFile.Reader.u2))) _ rfl rfl h).trans ((bq_bind (bq_u2 h1 h2)).trans rfl))
set_option maxRecDepth 100000 in
theorem oq_180 {c : ByteArray} {p a b n : Nat} (h : bq c p 180) (h1 : bq c (p + 1) a) (h2 : bq c (p + 2) b) (e : a * 256 + b = n) : decode c p = .ok (.getfield n, 3) := by
  subst e
  exact bq_dec ((bq_op (c := c) (p := p) (b := 180) (g := do Pure.pure (.getfield (← Jvm.ClassFile.Reader.u2))) _ rfl rfl h).trans ((bq_bind (bq_u2 h1 h2)).trans rfl))
set_option maxRecDepth 100000 in
theorem oq_181 {c : ByteArray} {p a b n : Nat} (h : bq c p 181) (h1 : bq c (p + 1) a) (h2 : bq c (p + 2) b) (e : a * 256 + b = n) : decode c p = .ok (.putfield n, 3) := by
  subst e
  exact bq_dec ((bq_op (c := c) (p := p) (b := 181) (g := do Pure.pure (.putfield (← Jvm.ClassFile.Reader.u2))) _ rfl rfl h).trans ((bq_bind (bq_u2 h1 h2)).trans rfl))
set_option maxRecDepth 100000 in
theorem oq_182 {c : ByteArray} {p a b n : Nat} (h : bq c p 182) (h1 : bq c (p + 1) a) (h2 : bq c (p + 2) b) (e : a * 256 + b = n) : decode c p = .ok (.invokevirtual n, 3) := by
  subst e
  exact bq_dec ((bq_op (c := c) (p := p) (b := 182) (g := do Pure.pure (.invokevirtual (← Jvm.ClassFile.Reader.u2))) _ rfl rfl h).trans ((bq_bind (bq_u2 h1 h2)).trans rfl))
set_option maxRecDepth 100000 in
theorem oq_183 {c : ByteArray} {p a b n : Nat} (h : bq c p 183) (h1 : bq c (p + 1) a) (h2 : bq c (p + 2) b) (e : a * 256 + b = n) : decode c p = .ok (.invokespecial n, 3) := by
  subst e
  exact bq_dec ((bq_op (c := c) (p := p) (b := 183) (g := do Pure.pure (.invokespecial (← Jvm.ClassFile.Reader.u2))) _ rfl rfl h).trans ((bq_bind (bq_u2 h1 h2)).trans rfl))
set_option maxRecDepth 100000 in
theorem oq_184 {c : ByteArray} {p a b n : Nat} (h : bq c p 184) (h1 : bq c (p + 1) a) (h2 : bq c (p + 2) b) (e : a * 256 + b = n) : decode c p = .ok (.invokestatic n, 3) := by
  subst e
  exact bq_dec ((bq_op (c := c) (p := p) (b := 184) (g := do Pure.pure (.invokestatic (← Jvm.ClassFile.Reader.u2))) _ rfl rfl h).trans ((bq_bind (bq_u2 h1 h2)).trans rfl))
set_option maxRecDepth 100000 in
theorem oq_187 {c : ByteArray} {p a b n : Nat} (h : bq c p 187) (h1 : bq c (p + 1) a) (h2 : bq c (p + 2) b) (e : a * 256 + b = n) : decode c p = .ok (.new n, 3) := by
  subst e
  exact bq_dec ((bq_op (c := c) (p := p) (b := 187) (g := do Pure.pure (.new (← Jvm.ClassFile.Reader.u2))) _ rfl rfl h).trans ((bq_bind (bq_u2 h1 h2)).trans rfl))
set_option maxRecDepth 100000 in
theorem oq_189 {c : ByteArray} {p a b n : Nat} (h : bq c p 189) (h1 : bq c (p + 1) a) (h2 : bq c (p + 2) b) (e : a * 256 + b = n) : decode c p = .ok (.anewarray n, 3) := by
  subst e
  exact bq_dec ((bq_op (c := c) (p := p) (b := 189) (g := do Pure.pure (.anewarray (← Jvm.ClassFile.Reader.u2))) _ rfl rfl h).trans ((bq_bind (bq_u2 h1 h2)).trans rfl))
set_option maxRecDepth 100000 in
theorem oq_190 {c : ByteArray} {p : Nat} (h : bq c p 190) : decode c p = .ok (.arraylength, 1) := bq_dec ((bq_op (c := c) (p := p) (b := 190) (g := Pure.pure (.arraylength)) _ rfl rfl h).trans rfl)
set_option maxRecDepth 100000 in
theorem oq_191 {c : ByteArray} {p : Nat} (h : bq c p 191) : decode c p = .ok (.athrow, 1) := bq_dec ((bq_op (c := c) (p := p) (b := 191) (g := Pure.pure (.athrow)) _ rfl rfl h).trans rfl)
set_option maxRecDepth 100000 in
theorem oq_198 {c : ByteArray} {p a b : Nat} {n : Int} (h : bq c p 198) (h1 : bq c (p + 1) a) (h2 : bq c (p + 2) b) (e : Jvm.ClassFile.Reader.signed 16 (a * 256 + b) = n) : decode c p = .ok (.ifnull n, 3) := by
  subst e
  exact bq_dec ((bq_op (c := c) (p := p) (b := 198) (g := do Pure.pure (.ifnull (← Jvm.ClassFile.Reader.s2))) _ rfl rfl h).trans ((bq_bind (bq_s2 h1 h2)).trans rfl))
set_option maxRecDepth 100000 in
theorem oq_199 {c : ByteArray} {p a b : Nat} {n : Int} (h : bq c p 199) (h1 : bq c (p + 1) a) (h2 : bq c (p + 2) b) (e : Jvm.ClassFile.Reader.signed 16 (a * 256 + b) = n) : decode c p = .ok (.ifnonnull n, 3) := by
  subst e
  exact bq_dec ((bq_op (c := c) (p := p) (b := 199) (g := do Pure.pure (.ifnonnull (← Jvm.ClassFile.Reader.s2))) _ rfl rfl h).trans ((bq_bind (bq_s2 h1 h2)).trans rfl))
