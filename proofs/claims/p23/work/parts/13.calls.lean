/-! ===== contracts over the pool; Z: what is said of constants (static rows, texts), kept by all ===== -/
abbrev Zt : Type := (Nat → Prop) → State → Heap → Prop
/-- the calendar's row, as the JVM has it -/
def cyc : List Int := [0, 31, 60, 91, 121, 152, 182, 213, 244, 274, 305, 335, 366, 397, 425, 456, 486, 517, 547, 578, 609, 639, 670, 700, 731, 762, 790, 821, 851, 882, 912, 943, 974, 1004, 1035, 1065, 1096, 1127, 1155, 1186, 1216, 1247, 1277, 1308, 1339, 1369, 1400, 1430]
def ZC : Zt := fun A U H => ∃ t : Nat, va_Z RX1 "CYCLE" "[I" (.ref t) A U H ∧ va_T .int t 48 (fun j => .int (iI (cyc.getD j 0))) A U H
def nwl : List Cond := [.fieldLinkNest RX9 166 "BookIndex$Shelf" "size" "I" "BookIndex", .methodLinkNest RX5 152 yX1_daysOfMonth "BookIndex", .methodLinkNest RX5 157 yX1_monthNumber "BookIndex", .methodLinkNest RX5 160 yX1_monthStart "BookIndex", .methodLinkNest RX8 24 yX1_weekdayOf "BookIndex", .methodLinkNest RX3 21 yX1_monthOf "BookIndex", .methodLinkNest RX3 30 yX1_monthStart "BookIndex", .methodLinkNest RX3 51 yX1_weekdayOf "BookIndex", .methodLinkNest RX9 61 yX1_daysOfMonth "BookIndex", .methodLinkNest RX9 67 yX1_monthNumber "BookIndex", .methodLinkNest RX9 70 yX1_monthStart "BookIndex", .methodLinkNest RX9 77 yX1_monthOf "BookIndex", .methodLinkNest RX9 80 yX1_weekdayOf "BookIndex", .methodLinkNest RX0 94 yX9_isDay "BookIndex", .methodLinkNest RX3 58 yX9_commonMultiple "BookIndex", .declares ⟨"BookIndex$Rule", "dayFrom", "(I)I"⟩, .declares ⟨"BookIndex$Rule", "dayTo", "(I)I"⟩, .declares ⟨"BookIndex$Rule", "daysIn", "(II)I"⟩, .declares ⟨"BookIndex$Rule", "cycle", "()J"⟩, .arrayOver (.object "BookIndex$Booking"), .arrayOver (.object "BookIndex$Shelf")]
def ZN (U : State) : Prop := ∀ w ∈ nwl, va_Nw w U
/-- the texts: class, entry, text, bytes -/
def stl : List (String × Nat × String × List Int32) := [(RX9, 134, "no such occurrence", [110, 111, 32, 115, 117, 99, 104, 32, 111, 99, 99, 117, 114, 114, 101, 110, 99, 101]), (RX5, 72, "book", [98, 111, 111, 107]), (RX5, 84, "at", [97, 116]), (RX5, 89, "for", [102, 111, 114]), (RX5, 92, "once", [111, 110, 99, 101]), (RX5, 97, "every", [101, 118, 101, 114, 121]), (RX5, 98, "days", [100, 97, 121, 115]), (RX5, 100, "years", [121, 101, 97, 114, 115]), (RX5, 102, "weeks", [119, 101, 101, 107, 115]), (RX5, 107, "months", [109, 111, 110, 116, 104, 115]), (RX5, 116, "on", [111, 110]), (RX5, 118, "end", [101, 110, 100]), (RX5, 120, "nth", [110, 116, 104]), (RX5, 125, "last", [108, 97, 115, 116]), (RX5, 127, "from", [102, 114, 111, 109]), (RX5, 140, "times", [116, 105, 109, 101, 115]), (RX5, 144, "until", [117, 110, 116, 105, 108]), (RX5, 192, "montuewedthufrisatsun", [109, 111, 110, 116, 117, 101, 119, 101, 100, 116, 104, 117, 102, 114, 105, 115, 97, 116, 115, 117, 110]), (RX10, 140, "mon", [109, 111, 110]), (RX10, 142, "tue", [116, 117, 101]), (RX10, 144, "wed", [119, 101, 100]), (RX10, 146, "thu", [116, 104, 117]), (RX10, 148, "fri", [102, 114, 105]), (RX10, 150, "sat", [115, 97, 116]), (RX10, 152, "sun", [115, 117, 110]), (RX10, 167, "once", [111, 110, 99, 101]), (RX10, 169, "every", [101, 118, 101, 114, 121]), (RX10, 175, "days", [100, 97, 121, 115]), (RX10, 177, "weeks", [119, 101, 101, 107, 115]), (RX10, 182, "months", [109, 111, 110, 116, 104, 115]), (RX10, 187, "years", [121, 101, 97, 114, 115]), (RX10, 189, "on", [111, 110]), (RX10, 191, "end", [101, 110, 100]), (RX10, 193, "nth", [110, 116, 104]), (RX10, 198, "last", [108, 97, 115, 116]), (RX10, 200, "until", [117, 110, 116, 105, 108]), (RX10, 205, "times", [116, 105, 109, 101, 115]), (RX10, 206, "book", [98, 111, 111, 107]), (RX10, 208, "at", [97, 116]), (RX10, 210, "for", [102, 111, 114]), (RX10, 215, "from", [102, 114, 111, 109])]
/-- a String of these bytes -/
def Tx (b : List Int32) (q v : Nat) : Zt := fun A U H => va_O "java/lang/String" q A U H ∧ va_OF "java/lang/String" "coder" "B" (.int 0) q A U H ∧ va_OF "java/lang/String" "value" "[B" (.ref v) q A U H ∧ va_T .byte v b.length (fun j => .int (b.getD j 0)) A U H
def ZT (Z : Zt) : Prop := ∀ w ∈ stl, ∃ q v : Nat, ∀ (A : Nat → Prop) (U : State) (H : Heap), Z A U H → vk_R w.1 w.2.1 w.2.2.1 q U ∧ Tx w.2.2.2 q v A U H
def ZX : Zt := fun A U H => va_Z "java/lang/String" "COMPACT_STRINGS" "Z" (.int 1) A U H ∧ va_Zq "jdk/internal/util/Preconditions" "SIOOBE_FORMATTER" "Ljava/util/function/BiFunction;" A U H ∧ vx_Zq Bundle.tN "UNASSIGNED_STACK" Bundle.steD A U H ∧ vx_Zq Bundle.tN "SUPPRESSED_SENTINEL" Bundle.listD A U H
def Zok (Z : Zt) : Prop := ((∀ (A : Nat → Prop) (u U : State) (H : Heap), U.vm = u.vm → Z A u H → Z A U H) ∧ ZT Z ∧ ∀ (A : Nat → Prop) (U : State) (H : Heap), Z A U H → ZX A U H) ∧ (∀ (A : Nat → Prop) (u U : State) (H : Heap), u.WarmedH U.vm → Z A u H → Z A U H) ∧ (∀ (A : Nat → Prop) (U : State) (H H1 : Heap), Z A U H → (∀ a : Nat, a < H.size → ¬ A a → H1[a]? = H[a]?) → Z A U H1) ∧ (∀ (A B : Nat → Prop) (U : State) (H : Heap), Z A U H → (∀ q, B q → A q) → Z B U H) ∧ (∀ (A : Nat → Prop) (U : State) (H : Heap), Z A U H → ZC A U H ∧ ZN U)
def P0 (Z : Zt) (D : va_G) (tys : List (ClassId × FieldType)) (L : List Nat) (f : Nat → va_E) (sz : Nat) (U : State) : Prop := U.heap.size = sz ∧ va_P D vwCl (va_pl L f) U.heap ∧ va_K D vwCl tys U ∧ va_D (fun _ => True) (va_pl L f) ∧ Z (va_A (va_pl L f) sz) U U.heap
def B0 (D : va_G) (tys : List (ClassId × FieldType)) (L : List Nat) (f : Nat → va_E) (sz : Nat) (u : List Nat × (Nat → va_E)) (t : State) : Prop := va_P D vwCl (va_pl u.1 u.2) t.heap ∧ va_K D vwCl tys t ∧ va_D (va_A (va_pl L f) sz) (va_pl u.1 u.2)
def lJ (x : Int) : Int64 := Int64.ofInt x
abbrev rgl (x : Int) : Prop := -9223372036854775808 ≤ x ∧ x ≤ 9223372036854775807
def Qi (D : va_G) (tys : List (ClassId × FieldType)) (L : List Nat) (f : Nat → va_E) (sz : Nat) (Post : Int → List Nat → (Nat → va_E) → Prop) : Array Value → State → Outcome → State → Prop := va_Qi (fun r (u : List Nat × (Nat → va_E)) => ∃ x : Int, r = iI x ∧ rg x ∧ Post x u.1 u.2) (B0 D tys L f sz) (va_A (va_pl L f) sz)
def Ql (D : va_G) (tys : List (ClassId × FieldType)) (L : List Nat) (f : Nat → va_E) (sz : Nat) (Post : Int → List Nat → (Nat → va_E) → Prop) : Array Value → State → Outcome → State → Prop := va_Ql (fun r (u : List Nat × (Nat → va_E)) => ∃ x : Int, r = lJ x ∧ rgl x ∧ Post x u.1 u.2) (B0 D tys L f sz) (va_A (va_pl L f) sz)
def Qv (D : va_G) (tys : List (ClassId × FieldType)) (L : List Nat) (f : Nat → va_E) (sz : Nat) (Post : List Nat → (Nat → va_E) → Prop) : Array Value → State → Outcome → State → Prop := va_Qv (fun (u : List Nat × (Nat → va_E)) => Post u.1 u.2) (B0 D tys L f sz) (va_A (va_pl L f) sz)
def Qr (D : va_G) (tys : List (ClassId × FieldType)) (L : List Nat) (f : Nat → va_E) (sz : Nat) (Post : Nat → List Nat → (Nat → va_E) → Prop) : Array Value → State → Outcome → State → Prop := va_Qr (fun (_ : List Nat × (Nat → va_E)) => True) (fun u r t => Post r u.1 u.2 ∧ B0 D tys L f sz u t) (va_A (va_pl L f) sz)
def Ci (Z : Zt) (l : Launch) (y : MethodName) (ws : List Cond) (rm : Room) (mc ms : Nat) (D : va_G) (tys : List (ClassId × FieldType)) (av : List Value) (L : List Nat) (f : Nat → va_E) (Post : Int → List Nat → (Nat → va_E) → Prop) : Prop := ∀ sz : Nat, Met l y ws rm (va_Pc av (P0 Z D tys L f sz)) (Qi D tys L f sz Post) mc ms (va_A (va_pl L f) sz)
def Cl (Z : Zt) (l : Launch) (y : MethodName) (ws : List Cond) (rm : Room) (mc ms : Nat) (D : va_G) (tys : List (ClassId × FieldType)) (av : List Value) (L : List Nat) (f : Nat → va_E) (Post : Int → List Nat → (Nat → va_E) → Prop) : Prop := ∀ sz : Nat, Met l y ws rm (va_Pc av (P0 Z D tys L f sz)) (Ql D tys L f sz Post) mc ms (va_A (va_pl L f) sz)
def Cv (Z : Zt) (l : Launch) (y : MethodName) (ws : List Cond) (rm : Room) (mc ms : Nat) (D : va_G) (tys : List (ClassId × FieldType)) (av : List Value) (L : List Nat) (f : Nat → va_E) (Post : List Nat → (Nat → va_E) → Prop) : Prop := ∀ sz : Nat, Met l y ws rm (va_Pc av (P0 Z D tys L f sz)) (Qv D tys L f sz Post) mc ms (va_A (va_pl L f) sz)
def Cr (Z : Zt) (l : Launch) (y : MethodName) (ws : List Cond) (rm : Room) (mc ms : Nat) (D : va_G) (tys : List (ClassId × FieldType)) (av : List Value) (L : List Nat) (f : Nat → va_E) (Post : Nat → List Nat → (Nat → va_E) → Prop) : Prop := ∀ sz : Nat, Met l y ws rm (va_Pc av (P0 Z D tys L f sz)) (Qr D tys L f sz Post) mc ms (va_A (va_pl L f) sz)
theorem P0.blind {Z : Zt} (zo : Zok Z) {D : va_G} {tys : List (ClassId × FieldType)} {L : List Nat} {f : Nat → va_E} {sz : Nat} {av : List Value} : FrameBlind (va_Pc av (P0 Z D tys L f sz)) := by
  intro a U g mk q
  obtain ⟨q0, q1, qP, qK, qD, qZ⟩ := q
  exact ⟨q0, q1, qP, va_K.moved (u := U) (U := U.calling g mk a) (Vm.Alike.refl U.vm) qK, qD, zo.1.1 _ U (U.calling g mk a) _ rfl qZ⟩
set_option maxHeartbeats 4000000 in
theorem Ci.enter {Z : Zt} {l : Launch} {y : MethodName} {ws ws' : List Cond} {rm : Room} {mc ms n : Nat} {D : va_G} {tys : List (ClassId × FieldType)} {av : List Value} {L : List Nat} {f : Nat → va_E} {Post : Int → List Nat → (Nat → va_E) → Prop} {cc : ByteArray} {rt : FieldType} (hw : ws = Cond.code y cc n (some rt) :: ws') (hy : plainFor y = true) (hav : (lg_sl av).length ≤ n)
    (body : ∀ (p : Program) (e : Env) (s : State) (m : MethodId) (below : List Frame) (meth : Method) (c : Code) (ls : Array Slot) (A : Nat → Prop), p.tables.exec = Jvm.exec → c.code = cc → meth.sig.returnType = some rt → (∀ w ∈ ws, w.before av.toArray s = true) → s.vm.findClass y.cls = some m.cls → meth.locks = false → meth.name = y.name → c.maxLocals = n → va_K D vwCl tys s → (∀ q : Nat, s.heap.size ≤ q → A q) → A = va_A (va_pl L f) s.heap.size → Wd D A s.heap L f s.heap [] → Z A s s.heap → lv_has ls n (lv_args 0 av) →
      W p l e rm s m av.toArray below meth c s.heap [] 0 0 (MQ below (Qi D tys L f s.heap.size Post) av.toArray s mc ms A) (F0 m 0 ls [])) : Ci Z l y ws rm mc ms D tys av L f Post := by
  intro sz
  refine va_MetF (cc := cc) (maxL := n) (ret := some rt) hy hw ?_
  intro p e s m args below meth c s₁ B hml hv
  obtain ⟨rfl, hsz, hP, hK, hD0, hZ⟩ := hv
  have hts := atoms_spec (ws := ws) B.pre
  have hown : s.vm.findClass y.cls = some m.cls := findClass_of_methodNamed B.named
  have hin : meth.name = y.name := (name_of_methodNamed B.named B.method).1
  subst hsz
  have hD := hD0.self (sz := s.heap.size)
  have hl := lv_entry av (n := n) hav
  rw [lg_entry_eq]
  generalize (lg_sl av ++ List.replicate (n - (lg_sl av).length) Slot.unset).toArray = ls at hl ⊢
  exact body p e s m below meth c ls (va_A (va_pl L f) s.heap.size) B.exec B.bytes B.returns hts hown B.notSynchronized hin hml hK (fun q h => Or.inr h) rfl ⟨hP, hD, va_S.rf⟩ hZ hl
set_option maxHeartbeats 4000000 in
theorem Cl.enter {Z : Zt} {l : Launch} {y : MethodName} {ws ws' : List Cond} {rm : Room} {mc ms n : Nat} {D : va_G} {tys : List (ClassId × FieldType)} {av : List Value} {L : List Nat} {f : Nat → va_E} {Post : Int → List Nat → (Nat → va_E) → Prop} {cc : ByteArray} {rt : FieldType} (hw : ws = Cond.code y cc n (some rt) :: ws') (hy : plainFor y = true) (hav : (lg_sl av).length ≤ n)
    (body : ∀ (p : Program) (e : Env) (s : State) (m : MethodId) (below : List Frame) (meth : Method) (c : Code) (ls : Array Slot) (A : Nat → Prop), p.tables.exec = Jvm.exec → c.code = cc → meth.sig.returnType = some rt → (∀ w ∈ ws, w.before av.toArray s = true) → s.vm.findClass y.cls = some m.cls → meth.locks = false → meth.name = y.name → c.maxLocals = n → va_K D vwCl tys s → (∀ q : Nat, s.heap.size ≤ q → A q) → A = va_A (va_pl L f) s.heap.size → Wd D A s.heap L f s.heap [] → Z A s s.heap → lv_has ls n (lv_args 0 av) →
      W p l e rm s m av.toArray below meth c s.heap [] 0 0 (MQ below (Ql D tys L f s.heap.size Post) av.toArray s mc ms A) (F0 m 0 ls [])) : Cl Z l y ws rm mc ms D tys av L f Post := by
  intro sz
  refine va_MetF (cc := cc) (maxL := n) (ret := some rt) hy hw ?_
  intro p e s m args below meth c s₁ B hml hv
  obtain ⟨rfl, hsz, hP, hK, hD0, hZ⟩ := hv
  have hts := atoms_spec (ws := ws) B.pre
  have hown : s.vm.findClass y.cls = some m.cls := findClass_of_methodNamed B.named
  have hin : meth.name = y.name := (name_of_methodNamed B.named B.method).1
  subst hsz
  have hD := hD0.self (sz := s.heap.size)
  have hl := lv_entry av (n := n) hav
  rw [lg_entry_eq]
  generalize (lg_sl av ++ List.replicate (n - (lg_sl av).length) Slot.unset).toArray = ls at hl ⊢
  exact body p e s m below meth c ls (va_A (va_pl L f) s.heap.size) B.exec B.bytes B.returns hts hown B.notSynchronized hin hml hK (fun q h => Or.inr h) rfl ⟨hP, hD, va_S.rf⟩ hZ hl
set_option maxHeartbeats 4000000 in
theorem Cv.enter {Z : Zt} {l : Launch} {y : MethodName} {ws ws' : List Cond} {rm : Room} {mc ms n : Nat} {D : va_G} {tys : List (ClassId × FieldType)} {av : List Value} {L : List Nat} {f : Nat → va_E} {Post : List Nat → (Nat → va_E) → Prop} {cc : ByteArray} (hw : ws = Cond.code y cc n (none) :: ws') (hy : plainFor y = true) (hav : (lg_sl av).length ≤ n)
    (body : ∀ (p : Program) (e : Env) (s : State) (m : MethodId) (below : List Frame) (meth : Method) (c : Code) (ls : Array Slot) (A : Nat → Prop), p.tables.exec = Jvm.exec → c.code = cc → meth.sig.returnType = none → (∀ w ∈ ws, w.before av.toArray s = true) → s.vm.findClass y.cls = some m.cls → meth.locks = false → meth.name = y.name → c.maxLocals = n → va_K D vwCl tys s → (∀ q : Nat, s.heap.size ≤ q → A q) → A = va_A (va_pl L f) s.heap.size → Wd D A s.heap L f s.heap [] → Z A s s.heap → lv_has ls n (lv_args 0 av) →
      W p l e rm s m av.toArray below meth c s.heap [] 0 0 (MQ below (Qv D tys L f s.heap.size Post) av.toArray s mc ms A) (F0 m 0 ls [])) : Cv Z l y ws rm mc ms D tys av L f Post := by
  intro sz
  refine va_MetF (cc := cc) (maxL := n) (ret := none) hy hw ?_
  intro p e s m args below meth c s₁ B hml hv
  obtain ⟨rfl, hsz, hP, hK, hD0, hZ⟩ := hv
  have hts := atoms_spec (ws := ws) B.pre
  have hown : s.vm.findClass y.cls = some m.cls := findClass_of_methodNamed B.named
  have hin : meth.name = y.name := (name_of_methodNamed B.named B.method).1
  subst hsz
  have hD := hD0.self (sz := s.heap.size)
  have hl := lv_entry av (n := n) hav
  rw [lg_entry_eq]
  generalize (lg_sl av ++ List.replicate (n - (lg_sl av).length) Slot.unset).toArray = ls at hl ⊢
  exact body p e s m below meth c ls (va_A (va_pl L f) s.heap.size) B.exec B.bytes B.returns hts hown B.notSynchronized hin hml hK (fun q h => Or.inr h) rfl ⟨hP, hD, va_S.rf⟩ hZ hl
set_option maxHeartbeats 4000000 in
theorem Cr.enter {Z : Zt} {l : Launch} {y : MethodName} {ws ws' : List Cond} {rm : Room} {mc ms n : Nat} {D : va_G} {tys : List (ClassId × FieldType)} {av : List Value} {L : List Nat} {f : Nat → va_E} {Post : Nat → List Nat → (Nat → va_E) → Prop} {cc : ByteArray} {rt : FieldType} (hw : ws = Cond.code y cc n (some rt) :: ws') (hy : plainFor y = true) (hav : (lg_sl av).length ≤ n)
    (body : ∀ (p : Program) (e : Env) (s : State) (m : MethodId) (below : List Frame) (meth : Method) (c : Code) (ls : Array Slot) (A : Nat → Prop), p.tables.exec = Jvm.exec → c.code = cc → meth.sig.returnType = some rt → (∀ w ∈ ws, w.before av.toArray s = true) → s.vm.findClass y.cls = some m.cls → meth.locks = false → meth.name = y.name → c.maxLocals = n → va_K D vwCl tys s → (∀ q : Nat, s.heap.size ≤ q → A q) → A = va_A (va_pl L f) s.heap.size → Wd D A s.heap L f s.heap [] → Z A s s.heap → lv_has ls n (lv_args 0 av) →
      W p l e rm s m av.toArray below meth c s.heap [] 0 0 (MQ below (Qr D tys L f s.heap.size Post) av.toArray s mc ms A) (F0 m 0 ls [])) : Cr Z l y ws rm mc ms D tys av L f Post := by
  intro sz
  refine va_MetF (cc := cc) (maxL := n) (ret := some rt) hy hw ?_
  intro p e s m args below meth c s₁ B hml hv
  obtain ⟨rfl, hsz, hP, hK, hD0, hZ⟩ := hv
  have hts := atoms_spec (ws := ws) B.pre
  have hown : s.vm.findClass y.cls = some m.cls := findClass_of_methodNamed B.named
  have hin : meth.name = y.name := (name_of_methodNamed B.named B.method).1
  subst hsz
  have hD := hD0.self (sz := s.heap.size)
  have hl := lv_entry av (n := n) hav
  rw [lg_entry_eq]
  generalize (lg_sl av ++ List.replicate (n - (lg_sl av).length) Slot.unset).toArray = ls at hl ⊢
  exact body p e s m below meth c ls (va_A (va_pl L f) s.heap.size) B.exec B.bytes B.returns hts hown B.notSynchronized hin hml hK (fun q h => Or.inr h) rfl ⟨hP, hD, va_S.rf⟩ hZ hl
section QC
variable {p : Program} {l : Launch} {e : Env} {R : Room} {s : State} {m : MethodId} {args : Array Value} {below : List Frame} {meth : Method} {c : Code} {H : Heap} {locs : List Loc} {cells slots : Nat} {Q : State → Prop}
variable {cc : ByteArray} {pc mc ms : Nat} {ls : Array Slot} {rest st0 : List Value} {D : va_G} {A : Nat → Prop} {tys : List (ClassId × FieldType)} {H0 : Heap} {L L' : List Nat} {f f' : Nat → va_E}
theorem Wd.B {u : List Nat × (Nat → va_E)} {t : State} (hK : va_K D vwCl tys s) (hAe : A = va_A (va_pl L f) s.heap.size) (hw : Wd D A s.heap u.1 u.2 H locs) (ht : t.heap = H) (hW : s.WarmedH t.vm) : B0 D tys L f s.heap.size u t := by
  subst hAe
  exact ⟨by rw [ht]; exact hw.1, va_K.moved hW.alike hK, hw.2.1⟩
theorem q_ret_i {Post : Int → List Nat → (Nat → va_E) → Prop} {x : Int} (hx : p.tables.exec = Jvm.exec) (hb : c.code = cc) (hr : meth.sig.returnType = some .int) (hlocks : meth.locks = false) (hK : va_K D vwCl tys s) (hAe : A = va_A (va_pl L f) s.heap.size) (hw : Wd D A s.heap L' f' H locs) (rx : rg x) (h1 : cells ≤ mc) (h2 : slots ≤ ms) (d : decode cc pc = .ok (.ireturn, 1)) (hp : Post x L' f') : W p l e R s m args below meth c H locs cells slots (MQ below (Qi D tys L f s.heap.size Post) args s mc ms A) (F0 m pc ls [.int (iI x)]) := by
  refine W.widen h1 h2 ?_
  refine W.iret hx hb hr (fun t ht hW => ⟨⟨iI x, (L', f'), rfl, ⟨x, rfl, rx, hp⟩, Wd.B hK hAe (u := (L', f')) hw ht hW⟩, ?_⟩) hw.2.2.2.2 d
  rw [← hAe]; exact hw.2.2.F ht
theorem q_ret_z {Post : Int → List Nat → (Nat → va_E) → Prop} {x : Int} (hx : p.tables.exec = Jvm.exec) (hb : c.code = cc) (hr : meth.sig.returnType = some .boolean) (hlocks : meth.locks = false) (hK : va_K D vwCl tys s) (hAe : A = va_A (va_pl L f) s.heap.size) (hw : Wd D A s.heap L' f' H locs) (hz : x = 0 ∨ x = 1) (h1 : cells ≤ mc) (h2 : slots ≤ ms) (d : decode cc pc = .ok (.ireturn, 1)) (hp : Post x L' f') : W p l e R s m args below meth c H locs cells slots (MQ below (Qi D tys L f s.heap.size Post) args s mc ms A) (F0 m pc ls [.int (iI x)]) := by
  refine W.widen h1 h2 ?_
  refine W.zret hx hb hr (by rcases hz with rfl | rfl <;> rfl) (fun t ht hW => ⟨⟨iI x, (L', f'), rfl, ⟨x, rfl, ⟨by omega, by omega⟩, hp⟩, Wd.B hK hAe (u := (L', f')) hw ht hW⟩, ?_⟩) hw.2.2.2.2 d
  rw [← hAe]; exact hw.2.2.F ht
theorem q_ret_l {Post : Int → List Nat → (Nat → va_E) → Prop} {x : Int} (hx : p.tables.exec = Jvm.exec) (hb : c.code = cc) (hr : meth.sig.returnType = some .long) (hlocks : meth.locks = false) (hK : va_K D vwCl tys s) (hAe : A = va_A (va_pl L f) s.heap.size) (hw : Wd D A s.heap L' f' H locs) (rx : rgl x) (h1 : cells ≤ mc) (h2 : slots ≤ ms) (d : decode cc pc = .ok (.lreturn, 1)) (hp : Post x L' f') : W p l e R s m args below meth c H locs cells slots (MQ below (Ql D tys L f s.heap.size Post) args s mc ms A) (F0 m pc ls [.long (lJ x)]) := by
  refine W.widen h1 h2 ?_
  refine W.lret hx hb hr (fun t ht hW => ⟨⟨lJ x, (L', f'), rfl, ⟨x, rfl, rx, hp⟩, Wd.B hK hAe (u := (L', f')) hw ht hW⟩, ?_⟩) hw.2.2.2.2 d
  rw [← hAe]; exact hw.2.2.F ht
theorem q_ret_v {Post : List Nat → (Nat → va_E) → Prop} (hx : p.tables.exec = Jvm.exec) (hb : c.code = cc) (hr : meth.sig.returnType = none) (hlocks : meth.locks = false) (hK : va_K D vwCl tys s) (hAe : A = va_A (va_pl L f) s.heap.size) (hw : Wd D A s.heap L' f' H locs) (h1 : cells ≤ mc) (h2 : slots ≤ ms) (d : decode cc pc = .ok (.return_, 1)) (hp : Post L' f') : W p l e R s m args below meth c H locs cells slots (MQ below (Qv D tys L f s.heap.size Post) args s mc ms A) (F0 m pc ls []) := by
  refine W.widen h1 h2 ?_
  refine W.vret hx hb hr (fun t ht hW => ⟨⟨(L', f'), rfl, hp, Wd.B hK hAe (u := (L', f')) hw ht hW⟩, ?_⟩) hw.2.2.2.2 d
  rw [← hAe]; exact hw.2.2.F ht
theorem q_ret_r {Post : Nat → List Nat → (Nat → va_E) → Prop} {r : Nat} {C : String} (hx : p.tables.exec = Jvm.exec) (hb : c.code = cc) (hr : meth.sig.returnType = some (.object C)) (hlocks : meth.locks = false) (hK : va_K D vwCl tys s) (hAe : A = va_A (va_pl L f) s.heap.size) (hw : Wd D A s.heap L' f' H locs) (h1 : cells ≤ mc) (h2 : slots ≤ ms) (d : decode cc pc = .ok (.areturn, 1)) (hp : Post r L' f') : W p l e R s m args below meth c H locs cells slots (MQ below (Qr D tys L f s.heap.size Post) args s mc ms A) (F0 m pc ls [.ref r]) := by
  refine W.widen h1 h2 ?_
  refine W.aret hx hb hr (Or.inl ⟨C, rfl⟩) (Or.inr ⟨r, rfl⟩) (fun t ht hW => ⟨⟨(L', f'), r, rfl, trivial, hp, Wd.B hK hAe (u := (L', f')) hw ht hW⟩, ?_⟩) hw.2.2.2.2 d
  rw [← hAe]; exact hw.2.2.F ht
theorem Wd.free (hw : Wd D A H0 L f H locs) (hA : ∀ q : Nat, H0.size ≤ q → A q) : ∀ q, va_A (va_pl L f) H.size q → A q := by
  intro q h
  rcases h with ⟨k, e, h⟩ | h
  · exact hw.2.1.2 k (q, e) h
  · exact hA q (Nat.le_trans hw.2.2.1 h)
theorem Wd.pre {Z : Zt} (zo : Zok Z) {av : List Value} (hA : ∀ q : Nat, s.heap.size ≤ q → A q) (hZ : Z A s s.heap) (hw : Wd D A s.heap L f H locs) (hK : va_K D vwCl tys s) (U : State) (hU : U.heap = H) (hW : s.WarmedH U.vm) : va_Pc av (P0 Z D tys L f H.size) av.toArray U :=
  ⟨rfl, by rw [hU], by rw [hU]; exact hw.1, va_K.moved hW.alike hK, hw.2.1.weaken (fun _ _ _ _ => trivial), by rw [hU]; exact zo.2.1 _ s U _ hW (zo.2.2.2.1 _ _ _ _ (zo.2.2.1 _ _ _ _ hZ hw.2.2.2.1) (hw.free hA))⟩
theorem Wd.preS {Z : Zt} (zo : Zok Z) {av : List Value} (hA : ∀ q : Nat, s.heap.size ≤ q → A q) (hZ : Z A s s.heap) (hw : Wd D A s.heap L f H locs) (hK : va_K D vwCl tys s) : PreS s H (va_Pc av (P0 Z D tys L f H.size)) av := ⟨P0.blind zo, fun U hU hW => hw.pre zo hA hZ hK U hU hW⟩
theorem Wd.preV {Z : Zt} (zo : Zok Z) {av : List Value} {b ci : Nat} {q : vw_C} (hA : ∀ q : Nat, s.heap.size ≤ q → A q) (hZ : Z A s s.heap) (hw : Wd D A s.heap L f H locs) (hK : va_K D vwCl tys s) (hb : b ∈ L) (ho : Ob f b ci) (hc : vwCl[ci]? = some q) : PreV s H q.1 b (va_Pc (.ref b :: av) (P0 Z D tys L f H.size)) av := by
  obtain ⟨fs, h1, -⟩ := ho
  obtain ⟨k, hk⟩ := hw.at hb
  rw [h1] at hk
  exact ⟨P0.blind zo, va_recv hK hw.1 hc hk, fun U hU hW => hw.pre zo hA hZ hK U hU hW⟩
theorem q_call_i {Post : Int → List Nat → (Nat → va_E) → Prop} {av : Array Value} (hA : ∀ q : Nat, H0.size ≤ q → A q) (hK : va_K D vwCl tys s) (hw : Wd D A H0 L f H locs)
    (hr : va_Run p l e R s m args below meth c H locs cells slots mc ms (F0 m pc ls st0) rest (Qi D tys L f H.size Post av) (va_A (va_pl L f) H.size))
    (kk : ∀ (x : Int) (L1 : List Nat) (f1 : Nat → va_E) (H1 : Heap) (locs1 : List Loc), -2147483648 ≤ x → x ≤ 2147483647 → Post x L1 f1 → Wd D A H0 L1 f1 H1 locs1 → W p l e R s m args below meth c H1 locs1 (cells + mc) (slots + ms) Q (F0 m (pc + 3) ls (.int (iI x) :: rest))) : W p l e R s m args below meth c H locs cells slots Q (F0 m pc ls st0) := by
  have hF := hw.free hA
  refine va_calli hr hw.2.2 (fun q _ h => hF q h) hF (fun r u t H1 locs1 ht hvm hp hB hz1 hk1 hS => ?_)
  obtain ⟨x, rfl, rx, hp⟩ := hp
  obtain ⟨g1, g2, g3⟩ := hB
  rw [ht] at g1
  exact kk x u.1 u.2 H1 locs1 rx.1 rx.2 hp ⟨g1, g3.weaken (fun k q _ h => hF q.1 h), hS⟩
theorem q_call_l {Post : Int → List Nat → (Nat → va_E) → Prop} {av : Array Value} (hA : ∀ q : Nat, H0.size ≤ q → A q) (hK : va_K D vwCl tys s) (hw : Wd D A H0 L f H locs)
    (hr : va_Run p l e R s m args below meth c H locs cells slots mc ms (F0 m pc ls st0) rest (Ql D tys L f H.size Post av) (va_A (va_pl L f) H.size))
    (kk : ∀ (x : Int) (L1 : List Nat) (f1 : Nat → va_E) (H1 : Heap) (locs1 : List Loc), -9223372036854775808 ≤ x → x ≤ 9223372036854775807 → Post x L1 f1 → Wd D A H0 L1 f1 H1 locs1 → W p l e R s m args below meth c H1 locs1 (cells + mc) (slots + ms) Q (F0 m (pc + 3) ls (.long (lJ x) :: rest))) : W p l e R s m args below meth c H locs cells slots Q (F0 m pc ls st0) := by
  have hF := hw.free hA
  refine va_calll hr hw.2.2 (fun q _ h => hF q h) hF (fun r u t H1 locs1 ht hvm hp hB hz1 hk1 hS => ?_)
  obtain ⟨x, rfl, rx, hp⟩ := hp
  obtain ⟨g1, g2, g3⟩ := hB
  rw [ht] at g1
  exact kk x u.1 u.2 H1 locs1 rx.1 rx.2 hp ⟨g1, g3.weaken (fun k q _ h => hF q.1 h), hS⟩
theorem q_call_v {Post : List Nat → (Nat → va_E) → Prop} {av : Array Value} (hA : ∀ q : Nat, H0.size ≤ q → A q) (hK : va_K D vwCl tys s) (hw : Wd D A H0 L f H locs)
    (hr : va_Run p l e R s m args below meth c H locs cells slots mc ms (F0 m pc ls st0) rest (Qv D tys L f H.size Post av) (va_A (va_pl L f) H.size))
    (kk : ∀ (L1 : List Nat) (f1 : Nat → va_E) (H1 : Heap) (locs1 : List Loc), Post L1 f1 → Wd D A H0 L1 f1 H1 locs1 → W p l e R s m args below meth c H1 locs1 (cells + mc) (slots + ms) Q (F0 m (pc + 3) ls rest)) : W p l e R s m args below meth c H locs cells slots Q (F0 m pc ls st0) := by
  have hF := hw.free hA
  refine va_callv hr hw.2.2 (fun q _ h => hF q h) hF (fun u t H1 locs1 ht hvm hp hB hz1 hk1 hS => ?_)
  obtain ⟨g1, g2, g3⟩ := hB
  rw [ht] at g1
  exact kk u.1 u.2 H1 locs1 hp ⟨g1, g3.weaken (fun k q _ h => hF q.1 h), hS⟩
theorem q_call_r {Post : Nat → List Nat → (Nat → va_E) → Prop} {av : Array Value} (hA : ∀ q : Nat, H0.size ≤ q → A q) (hK : va_K D vwCl tys s) (hw : Wd D A H0 L f H locs)
    (hr : va_Run p l e R s m args below meth c H locs cells slots mc ms (F0 m pc ls st0) rest (Qr D tys L f H.size Post av) (va_A (va_pl L f) H.size))
    (kk : ∀ (x : Nat) (L1 : List Nat) (f1 : Nat → va_E) (H1 : Heap) (locs1 : List Loc), Post x L1 f1 → Wd D A H0 L1 f1 H1 locs1 → W p l e R s m args below meth c H1 locs1 (cells + mc) (slots + ms) Q (F0 m (pc + 3) ls (.ref x :: rest))) : W p l e R s m args below meth c H locs cells slots Q (F0 m pc ls st0) := by
  have hF := hw.free hA
  refine va_callr hr hw.2.2 (fun q _ h => hF q h) hF (fun u x t H1 locs1 ht hvm _ hB hz1 hk1 hS => ?_)
  obtain ⟨hp, g1, g2, g3⟩ := hB
  rw [ht] at g1
  exact kk x u.1 u.2 H1 locs1 hp ⟨g1, g3.weaken (fun k q _ h => hF q.1 h), hS⟩
end QC
