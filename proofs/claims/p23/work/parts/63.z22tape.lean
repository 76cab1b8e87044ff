/-! ===== the tape's bytes ===== -/
def byn (b : BitVec 64) (s : Nat) : Nat := (b.toNat >>> s) % 256
theorem byn_lt (b : BitVec 64) (s : Nat) : byn b s < 256 := Nat.mod_lt _ (by decide)
theorem m255 (w i : Nat) (hw : 8 ≤ w) : (BitVec.ofNat w 255).getLsbD i = decide (i < 8) := by
  rw [BitVec.getLsbD_ofNat]
  have e : Nat.testBit 255 i = decide (i < 8) := Nat.testBit_two_pow_sub_one 8 i
  rw [e]
  by_cases c : i < 8
  · rw [decide_eq_true c, decide_eq_true (show i < w by omega)]; rfl
  · rw [decide_eq_false c, Bool.and_false]
theorem byn_bit (b : BitVec 64) (s i : Nat) : (byn b s).testBit i = (decide (i < 8) && b.getLsbD (s + i)) := by
  have e : byn b s = (b.toNat >>> s) % 2 ^ 8 := rfl
  rw [e, Nat.testBit_mod_two_pow, Nat.testBit_shiftRight, BitVec.testBit_toNat]
theorem byn_u (b : BitVec 64) (s : Nat) : ((b >>> s) &&& 255#64).toNat = byn b s := by
  apply Nat.eq_of_testBit_eq
  intro i
  rw [byn_bit, BitVec.testBit_toNat, BitVec.getLsbD_and, BitVec.getLsbD_ushiftRight, m255 64 i (by decide), Bool.and_comm]
theorem byn_s (b : BitVec 64) (s : Nat) (hs : s ≤ 56) : (((b.sshiftRight s).signExtend 32) &&& 255#32).toNat = byn b s := by
  apply Nat.eq_of_testBit_eq
  intro i
  rw [byn_bit, BitVec.testBit_toNat, BitVec.getLsbD_and, m255 32 i (by decide)]
  by_cases c : i < 8
  · rw [BitVec.getLsbD_signExtend, BitVec.getLsbD_sshiftRight, decide_eq_true c, decide_eq_true (show i < 32 by omega), decide_eq_false (show ¬ 64 ≤ i by omega), if_pos (show i < 64 by omega), if_pos (show s + i < 64 by omega), Bool.and_comm]
    rfl
  · rw [decide_eq_false c, Bool.and_false, Bool.false_and]
theorem byC (v : Int64) (k : UInt64) (s : Nat) (hk : (k.toBitVec % 64).toNat = s) : ((v.toUInt64 >>> k).toInt64 &&& lJ 255).toInt = (byn v.toBitVec s : Int) := by
  have e : ((v.toUInt64 >>> k).toInt64 &&& lJ 255).toBitVec = (v.toBitVec >>> s) &&& 255#64 := by rw [← hk]; rfl
  have b := byn_lt v.toBitVec s
  have t := byn_u v.toBitVec s
  rw [← Int64.toInt_toBitVec, e, BitVec.toInt_eq_toNat_of_lt (by rw [t]; have : (2 : Nat) ^ 64 = 18446744073709551616 := by decide
                                                                 omega), t]
theorem byR (v k : Int64) (s : Nat) (hs : s ≤ 56) (hk : (k.toBitVec.smod 64).toNat = s) : ((v >>> k).toInt32 &&& iI 255).toInt = (byn v.toBitVec s : Int) := by
  have e : ((v >>> k).toInt32 &&& iI 255).toBitVec = ((v.toBitVec.sshiftRight s).signExtend 32) &&& 255#32 := by rw [← hk]; rfl
  have b := byn_lt v.toBitVec s
  have t := byn_s v.toBitVec s hs
  rw [← Int32.toInt_toBitVec, e, BitVec.toInt_eq_toNat_of_lt (by rw [t]; have : (2 : Nat) ^ 32 = 4294967296 := by decide
                                                                 omega), t]
def byq (j y : Int) : Int := (byn (lJ j).toBitVec y.toNat : Int)
theorem byq_b (j y : Int) : 0 ≤ byq j y ∧ byq j y ≤ 255 := by
  have := byn_lt (lJ j).toBitVec y.toNat
  unfold byq
  omega
theorem kC_tab : ∀ t : Nat, t < 8 → (((iI ((8 * t : Nat) : Int)).toInt64.toUInt64 &&& Int64.toUInt64 63).toBitVec % 64).toNat = 8 * t := by decide +kernel
theorem kR_tab : ∀ t : Nat, t < 8 → (((iI ((8 * t : Nat) : Int)).toInt64 &&& 63).toBitVec.smod 64).toNat = 8 * t := by decide +kernel
theorem n8_tab : ∀ w : Nat, w < 256 → (lJ (w : Int)).toInt32.toInt = w ∧ ((iI (w : Int)).toUInt32 % 65536).toInt32.toInt = w ∧ vp_nar .char (iI (w : Int)) = iI (w : Int) := by decide +kernel
theorem n8 {x : Int} (h0 : 0 ≤ x) (h1 : x ≤ 255) : (lJ x).toInt32.toInt = x ∧ ((iI x).toUInt32 % 65536).toInt32.toInt = x ∧ vp_nar .char (iI x) = iI x := by
  have t := n8_tab x.toNat (by omega)
  rw [show ((x.toNat : Nat) : Int) = x by omega] at t
  exact t
theorem by_c {j1 y j4 j5 x6 x7 : Int} (y0 : 0 ≤ y) (y1 : y ≤ 56) (ym : y % 8 = 0) (e4 : j4 = ((lJ j1).toUInt64 >>> ((iI y).toInt64.toUInt64 &&& Int64.toUInt64 63)).toInt64.toInt) (e5 : j5 = (lJ j4 &&& lJ 255).toInt) (e6 : x6 = (lJ j5).toInt32.toInt) (e7 : x7 = ((iI x6).toUInt32 % 65536).toInt32.toInt) : x7 = byq j1 y := by
  obtain ⟨t, ht, et⟩ : ∃ t : Nat, t < 8 ∧ y = ((8 * t : Nat) : Int) := ⟨(y / 8).toNat, by omega, by omega⟩
  have k := kC_tab t ht
  rw [← et] at k
  have q := byC (lJ j1) _ _ k
  have b := byn_lt (lJ j1).toBitVec (8 * t)
  have r : byq j1 y = (byn (lJ j1).toBitVec (8 * t) : Int) := by unfold byq; rw [et, Int.toNat_natCast]
  have e5' : j5 = byq j1 y := by rw [e5, e4, lJ_of, q, r]
  have c := byq_b j1 y
  have z := n8 c.1 c.2
  have e6' : x6 = byq j1 y := by rw [e6, e5']; exact z.1
  rw [e7, e6']; exact z.2.1
theorem by_r {j1 y j4 x5 x6 : Int} (y0 : 0 ≤ y) (y1 : y ≤ 56) (ym : y % 8 = 0) (e4 : j4 = (lJ j1 >>> ((iI y).toInt64 &&& 63)).toInt) (e5 : x5 = (lJ j4).toInt32.toInt) (e6 : x6 = (iI x5 &&& iI 255).toInt) : x6 = byq j1 y := by
  obtain ⟨t, ht, et⟩ : ∃ t : Nat, t < 8 ∧ y = ((8 * t : Nat) : Int) := ⟨(y / 8).toNat, by omega, by omega⟩
  have k := kR_tab t ht
  rw [← et] at k
  have q := byR (lJ j1) _ _ (by omega) k
  have r : byq j1 y = (byn (lJ j1).toBitVec (8 * t) : Int) := by unfold byq; rw [et, Int.toNat_natCast]
  have z : iI x5 = (lJ j4).toInt32 := by rw [e5]; exact Int32.ofInt_toInt _
  rw [e6, z, e4, lJ_of, q, r]
/-- eight bytes more -/
def TPb (F0 F : Int → Int) (j n0 n : Int) : Prop := (∀ i : Int, 0 ≤ i → i < n - n0 → F (n0 + i) = byq j (56 - 8 * i)) ∧ (∀ i : Int, 0 ≤ i → (i < n0 ∨ n ≤ i) → F i = F0 i)
theorem TPb.start (F : Int → Int) (j n : Int) : TPb F F j n n := ⟨fun i h0 h1 => by omega, fun _ _ _ => rfl⟩
theorem TPb.step {F0 F G : Int → Int} {j n0 n y : Int} (h : TPb F0 F j n0 n) (w1 : G n = byq j y) (w2 : ∀ i : Int, 0 ≤ i → i ≠ n → G i = F i) (hy : 8 * (n - n0) + y = 56) (h0 : 0 ≤ n0) (h1 : n0 ≤ n) : TPb F0 G j n0 (n + 1) := by
  refine ⟨fun i i0 i1 => ?_, fun i i0 i1 => ?_⟩
  · by_cases c : n0 + i = n
    · rw [c, w1, show 56 - 8 * i = y by omega]
    · rw [w2 (n0 + i) (by omega) c]; exact h.1 i i0 (by omega)
  · rw [w2 i i0 (by omega)]; exact h.2 i i0 (by omega)
noncomputable def bq3 (a b c i : Int) : Int := if i < 8 then byq a (56 - 8 * i) else if i < 16 then byq b (56 - 8 * (i - 8)) else byq c (56 - 8 * (i - 16))
theorem bq3_b (a b c i : Int) : 0 ≤ bq3 a b c i ∧ bq3 a b c i ≤ 255 := by
  unfold bq3
  split
  · exact byq_b _ _
  · split
    · exact byq_b _ _
    · exact byq_b _ _
def TPc (F0 F : Int → Int) (a b c n0 : Int) : Prop := (∀ i : Int, 0 ≤ i → i < 24 → F (n0 + i) = bq3 a b c i) ∧ (∀ i : Int, 0 ≤ i → (i < n0 ∨ n0 + 24 ≤ i) → F i = F0 i)
theorem TPb.three {F0 F1 F2 F3 : Int → Int} {a b c n n1 m1 m2 k1 k2 : Int} (h0 : 0 ≤ n) (x : TPb F0 F1 a n n1) (y : TPb F1 F2 b m1 m2) (z : TPb F2 F3 c k1 k2) (e1 : n1 = n + 8) (d1 : m1 = n + 8) (e2 : m2 = n + 16) (d2 : k1 = n + 16) (e3 : k2 = n + 24) : TPc F0 F3 a b c n := by
  subst e1 d1 e2 d2 e3
  refine ⟨fun i i0 i1 => ?_, fun i i0 i1 => ?_⟩
  · unfold bq3
    by_cases c1 : i < 8
    · rw [if_pos c1, z.2 (n + i) (by omega) (by omega), y.2 (n + i) (by omega) (by omega)]
      exact x.1 i i0 (by omega)
    · by_cases c2 : i < 16
      · rw [if_neg c1, if_pos c2, z.2 (n + i) (by omega) (by omega)]
        have q := y.1 (i - 8) (by omega) (by omega)
        rw [show n + 8 + (i - 8) = n + i by omega] at q
        exact q
      · rw [if_neg c1, if_neg c2]
        have q := z.1 (i - 16) (by omega) (by omega)
        rw [show n + 16 + (i - 16) = n + i by omega] at q
        exact q
  · rw [z.2 i i0 (by omega), y.2 i i0 (by omega)]
    exact x.2 i i0 (by omega)
/-- the tapes stay alike -/
theorem TPc.both {F0 F G0 G : Int → Int} {a b c n : Int} (x : TPc F0 F a b c n) (y : TPc G0 G a b c n) (h : ∀ i : Int, 0 ≤ i → i < 168 → F0 i = G0 i ∧ 0 ≤ G0 i ∧ G0 i ≤ 255) : ∀ i : Int, 0 ≤ i → i < 168 → F i = G i ∧ 0 ≤ G i ∧ G i ≤ 255 := by
  intro i i0 i1
  by_cases k : n ≤ i ∧ i < n + 24
  · have p := x.1 (i - n) (by omega) (by omega)
    have q := y.1 (i - n) (by omega) (by omega)
    rw [show n + (i - n) = i by omega] at p q
    have r := bq3_b a b c (i - n)
    exact ⟨p.trans q.symm, by omega, by omega⟩
  · have p := x.2 i i0 (by omega)
    have q := y.2 i i0 (by omega)
    have r := h i i0 i1
    exact ⟨p.trans (r.1.trans q.symm), by omega, by omega⟩
/-- the tape and its size alone -/
def FT (f g : Nat → va_E) (a tp : Nat) : Prop := (∀ y : Nat, y ≠ a → y ≠ tp → g y = f y) ∧ (∀ k : Nat, k ≠ 1 → fV g a k = fV f a k)
theorem FT.refl (f : Nat → va_E) (a tp : Nat) : FT f f a tp := ⟨fun _ _ _ => rfl, fun _ _ => rfl⟩
theorem FT.trans {f g h : Nat → va_E} {a tp : Nat} (x : FT f g a tp) (y : FT g h a tp) : FT f h a tp := ⟨fun z p q => (y.1 z p q).trans (x.1 z p q), fun k q => (y.2 k q).trans (x.2 k q)⟩
theorem FT.pU {f0 f g : Nat → va_E} {a tp : Nat} {v : Value} (h : FT f0 f a tp) (e : g = Jvm.Pilot.CBookIndexLaw_law_r3826_022878.pU f a 1 v) : FT f0 g a tp := by
  rw [e]
  exact ⟨fun y p q => (pU_ne p).trans (h.1 y p q), fun k q => (fV_pU (Or.inr q)).trans (h.2 k q)⟩
theorem FT.aU {f0 f g : Nat → va_E} {a tp : Nat} {j : Int} {v : Int32} (h : FT f0 f a tp) (ne : a ≠ tp) (e : g = Jvm.Pilot.CBookIndexLaw_law_r3826_022878.aU f tp j v) : FT f0 g a tp := by
  rw [e]
  exact ⟨fun y p q => (aU_ne q).trans (h.1 y p q), fun k q => Eq.trans (by unfold fV; rw [aU_ne ne]) (h.2 k q)⟩
section QV
variable {p : Program} {l : Launch} {e : Env} {R : Room} {s : State} {m : MethodId} {args : Array Value} {below : List Frame} {meth : Method} {c : Code} {H : Heap} {locs : List Loc} {cells slots : Nat} {Q : State → Prop}
variable {cc : ByteArray} {pc : Nat} {ls : Array Slot} {rest : List Value}
theorem q_l2iv (hx : p.tables.exec = Jvm.exec) (hb : c.code = cc) {x : Int64} (d : decode cc pc = .ok (.l2i, 1)) (k : ∀ z : Int, -2147483648 ≤ z → z ≤ 2147483647 → z = x.toInt32.toInt → W p l e R s m args below meth c H locs cells slots Q (F0 m (pc + 1) ls (.int (iI z) :: rest))) : W p l e R s m args below meth c H locs cells slots Q (F0 m pc ls (.long x :: rest)) := lv_l2i hx hb d rfl (q_num fun z h1 h2 h3 => k z h1 h2 h3)
end QV
set_option maxHeartbeats 4000000 in
set_option maxRecDepth 100000 in
theorem c_X9_putBytes_t {Z : Zt} (zo : Zok Z) (l : Launch) (D : va_G) (cy : Cy) (L0 : List Nat) (f0 : Nat → va_E) (a0 : Nat) (j1 : Int) (lj1 : -9223372036854775808 ≤ j1) (uj1 : j1 ≤ 9223372036854775807) (m_a0 : a0 ∈ L0) (o_a0 : Ob f0 a0 7) (hg : GI cy L0 f0) (tp : Nat) (et : fR f0 a0 0 = some tp) (h0 : 0 ≤ fI f0 a0 1) (h1 : fI f0 a0 1 ≤ 160) : Cv Z l yX9_putBytes (Cond.code yX9_putBytes cX9_putBytes 4 none :: TB) ({ frames := 0, cells := 0, slots := 0, locals := 0 } : Room) 0 0 D (tq cy) [.ref a0, .long (lJ j1)] L0 f0 (fun (L1 : List Nat) (f1 : Nat → va_E) => L0 = L1 ∧ GI cy L0 f1 ∧ Ey cy f0 f1 ∧ (FT f0 f1 a0 tp ∧ fI f1 a0 1 = fI f0 a0 1 + 8 ∧ TPb (aI f0 tp) (aI f1 tp) j1 (fI f0 a0 1) (fI f0 a0 1 + 8))) := by
  refine Cv.enter (cc := cX9_putBytes) (n := 4) rfl (plainFor_of_name (by decide)) (Nat.le_of_ble_eq_true rfl) ?_
  intro p e s m below meth c ls A hx hb hr hts hown hlocks hnm hml hK hA hAe hw hZ hl
  have hown : s.vm.findClass RX9 = some m.cls := hown
  have hl : lv_has ls 4 [(0, .ref a0), (1, .long (lJ j1))] := hl
  have hN : ZN s := (zo.2.2.2.2 _ _ _ hZ).2
  have hE : Ey cy f0 f0 := Ey.refl cy f0
  have ft := FT.refl f0 a0 tp
  have tb := TPb.start (aI f0 tp) j1 (fI f0 a0 1)
  refine q_bipush hx hb dX9_putBytes_0 rfl ?_
  refine lv_istore_n (lv' := [(3, .int (iI 56)), (0, .ref a0), (1, .long (lJ j1))]) hx hb dX9_putBytes_2 rfl hl (by decide) rfl (fun ls hl => ?_)
  have J3 : ∀ (n3 : Nat) (y3_3 : Int) (ly3_3 : -2147483648 ≤ y3_3) (uy3_3 : y3_3 ≤ 2147483647) (L : List Nat) (fw3 : Nat → va_E) (hg : GI cy L0 fw3) (hE : Ey cy f0 fw3) (o_a0 : Ob fw3 a0 7) (i1 : -8 ≤ y3_3) (i3 : y3_3 ≤ 56) (i4 : fI f0 a0 1 ≤ fI fw3 a0 1) (i2 : 8 * (fI fw3 a0 1 - fI f0 a0 1) + y3_3 = 56) (ft : FT f0 fw3 a0 tp) (tb : TPb (aI f0 tp) (aI fw3 tp) j1 (fI f0 a0 1) (fI fw3 a0 1)) (hn3 : (y3_3 + (2147483648 : Int)).toNat < n3) (H : Heap) (locs : List Loc) (ls : Array Slot) (hw : Wd D A s.heap L0 fw3 H locs) (hl : lv_has ls 4 [(0, .ref a0), (1, .long (lJ j1)), (3, .int (iI y3_3))]), W p l e ({ frames := 0, cells := 0, slots := 0, locals := 0 } : Room) s m ([.ref a0, .long (lJ j1)] : List Value).toArray below meth c H locs (0) (0) (MQ below (Qv D (tq cy) L0 f0 s.heap.size (fun (L1 : List Nat) (f1 : Nat → va_E) => L0 = L1 ∧ GI cy L0 f1 ∧ Ey cy f0 f1 ∧ (FT f0 f1 a0 tp ∧ fI f1 a0 1 = fI f0 a0 1 + 8 ∧ TPb (aI f0 tp) (aI f1 tp) j1 (fI f0 a0 1) (fI f0 a0 1 + 8)))) ([.ref a0, .long (lJ j1)] : List Value).toArray s 0 0 A) (F0 m 3 ls []) := by
    intro n3
    induction n3 with
    | zero => intro y3_3 ly3_3 uy3_3 L fw3 hg hE o_a0 i1 i3 i4 i2 ft tb hn3; exact absurd hn3 (Nat.not_lt_zero _)
    | succ n3 ih3 =>
      intro y3_3 ly3_3 uy3_3 L fw3 hg hE o_a0 i1 i3 i4 i2 ft tb hn3 H locs ls hw hl
      refine lv_iload_n hx hb dX9_putBytes_3 rfl (lv_at hl 2 rfl) ?_
      refine q_if_lt (tgt := 51) hx hb dX9_putBytes_4 (by decide) ⟨ly3_3, uy3_3⟩ (fun c4 => ?_) (fun c4 => ?_)
      · exact q_ret_v hx hb hr hlocks hK hAe hw (Nat.le_of_ble_eq_true rfl) (Nat.le_of_ble_eq_true rfl) dX9_putBytes_51 (by first | exact ⟨rfl, hg, hE, ft, by omega, by rw [show fI f0 a0 1 + 8 = fI fw3 a0 1 by omega]; exact tb⟩ | (exfalso; omega))
      · refine lv_aload_n hx hb dX9_putBytes_7 rfl (lv_at hl 0 rfl) ?_
        refine q_geti (ci := 7) (C := RX9) (T := TX9) (N := 4) hx hb hts (fun w h => List.mem_cons_of_mem _ (mfX90 w h)) hown hK hw m_a0 o_a0 rfl 1 (by decide) (hts _ (List.mem_cons_of_mem _ (mr1 _ (List.mem_of_getElem? (i := 16) rfl)))) (fun _ h => h) rfl dX9_putBytes_8 (fun x_1 lx_1 ux_1 ex_1 => ?_)
        have bx_1 : 0 ≤ x_1 ∧ x_1 ≤ 168 := by rw [ex_1]; exact hg.1 _ m_a0 7 1 o_a0
        refine q_sipush hx hb dX9_putBytes_11 rfl ?_
        refine q_icmp_ge (tgt := 51) hx hb dX9_putBytes_14 (by decide) ⟨lx_1, ux_1⟩ ⟨by decide, by decide⟩ (fun c14 => ?_) (fun c14 => ?_)
        · exact q_ret_v hx hb hr hlocks hK hAe hw (Nat.le_of_ble_eq_true rfl) (Nat.le_of_ble_eq_true rfl) dX9_putBytes_51 (by first | exact ⟨rfl, hg, hE, ft, by omega, by rw [show fI f0 a0 1 + 8 = fI fw3 a0 1 by omega]; exact tb⟩ | (exfalso; omega))
        · refine lv_aload_n hx hb dX9_putBytes_17 rfl (lv_at hl 0 rfl) ?_
          obtain ⟨r_2, er_2, m_r_2, o_r_2⟩ := (show ∃ r, fR fw3 a0 0 = some r ∧ r ∈ L0 ∧ ArI fw3 r cy.1 168 from hg.2.1 _ m_a0 7 0 o_a0)
          refine q_getr (ci := 7) (C := RX9) (T := TX9) (N := 4) hx hb hts (fun w h => List.mem_cons_of_mem _ (mfX90 w h)) hown hK hw m_a0 o_a0 rfl 0 (by decide) (hts _ (List.mem_cons_of_mem _ (mr1 _ (List.mem_of_getElem? (i := 15) rfl)))) (fun _ h => h) rfl er_2 dX9_putBytes_18 ?_
          have t18 : r_2 = tp := Option.some.inj (er_2.symm.trans ((fR_W (ft.2 0 (by decide))).trans et))
          have o18 := o_r_2
          rw [t18] at o18
          have ne18 : a0 ≠ tp := fun z => by rw [z] at o_a0; exact o_a0.notI o18
          refine lv_aload_n hx hb dX9_putBytes_21 rfl (lv_at hl 0 rfl) ?_
          refine q_geti (ci := 7) (C := RX9) (T := TX9) (N := 4) hx hb hts (fun w h => List.mem_cons_of_mem _ (mfX90 w h)) hown hK hw m_a0 o_a0 rfl 1 (by decide) (hts _ (List.mem_cons_of_mem _ (mr1 _ (List.mem_of_getElem? (i := 16) rfl)))) (fun _ h => h) rfl dX9_putBytes_22 (fun x_3 lx_3 ux_3 ex_3 => ?_)
          have bx_3 : 0 ≤ x_3 ∧ x_3 ≤ 168 := by rw [ex_3]; exact hg.1 _ m_a0 7 1 o_a0
          have i22 := ex_3
          refine lv_lload_n hx hb dX9_putBytes_25 rfl (lv_at hl 1 rfl) ?_
          refine lv_iload_n hx hb dX9_putBytes_26 rfl (lv_at hl 2 rfl) ?_
          refine lv_lushr hx hb dX9_putBytes_27 rfl ?_
          refine q_numl (fun j_4 lj_4 uj_4 ej_4 => ?_)
          have h27 := ej_4
          refine q_ldc2 (n := 255) hx hb hown (hts _ (List.mem_cons_of_mem _ (mr4 _ (List.mem_of_getElem? (i := 14) rfl)))) rfl dX9_putBytes_28 ?_
          refine lv_land hx hb dX9_putBytes_31 ?_
          refine q_numl (fun j_5 lj_5 uj_5 ej_5 => ?_)
          have h31 := ej_5
          refine q_l2iv hx hb dX9_putBytes_32 (fun x_6 lx_6 ux_6 ex_6 => ?_)
          have h32 := ex_6
          refine lv_i2c hx hb dX9_putBytes_33 rfl ?_
          refine q_num (fun x_7 lx_7 ux_7 ex_7 => ?_)
          have v33 : x_7 = byq j1 y3_3 := by_c (by omega) (by omega) (by omega) h27 h31 h32 ex_7
          refine q_chst hx hb hK hw m_r_2 0 o_r_2 rfl ⟨lx_3, ux_3⟩ (by omega) (by omega) dX9_putBytes_34 (fun H locs hw => ?_)
          have oo := o_r_2
          obtain ⟨f_8, ef_8⟩ : ∃ g : Nat → va_E, g = aU fw3 r_2 x_3 (vp_nar .char (iI x_7)) := ⟨_, rfl⟩
          have hX : Ex cy fw3 f_8 := by rw [ef_8]; exact Ex_aU oo
          have hg : GI cy L0 f_8 := by rw [ef_8]; exact hg.putA oo
          rw [← ef_8] at hw
          have hE := hE.trans hX.ey
          have o_a0 := hX.1.1 _ _ o_a0
          have t_a0_1_f_8 : fI f_8 a0 1 = fI fw3 a0 1 := by rw [ef_8]; exact fI_aU oo
          have bq := byq_b j1 y3_3
          have e34 : f_8 = aU fw3 tp (fI fw3 a0 1) (iI (byq j1 y3_3)) := by rw [ef_8, t18, i22, v33, (n8 bq.1 bq.2).2.2]
          have ft := ft.aU ne18 e34
          have w34 : aI f_8 tp (fI fw3 a0 1) = byq j1 y3_3 := by rw [e34]; exact aI_aU_self o18 ⟨by omega, by omega⟩
          have u34 : ∀ i : Int, 0 ≤ i → i ≠ fI fw3 a0 1 → aI f_8 tp i = aI fw3 tp i := fun i q0 q1 => by rw [e34]; exact aI_aU_nj o18 (by omega) q0 q1
          have tb9 := tb.step w34 u34 (by omega) h0 (by omega)
          refine lv_aload_n hx hb dX9_putBytes_35 rfl (lv_at hl 0 rfl) ?_
          refine lv_dup hx hb dX9_putBytes_36 rfl ?_
          refine q_geti (ci := 7) (C := RX9) (T := TX9) (N := 4) hx hb hts (fun w h => List.mem_cons_of_mem _ (mfX90 w h)) hown hK hw m_a0 o_a0 rfl 1 (by decide) (hts _ (List.mem_cons_of_mem _ (mr1 _ (List.mem_of_getElem? (i := 16) rfl)))) (fun _ h => h) rfl dX9_putBytes_37 (fun x_9 lx_9 ux_9 ex_9 => ?_)
          have bx_9 : 0 ≤ x_9 ∧ x_9 ≤ 168 := by rw [ex_9]; exact hg.1 _ m_a0 7 1 o_a0
          refine q_iconst hx hb dX9_putBytes_40 ?_
          first | refine q_iadd hx hb dX9_putBytes_41 ⟨by omega, by omega⟩ (fun x_10 lx_10 ux_10 ex_10 => ?_) | refine q_iaddw hx hb dX9_putBytes_41 (fun x_10 lx_10 ux_10 _ => ?_)
          refine q_puti (ci := 7) (C := RX9) (T := TX9) (N := 4) hx hb hts (fun w h => List.mem_cons_of_mem _ (mfX90 w h)) hown hK hw m_a0 o_a0 rfl 1 (by decide) (hts _ (List.mem_cons_of_mem _ (mr1 _ (List.mem_of_getElem? (i := 16) rfl)))) (fun _ h => h) tyX9 tyX9_ok nmX9 rfl (ty := .int) (by decide +kernel) rfl rfl dX9_putBytes_42 (fun H locs hw => ?_)
          have oo := o_a0
          obtain ⟨f_11, ef_11⟩ : ∃ g : Nat → va_E, g = pU f_8 a0 1 (.int (iI x_10)) := ⟨_, rfl⟩
          have hX : Ey cy f_8 f_11 := by rw [ef_11]; exact Ey_pU oo rfl
          have hg : GI cy L0 f_11 := by rw [ef_11]; exact hg.putI oo rfl ⟨lx_10, ux_10⟩ (by show 0 ≤ x_10 ∧ x_10 ≤ 168; omega)
          rw [← ef_11] at hw
          have hE := hE.trans hX
          have o_a0 := hX.1.1 _ _ o_a0
          have vf_11 : fI f_11 a0 1 = x_10 := by rw [ef_11]; exact fI_pU_self oo rfl ⟨lx_10, ux_10⟩
          have ft := ft.pU ef_11
          have q42 : ∀ x : Int, aI f_11 tp x = aI f_8 tp x := fun x => by rw [ef_11]; exact aI_pU oo
          have tb9 : TPb (aI f0 tp) (aI f_11 tp) j1 (fI f0 a0 1) (fI f_11 a0 1) := by have q : aI f_11 tp = aI f_8 tp := funext q42; rw [q, show fI f_11 a0 1 = fI fw3 a0 1 + 1 by omega]; exact tb9
          obtain ⟨x_12, lx_12, ux_12, hx_12, ex_12⟩ := q_inc y3_3 (-8)
          try (replace ex_12 : x_12 = y3_3 + (-8) := by omega)
          refine lv_iinc (v := iI x_12) (lv' := [(3, .int (iI x_12)), (0, .ref a0), (1, .long (lJ j1))]) hx hb dX9_putBytes_45 hl (k := 2) rfl hx_12 (by decide) rfl (fun ls hl => ?_)
          refine lv_goto (tgt := 3) hx hb dX9_putBytes_48 (by decide) ?_
          exact ih3 x_12 lx_12 ux_12 L0 f_11 hg hE o_a0 (by omega) (by omega) (by omega) (by omega) (by exact ft) (by first | exact tb9 | exact tb) (by omega) _ _ _ hw (lv_sub hl [1, 2, 0] rfl)
  exact J3 (((56 + (2147483648 : Int)).toNat) + 1) 56 (by decide) (by decide) L0 f0 hg hE o_a0 (by omega) (by omega) (by omega) (by omega) (by exact ft) (by first | exact tb9 | exact tb) (by omega) _ _ _ hw (lv_sub hl [1, 2, 0] rfl)
set_option maxHeartbeats 4000000 in
set_option maxRecDepth 100000 in
theorem c_X9_feed_t {Z : Zt} (zo : Zok Z) (l : Launch) (D : va_G) (cy : Cy) (L0 : List Nat) (f0 : Nat → va_E) (a0 : Nat) (j1 : Int) (lj1 : -9223372036854775808 ≤ j1) (uj1 : j1 ≤ 9223372036854775807) (j3 : Int) (lj3 : -9223372036854775808 ≤ j3) (uj3 : j3 ≤ 9223372036854775807) (j5 : Int) (lj5 : -9223372036854775808 ≤ j5) (uj5 : j5 ≤ 9223372036854775807) (m_a0 : a0 ∈ L0) (o_a0 : Ob f0 a0 7) (hg : GI cy L0 f0) (tp : Nat) (et : fR f0 a0 0 = some tp) : Ci Z l yX9_feed (Cond.code yX9_feed cX9_feed 7 (some .int) :: TB) ({ frames := 1, cells := 0, slots := 0, locals := 23 } : Room) 0 0 D (tq cy) [.ref a0, .long (lJ j1), .long (lJ j3), .long (lJ j5)] L0 f0 (fun (r : Int) (L1 : List Nat) (f1 : Nat → va_E) => L0 = L1 ∧ GI cy L0 f1 ∧ Ey cy f0 f1 ∧ ((r = -1 ∧ 144 < fI f0 a0 1 ∧ f1 = f0) ∨ (fI f0 a0 1 ≤ 144 ∧ r = fI f0 a0 1 + 24 ∧ fI f1 a0 1 = fI f0 a0 1 + 24 ∧ FT f0 f1 a0 tp ∧ TPc (aI f0 tp) (aI f1 tp) j1 j3 j5 (fI f0 a0 1)))) := by
  refine Ci.enter (cc := cX9_feed) (n := 7) rfl (plainFor_of_name (by decide)) (Nat.le_of_ble_eq_true rfl) ?_
  intro p e s m below meth c ls A hx hb hr hts hown hlocks hnm hml hK hA hAe hw hZ hl
  have hown : s.vm.findClass RX9 = some m.cls := hown
  have hl : lv_has ls 7 [(0, .ref a0), (1, .long (lJ j1)), (3, .long (lJ j3)), (5, .long (lJ j5))] := hl
  have hN : ZN s := (zo.2.2.2.2 _ _ _ hZ).2
  have hE : Ey cy f0 f0 := Ey.refl cy f0
  have b0 : 0 ≤ fI f0 a0 1 ∧ fI f0 a0 1 ≤ 168 := hg.1 _ m_a0 7 1 o_a0
  have fq : f0 = f0 := rfl
  refine lv_aload_n hx hb dX9_feed_0 rfl (lv_at hl 0 rfl) ?_
  refine q_geti (ci := 7) (C := RX9) (T := TX9) (N := 4) hx hb hts (fun w h => List.mem_cons_of_mem _ (mfX90 w h)) hown hK hw m_a0 o_a0 rfl 1 (by decide) (hts _ (List.mem_cons_of_mem _ (mr1 _ (List.mem_of_getElem? (i := 16) rfl)))) (fun _ h => h) rfl dX9_feed_1 (fun x_1 lx_1 ux_1 ex_1 => ?_)
  have bx_1 : 0 ≤ x_1 ∧ x_1 ≤ 168 := by rw [ex_1]; exact hg.1 _ m_a0 7 1 o_a0
  refine q_bipush hx hb dX9_feed_4 rfl ?_
  first | refine q_iadd hx hb dX9_feed_6 ⟨by omega, by omega⟩ (fun x_2 lx_2 ux_2 ex_2 => ?_) | refine q_iaddw hx hb dX9_feed_6 (fun x_2 lx_2 ux_2 _ => ?_)
  refine q_sipush hx hb dX9_feed_7 rfl ?_
  refine q_icmp_le (tgt := 15) hx hb dX9_feed_10 (by decide) ⟨lx_2, ux_2⟩ ⟨by decide, by decide⟩ (fun c10 => ?_) (fun c10 => ?_)
  · refine lv_aload_n hx hb dX9_feed_15 rfl (lv_at hl 0 rfl) ?_
    refine lv_lload_n hx hb dX9_feed_16 rfl (lv_at hl 1 rfl) ?_
    refine q_call_v hA hK hw (va_runV (As := [.long (lJ j1)]) (rest := []) ⟨hx, hb, hml, hown, hts⟩ (c_X9_putBytes_t zo l D cy L0 f0 a0 j1 lj1 uj1 m_a0 o_a0 hg tp et (by omega) (by omega) _) (cwV 1 hts (gT (inV (mr4 _ (List.mem_of_getElem? (i := 10) rfl)) (mr4 _ (List.mem_of_getElem? (i := 11) rfl)) (mr4 _ (List.mem_of_getElem? (i := 12) rfl)) (mr1 _ (List.mem_of_getElem? (i := 2) rfl)) (mr4 _ (List.mem_of_getElem? (i := 13) rfl)))) rfl rfl rfl (by decide +kernel) ⟨Nat.le_of_ble_eq_true rfl, Nat.le_of_ble_eq_true rfl⟩) (Wd.preV zo hA hZ hw hK m_a0 o_a0 rfl) rfl rfl hl.1 rfl (lv_room (Nat.le_of_ble_eq_true rfl)) dX9_feed_17 ⟨Nat.le_of_ble_eq_true rfl, Nat.le_of_ble_eq_true rfl⟩) (fun L1 f_4 H locs ex_3 hw => ?_)
    obtain ⟨rfl, hg, hX, ex_3⟩ := ex_3
    have hE := hE.trans hX
    have o_a0 := hX.1.1 _ _ o_a0
    have u17 := ex_3
    have et := (fR_W (u17.1.2 0 (by decide))).trans et
    have n17 := u17.2.1
    refine lv_aload_n hx hb dX9_feed_20 rfl (lv_at hl 0 rfl) ?_
    refine lv_lload_n hx hb dX9_feed_21 rfl (lv_at hl 2 rfl) ?_
    refine q_call_v hA hK hw (va_runV (As := [.long (lJ j3)]) (rest := []) ⟨hx, hb, hml, hown, hts⟩ (c_X9_putBytes_t zo l D cy L0 f_4 a0 j3 lj3 uj3 m_a0 o_a0 hg tp et (by omega) (by omega) _) (cwV 1 hts (gT (inV (mr4 _ (List.mem_of_getElem? (i := 10) rfl)) (mr4 _ (List.mem_of_getElem? (i := 11) rfl)) (mr4 _ (List.mem_of_getElem? (i := 12) rfl)) (mr1 _ (List.mem_of_getElem? (i := 2) rfl)) (mr4 _ (List.mem_of_getElem? (i := 13) rfl)))) rfl rfl rfl (by decide +kernel) ⟨Nat.le_of_ble_eq_true rfl, Nat.le_of_ble_eq_true rfl⟩) (Wd.preV zo hA hZ hw hK m_a0 o_a0 rfl) rfl rfl hl.1 rfl (lv_room (Nat.le_of_ble_eq_true rfl)) dX9_feed_22 ⟨Nat.le_of_ble_eq_true rfl, Nat.le_of_ble_eq_true rfl⟩) (fun L1 f_6 H locs ex_5 hw => ?_)
    obtain ⟨rfl, hg, hX, ex_5⟩ := ex_5
    have hE := hE.trans hX
    have o_a0 := hX.1.1 _ _ o_a0
    have u22 := ex_5
    have et := (fR_W (u22.1.2 0 (by decide))).trans et
    have n22 := u22.2.1
    refine lv_aload_n hx hb dX9_feed_25 rfl (lv_at hl 0 rfl) ?_
    refine lv_lload hx hb dX9_feed_26 (lv_at hl 3 rfl) ?_
    refine q_call_v hA hK hw (va_runV (As := [.long (lJ j5)]) (rest := []) ⟨hx, hb, hml, hown, hts⟩ (c_X9_putBytes_t zo l D cy L0 f_6 a0 j5 lj5 uj5 m_a0 o_a0 hg tp et (by omega) (by omega) _) (cwV 1 hts (gT (inV (mr4 _ (List.mem_of_getElem? (i := 10) rfl)) (mr4 _ (List.mem_of_getElem? (i := 11) rfl)) (mr4 _ (List.mem_of_getElem? (i := 12) rfl)) (mr1 _ (List.mem_of_getElem? (i := 2) rfl)) (mr4 _ (List.mem_of_getElem? (i := 13) rfl)))) rfl rfl rfl (by decide +kernel) ⟨Nat.le_of_ble_eq_true rfl, Nat.le_of_ble_eq_true rfl⟩) (Wd.preV zo hA hZ hw hK m_a0 o_a0 rfl) rfl rfl hl.1 rfl (lv_room (Nat.le_of_ble_eq_true rfl)) dX9_feed_28 ⟨Nat.le_of_ble_eq_true rfl, Nat.le_of_ble_eq_true rfl⟩) (fun L1 f_8 H locs ex_7 hw => ?_)
    obtain ⟨rfl, hg, hX, ex_7⟩ := ex_7
    have hE := hE.trans hX
    have o_a0 := hX.1.1 _ _ o_a0
    have u28 := ex_7
    have n28 := u28.2.1
    refine lv_aload_n hx hb dX9_feed_31 rfl (lv_at hl 0 rfl) ?_
    refine q_geti (ci := 7) (C := RX9) (T := TX9) (N := 4) hx hb hts (fun w h => List.mem_cons_of_mem _ (mfX90 w h)) hown hK hw m_a0 o_a0 rfl 1 (by decide) (hts _ (List.mem_cons_of_mem _ (mr1 _ (List.mem_of_getElem? (i := 16) rfl)))) (fun _ h => h) rfl dX9_feed_32 (fun x_9 lx_9 ux_9 ex_9 => ?_)
    have bx_9 : 0 ≤ x_9 ∧ x_9 ≤ 168 := by rw [ex_9]; exact hg.1 _ m_a0 7 1 o_a0
    exact q_ret_i hx hb hr hlocks hK hAe hw ⟨lx_9, ux_9⟩ (Nat.le_of_ble_eq_true rfl) (Nat.le_of_ble_eq_true rfl) dX9_feed_35 (by exact ⟨rfl, hg, hE, Or.inr ⟨by omega, by omega, by omega, (u17.1.trans u22.1).trans u28.1, TPb.three (by omega) u17.2.2 u22.2.2 u28.2.2 (by omega) (by omega) (by omega) (by omega) (by omega)⟩⟩)
  · refine q_iconst hx hb dX9_feed_13 ?_
    exact q_ret_i hx hb hr hlocks hK hAe hw ⟨by decide, by decide⟩ (Nat.le_of_ble_eq_true rfl) (Nat.le_of_ble_eq_true rfl) dX9_feed_14 (by exact ⟨rfl, hg, hE, Or.inl ⟨by omega, by omega, rfl⟩⟩)
set_option maxHeartbeats 4000000 in
set_option maxRecDepth 100000 in
theorem c_X10_eight_t {Z : Zt} (zo : Zok Z) (l : Launch) (D : va_G) (cy : Cy) (L0 : List Nat) (f0 : Nat → va_E) (a0 : Nat) (j1 : Int) (lj1 : -9223372036854775808 ≤ j1) (uj1 : j1 ≤ 9223372036854775807) (ad : Nat → Nat) (hs : MS cy L0 f0 a0 ad) (h1 : 0 ≤ fI f0 a0 9) (h2 : fI f0 a0 9 ≤ 160) : Cv Z l yX10_eight (Cond.code yX10_eight cX10_eight 4 none :: TB) ({ frames := 0, cells := 0, slots := 0, locals := 0 } : Room) 0 0 D (tq cy) [.ref a0, .long (lJ j1)] L0 f0 (fun (L1 : List Nat) (f1 : Nat → va_E) => L0 = L1 ∧ MS cy L0 f1 a0 ad ∧ Kp a0 ad [8] [9] f0 f1 ∧ (fI f1 a0 9 = fI f0 a0 9 + 8 ∧ TPb (aI f0 (ad 8)) (aI f1 (ad 8)) j1 (fI f0 a0 9) (fI f0 a0 9 + 8))) := by
  refine Cv.enter (cc := cX10_eight) (n := 4) rfl (plainFor_of_name (by decide)) (Nat.le_of_ble_eq_true rfl) ?_
  intro p e s m below meth c ls A hx hb hr hts hown hlocks hnm hml hK hA hAe hw hZ hl
  have hown : s.vm.findClass RX10 = some m.cls := hown
  have hl : lv_has ls 4 [(0, .ref a0), (1, .long (lJ j1))] := hl
  have hN : ZN s := (zo.2.2.2.2 _ _ _ hZ).2
  have hE : Kp a0 ad [8] [9] f0 f0 := Kp.refl _ _ _ _ _
  have tb := TPb.start (aI f0 (ad 8)) j1 (fI f0 a0 9)
  refine q_bipush hx hb dX10_eight_0 rfl ?_
  refine lv_istore_n (lv' := [(3, .int (iI 56)), (0, .ref a0), (1, .long (lJ j1))]) hx hb dX10_eight_2 rfl hl (by decide) rfl (fun ls hl => ?_)
  have J3 : ∀ (n3 : Nat) (y3_3 : Int) (ly3_3 : -2147483648 ≤ y3_3) (uy3_3 : y3_3 ≤ 2147483647) (L : List Nat) (fw3 : Nat → va_E) (hs : MS cy L0 fw3 a0 ad) (hE : Kp a0 ad [8] [9] f0 fw3) (i1 : -8 ≤ y3_3) (i3 : y3_3 ≤ 56) (i4 : fI f0 a0 9 ≤ fI fw3 a0 9) (i2 : 8 * (fI fw3 a0 9 - fI f0 a0 9) + y3_3 = 56) (tb : TPb (aI f0 (ad 8)) (aI fw3 (ad 8)) j1 (fI f0 a0 9) (fI fw3 a0 9)) (hn3 : (y3_3 + (2147483648 : Int)).toNat < n3) (H : Heap) (locs : List Loc) (ls : Array Slot) (hw : Wd D A s.heap L0 fw3 H locs) (hl : lv_has ls 4 [(0, .ref a0), (1, .long (lJ j1)), (3, .int (iI y3_3))]), W p l e ({ frames := 0, cells := 0, slots := 0, locals := 0 } : Room) s m ([.ref a0, .long (lJ j1)] : List Value).toArray below meth c H locs (0) (0) (MQ below (Qv D (tq cy) L0 f0 s.heap.size (fun (L1 : List Nat) (f1 : Nat → va_E) => L0 = L1 ∧ MS cy L0 f1 a0 ad ∧ Kp a0 ad [8] [9] f0 f1 ∧ (fI f1 a0 9 = fI f0 a0 9 + 8 ∧ TPb (aI f0 (ad 8)) (aI f1 (ad 8)) j1 (fI f0 a0 9) (fI f0 a0 9 + 8)))) ([.ref a0, .long (lJ j1)] : List Value).toArray s 0 0 A) (F0 m 3 ls []) := by
    intro n3
    induction n3 with
    | zero => intro y3_3 ly3_3 uy3_3 L fw3 hs hE i1 i3 i4 i2 tb hn3; exact absurd hn3 (Nat.not_lt_zero _)
    | succ n3 ih3 =>
      intro y3_3 ly3_3 uy3_3 L fw3 hs hE i1 i3 i4 i2 tb hn3 H locs ls hw hl
      refine lv_iload_n hx hb dX10_eight_3 rfl (lv_at hl 2 rfl) ?_
      refine q_if_lt (tgt := 40) hx hb dX10_eight_4 (by decide) ⟨ly3_3, uy3_3⟩ (fun c4 => ?_) (fun c4 => ?_)
      · exact q_ret_v hx hb hr hlocks hK hAe hw (Nat.le_of_ble_eq_true rfl) (Nat.le_of_ble_eq_true rfl) dX10_eight_40 (by exact ⟨rfl, hs, hE, by omega, by rw [show fI f0 a0 9 + 8 = fI fw3 a0 9 by omega]; exact tb⟩)
      · refine lv_aload_n hx hb dX10_eight_7 rfl (lv_at hl 0 rfl) ?_
        refine q_getr (ci := 8) (C := RX10) (T := TX10) (N := 26) hx hb hts (fun w h => List.mem_cons_of_mem _ (mfX100 w h)) hown hK hw hs.1 hs.2.1 rfl 8 (by decide) (hts _ (List.mem_cons_of_mem _ (mr3 _ (List.mem_of_getElem? (i := 17) rfl)))) (fun _ h => h) rfl (hs.2.2.1 8 rfl).1 dX10_eight_8 ?_
        refine lv_aload_n hx hb dX10_eight_11 rfl (lv_at hl 0 rfl) ?_
        refine q_geti (ci := 8) (C := RX10) (T := TX10) (N := 26) hx hb hts (fun w h => List.mem_cons_of_mem _ (mfX100 w h)) hown hK hw hs.1 hs.2.1 rfl 9 (by decide) (hts _ (List.mem_cons_of_mem _ (mr4 _ (List.mem_of_getElem? (i := 20) rfl)))) (fun _ h => h) rfl dX10_eight_12 (fun x_1 lx_1 ux_1 ex_1 => ?_)
        have i12 := ex_1
        refine lv_lload_n hx hb dX10_eight_15 rfl (lv_at hl 1 rfl) ?_
        refine lv_iload_n hx hb dX10_eight_16 rfl (lv_at hl 2 rfl) ?_
        refine lv_lshr hx hb dX10_eight_17 rfl ?_
        refine q_numl (fun j_2 lj_2 uj_2 ej_2 => ?_)
        have h17 := ej_2
        refine q_l2iv hx hb dX10_eight_18 (fun x_3 lx_3 ux_3 ex_3 => ?_)
        have h18 := ex_3
        refine q_sipush hx hb dX10_eight_19 rfl ?_
        refine lv_iand hx hb dX10_eight_22 ?_
        refine q_num (fun x_4 lx_4 ux_4 ex_4 => ?_)
        have v22 : x_4 = byq j1 y3_3 := by_r (by omega) (by omega) (by omega) h17 h18 ex_4
        refine q_iast hx hb hK hw (hs.2.2.1 8 rfl).2.1 1 (hs.2.2.1 8 rfl).2.2 rfl ⟨lx_1, ux_1⟩ (by omega) (by show _ < ((168 : Nat) : Int); omega) dX10_eight_23 (fun H locs hw => ?_)
        obtain ⟨f_5, ef_5⟩ : ∃ g : Nat → va_E, g = aU fw3 (ad 8) x_1 (iI x_4) := ⟨_, rfl⟩
        have t9_f_5 : fI f_5 a0 9 = fI fw3 a0 9 := by rw [ef_5]; exact hs.fI_aU rfl _ _
        have hE := hE.trans (show Kp a0 ad [8] [9] fw3 f_5 by rw [ef_5]; exact Kp_aU hs rfl (by decide))
        have hs_ := hs
        have hs : MS cy L0 f_5 a0 ad := by rw [ef_5]; exact MS_aU hs rfl
        rw [← ef_5] at hw
        have bq := byq_b j1 y3_3
        have w23 : aI f_5 (ad 8) (fI fw3 a0 9) = byq j1 y3_3 := by rw [ef_5, ← i12]; exact (hs_.aI_self rfl ⟨by omega, by omega⟩).trans v22
        have u23 : ∀ i : Int, 0 ≤ i → i ≠ fI fw3 a0 9 → aI f_5 (ad 8) i = aI fw3 (ad 8) i := fun i q0 q1 => by rw [ef_5]; exact hs_.aI_nj rfl (by omega) q0 (by omega)
        have tb9 := tb.step w23 u23 (by omega) h1 (by omega)
        refine lv_aload_n hx hb dX10_eight_24 rfl (lv_at hl 0 rfl) ?_
        refine lv_dup hx hb dX10_eight_25 rfl ?_
        refine q_geti (ci := 8) (C := RX10) (T := TX10) (N := 26) hx hb hts (fun w h => List.mem_cons_of_mem _ (mfX100 w h)) hown hK hw hs.1 hs.2.1 rfl 9 (by decide) (hts _ (List.mem_cons_of_mem _ (mr4 _ (List.mem_of_getElem? (i := 20) rfl)))) (fun _ h => h) rfl dX10_eight_26 (fun x_6 lx_6 ux_6 ex_6 => ?_)
        refine q_iconst hx hb dX10_eight_29 ?_
        first | refine q_iadd hx hb dX10_eight_30 ⟨by omega, by omega⟩ (fun x_7 lx_7 ux_7 ex_7 => ?_) | refine q_iaddw hx hb dX10_eight_30 (fun x_7 lx_7 ux_7 ex_7 => ?_)
        refine q_puti (ci := 8) (C := RX10) (T := TX10) (N := 26) hx hb hts (fun w h => List.mem_cons_of_mem _ (mfX100 w h)) hown hK hw hs.1 hs.2.1 rfl 9 (by decide) (hts _ (List.mem_cons_of_mem _ (mr4 _ (List.mem_of_getElem? (i := 20) rfl)))) (fun _ h => h) tyX10 tyX10_ok nmX10 rfl (ty := .int) (by decide +kernel) rfl rfl dX10_eight_31 (fun H locs hw => ?_)
        obtain ⟨f_8, ef_8⟩ : ∃ g : Nat → va_E, g = pU f_5 a0 9 (.int (iI x_7)) := ⟨_, rfl⟩
        have v9_f_8 : fI f_8 a0 9 = x_7 := by rw [ef_8]; exact fI_pU_self hs.2.1 rfl ⟨lx_7, ux_7⟩
        have hE := hE.trans (show Kp a0 ad [8] [9] f_5 f_8 by rw [ef_8]; exact Kp_pU hs (by decide))
        have hs_ := hs
        have hs : MS cy L0 f_8 a0 ad := by rw [ef_8]; exact MS_pU hs rfl
        rw [← ef_8] at hw
        have q31 : aI f_8 (ad 8) = aI f_5 (ad 8) := funext fun x => by rw [ef_8]; exact hs_.aI_pU _ _
        have tb9 : TPb (aI f0 (ad 8)) (aI f_8 (ad 8)) j1 (fI f0 a0 9) (fI f_8 a0 9) := by rw [q31, show fI f_8 a0 9 = fI fw3 a0 9 + 1 by omega]; exact tb9
        obtain ⟨x_9, lx_9, ux_9, hx_9, ex_9⟩ := q_inc y3_3 (-8)
        try (replace ex_9 : x_9 = y3_3 + (-8) := by omega)
        refine lv_iinc (v := iI x_9) (lv' := [(3, .int (iI x_9)), (0, .ref a0), (1, .long (lJ j1))]) hx hb dX10_eight_34 hl (k := 2) rfl hx_9 (by decide) rfl (fun ls hl => ?_)
        refine lv_goto (tgt := 3) hx hb dX10_eight_37 (by decide) ?_
        exact ih3 x_9 lx_9 ux_9 L0 f_8 hs hE (by omega) (by omega) (by omega) (by omega) (by first | exact tb9 | exact tb) (by omega) _ _ _ hw (lv_sub hl [1, 2, 0] rfl)
  exact J3 (((56 + (2147483648 : Int)).toNat) + 1) 56 (by decide) (by decide) L0 f0 hs hE (by omega) (by omega) (by omega) (by omega) (by first | exact tb9 | exact tb) (by omega) _ _ _ hw (lv_sub hl [1, 2, 0] rfl)
set_option maxHeartbeats 4000000 in
set_option maxRecDepth 100000 in
theorem c_X10_feed_t {Z : Zt} (zo : Zok Z) (l : Launch) (D : va_G) (cy : Cy) (L0 : List Nat) (f0 : Nat → va_E) (a0 : Nat) (j1 : Int) (lj1 : -9223372036854775808 ≤ j1) (uj1 : j1 ≤ 9223372036854775807) (j3 : Int) (lj3 : -9223372036854775808 ≤ j3) (uj3 : j3 ≤ 9223372036854775807) (j5 : Int) (lj5 : -9223372036854775808 ≤ j5) (uj5 : j5 ≤ 9223372036854775807) (ad : Nat → Nat) (hs : MS cy L0 f0 a0 ad) (h1 : 0 ≤ fI f0 a0 9) (h2 : fI f0 a0 9 ≤ 168) : Ci Z l yX10_feed (Cond.code yX10_feed cX10_feed 7 (some .int) :: TB) ({ frames := 1, cells := 0, slots := 0, locals := 23 } : Room) 0 0 D (tq cy) [.ref a0, .long (lJ j1), .long (lJ j3), .long (lJ j5)] L0 f0 (fun (r : Int) (L1 : List Nat) (f1 : Nat → va_E) => L0 = L1 ∧ MS cy L0 f1 a0 ad ∧ Kp a0 ad [8] [9, 10] f0 f1 ∧ ((r = -1 ∧ 144 < fI f0 a0 9 ∧ fI f1 a0 9 = fI f0 a0 9 ∧ (∀ i : Int, aI f1 (ad 8) i = aI f0 (ad 8) i)) ∨ (fI f0 a0 9 ≤ 144 ∧ r = fI f0 a0 9 + 24 ∧ fI f1 a0 9 = fI f0 a0 9 + 24 ∧ TPc (aI f0 (ad 8)) (aI f1 (ad 8)) j1 j3 j5 (fI f0 a0 9)))) := by
  refine Ci.enter (cc := cX10_feed) (n := 7) rfl (plainFor_of_name (by decide)) (Nat.le_of_ble_eq_true rfl) ?_
  intro p e s m below meth c ls A hx hb hr hts hown hlocks hnm hml hK hA hAe hw hZ hl
  have hown : s.vm.findClass RX10 = some m.cls := hown
  have hl : lv_has ls 7 [(0, .ref a0), (1, .long (lJ j1)), (3, .long (lJ j3)), (5, .long (lJ j5))] := hl
  have hN : ZN s := (zo.2.2.2.2 _ _ _ hZ).2
  have hE : Kp a0 ad [8] [9, 10] f0 f0 := Kp.refl _ _ _ _ _
  refine lv_aload_n hx hb dX10_feed_0 rfl (lv_at hl 0 rfl) ?_
  refine q_iconst hx hb dX10_feed_1 ?_
  refine q_puti (ci := 8) (C := RX10) (T := TX10) (N := 26) hx hb hts (fun w h => List.mem_cons_of_mem _ (mfX100 w h)) hown hK hw hs.1 hs.2.1 rfl 10 (by decide) (hts _ (List.mem_cons_of_mem _ (mr4 _ (List.mem_of_getElem? (i := 19) rfl)))) (fun _ h => h) tyX10 tyX10_ok nmX10 rfl (ty := .int) (by decide +kernel) rfl rfl dX10_feed_2 (fun H locs hw => ?_)
  obtain ⟨f_1, ef_1⟩ : ∃ g : Nat → va_E, g = pU f0 a0 10 (.int (iI 0)) := ⟨_, rfl⟩
  have v10_f_1 : fI f_1 a0 10 = 0 := by rw [ef_1]; exact fI_pU_self hs.2.1 rfl ⟨by decide, by decide⟩
  have t9_f_1 : fI f_1 a0 9 = fI f0 a0 9 := by rw [ef_1]; exact fI_pU (Or.inr (by decide))
  have hE := hE.trans (show Kp a0 ad [8] [9, 10] f0 f_1 by rw [ef_1]; exact Kp_pU hs (by decide))
  have hs_ := hs
  have hs : MS cy L0 f_1 a0 ad := by rw [ef_1]; exact MS_pU hs rfl
  rw [← ef_1] at hw
  have q2 : aI f_1 (ad 8) = aI f0 (ad 8) := funext fun x => by rw [ef_1]; exact hs_.aI_pU _ _
  refine lv_aload_n hx hb dX10_feed_5 rfl (lv_at hl 0 rfl) ?_
  refine q_geti (ci := 8) (C := RX10) (T := TX10) (N := 26) hx hb hts (fun w h => List.mem_cons_of_mem _ (mfX100 w h)) hown hK hw hs.1 hs.2.1 rfl 9 (by decide) (hts _ (List.mem_cons_of_mem _ (mr4 _ (List.mem_of_getElem? (i := 20) rfl)))) (fun _ h => h) rfl dX10_feed_6 (fun x_2 lx_2 ux_2 ex_2 => ?_)
  refine q_bipush hx hb dX10_feed_9 rfl ?_
  first | refine q_iadd hx hb dX10_feed_11 ⟨by omega, by omega⟩ (fun x_3 lx_3 ux_3 ex_3 => ?_) | refine q_iaddw hx hb dX10_feed_11 (fun x_3 lx_3 ux_3 ex_3 => ?_)
  refine q_sipush hx hb dX10_feed_12 rfl ?_
  refine q_icmp_le (tgt := 20) hx hb dX10_feed_15 (by decide) ⟨lx_3, ux_3⟩ ⟨by decide, by decide⟩ (fun c15 => ?_) (fun c15 => ?_)
  · refine lv_aload_n hx hb dX10_feed_20 rfl (lv_at hl 0 rfl) ?_
    refine lv_lload_n hx hb dX10_feed_21 rfl (lv_at hl 1 rfl) ?_
    refine q_call_v hA hK hw (va_runV (As := [.long (lJ j1)]) (rest := []) ⟨hx, hb, hml, hown, hts⟩ (c_X10_eight_t zo l D cy L0 f_1 a0 j1 lj1 uj1 ad hs (by omega) (by omega) _) (cwV 1 hts (gT (inV (mr4 _ (List.mem_of_getElem? (i := 21) rfl)) (mr4 _ (List.mem_of_getElem? (i := 22) rfl)) (mr4 _ (List.mem_of_getElem? (i := 23) rfl)) (mr1 _ (List.mem_of_getElem? (i := 5) rfl)) (mr5 _ (List.mem_of_getElem? (i := 0) rfl)))) rfl rfl rfl (by decide +kernel) ⟨Nat.le_of_ble_eq_true rfl, Nat.le_of_ble_eq_true rfl⟩) (Wd.preV zo hA hZ hw hK hs.1 hs.2.1 rfl) rfl rfl hl.1 rfl (lv_room (Nat.le_of_ble_eq_true rfl)) dX10_feed_22 ⟨Nat.le_of_ble_eq_true rfl, Nat.le_of_ble_eq_true rfl⟩) (fun L1 f_5 H locs ex_4 hw => ?_)
    obtain ⟨rfl, hs, hX, ex_4⟩ := ex_4
    have hE := hE.trans (hX.mono (rs' := [8]) (fs' := [9, 10]) (by decide) (by decide))
    have u22 := ex_4
    have n22 := u22.1
    rw [q2, show fI f_1 a0 9 = fI f0 a0 9 by omega] at u22
    refine lv_aload_n hx hb dX10_feed_25 rfl (lv_at hl 0 rfl) ?_
    refine lv_lload_n hx hb dX10_feed_26 rfl (lv_at hl 2 rfl) ?_
    refine q_call_v hA hK hw (va_runV (As := [.long (lJ j3)]) (rest := []) ⟨hx, hb, hml, hown, hts⟩ (c_X10_eight_t zo l D cy L0 f_5 a0 j3 lj3 uj3 ad hs (by omega) (by omega) _) (cwV 1 hts (gT (inV (mr4 _ (List.mem_of_getElem? (i := 21) rfl)) (mr4 _ (List.mem_of_getElem? (i := 22) rfl)) (mr4 _ (List.mem_of_getElem? (i := 23) rfl)) (mr1 _ (List.mem_of_getElem? (i := 5) rfl)) (mr5 _ (List.mem_of_getElem? (i := 0) rfl)))) rfl rfl rfl (by decide +kernel) ⟨Nat.le_of_ble_eq_true rfl, Nat.le_of_ble_eq_true rfl⟩) (Wd.preV zo hA hZ hw hK hs.1 hs.2.1 rfl) rfl rfl hl.1 rfl (lv_room (Nat.le_of_ble_eq_true rfl)) dX10_feed_27 ⟨Nat.le_of_ble_eq_true rfl, Nat.le_of_ble_eq_true rfl⟩) (fun L1 f_7 H locs ex_6 hw => ?_)
    obtain ⟨rfl, hs, hX, ex_6⟩ := ex_6
    have hE := hE.trans (hX.mono (rs' := [8]) (fs' := [9, 10]) (by decide) (by decide))
    have u27 := ex_6
    have n27 := u27.1
    refine lv_aload_n hx hb dX10_feed_30 rfl (lv_at hl 0 rfl) ?_
    refine lv_lload hx hb dX10_feed_31 (lv_at hl 3 rfl) ?_
    refine q_call_v hA hK hw (va_runV (As := [.long (lJ j5)]) (rest := []) ⟨hx, hb, hml, hown, hts⟩ (c_X10_eight_t zo l D cy L0 f_7 a0 j5 lj5 uj5 ad hs (by omega) (by omega) _) (cwV 1 hts (gT (inV (mr4 _ (List.mem_of_getElem? (i := 21) rfl)) (mr4 _ (List.mem_of_getElem? (i := 22) rfl)) (mr4 _ (List.mem_of_getElem? (i := 23) rfl)) (mr1 _ (List.mem_of_getElem? (i := 5) rfl)) (mr5 _ (List.mem_of_getElem? (i := 0) rfl)))) rfl rfl rfl (by decide +kernel) ⟨Nat.le_of_ble_eq_true rfl, Nat.le_of_ble_eq_true rfl⟩) (Wd.preV zo hA hZ hw hK hs.1 hs.2.1 rfl) rfl rfl hl.1 rfl (lv_room (Nat.le_of_ble_eq_true rfl)) dX10_feed_33 ⟨Nat.le_of_ble_eq_true rfl, Nat.le_of_ble_eq_true rfl⟩) (fun L1 f_9 H locs ex_8 hw => ?_)
    obtain ⟨rfl, hs, hX, ex_8⟩ := ex_8
    have hE := hE.trans (hX.mono (rs' := [8]) (fs' := [9, 10]) (by decide) (by decide))
    have u33 := ex_8
    have n33 := u33.1
    refine lv_aload_n hx hb dX10_feed_36 rfl (lv_at hl 0 rfl) ?_
    refine q_geti (ci := 8) (C := RX10) (T := TX10) (N := 26) hx hb hts (fun w h => List.mem_cons_of_mem _ (mfX100 w h)) hown hK hw hs.1 hs.2.1 rfl 9 (by decide) (hts _ (List.mem_cons_of_mem _ (mr4 _ (List.mem_of_getElem? (i := 20) rfl)))) (fun _ h => h) rfl dX10_feed_37 (fun x_10 lx_10 ux_10 ex_10 => ?_)
    exact q_ret_i hx hb hr hlocks hK hAe hw ⟨lx_10, ux_10⟩ (Nat.le_of_ble_eq_true rfl) (Nat.le_of_ble_eq_true rfl) dX10_feed_40 (by exact ⟨rfl, hs, hE, Or.inr ⟨by omega, by omega, by omega, TPb.three (by omega) u22.2 u27.2 u33.2 (by omega) (by omega) (by omega) (by omega) (by omega)⟩⟩)
  · refine q_iconst hx hb dX10_feed_18 ?_
    exact q_ret_i hx hb hr hlocks hK hAe hw ⟨by decide, by decide⟩ (Nat.le_of_ble_eq_true rfl) (Nat.le_of_ble_eq_true rfl) dX10_feed_19 (by exact ⟨rfl, hs, hE, Or.inl ⟨by omega, by omega, by omega, fun i => congrFun q2 i⟩⟩)
