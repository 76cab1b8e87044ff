/-! ===== calls that change nothing but what was found ===== -/
def Fh (f g : Nat → va_E) : Prop := (∀ y k : Nat, k ≠ 13 → k ≠ 14 → fV g y k = fV f y k) ∧ (∀ y ci k : Nat, Ob f y ci → ci ≠ 0 → fV g y k = fV f y k) ∧ (∀ (y : Nat) (j : Int), aR g y j = aR f y j) ∧ (∀ (y : Nat) (j : Int), aI g y j = aI f y j)
def Eh (cy : Cy) (f g : Nat → va_E) : Prop := Ex cy f g ∧ Fh f g
theorem Eh.refl (cy : Cy) (f : Nat → va_E) : Eh cy f f := ⟨Ex.refl cy f, fun _ _ _ _ => rfl, fun _ _ _ _ _ => rfl, fun _ _ => rfl, fun _ _ => rfl⟩
theorem Eh.trans {cy : Cy} {f g h : Nat → va_E} (a : Eh cy f g) (b : Eh cy g h) : Eh cy f h :=
  ⟨a.1.trans b.1, fun y k h2 h3 => (b.2.1 y k h2 h3).trans (a.2.1 y k h2 h3), fun y ci k o h0 => (b.2.2.1 y ci k (a.1.1.1 _ _ o) h0).trans (a.2.2.1 y ci k o h0), fun y j => (b.2.2.2.1 y j).trans (a.2.2.2.1 y j), fun y j => (b.2.2.2.2 y j).trans (a.2.2.2.2 y j)⟩
theorem Eh_pU {cy : Cy} {f : Nat → va_E} {a k ty : Nat} {v : Value} (h : Ob f a 0) (hk : (sg 0)[k]? = some ty) (hv : tyv v = ty) (k3 : k = 13 ∨ k = 14) : Eh cy f (pU f a k v) := by
  refine ⟨Ex_pU h hk hv (by decide), fun y j h2 h3 => fV_pU (Or.inr (by omega)), fun y ci j o h0 => fV_pU (Or.inl (fun e => h0 ?_)), fun y j => aR_pU h, fun y j => aI_pU h⟩
  rw [e] at o
  exact o.uniq h
theorem Eh.ef {cy : Cy} {f g : Nat → va_E} (a : Eh cy f g) : Ef cy f g := ⟨a.1, fun y k _ h2 h3 => a.2.1 y k h2 h3, a.2.2.1, a.2.2.2.1, fun y j _ => a.2.2.2.2 y j⟩
theorem OC.eh {cy : Cy} {f g : Nat → va_E} {b : Nat} {O : Int → Int} (h : OC f b O) (z : Eh cy f g) : OC g b O :=
  h.keep (z.2.1 b 10 (by decide) (by decide)) (z.2.1 b 11 (by decide) (by decide)) (z.2.1 b 12 (by decide) (by decide)) (fun j => z.2.2.2.2 _ j) (fun j => z.2.2.2.2 _ j)
set_option maxHeartbeats 4000000 in
set_option maxRecDepth 100000 in
theorem c_X0_seek_h {Z : Zt} (zo : Zok Z) (l : Launch) (D : va_G) (cy : Cy) (L0 : List Nat) (f0 : Nat → va_E) (a0 : Nat) (x1 : Int) (lx1 : -2147483648 ≤ x1) (ux1 : x1 ≤ 2147483647) (x2 : Int) (lx2 : -2147483648 ≤ x2) (ux2 : x2 ≤ 2147483647) (m_a0 : a0 ∈ L0) (o_a0 : Ob f0 a0 0) (hg : GI cy L0 f0) : Ci Z l yX0_seek (Cond.code yX0_seek cX0_seek 8 (some .boolean) :: TB) ({ frames := 4, cells := 0, slots := 0, locals := 90 } : Room) 0 0 D (tq cy) [.ref a0, .int (iI x1), .int (iI x2)] L0 f0 (fun (r : Int) (L1 : List Nat) (f1 : Nat → va_E) => L0 = L1 ∧ GI cy L0 f1 ∧ Eh cy f0 f1 ∧ (r = 0 ∨ r = 1)) := by
  refine Ci.enter (cc := cX0_seek) (n := 8) rfl (plainFor_of_name (by decide)) (Nat.le_of_ble_eq_true rfl) ?_
  intro p e s m below meth c ls A hx hb hr hts hown hlocks hnm hml hK hA hAe hw hZ hl
  have hown : s.vm.findClass RX0 = some m.cls := hown
  have hl : lv_has ls 8 [(0, .ref a0), (1, .int (iI x1)), (2, .int (iI x2))] := hl
  have hN : ZN s := (zo.2.2.2.2 _ _ _ hZ).2
  have hE : Eh cy f0 f0 := Eh.refl cy f0
  refine lv_aload_n hx hb dX0_seek_0 rfl (lv_at hl 0 rfl) ?_
  refine lv_aload_n hx hb dX0_seek_1 rfl (lv_at hl 0 rfl) ?_
  refine lv_iload_n hx hb dX0_seek_2 rfl (lv_at hl 1 rfl) ?_
  refine q_call_i hA hK hw (va_runV (As := [.int (iI x1)]) (rest := [.ref a0]) ⟨hx, hb, hml, hown, hts⟩ (c_X0_ruledFrom zo l D cy L0 f0 a0 x1 lx1 ux1 m_a0 o_a0 hg _) (cwV 1 hts (gT (inV (mr29 _ (List.mem_of_getElem? (i := 14) rfl)) (mr29 _ (List.mem_of_getElem? (i := 15) rfl)) (mr29 _ (List.mem_of_getElem? (i := 16) rfl)) (mr2 _ (List.mem_of_getElem? (i := 9) rfl)) (mr29 _ (List.mem_of_getElem? (i := 17) rfl)))) rfl rfl rfl (by decide +kernel) ⟨Nat.le_of_ble_eq_true rfl, Nat.le_of_ble_eq_true rfl⟩) (Wd.preV zo hA hZ hw hK m_a0 o_a0 rfl) rfl rfl hl.1 rfl (lv_room (Nat.le_of_ble_eq_true rfl)) dX0_seek_3 ⟨Nat.le_of_ble_eq_true rfl, Nat.le_of_ble_eq_true rfl⟩) (fun x_1 L1 f1 H locs lx_1 ux_1 ex_1 hw => ?_)
  obtain ⟨rfl, rfl, ex_1⟩ := ex_1
  refine q_call_i hA hK hw (va_runV (As := [.int (iI x_1)]) (rest := []) ⟨hx, hb, hml, hown, hts⟩ (c_X0_keyFrom zo l D cy L0 f0 a0 x_1 lx_1 ux_1 m_a0 o_a0 hg _) (cwV 1 hts (gT (inV (mr26 _ (List.mem_of_getElem? (i := 10) rfl)) (mr24 _ (List.mem_of_getElem? (i := 13) rfl)) (mr24 _ (List.mem_of_getElem? (i := 14) rfl)) (mr2 _ (List.mem_of_getElem? (i := 9) rfl)) (mr24 _ (List.mem_of_getElem? (i := 15) rfl)))) rfl rfl rfl (by decide +kernel) ⟨Nat.le_of_ble_eq_true rfl, Nat.le_of_ble_eq_true rfl⟩) (Wd.preV zo hA hZ hw hK m_a0 o_a0 rfl) rfl rfl hl.1 rfl (lv_room (Nat.le_of_ble_eq_true rfl)) dX0_seek_6 ⟨Nat.le_of_ble_eq_true rfl, Nat.le_of_ble_eq_true rfl⟩) (fun x_2 L1 f1 H locs lx_2 ux_2 ex_2 hw => ?_)
  obtain ⟨rfl, rfl, ex_2⟩ := ex_2
  refine lv_istore_n (lv' := [(3, .int (iI x_2)), (0, .ref a0), (1, .int (iI x1)), (2, .int (iI x2))]) hx hb dX0_seek_9 rfl hl (by decide) rfl (fun ls hl => ?_)
  refine lv_iload_n hx hb dX0_seek_10 rfl (lv_at hl 0 rfl) ?_
  refine q_iconst hx hb dX0_seek_11 ?_
  have J37 : ∀ (z3_37 : Int) (lz3_37 : -2147483648 ≤ z3_37) (uz3_37 : z3_37 ≤ 2147483647) (H : Heap) (locs : List Loc) (ls : Array Slot) (hw : Wd D A s.heap L0 f0 H locs) (hl : lv_has ls 8 [(0, .ref a0), (1, .int (iI x1)), (2, .int (iI x2)), (3, .int (iI z3_37))]), W p l e ({ frames := 4, cells := 0, slots := 0, locals := 90 } : Room) s m ([.ref a0, .int (iI x1), .int (iI x2)] : List Value).toArray below meth c H locs (0 + 0 + 0) (0 + 0 + 0) (MQ below (Qi D (tq cy) L0 f0 s.heap.size (fun (r : Int) (L1 : List Nat) (f1 : Nat → va_E) => L0 = L1 ∧ GI cy L0 f1 ∧ Eh cy f0 f1 ∧ (r = 0 ∨ r = 1))) ([.ref a0, .int (iI x1), .int (iI x2)] : List Value).toArray s 0 0 A) (F0 m 37 ls []) := by
    intro z3_37 lz3_37 uz3_37 H locs ls hw hl
    refine q_iconst hx hb dX0_seek_37 ?_
    refine lv_istore (lv' := [(4, .int (iI 0)), (0, .ref a0), (1, .int (iI x1)), (2, .int (iI x2)), (3, .int (iI z3_37))]) hx hb dX0_seek_38 hl (by decide) rfl (fun ls hl => ?_)
    have J40 : ∀ (n40 : Nat) (y3_40 : Int) (ly3_40 : -2147483648 ≤ y3_40) (uy3_40 : y3_40 ≤ 2147483647) (y4_40 : Int) (ly4_40 : -2147483648 ≤ y4_40) (uy4_40 : y4_40 ≤ 2147483647) (i1 : 0 ≤ y4_40) (hn40 : ((2147483647 : Int) - y4_40).toNat < n40) (H : Heap) (locs : List Loc) (ls : Array Slot) (hw : Wd D A s.heap L0 f0 H locs) (hl : lv_has ls 8 [(0, .ref a0), (1, .int (iI x1)), (2, .int (iI x2)), (3, .int (iI y3_40)), (4, .int (iI y4_40))]), W p l e ({ frames := 4, cells := 0, slots := 0, locals := 90 } : Room) s m ([.ref a0, .int (iI x1), .int (iI x2)] : List Value).toArray below meth c H locs (0 + 0 + 0) (0 + 0 + 0) (MQ below (Qi D (tq cy) L0 f0 s.heap.size (fun (r : Int) (L1 : List Nat) (f1 : Nat → va_E) => L0 = L1 ∧ GI cy L0 f1 ∧ Eh cy f0 f1 ∧ (r = 0 ∨ r = 1))) ([.ref a0, .int (iI x1), .int (iI x2)] : List Value).toArray s 0 0 A) (F0 m 40 ls []) := by
      intro n40
      induction n40 with
      | zero => intro y3_40 ly3_40 uy3_40 y4_40 ly4_40 uy4_40 i1 hn40; exact absurd hn40 (Nat.not_lt_zero _)
      | succ n40 ih40 =>
        intro y3_40 ly3_40 uy3_40 y4_40 ly4_40 uy4_40 i1 hn40 H locs ls hw hl
        refine lv_iload hx hb dX0_seek_40 (lv_at hl 4 rfl) ?_
        refine lv_aload_n hx hb dX0_seek_42 rfl (lv_at hl 0 rfl) ?_
        refine q_geti (ci := 0) (C := RX0) (T := TX0) (N := 15) hx hb hts (fun w h => List.mem_cons_of_mem _ (mfX00 w h)) hown hK hw m_a0 o_a0 rfl 10 (by decide) (hts _ (List.mem_cons_of_mem _ (mr14 _ (List.mem_of_getElem? (i := 9) rfl)))) (fun _ h => h) rfl dX0_seek_43 (fun x_3 lx_3 ux_3 ex_3 => ?_)
        have bx_3 : 0 ≤ x_3 ∧ x_3 ≤ 16 := by rw [ex_3]; exact hg.1 _ m_a0 0 10 o_a0
        have J77 : ∀ (H : Heap) (locs : List Loc) (ls : Array Slot) (hw : Wd D A s.heap L0 f0 H locs) (hl : lv_has ls 8 [(0, .ref a0), (1, .int (iI x1)), (2, .int (iI x2)), (3, .int (iI y3_40))]), W p l e ({ frames := 4, cells := 0, slots := 0, locals := 90 } : Room) s m ([.ref a0, .int (iI x1), .int (iI x2)] : List Value).toArray below meth c H locs (0 + 0 + 0) (0 + 0 + 0) (MQ below (Qi D (tq cy) L0 f0 s.heap.size (fun (r : Int) (L1 : List Nat) (f1 : Nat → va_E) => L0 = L1 ∧ GI cy L0 f1 ∧ Eh cy f0 f1 ∧ (r = 0 ∨ r = 1))) ([.ref a0, .int (iI x1), .int (iI x2)] : List Value).toArray s 0 0 A) (F0 m 77 ls []) := by
          intro H locs ls hw hl
          refine lv_aload_n hx hb dX0_seek_77 rfl (lv_at hl 0 rfl) ?_
          refine lv_iload_n hx hb dX0_seek_78 rfl (lv_at hl 3 rfl) ?_
          refine q_puti (ci := 0) (C := RX0) (T := TX0) (N := 15) hx hb hts (fun w h => List.mem_cons_of_mem _ (mfX00 w h)) hown hK hw m_a0 o_a0 rfl 14 (by decide) (hts _ (List.mem_cons_of_mem _ (mr29 _ (List.mem_of_getElem? (i := 11) rfl)))) (fun _ h => h) tyX0 tyX0_ok nmX0 rfl (ty := .int) (by decide +kernel) rfl rfl dX0_seek_79 (fun H locs hw => ?_)
          have oo := o_a0
          obtain ⟨f_4, ef_4⟩ : ∃ g : Nat → va_E, g = pU f0 a0 14 (.int (iI y3_40)) := ⟨_, rfl⟩
          have hX : Eh cy f0 f_4 := by rw [ef_4]; exact Eh_pU oo rfl rfl (by decide)
          have hg : GI cy L0 f_4 := by rw [ef_4]; exact hg.putI oo rfl ⟨ly3_40, uy3_40⟩ trivial
          rw [← ef_4] at hw
          have hE := hE.trans hX
          have o_a0 := hX.1.1.1 _ _ o_a0
          have vf_4 : fI f_4 a0 14 = y3_40 := by rw [ef_4]; exact fI_pU_self oo rfl ⟨ly3_40, uy3_40⟩
          refine lv_aload_n hx hb dX0_seek_82 rfl (lv_at hl 0 rfl) ?_
          refine lv_iload_n hx hb dX0_seek_83 rfl (lv_at hl 3 rfl) ?_
          refine q_iconst hx hb dX0_seek_84 ?_
          have J98 : ∀ (w0_98 : Int) (lw0_98 : -2147483648 ≤ w0_98) (uw0_98 : w0_98 ≤ 2147483647) (H : Heap) (locs : List Loc) (ls : Array Slot) (hw : Wd D A s.heap L0 f_4 H locs) (hl : lv_has ls 8 [(0, .ref a0), (1, .int (iI x1)), (2, .int (iI x2))]), W p l e ({ frames := 4, cells := 0, slots := 0, locals := 90 } : Room) s m ([.ref a0, .int (iI x1), .int (iI x2)] : List Value).toArray below meth c H locs (0 + 0 + 0) (0 + 0 + 0) (MQ below (Qi D (tq cy) L0 f0 s.heap.size (fun (r : Int) (L1 : List Nat) (f1 : Nat → va_E) => L0 = L1 ∧ GI cy L0 f1 ∧ Eh cy f0 f1 ∧ (r = 0 ∨ r = 1))) ([.ref a0, .int (iI x1), .int (iI x2)] : List Value).toArray s 0 0 A) (F0 m 98 ls [.int (iI w0_98), .ref a0]) := by
            intro w0_98 lw0_98 uw0_98 H locs ls hw hl
            refine q_puti (ci := 0) (C := RX0) (T := TX0) (N := 15) hx hb hts (fun w h => List.mem_cons_of_mem _ (mfX00 w h)) hown hK hw m_a0 o_a0 rfl 13 (by decide) (hts _ (List.mem_cons_of_mem _ (mr29 _ (List.mem_of_getElem? (i := 13) rfl)))) (fun _ h => h) tyX0 tyX0_ok nmX0 rfl (ty := .int) (by decide +kernel) rfl rfl dX0_seek_98 (fun H locs hw => ?_)
            have oo := o_a0
            obtain ⟨f_5, ef_5⟩ : ∃ g : Nat → va_E, g = pU f_4 a0 13 (.int (iI w0_98)) := ⟨_, rfl⟩
            have hX : Eh cy f_4 f_5 := by rw [ef_5]; exact Eh_pU oo rfl rfl (by decide)
            have hg : GI cy L0 f_5 := by rw [ef_5]; exact hg.putI oo rfl ⟨lw0_98, uw0_98⟩ trivial
            rw [← ef_5] at hw
            have hE := hE.trans hX
            have o_a0 := hX.1.1.1 _ _ o_a0
            have vf_5 : fI f_5 a0 13 = w0_98 := by rw [ef_5]; exact fI_pU_self oo rfl ⟨lw0_98, uw0_98⟩
            refine q_iconst hx hb dX0_seek_101 ?_
            refine lv_istore (lv' := [(4, .int (iI 0)), (0, .ref a0), (1, .int (iI x1)), (2, .int (iI x2))]) hx hb dX0_seek_102 hl (by decide) rfl (fun ls hl => ?_)
            have J104 : ∀ (n104 : Nat) (y4_104 : Int) (ly4_104 : -2147483648 ≤ y4_104) (uy4_104 : y4_104 ≤ 2147483647) (L : List Nat) (fw104 : Nat → va_E) (hg : GI cy L0 fw104) (hE : Eh cy f0 fw104) (o_a0 : Ob fw104 a0 0) (i1 : 0 ≤ y4_104) (hn104 : ((2147483647 : Int) - y4_104).toNat < n104) (H : Heap) (locs : List Loc) (ls : Array Slot) (hw : Wd D A s.heap L0 fw104 H locs) (hl : lv_has ls 8 [(0, .ref a0), (1, .int (iI x1)), (2, .int (iI x2)), (4, .int (iI y4_104))]), W p l e ({ frames := 4, cells := 0, slots := 0, locals := 90 } : Room) s m ([.ref a0, .int (iI x1), .int (iI x2)] : List Value).toArray below meth c H locs (0 + 0 + 0) (0 + 0 + 0) (MQ below (Qi D (tq cy) L0 f0 s.heap.size (fun (r : Int) (L1 : List Nat) (f1 : Nat → va_E) => L0 = L1 ∧ GI cy L0 f1 ∧ Eh cy f0 f1 ∧ (r = 0 ∨ r = 1))) ([.ref a0, .int (iI x1), .int (iI x2)] : List Value).toArray s 0 0 A) (F0 m 104 ls []) := by
              intro n104
              induction n104 with
              | zero => intro y4_104 ly4_104 uy4_104 L fw104 hg hE o_a0 i1 hn104; exact absurd hn104 (Nat.not_lt_zero _)
              | succ n104 ih104 =>
                intro y4_104 ly4_104 uy4_104 L fw104 hg hE o_a0 i1 hn104 H locs ls hw hl
                refine lv_iload hx hb dX0_seek_104 (lv_at hl 3 rfl) ?_
                refine lv_aload_n hx hb dX0_seek_106 rfl (lv_at hl 0 rfl) ?_
                refine q_geti (ci := 0) (C := RX0) (T := TX0) (N := 15) hx hb hts (fun w h => List.mem_cons_of_mem _ (mfX00 w h)) hown hK hw m_a0 o_a0 rfl 10 (by decide) (hts _ (List.mem_cons_of_mem _ (mr14 _ (List.mem_of_getElem? (i := 9) rfl)))) (fun _ h => h) rfl dX0_seek_107 (fun x_6 lx_6 ux_6 ex_6 => ?_)
                have bx_6 : 0 ≤ x_6 ∧ x_6 ≤ 16 := by rw [ex_6]; exact hg.1 _ m_a0 0 10 o_a0
                refine q_icmp_ge (tgt := 212) hx hb dX0_seek_110 (by decide) ⟨ly4_104, uy4_104⟩ ⟨lx_6, ux_6⟩ (fun c110 => ?_) (fun c110 => ?_)
                · refine lv_aload_n hx hb dX0_seek_212 rfl (lv_at hl 0 rfl) ?_
                  refine q_geti (ci := 0) (C := RX0) (T := TX0) (N := 15) hx hb hts (fun w h => List.mem_cons_of_mem _ (mfX00 w h)) hown hK hw m_a0 o_a0 rfl 14 (by decide) (hts _ (List.mem_cons_of_mem _ (mr29 _ (List.mem_of_getElem? (i := 11) rfl)))) (fun _ h => h) rfl dX0_seek_213 (fun x_7 lx_7 ux_7 ex_7 => ?_)
                  refine q_iconst hx hb dX0_seek_216 ?_
                  refine q_icmp_eq (tgt := 224) hx hb dX0_seek_217 (by decide) ⟨lx_7, ux_7⟩ ⟨by decide, by decide⟩ (fun c217 => ?_) (fun c217 => ?_)
                  · refine q_iconst hx hb dX0_seek_224 ?_
                    exact q_ret_z hx hb hr hlocks hK hAe hw (by omega) (Nat.le_of_ble_eq_true rfl) (Nat.le_of_ble_eq_true rfl) dX0_seek_225 (by exact ⟨rfl, hg, hE, by first | trivial | omega⟩)
                  · refine q_iconst hx hb dX0_seek_220 ?_
                    refine lv_goto (tgt := 225) hx hb dX0_seek_221 (by decide) ?_
                    exact q_ret_z hx hb hr hlocks hK hAe hw (by omega) (Nat.le_of_ble_eq_true rfl) (Nat.le_of_ble_eq_true rfl) dX0_seek_225 (by exact ⟨rfl, hg, hE, by first | trivial | omega⟩)
                · refine lv_aload_n hx hb dX0_seek_113 rfl (lv_at hl 0 rfl) ?_
                  obtain ⟨r_8, er_8, m_r_8, o_r_8⟩ := (show ∃ r, fR fw104 a0 12 = some r ∧ r ∈ L0 ∧ ArI fw104 r cy.2.1 16 from hg.2.1 _ m_a0 0 12 o_a0)
                  refine q_getr (ci := 0) (C := RX0) (T := TX0) (N := 15) hx hb hts (fun w h => List.mem_cons_of_mem _ (mfX00 w h)) hown hK hw m_a0 o_a0 rfl 12 (by decide) (hts _ (List.mem_cons_of_mem _ (mr3 _ (List.mem_of_getElem? (i := 3) rfl)))) (fun _ h => h) rfl er_8 dX0_seek_114 ?_
                  refine lv_iload hx hb dX0_seek_117 (lv_at hl 3 rfl) ?_
                  refine q_iald hx hb hK hw m_r_8 1 o_r_8 rfl ⟨ly4_104, uy4_104⟩ (by omega) (by omega) dX0_seek_119 (fun x_9 lx_9 ux_9 ex_9 => ?_)
                  refine lv_istore (lv' := [(5, .int (iI x_9)), (0, .ref a0), (1, .int (iI x1)), (2, .int (iI x2)), (4, .int (iI y4_104))]) hx hb dX0_seek_120 hl (by decide) rfl (fun ls hl => ?_)
                  refine lv_aload_n hx hb dX0_seek_122 rfl (lv_at hl 1 rfl) ?_
                  obtain ⟨r_10, er_10, m_r_10, o_r_10⟩ := (show ∃ r, fR fw104 a0 11 = some r ∧ r ∈ L0 ∧ ArI fw104 r cy.2.1 16 from hg.2.1 _ m_a0 0 11 o_a0)
                  refine q_getr (ci := 0) (C := RX0) (T := TX0) (N := 15) hx hb hts (fun w h => List.mem_cons_of_mem _ (mfX00 w h)) hown hK hw m_a0 o_a0 rfl 11 (by decide) (hts _ (List.mem_cons_of_mem _ (mr3 _ (List.mem_of_getElem? (i := 2) rfl)))) (fun _ h => h) rfl er_10 dX0_seek_123 ?_
                  refine lv_iload hx hb dX0_seek_126 (lv_at hl 4 rfl) ?_
                  refine q_iald hx hb hK hw m_r_10 1 o_r_10 rfl ⟨ly4_104, uy4_104⟩ (by omega) (by omega) dX0_seek_128 (fun x_11 lx_11 ux_11 ex_11 => ?_)
                  refine lv_istore (lv' := [(6, .int (iI x_11)), (5, .int (iI x_9)), (0, .ref a0), (1, .int (iI x1)), (2, .int (iI x2)), (4, .int (iI y4_104))]) hx hb dX0_seek_129 hl (by decide) rfl (fun ls hl => ?_)
                  refine lv_iload hx hb dX0_seek_131 (lv_at hl 1 rfl) ?_
                  refine lv_iload_n hx hb dX0_seek_133 rfl (lv_at hl 3 rfl) ?_
                  have J149 : ∀ (H : Heap) (locs : List Loc) (ls : Array Slot) (hw : Wd D A s.heap L0 fw104 H locs) (hl : lv_has ls 8 [(0, .ref a0), (1, .int (iI x1)), (2, .int (iI x2)), (4, .int (iI y4_104)), (5, .int (iI x_9)), (6, .int (iI x_11))]), W p l e ({ frames := 4, cells := 0, slots := 0, locals := 90 } : Room) s m ([.ref a0, .int (iI x1), .int (iI x2)] : List Value).toArray below meth c H locs (0 + 0 + 0) (0 + 0 + 0) (MQ below (Qi D (tq cy) L0 f0 s.heap.size (fun (r : Int) (L1 : List Nat) (f1 : Nat → va_E) => L0 = L1 ∧ GI cy L0 f1 ∧ Eh cy f0 f1 ∧ (r = 0 ∨ r = 1))) ([.ref a0, .int (iI x1), .int (iI x2)] : List Value).toArray s 0 0 A) (F0 m 149 ls []) := by
                    intro H locs ls hw hl
                    refine q_iconst hx hb dX0_seek_149 ?_
                    refine lv_goto (tgt := 154) hx hb dX0_seek_150 (by decide) ?_
                    refine lv_istore (lv' := [(7, .int (iI 1)), (0, .ref a0), (1, .int (iI x1)), (2, .int (iI x2)), (4, .int (iI y4_104)), (5, .int (iI x_9)), (6, .int (iI x_11))]) hx hb dX0_seek_154 hl (by decide) rfl (fun ls hl => ?_)
                    refine lv_iload hx hb dX0_seek_156 (lv_at hl 5 rfl) ?_
                    refine q_iconst hx hb dX0_seek_158 ?_
                    have J206 : ∀ (L : List Nat) (fw206 : Nat → va_E) (hg : GI cy L0 fw206) (hE : Eh cy f0 fw206) (o_a0 : Ob fw206 a0 0) (H : Heap) (locs : List Loc) (ls : Array Slot) (hw : Wd D A s.heap L0 fw206 H locs) (hl : lv_has ls 8 [(0, .ref a0), (1, .int (iI x1)), (2, .int (iI x2)), (4, .int (iI y4_104))]), W p l e ({ frames := 4, cells := 0, slots := 0, locals := 90 } : Room) s m ([.ref a0, .int (iI x1), .int (iI x2)] : List Value).toArray below meth c H locs (0 + 0 + 0) (0 + 0 + 0) (MQ below (Qi D (tq cy) L0 f0 s.heap.size (fun (r : Int) (L1 : List Nat) (f1 : Nat → va_E) => L0 = L1 ∧ GI cy L0 f1 ∧ Eh cy f0 f1 ∧ (r = 0 ∨ r = 1))) ([.ref a0, .int (iI x1), .int (iI x2)] : List Value).toArray s 0 0 A) (F0 m 206 ls []) := by
                      intro L fw206 hg hE o_a0 H locs ls hw hl
                      obtain ⟨x_12, lx_12, ux_12, hx_12, ex_12⟩ := q_inc y4_104 (1)
                      try (replace ex_12 : x_12 = y4_104 + (1) := by omega)
                      refine lv_iinc (v := iI x_12) (lv' := [(4, .int (iI x_12)), (0, .ref a0), (1, .int (iI x1)), (2, .int (iI x2))]) hx hb dX0_seek_206 hl (k := 3) rfl hx_12 (by decide) rfl (fun ls hl => ?_)
                      refine lv_goto (tgt := 104) hx hb dX0_seek_209 (by decide) ?_
                      exact ih104 x_12 lx_12 ux_12 L0 fw206 hg hE o_a0 (by omega) (by omega) _ _ _ hw (lv_sub hl [1, 2, 3, 0] rfl)
                    refine q_icmp_eq (tgt := 206) hx hb dX0_seek_159 (by decide) ⟨lx_9, ux_9⟩ ⟨by decide, by decide⟩ (fun c159 => ?_) (fun c159 => ?_)
                    · exact J206 L0 fw104 hg hE o_a0 _ _ _ hw (lv_sub hl [1, 2, 3, 4] rfl)
                    · refine lv_iload hx hb dX0_seek_162 (lv_at hl 0 rfl) ?_
                      refine q_if_eq (tgt := 206) hx hb dX0_seek_164 (by decide) ⟨by decide, by decide⟩ (fun c164 => ?_) (fun c164 => ?_)
                      · exact J206 L0 fw104 hg hE o_a0 _ _ _ hw (lv_sub hl [1, 2, 3, 4] rfl)
                      · refine lv_iload hx hb dX0_seek_167 (lv_at hl 5 rfl) ?_
                        refine lv_aload_n hx hb dX0_seek_169 rfl (lv_at hl 1 rfl) ?_
                        refine q_geti (ci := 0) (C := RX0) (T := TX0) (N := 15) hx hb hts (fun w h => List.mem_cons_of_mem _ (mfX00 w h)) hown hK hw m_a0 o_a0 rfl 13 (by decide) (hts _ (List.mem_cons_of_mem _ (mr29 _ (List.mem_of_getElem? (i := 13) rfl)))) (fun _ h => h) rfl dX0_seek_170 (fun x_13 lx_13 ux_13 ex_13 => ?_)
                        have J194 : ∀ (H : Heap) (locs : List Loc) (ls : Array Slot) (hw : Wd D A s.heap L0 fw104 H locs) (hl : lv_has ls 8 [(0, .ref a0), (1, .int (iI x1)), (2, .int (iI x2)), (4, .int (iI y4_104)), (5, .int (iI x_9)), (6, .int (iI x_11))]), W p l e ({ frames := 4, cells := 0, slots := 0, locals := 90 } : Room) s m ([.ref a0, .int (iI x1), .int (iI x2)] : List Value).toArray below meth c H locs (0 + 0 + 0) (0 + 0 + 0) (MQ below (Qi D (tq cy) L0 f0 s.heap.size (fun (r : Int) (L1 : List Nat) (f1 : Nat → va_E) => L0 = L1 ∧ GI cy L0 f1 ∧ Eh cy f0 f1 ∧ (r = 0 ∨ r = 1))) ([.ref a0, .int (iI x1), .int (iI x2)] : List Value).toArray s 0 0 A) (F0 m 194 ls []) := by
                          intro H locs ls hw hl
                          refine lv_aload_n hx hb dX0_seek_194 rfl (lv_at hl 0 rfl) ?_
                          refine lv_iload hx hb dX0_seek_195 (lv_at hl 4 rfl) ?_
                          refine q_puti (ci := 0) (C := RX0) (T := TX0) (N := 15) hx hb hts (fun w h => List.mem_cons_of_mem _ (mfX00 w h)) hown hK hw m_a0 o_a0 rfl 13 (by decide) (hts _ (List.mem_cons_of_mem _ (mr29 _ (List.mem_of_getElem? (i := 13) rfl)))) (fun _ h => h) tyX0 tyX0_ok nmX0 rfl (ty := .int) (by decide +kernel) rfl rfl dX0_seek_197 (fun H locs hw => ?_)
                          have oo := o_a0
                          obtain ⟨f_14, ef_14⟩ : ∃ g : Nat → va_E, g = pU fw104 a0 13 (.int (iI x_9)) := ⟨_, rfl⟩
                          have hX : Eh cy fw104 f_14 := by rw [ef_14]; exact Eh_pU oo rfl rfl (by decide)
                          have hg : GI cy L0 f_14 := by rw [ef_14]; exact hg.putI oo rfl ⟨lx_9, ux_9⟩ trivial
                          rw [← ef_14] at hw
                          have hE := hE.trans hX
                          have o_a0 := hX.1.1.1 _ _ o_a0
                          have vf_14 : fI f_14 a0 13 = x_9 := by rw [ef_14]; exact fI_pU_self oo rfl ⟨lx_9, ux_9⟩
                          refine lv_aload_n hx hb dX0_seek_200 rfl (lv_at hl 0 rfl) ?_
                          refine lv_iload hx hb dX0_seek_201 (lv_at hl 5 rfl) ?_
                          refine q_puti (ci := 0) (C := RX0) (T := TX0) (N := 15) hx hb hts (fun w h => List.mem_cons_of_mem _ (mfX00 w h)) hown hK hw m_a0 o_a0 rfl 14 (by decide) (hts _ (List.mem_cons_of_mem _ (mr29 _ (List.mem_of_getElem? (i := 11) rfl)))) (fun _ h => h) tyX0 tyX0_ok nmX0 rfl (ty := .int) (by decide +kernel) rfl rfl dX0_seek_203 (fun H locs hw => ?_)
                          have oo := o_a0
                          obtain ⟨f_15, ef_15⟩ : ∃ g : Nat → va_E, g = pU f_14 a0 14 (.int (iI x_11)) := ⟨_, rfl⟩
                          have hX : Eh cy f_14 f_15 := by rw [ef_15]; exact Eh_pU oo rfl rfl (by decide)
                          have hg : GI cy L0 f_15 := by rw [ef_15]; exact hg.putI oo rfl ⟨lx_11, ux_11⟩ trivial
                          rw [← ef_15] at hw
                          have hE := hE.trans hX
                          have o_a0 := hX.1.1.1 _ _ o_a0
                          have vf_15 : fI f_15 a0 14 = x_11 := by rw [ef_15]; exact fI_pU_self oo rfl ⟨lx_11, ux_11⟩
                          exact J206 L0 f_15 hg hE o_a0 _ _ _ hw (lv_sub hl [0, 1, 2, 3] rfl)
                        refine q_icmp_lt (tgt := 194) hx hb dX0_seek_173 (by decide) ⟨lx_9, ux_9⟩ ⟨lx_13, ux_13⟩ (fun c173 => ?_) (fun c173 => ?_)
                        · exact J194 _ _ _ hw (lv_sub hl [1, 2, 3, 4, 5, 6] rfl)
                        · refine lv_iload hx hb dX0_seek_176 (lv_at hl 5 rfl) ?_
                          refine lv_aload_n hx hb dX0_seek_178 rfl (lv_at hl 1 rfl) ?_
                          refine q_geti (ci := 0) (C := RX0) (T := TX0) (N := 15) hx hb hts (fun w h => List.mem_cons_of_mem _ (mfX00 w h)) hown hK hw m_a0 o_a0 rfl 13 (by decide) (hts _ (List.mem_cons_of_mem _ (mr29 _ (List.mem_of_getElem? (i := 13) rfl)))) (fun _ h => h) rfl dX0_seek_179 (fun x_16 lx_16 ux_16 ex_16 => ?_)
                          refine q_icmp_ne (tgt := 206) hx hb dX0_seek_182 (by decide) ⟨lx_9, ux_9⟩ ⟨lx_16, ux_16⟩ (fun c182 => ?_) (fun c182 => ?_)
                          · exact J206 L0 fw104 hg hE o_a0 _ _ _ hw (lv_sub hl [1, 2, 3, 4] rfl)
                          · refine lv_iload hx hb dX0_seek_185 (lv_at hl 6 rfl) ?_
                            refine lv_aload_n hx hb dX0_seek_187 rfl (lv_at hl 1 rfl) ?_
                            refine q_geti (ci := 0) (C := RX0) (T := TX0) (N := 15) hx hb hts (fun w h => List.mem_cons_of_mem _ (mfX00 w h)) hown hK hw m_a0 o_a0 rfl 14 (by decide) (hts _ (List.mem_cons_of_mem _ (mr29 _ (List.mem_of_getElem? (i := 11) rfl)))) (fun _ h => h) rfl dX0_seek_188 (fun x_17 lx_17 ux_17 ex_17 => ?_)
                            refine q_icmp_ge (tgt := 206) hx hb dX0_seek_191 (by decide) ⟨lx_11, ux_11⟩ ⟨lx_17, ux_17⟩ (fun c191 => ?_) (fun c191 => ?_)
                            · exact J206 L0 fw104 hg hE o_a0 _ _ _ hw (lv_sub hl [1, 2, 3, 4] rfl)
                            · exact J194 _ _ _ hw (lv_sub hl [1, 2, 3, 4, 5, 6] rfl)
                  have J154 : ∀ (w0_154 : Int) (lw0_154 : -2147483648 ≤ w0_154) (uw0_154 : w0_154 ≤ 2147483647) (H : Heap) (locs : List Loc) (ls : Array Slot) (hw : Wd D A s.heap L0 fw104 H locs) (hl : lv_has ls 8 [(0, .ref a0), (1, .int (iI x1)), (2, .int (iI x2)), (4, .int (iI y4_104)), (5, .int (iI x_9)), (6, .int (iI x_11))]), W p l e ({ frames := 4, cells := 0, slots := 0, locals := 90 } : Room) s m ([.ref a0, .int (iI x1), .int (iI x2)] : List Value).toArray below meth c H locs (0 + 0 + 0) (0 + 0 + 0) (MQ below (Qi D (tq cy) L0 f0 s.heap.size (fun (r : Int) (L1 : List Nat) (f1 : Nat → va_E) => L0 = L1 ∧ GI cy L0 f1 ∧ Eh cy f0 f1 ∧ (r = 0 ∨ r = 1))) ([.ref a0, .int (iI x1), .int (iI x2)] : List Value).toArray s 0 0 A) (F0 m 154 ls [.int (iI w0_154)]) := by
                    intro w0_154 lw0_154 uw0_154 H locs ls hw hl
                    refine lv_istore (lv' := [(7, .int (iI w0_154)), (0, .ref a0), (1, .int (iI x1)), (2, .int (iI x2)), (4, .int (iI y4_104)), (5, .int (iI x_9)), (6, .int (iI x_11))]) hx hb dX0_seek_154 hl (by decide) rfl (fun ls hl => ?_)
                    refine lv_iload hx hb dX0_seek_156 (lv_at hl 5 rfl) ?_
                    refine q_iconst hx hb dX0_seek_158 ?_
                    have J206 : ∀ (L : List Nat) (fw206 : Nat → va_E) (hg : GI cy L0 fw206) (hE : Eh cy f0 fw206) (o_a0 : Ob fw206 a0 0) (H : Heap) (locs : List Loc) (ls : Array Slot) (hw : Wd D A s.heap L0 fw206 H locs) (hl : lv_has ls 8 [(0, .ref a0), (1, .int (iI x1)), (2, .int (iI x2)), (4, .int (iI y4_104))]), W p l e ({ frames := 4, cells := 0, slots := 0, locals := 90 } : Room) s m ([.ref a0, .int (iI x1), .int (iI x2)] : List Value).toArray below meth c H locs (0 + 0 + 0) (0 + 0 + 0) (MQ below (Qi D (tq cy) L0 f0 s.heap.size (fun (r : Int) (L1 : List Nat) (f1 : Nat → va_E) => L0 = L1 ∧ GI cy L0 f1 ∧ Eh cy f0 f1 ∧ (r = 0 ∨ r = 1))) ([.ref a0, .int (iI x1), .int (iI x2)] : List Value).toArray s 0 0 A) (F0 m 206 ls []) := by
                      intro L fw206 hg hE o_a0 H locs ls hw hl
                      obtain ⟨x_18, lx_18, ux_18, hx_18, ex_18⟩ := q_inc y4_104 (1)
                      try (replace ex_18 : x_18 = y4_104 + (1) := by omega)
                      refine lv_iinc (v := iI x_18) (lv' := [(4, .int (iI x_18)), (0, .ref a0), (1, .int (iI x1)), (2, .int (iI x2))]) hx hb dX0_seek_206 hl (k := 3) rfl hx_18 (by decide) rfl (fun ls hl => ?_)
                      refine lv_goto (tgt := 104) hx hb dX0_seek_209 (by decide) ?_
                      exact ih104 x_18 lx_18 ux_18 L0 fw206 hg hE o_a0 (by omega) (by omega) _ _ _ hw (lv_sub hl [1, 2, 3, 0] rfl)
                    refine q_icmp_eq (tgt := 206) hx hb dX0_seek_159 (by decide) ⟨lx_9, ux_9⟩ ⟨by decide, by decide⟩ (fun c159 => ?_) (fun c159 => ?_)
                    · exact J206 L0 fw104 hg hE o_a0 _ _ _ hw (lv_sub hl [1, 2, 3, 4] rfl)
                    · refine lv_iload hx hb dX0_seek_162 (lv_at hl 0 rfl) ?_
                      refine q_if_eq (tgt := 206) hx hb dX0_seek_164 (by decide) ⟨lw0_154, uw0_154⟩ (fun c164 => ?_) (fun c164 => ?_)
                      · exact J206 L0 fw104 hg hE o_a0 _ _ _ hw (lv_sub hl [1, 2, 3, 4] rfl)
                      · refine lv_iload hx hb dX0_seek_167 (lv_at hl 5 rfl) ?_
                        refine lv_aload_n hx hb dX0_seek_169 rfl (lv_at hl 1 rfl) ?_
                        refine q_geti (ci := 0) (C := RX0) (T := TX0) (N := 15) hx hb hts (fun w h => List.mem_cons_of_mem _ (mfX00 w h)) hown hK hw m_a0 o_a0 rfl 13 (by decide) (hts _ (List.mem_cons_of_mem _ (mr29 _ (List.mem_of_getElem? (i := 13) rfl)))) (fun _ h => h) rfl dX0_seek_170 (fun x_19 lx_19 ux_19 ex_19 => ?_)
                        have J194 : ∀ (H : Heap) (locs : List Loc) (ls : Array Slot) (hw : Wd D A s.heap L0 fw104 H locs) (hl : lv_has ls 8 [(0, .ref a0), (1, .int (iI x1)), (2, .int (iI x2)), (4, .int (iI y4_104)), (5, .int (iI x_9)), (6, .int (iI x_11))]), W p l e ({ frames := 4, cells := 0, slots := 0, locals := 90 } : Room) s m ([.ref a0, .int (iI x1), .int (iI x2)] : List Value).toArray below meth c H locs (0 + 0 + 0) (0 + 0 + 0) (MQ below (Qi D (tq cy) L0 f0 s.heap.size (fun (r : Int) (L1 : List Nat) (f1 : Nat → va_E) => L0 = L1 ∧ GI cy L0 f1 ∧ Eh cy f0 f1 ∧ (r = 0 ∨ r = 1))) ([.ref a0, .int (iI x1), .int (iI x2)] : List Value).toArray s 0 0 A) (F0 m 194 ls []) := by
                          intro H locs ls hw hl
                          refine lv_aload_n hx hb dX0_seek_194 rfl (lv_at hl 0 rfl) ?_
                          refine lv_iload hx hb dX0_seek_195 (lv_at hl 4 rfl) ?_
                          refine q_puti (ci := 0) (C := RX0) (T := TX0) (N := 15) hx hb hts (fun w h => List.mem_cons_of_mem _ (mfX00 w h)) hown hK hw m_a0 o_a0 rfl 13 (by decide) (hts _ (List.mem_cons_of_mem _ (mr29 _ (List.mem_of_getElem? (i := 13) rfl)))) (fun _ h => h) tyX0 tyX0_ok nmX0 rfl (ty := .int) (by decide +kernel) rfl rfl dX0_seek_197 (fun H locs hw => ?_)
                          have oo := o_a0
                          obtain ⟨f_20, ef_20⟩ : ∃ g : Nat → va_E, g = pU fw104 a0 13 (.int (iI x_9)) := ⟨_, rfl⟩
                          have hX : Eh cy fw104 f_20 := by rw [ef_20]; exact Eh_pU oo rfl rfl (by decide)
                          have hg : GI cy L0 f_20 := by rw [ef_20]; exact hg.putI oo rfl ⟨lx_9, ux_9⟩ trivial
                          rw [← ef_20] at hw
                          have hE := hE.trans hX
                          have o_a0 := hX.1.1.1 _ _ o_a0
                          have vf_20 : fI f_20 a0 13 = x_9 := by rw [ef_20]; exact fI_pU_self oo rfl ⟨lx_9, ux_9⟩
                          refine lv_aload_n hx hb dX0_seek_200 rfl (lv_at hl 0 rfl) ?_
                          refine lv_iload hx hb dX0_seek_201 (lv_at hl 5 rfl) ?_
                          refine q_puti (ci := 0) (C := RX0) (T := TX0) (N := 15) hx hb hts (fun w h => List.mem_cons_of_mem _ (mfX00 w h)) hown hK hw m_a0 o_a0 rfl 14 (by decide) (hts _ (List.mem_cons_of_mem _ (mr29 _ (List.mem_of_getElem? (i := 11) rfl)))) (fun _ h => h) tyX0 tyX0_ok nmX0 rfl (ty := .int) (by decide +kernel) rfl rfl dX0_seek_203 (fun H locs hw => ?_)
                          have oo := o_a0
                          obtain ⟨f_21, ef_21⟩ : ∃ g : Nat → va_E, g = pU f_20 a0 14 (.int (iI x_11)) := ⟨_, rfl⟩
                          have hX : Eh cy f_20 f_21 := by rw [ef_21]; exact Eh_pU oo rfl rfl (by decide)
                          have hg : GI cy L0 f_21 := by rw [ef_21]; exact hg.putI oo rfl ⟨lx_11, ux_11⟩ trivial
                          rw [← ef_21] at hw
                          have hE := hE.trans hX
                          have o_a0 := hX.1.1.1 _ _ o_a0
                          have vf_21 : fI f_21 a0 14 = x_11 := by rw [ef_21]; exact fI_pU_self oo rfl ⟨lx_11, ux_11⟩
                          exact J206 L0 f_21 hg hE o_a0 _ _ _ hw (lv_sub hl [0, 1, 2, 3] rfl)
                        refine q_icmp_lt (tgt := 194) hx hb dX0_seek_173 (by decide) ⟨lx_9, ux_9⟩ ⟨lx_19, ux_19⟩ (fun c173 => ?_) (fun c173 => ?_)
                        · exact J194 _ _ _ hw (lv_sub hl [1, 2, 3, 4, 5, 6] rfl)
                        · refine lv_iload hx hb dX0_seek_176 (lv_at hl 5 rfl) ?_
                          refine lv_aload_n hx hb dX0_seek_178 rfl (lv_at hl 1 rfl) ?_
                          refine q_geti (ci := 0) (C := RX0) (T := TX0) (N := 15) hx hb hts (fun w h => List.mem_cons_of_mem _ (mfX00 w h)) hown hK hw m_a0 o_a0 rfl 13 (by decide) (hts _ (List.mem_cons_of_mem _ (mr29 _ (List.mem_of_getElem? (i := 13) rfl)))) (fun _ h => h) rfl dX0_seek_179 (fun x_22 lx_22 ux_22 ex_22 => ?_)
                          refine q_icmp_ne (tgt := 206) hx hb dX0_seek_182 (by decide) ⟨lx_9, ux_9⟩ ⟨lx_22, ux_22⟩ (fun c182 => ?_) (fun c182 => ?_)
                          · exact J206 L0 fw104 hg hE o_a0 _ _ _ hw (lv_sub hl [1, 2, 3, 4] rfl)
                          · refine lv_iload hx hb dX0_seek_185 (lv_at hl 6 rfl) ?_
                            refine lv_aload_n hx hb dX0_seek_187 rfl (lv_at hl 1 rfl) ?_
                            refine q_geti (ci := 0) (C := RX0) (T := TX0) (N := 15) hx hb hts (fun w h => List.mem_cons_of_mem _ (mfX00 w h)) hown hK hw m_a0 o_a0 rfl 14 (by decide) (hts _ (List.mem_cons_of_mem _ (mr29 _ (List.mem_of_getElem? (i := 11) rfl)))) (fun _ h => h) rfl dX0_seek_188 (fun x_23 lx_23 ux_23 ex_23 => ?_)
                            refine q_icmp_ge (tgt := 206) hx hb dX0_seek_191 (by decide) ⟨lx_11, ux_11⟩ ⟨lx_23, ux_23⟩ (fun c191 => ?_) (fun c191 => ?_)
                            · exact J206 L0 fw104 hg hE o_a0 _ _ _ hw (lv_sub hl [1, 2, 3, 4] rfl)
                            · exact J194 _ _ _ hw (lv_sub hl [1, 2, 3, 4, 5, 6] rfl)
                  refine q_icmp_gt (tgt := 149) hx hb dX0_seek_134 (by decide) ⟨lx_9, ux_9⟩ ⟨lx1, ux1⟩ (fun c134 => ?_) (fun c134 => ?_)
                  · exact J149 _ _ _ hw (lv_sub hl [2, 3, 4, 5, 1, 0] rfl)
                  · refine lv_iload hx hb dX0_seek_137 (lv_at hl 1 rfl) ?_
                    refine lv_iload_n hx hb dX0_seek_139 rfl (lv_at hl 3 rfl) ?_
                    have J153 : ∀ (H : Heap) (locs : List Loc) (ls : Array Slot) (hw : Wd D A s.heap L0 fw104 H locs) (hl : lv_has ls 8 [(0, .ref a0), (1, .int (iI x1)), (2, .int (iI x2)), (4, .int (iI y4_104)), (5, .int (iI x_9)), (6, .int (iI x_11))]), W p l e ({ frames := 4, cells := 0, slots := 0, locals := 90 } : Room) s m ([.ref a0, .int (iI x1), .int (iI x2)] : List Value).toArray below meth c H locs (0 + 0 + 0) (0 + 0 + 0) (MQ below (Qi D (tq cy) L0 f0 s.heap.size (fun (r : Int) (L1 : List Nat) (f1 : Nat → va_E) => L0 = L1 ∧ GI cy L0 f1 ∧ Eh cy f0 f1 ∧ (r = 0 ∨ r = 1))) ([.ref a0, .int (iI x1), .int (iI x2)] : List Value).toArray s 0 0 A) (F0 m 153 ls []) := by
                      intro H locs ls hw hl
                      refine q_iconst hx hb dX0_seek_153 ?_
                      exact J154 0 (by decide) (by decide) _ _ _ hw (lv_sub hl [0, 1, 2, 3, 4, 5] rfl)
                    refine q_icmp_ne (tgt := 153) hx hb dX0_seek_140 (by decide) ⟨lx_9, ux_9⟩ ⟨lx1, ux1⟩ (fun c140 => ?_) (fun c140 => ?_)
                    · exact J153 _ _ _ hw (lv_sub hl [2, 3, 4, 5, 1, 0] rfl)
                    · refine lv_iload hx hb dX0_seek_143 (lv_at hl 0 rfl) ?_
                      refine lv_iload_n hx hb dX0_seek_145 rfl (lv_at hl 4 rfl) ?_
                      refine q_icmp_lt (tgt := 153) hx hb dX0_seek_146 (by decide) ⟨lx_11, ux_11⟩ ⟨lx2, ux2⟩ (fun c146 => ?_) (fun c146 => ?_)
                      · exact J153 _ _ _ hw (lv_sub hl [2, 3, 4, 5, 1, 0] rfl)
                      · exact J149 _ _ _ hw (lv_sub hl [2, 3, 4, 5, 1, 0] rfl)
            exact J104 ((((2147483647 : Int) - 0).toNat) + 1) 0 (by decide) (by decide) L0 f_5 hg hE o_a0 (by omega) (by omega) _ _ _ hw (lv_sub hl [1, 2, 3, 0] rfl)
          refine q_icmp_ne (tgt := 93) hx hb dX0_seek_85 (by decide) ⟨ly3_40, uy3_40⟩ ⟨by decide, by decide⟩ (fun c85 => ?_) (fun c85 => ?_)
          · refine lv_aload_n hx hb dX0_seek_93 rfl (lv_at hl 0 rfl) ?_
            refine lv_iload_n hx hb dX0_seek_94 rfl (lv_at hl 3 rfl) ?_
            refine q_call_i hA hK hw (va_runV (As := [.int (iI y3_40)]) (rest := [.ref a0]) ⟨hx, hb, hml, hown, hts⟩ (c_X0_timeOf zo l D cy L0 f_4 a0 y3_40 ly3_40 uy3_40 m_a0 o_a0 hg _) (cwV 1 hts (gT (inV (mr29 _ (List.mem_of_getElem? (i := 23) rfl)) (mr30 _ (List.mem_of_getElem? (i := 0) rfl)) (mr30 _ (List.mem_of_getElem? (i := 1) rfl)) (mr2 _ (List.mem_of_getElem? (i := 9) rfl)) (mr30 _ (List.mem_of_getElem? (i := 2) rfl)))) rfl rfl rfl (by decide +kernel) ⟨Nat.le_of_ble_eq_true rfl, Nat.le_of_ble_eq_true rfl⟩) (Wd.preV zo hA hZ hw hK m_a0 o_a0 rfl) rfl rfl hl.1 rfl (lv_room (Nat.le_of_ble_eq_true rfl)) dX0_seek_95 ⟨Nat.le_of_ble_eq_true rfl, Nat.le_of_ble_eq_true rfl⟩) (fun x_24 L1 f1 H locs lx_24 ux_24 ex_24 hw => ?_)
            obtain ⟨rfl, rfl, ex_24⟩ := ex_24
            exact J98 x_24 lx_24 ux_24 _ _ _ hw (lv_sub hl [0, 1, 2] rfl)
          · refine q_ldc (n := 2147483647) hx hb hown (hts _ (List.mem_cons_of_mem _ (mr29 _ (List.mem_of_getElem? (i := 12) rfl)))) rfl dX0_seek_88 ?_
            refine lv_goto (tgt := 98) hx hb dX0_seek_90 (by decide) ?_
            exact J98 2147483647 (by decide) (by decide) _ _ _ hw (lv_sub hl [0, 1, 2] rfl)
        refine q_icmp_ge (tgt := 77) hx hb dX0_seek_46 (by decide) ⟨ly4_40, uy4_40⟩ ⟨lx_3, ux_3⟩ (fun c46 => ?_) (fun c46 => ?_)
        · exact J77 _ _ _ hw (lv_sub hl [0, 1, 2, 3] rfl)
        · refine lv_iload_n hx hb dX0_seek_49 rfl (lv_at hl 3 rfl) ?_
          refine q_iconst hx hb dX0_seek_50 ?_
          refine q_icmp_eq (tgt := 77) hx hb dX0_seek_51 (by decide) ⟨ly3_40, uy3_40⟩ ⟨by decide, by decide⟩ (fun c51 => ?_) (fun c51 => ?_)
          · exact J77 _ _ _ hw (lv_sub hl [0, 1, 2, 3] rfl)
          · refine lv_aload_n hx hb dX0_seek_54 rfl (lv_at hl 0 rfl) ?_
            refine lv_iload_n hx hb dX0_seek_55 rfl (lv_at hl 3 rfl) ?_
            refine q_call_i hA hK hw (va_runV (As := [.int (iI y3_40)]) (rest := []) ⟨hx, hb, hml, hown, hts⟩ (c_X0_changeOf zo l D cy L0 f0 a0 y3_40 ly3_40 uy3_40 m_a0 o_a0 hg _) (cwV 1 hts (gT (inV (mr26 _ (List.mem_of_getElem? (i := 15) rfl)) (mr26 _ (List.mem_of_getElem? (i := 16) rfl)) (mr26 _ (List.mem_of_getElem? (i := 17) rfl)) (mr2 _ (List.mem_of_getElem? (i := 9) rfl)) (mr26 _ (List.mem_of_getElem? (i := 18) rfl)))) rfl rfl rfl (by decide +kernel) ⟨Nat.le_of_ble_eq_true rfl, Nat.le_of_ble_eq_true rfl⟩) (Wd.preV zo hA hZ hw hK m_a0 o_a0 rfl) rfl rfl hl.1 rfl (lv_room (Nat.le_of_ble_eq_true rfl)) dX0_seek_56 ⟨Nat.le_of_ble_eq_true rfl, Nat.le_of_ble_eq_true rfl⟩) (fun x_25 L1 f1 H locs lx_25 ux_25 ex_25 hw => ?_)
            obtain ⟨rfl, rfl, ex_25⟩ := ex_25
            refine q_iconst hx hb dX0_seek_59 ?_
            refine q_icmp_eq (tgt := 77) hx hb dX0_seek_60 (by decide) ⟨lx_25, ux_25⟩ ⟨by decide, by decide⟩ (fun c60 => ?_) (fun c60 => ?_)
            · exact J77 _ _ _ hw (lv_sub hl [0, 1, 2, 3] rfl)
            · refine lv_aload_n hx hb dX0_seek_63 rfl (lv_at hl 0 rfl) ?_
              refine lv_iload_n hx hb dX0_seek_64 rfl (lv_at hl 3 rfl) ?_
              refine q_iconst hx hb dX0_seek_65 ?_
              first | refine q_iadd hx hb dX0_seek_66 ⟨by omega, by omega⟩ (fun x_26 lx_26 ux_26 ex_26 => ?_) | refine q_iaddw hx hb dX0_seek_66 (fun x_26 lx_26 ux_26 _ => ?_)
              refine q_call_i hA hK hw (va_runV (As := [.int (iI x_26)]) (rest := []) ⟨hx, hb, hml, hown, hts⟩ (c_X0_keyFrom zo l D cy L0 f0 a0 x_26 lx_26 ux_26 m_a0 o_a0 hg _) (cwV 1 hts (gT (inV (mr26 _ (List.mem_of_getElem? (i := 10) rfl)) (mr24 _ (List.mem_of_getElem? (i := 13) rfl)) (mr24 _ (List.mem_of_getElem? (i := 14) rfl)) (mr2 _ (List.mem_of_getElem? (i := 9) rfl)) (mr24 _ (List.mem_of_getElem? (i := 15) rfl)))) rfl rfl rfl (by decide +kernel) ⟨Nat.le_of_ble_eq_true rfl, Nat.le_of_ble_eq_true rfl⟩) (Wd.preV zo hA hZ hw hK m_a0 o_a0 rfl) rfl rfl hl.1 rfl (lv_room (Nat.le_of_ble_eq_true rfl)) dX0_seek_67 ⟨Nat.le_of_ble_eq_true rfl, Nat.le_of_ble_eq_true rfl⟩) (fun x_27 L1 f1 H locs lx_27 ux_27 ex_27 hw => ?_)
              obtain ⟨rfl, rfl, ex_27⟩ := ex_27
              refine lv_istore_n (lv' := [(3, .int (iI x_27)), (0, .ref a0), (1, .int (iI x1)), (2, .int (iI x2)), (4, .int (iI y4_40))]) hx hb dX0_seek_70 rfl hl (by decide) rfl (fun ls hl => ?_)
              obtain ⟨x_28, lx_28, ux_28, hx_28, ex_28⟩ := q_inc y4_40 (1)
              try (replace ex_28 : x_28 = y4_40 + (1) := by omega)
              refine lv_iinc (v := iI x_28) (lv' := [(4, .int (iI x_28)), (3, .int (iI x_27)), (0, .ref a0), (1, .int (iI x1)), (2, .int (iI x2))]) hx hb dX0_seek_71 hl (k := 4) rfl hx_28 (by decide) rfl (fun ls hl => ?_)
              refine lv_goto (tgt := 40) hx hb dX0_seek_74 (by decide) ?_
              exact ih40 x_27 lx_27 ux_27 x_28 lx_28 ux_28 (by omega) (by omega) _ _ _ hw (lv_sub hl [2, 3, 4, 1, 0] rfl)
    exact J40 ((((2147483647 : Int) - 0).toNat) + 1) z3_37 lz3_37 uz3_37 0 (by decide) (by decide) (by omega) (by omega) _ _ _ hw (lv_sub hl [1, 2, 3, 4, 0] rfl)
  refine q_icmp_eq (tgt := 37) hx hb dX0_seek_12 (by decide) ⟨lx_2, ux_2⟩ ⟨by decide, by decide⟩ (fun c12 => ?_) (fun c12 => ?_)
  · exact J37 x_2 lx_2 ux_2 _ _ _ hw (lv_sub hl [1, 2, 3, 0] rfl)
  · refine lv_iload_n hx hb dX0_seek_15 rfl (lv_at hl 0 rfl) ?_
    refine lv_iload_n hx hb dX0_seek_16 rfl (lv_at hl 3 rfl) ?_
    refine q_icmp_ge (tgt := 37) hx hb dX0_seek_17 (by decide) ⟨lx_2, ux_2⟩ ⟨lx2, ux2⟩ (fun c17 => ?_) (fun c17 => ?_)
    · exact J37 x_2 lx_2 ux_2 _ _ _ hw (lv_sub hl [1, 2, 3, 0] rfl)
    · refine lv_aload_n hx hb dX0_seek_20 rfl (lv_at hl 1 rfl) ?_
      refine lv_iload_n hx hb dX0_seek_21 rfl (lv_at hl 0 rfl) ?_
      refine q_call_i hA hK hw (va_runV (As := [.int (iI x_2)]) (rest := []) ⟨hx, hb, hml, hown, hts⟩ (c_X0_timeOf zo l D cy L0 f0 a0 x_2 lx_2 ux_2 m_a0 o_a0 hg _) (cwV 1 hts (gT (inV (mr29 _ (List.mem_of_getElem? (i := 23) rfl)) (mr30 _ (List.mem_of_getElem? (i := 0) rfl)) (mr30 _ (List.mem_of_getElem? (i := 1) rfl)) (mr2 _ (List.mem_of_getElem? (i := 9) rfl)) (mr30 _ (List.mem_of_getElem? (i := 2) rfl)))) rfl rfl rfl (by decide +kernel) ⟨Nat.le_of_ble_eq_true rfl, Nat.le_of_ble_eq_true rfl⟩) (Wd.preV zo hA hZ hw hK m_a0 o_a0 rfl) rfl rfl hl.1 rfl (lv_room (Nat.le_of_ble_eq_true rfl)) dX0_seek_22 ⟨Nat.le_of_ble_eq_true rfl, Nat.le_of_ble_eq_true rfl⟩) (fun x_29 L1 f1 H locs lx_29 ux_29 ex_29 hw => ?_)
      obtain ⟨rfl, rfl, ex_29⟩ := ex_29
      refine lv_iload_n hx hb dX0_seek_25 rfl (lv_at hl 2 rfl) ?_
      refine q_icmp_ne (tgt := 37) hx hb dX0_seek_26 (by decide) ⟨lx_29, ux_29⟩ ⟨lx1, ux1⟩ (fun c26 => ?_) (fun c26 => ?_)
      · exact J37 x_2 lx_2 ux_2 _ _ _ hw (lv_sub hl [1, 2, 3, 0] rfl)
      · refine lv_aload_n hx hb dX0_seek_29 rfl (lv_at hl 1 rfl) ?_
        refine lv_iload_n hx hb dX0_seek_30 rfl (lv_at hl 0 rfl) ?_
        refine q_iconst hx hb dX0_seek_31 ?_
        first | refine q_iadd hx hb dX0_seek_32 ⟨by omega, by omega⟩ (fun x_30 lx_30 ux_30 ex_30 => ?_) | refine q_iaddw hx hb dX0_seek_32 (fun x_30 lx_30 ux_30 _ => ?_)
        refine q_call_i hA hK hw (va_runV (As := [.int (iI x_30)]) (rest := []) ⟨hx, hb, hml, hown, hts⟩ (c_X0_keyFrom zo l D cy L0 f0 a0 x_30 lx_30 ux_30 m_a0 o_a0 hg _) (cwV 1 hts (gT (inV (mr26 _ (List.mem_of_getElem? (i := 10) rfl)) (mr24 _ (List.mem_of_getElem? (i := 13) rfl)) (mr24 _ (List.mem_of_getElem? (i := 14) rfl)) (mr2 _ (List.mem_of_getElem? (i := 9) rfl)) (mr24 _ (List.mem_of_getElem? (i := 15) rfl)))) rfl rfl rfl (by decide +kernel) ⟨Nat.le_of_ble_eq_true rfl, Nat.le_of_ble_eq_true rfl⟩) (Wd.preV zo hA hZ hw hK m_a0 o_a0 rfl) rfl rfl hl.1 rfl (lv_room (Nat.le_of_ble_eq_true rfl)) dX0_seek_33 ⟨Nat.le_of_ble_eq_true rfl, Nat.le_of_ble_eq_true rfl⟩) (fun x_31 L1 f1 H locs lx_31 ux_31 ex_31 hw => ?_)
        obtain ⟨rfl, rfl, ex_31⟩ := ex_31
        refine lv_istore_n (lv' := [(3, .int (iI x_31)), (0, .ref a0), (1, .int (iI x1)), (2, .int (iI x2))]) hx hb dX0_seek_36 rfl hl (by decide) rfl (fun ls hl => ?_)
        exact J37 x_31 lx_31 ux_31 _ _ _ hw (lv_sub hl [1, 2, 3, 0] rfl)
set_option maxHeartbeats 4000000 in
set_option maxRecDepth 100000 in
theorem c_X0_seekAhead_h {Z : Zt} (zo : Zok Z) (l : Launch) (D : va_G) (cy : Cy) (L0 : List Nat) (f0 : Nat → va_E) (a0 : Nat) (x1 : Int) (lx1 : -2147483648 ≤ x1) (ux1 : x1 ≤ 2147483647) (m_a0 : a0 ∈ L0) (o_a0 : Ob f0 a0 0) (hg : GI cy L0 f0) : Ci Z l yX0_seekAhead (Cond.code yX0_seekAhead cX0_seekAhead 6 (some .boolean) :: TB) ({ frames := 4, cells := 0, slots := 0, locals := 88 } : Room) 0 0 D (tq cy) [.ref a0, .int (iI x1)] L0 f0 (fun (r : Int) (L1 : List Nat) (f1 : Nat → va_E) => L0 = L1 ∧ GI cy L0 f1 ∧ Eh cy f0 f1 ∧ (r = 0 ∨ r = 1)) := by
  refine Ci.enter (cc := cX0_seekAhead) (n := 6) rfl (plainFor_of_name (by decide)) (Nat.le_of_ble_eq_true rfl) ?_
  intro p e s m below meth c ls A hx hb hr hts hown hlocks hnm hml hK hA hAe hw hZ hl
  have hown : s.vm.findClass RX0 = some m.cls := hown
  have hl : lv_has ls 6 [(0, .ref a0), (1, .int (iI x1))] := hl
  have hN : ZN s := (zo.2.2.2.2 _ _ _ hZ).2
  have hE : Eh cy f0 f0 := Eh.refl cy f0
  refine lv_aload_n hx hb dX0_seekAhead_0 rfl (lv_at hl 0 rfl) ?_
  refine lv_aload_n hx hb dX0_seekAhead_1 rfl (lv_at hl 0 rfl) ?_
  refine lv_iload_n hx hb dX0_seekAhead_2 rfl (lv_at hl 1 rfl) ?_
  refine q_iconst hx hb dX0_seekAhead_3 ?_
  first | refine q_isub hx hb dX0_seekAhead_4 ⟨by omega, by omega⟩ (fun x_1 lx_1 ux_1 ex_1 => ?_) | refine q_isubw hx hb dX0_seekAhead_4 (fun x_1 lx_1 ux_1 _ => ?_)
  refine q_call_i hA hK hw (va_runV (As := [.int (iI x_1)]) (rest := [.ref a0]) ⟨hx, hb, hml, hown, hts⟩ (c_X0_ruledTo zo l D cy L0 f0 a0 x_1 lx_1 ux_1 m_a0 o_a0 hg _) (cwV 1 hts (gT (inV (mr30 _ (List.mem_of_getElem? (i := 23) rfl)) (mr31 _ (List.mem_of_getElem? (i := 0) rfl)) (mr31 _ (List.mem_of_getElem? (i := 1) rfl)) (mr2 _ (List.mem_of_getElem? (i := 9) rfl)) (mr31 _ (List.mem_of_getElem? (i := 2) rfl)))) rfl rfl rfl (by decide +kernel) ⟨Nat.le_of_ble_eq_true rfl, Nat.le_of_ble_eq_true rfl⟩) (Wd.preV zo hA hZ hw hK m_a0 o_a0 rfl) rfl rfl hl.1 rfl (lv_room (Nat.le_of_ble_eq_true rfl)) dX0_seekAhead_5 ⟨Nat.le_of_ble_eq_true rfl, Nat.le_of_ble_eq_true rfl⟩) (fun x_2 L1 f1 H locs lx_2 ux_2 ex_2 hw => ?_)
  obtain ⟨rfl, rfl, ex_2⟩ := ex_2
  refine q_call_i hA hK hw (va_runV (As := [.int (iI x_2)]) (rest := []) ⟨hx, hb, hml, hown, hts⟩ (c_X0_keyTo zo l D cy L0 f0 a0 x_2 lx_2 ux_2 m_a0 o_a0 hg _) (cwV 1 hts (gT (inV (mr31 _ (List.mem_of_getElem? (i := 3) rfl)) (mr31 _ (List.mem_of_getElem? (i := 4) rfl)) (mr31 _ (List.mem_of_getElem? (i := 5) rfl)) (mr2 _ (List.mem_of_getElem? (i := 9) rfl)) (mr31 _ (List.mem_of_getElem? (i := 6) rfl)))) rfl rfl rfl (by decide +kernel) ⟨Nat.le_of_ble_eq_true rfl, Nat.le_of_ble_eq_true rfl⟩) (Wd.preV zo hA hZ hw hK m_a0 o_a0 rfl) rfl rfl hl.1 rfl (lv_room (Nat.le_of_ble_eq_true rfl)) dX0_seekAhead_8 ⟨Nat.le_of_ble_eq_true rfl, Nat.le_of_ble_eq_true rfl⟩) (fun x_3 L1 f1 H locs lx_3 ux_3 ex_3 hw => ?_)
  obtain ⟨rfl, rfl, ex_3⟩ := ex_3
  refine lv_istore_n (lv' := [(2, .int (iI x_3)), (0, .ref a0), (1, .int (iI x1))]) hx hb dX0_seekAhead_11 rfl hl (by decide) rfl (fun ls hl => ?_)
  refine q_iconst hx hb dX0_seekAhead_12 ?_
  refine lv_istore_n (lv' := [(3, .int (iI 0)), (2, .int (iI x_3)), (0, .ref a0), (1, .int (iI x1))]) hx hb dX0_seekAhead_13 rfl hl (by decide) rfl (fun ls hl => ?_)
  have J14 : ∀ (n14 : Nat) (y2_14 : Int) (ly2_14 : -2147483648 ≤ y2_14) (uy2_14 : y2_14 ≤ 2147483647) (y3_14 : Int) (ly3_14 : -2147483648 ≤ y3_14) (uy3_14 : y3_14 ≤ 2147483647) (i1 : 0 ≤ y3_14) (hn14 : ((2147483647 : Int) - y3_14).toNat < n14) (H : Heap) (locs : List Loc) (ls : Array Slot) (hw : Wd D A s.heap L0 f0 H locs) (hl : lv_has ls 6 [(0, .ref a0), (1, .int (iI x1)), (2, .int (iI y2_14)), (3, .int (iI y3_14))]), W p l e ({ frames := 4, cells := 0, slots := 0, locals := 88 } : Room) s m ([.ref a0, .int (iI x1)] : List Value).toArray below meth c H locs (0 + 0 + 0) (0 + 0 + 0) (MQ below (Qi D (tq cy) L0 f0 s.heap.size (fun (r : Int) (L1 : List Nat) (f1 : Nat → va_E) => L0 = L1 ∧ GI cy L0 f1 ∧ Eh cy f0 f1 ∧ (r = 0 ∨ r = 1))) ([.ref a0, .int (iI x1)] : List Value).toArray s 0 0 A) (F0 m 14 ls []) := by
    intro n14
    induction n14 with
    | zero => intro y2_14 ly2_14 uy2_14 y3_14 ly3_14 uy3_14 i1 hn14; exact absurd hn14 (Nat.not_lt_zero _)
    | succ n14 ih14 =>
      intro y2_14 ly2_14 uy2_14 y3_14 ly3_14 uy3_14 i1 hn14 H locs ls hw hl
      refine lv_iload_n hx hb dX0_seekAhead_14 rfl (lv_at hl 3 rfl) ?_
      refine lv_aload_n hx hb dX0_seekAhead_15 rfl (lv_at hl 0 rfl) ?_
      refine q_geti (ci := 0) (C := RX0) (T := TX0) (N := 15) hx hb hts (fun w h => List.mem_cons_of_mem _ (mfX00 w h)) hown hK hw m_a0 o_a0 rfl 10 (by decide) (hts _ (List.mem_cons_of_mem _ (mr14 _ (List.mem_of_getElem? (i := 9) rfl)))) (fun _ h => h) rfl dX0_seekAhead_16 (fun x_4 lx_4 ux_4 ex_4 => ?_)
      have bx_4 : 0 ≤ x_4 ∧ x_4 ≤ 16 := by rw [ex_4]; exact hg.1 _ m_a0 0 10 o_a0
      have J50 : ∀ (H : Heap) (locs : List Loc) (ls : Array Slot) (hw : Wd D A s.heap L0 f0 H locs) (hl : lv_has ls 6 [(0, .ref a0), (1, .int (iI x1)), (2, .int (iI y2_14))]), W p l e ({ frames := 4, cells := 0, slots := 0, locals := 88 } : Room) s m ([.ref a0, .int (iI x1)] : List Value).toArray below meth c H locs (0 + 0 + 0) (0 + 0 + 0) (MQ below (Qi D (tq cy) L0 f0 s.heap.size (fun (r : Int) (L1 : List Nat) (f1 : Nat → va_E) => L0 = L1 ∧ GI cy L0 f1 ∧ Eh cy f0 f1 ∧ (r = 0 ∨ r = 1))) ([.ref a0, .int (iI x1)] : List Value).toArray s 0 0 A) (F0 m 50 ls []) := by
        intro H locs ls hw hl
        refine lv_aload_n hx hb dX0_seekAhead_50 rfl (lv_at hl 0 rfl) ?_
        refine lv_iload_n hx hb dX0_seekAhead_51 rfl (lv_at hl 2 rfl) ?_
        refine q_puti (ci := 0) (C := RX0) (T := TX0) (N := 15) hx hb hts (fun w h => List.mem_cons_of_mem _ (mfX00 w h)) hown hK hw m_a0 o_a0 rfl 14 (by decide) (hts _ (List.mem_cons_of_mem _ (mr29 _ (List.mem_of_getElem? (i := 11) rfl)))) (fun _ h => h) tyX0 tyX0_ok nmX0 rfl (ty := .int) (by decide +kernel) rfl rfl dX0_seekAhead_52 (fun H locs hw => ?_)
        have oo := o_a0
        obtain ⟨f_5, ef_5⟩ : ∃ g : Nat → va_E, g = pU f0 a0 14 (.int (iI y2_14)) := ⟨_, rfl⟩
        have hX : Eh cy f0 f_5 := by rw [ef_5]; exact Eh_pU oo rfl rfl (by decide)
        have hg : GI cy L0 f_5 := by rw [ef_5]; exact hg.putI oo rfl ⟨ly2_14, uy2_14⟩ trivial
        rw [← ef_5] at hw
        have hE := hE.trans hX
        have o_a0 := hX.1.1.1 _ _ o_a0
        have vf_5 : fI f_5 a0 14 = y2_14 := by rw [ef_5]; exact fI_pU_self oo rfl ⟨ly2_14, uy2_14⟩
        refine lv_aload_n hx hb dX0_seekAhead_55 rfl (lv_at hl 0 rfl) ?_
        refine lv_iload_n hx hb dX0_seekAhead_56 rfl (lv_at hl 2 rfl) ?_
        refine q_iconst hx hb dX0_seekAhead_57 ?_
        have J70 : ∀ (w0_70 : Int) (lw0_70 : -2147483648 ≤ w0_70) (uw0_70 : w0_70 ≤ 2147483647) (H : Heap) (locs : List Loc) (ls : Array Slot) (hw : Wd D A s.heap L0 f_5 H locs) (hl : lv_has ls 6 [(0, .ref a0), (1, .int (iI x1))]), W p l e ({ frames := 4, cells := 0, slots := 0, locals := 88 } : Room) s m ([.ref a0, .int (iI x1)] : List Value).toArray below meth c H locs (0 + 0 + 0) (0 + 0 + 0) (MQ below (Qi D (tq cy) L0 f0 s.heap.size (fun (r : Int) (L1 : List Nat) (f1 : Nat → va_E) => L0 = L1 ∧ GI cy L0 f1 ∧ Eh cy f0 f1 ∧ (r = 0 ∨ r = 1))) ([.ref a0, .int (iI x1)] : List Value).toArray s 0 0 A) (F0 m 70 ls [.int (iI w0_70), .ref a0]) := by
          intro w0_70 lw0_70 uw0_70 H locs ls hw hl
          refine q_puti (ci := 0) (C := RX0) (T := TX0) (N := 15) hx hb hts (fun w h => List.mem_cons_of_mem _ (mfX00 w h)) hown hK hw m_a0 o_a0 rfl 13 (by decide) (hts _ (List.mem_cons_of_mem _ (mr29 _ (List.mem_of_getElem? (i := 13) rfl)))) (fun _ h => h) tyX0 tyX0_ok nmX0 rfl (ty := .int) (by decide +kernel) rfl rfl dX0_seekAhead_70 (fun H locs hw => ?_)
          have oo := o_a0
          obtain ⟨f_6, ef_6⟩ : ∃ g : Nat → va_E, g = pU f_5 a0 13 (.int (iI w0_70)) := ⟨_, rfl⟩
          have hX : Eh cy f_5 f_6 := by rw [ef_6]; exact Eh_pU oo rfl rfl (by decide)
          have hg : GI cy L0 f_6 := by rw [ef_6]; exact hg.putI oo rfl ⟨lw0_70, uw0_70⟩ trivial
          rw [← ef_6] at hw
          have hE := hE.trans hX
          have o_a0 := hX.1.1.1 _ _ o_a0
          have vf_6 : fI f_6 a0 13 = w0_70 := by rw [ef_6]; exact fI_pU_self oo rfl ⟨lw0_70, uw0_70⟩
          refine q_iconst hx hb dX0_seekAhead_73 ?_
          refine lv_istore_n (lv' := [(3, .int (iI 0)), (0, .ref a0), (1, .int (iI x1))]) hx hb dX0_seekAhead_74 rfl hl (by decide) rfl (fun ls hl => ?_)
          have J75 : ∀ (n75 : Nat) (y3_75 : Int) (ly3_75 : -2147483648 ≤ y3_75) (uy3_75 : y3_75 ≤ 2147483647) (L : List Nat) (fw75 : Nat → va_E) (hg : GI cy L0 fw75) (hE : Eh cy f0 fw75) (o_a0 : Ob fw75 a0 0) (i1 : 0 ≤ y3_75) (hn75 : ((2147483647 : Int) - y3_75).toNat < n75) (H : Heap) (locs : List Loc) (ls : Array Slot) (hw : Wd D A s.heap L0 fw75 H locs) (hl : lv_has ls 6 [(0, .ref a0), (1, .int (iI x1)), (3, .int (iI y3_75))]), W p l e ({ frames := 4, cells := 0, slots := 0, locals := 88 } : Room) s m ([.ref a0, .int (iI x1)] : List Value).toArray below meth c H locs (0 + 0 + 0) (0 + 0 + 0) (MQ below (Qi D (tq cy) L0 f0 s.heap.size (fun (r : Int) (L1 : List Nat) (f1 : Nat → va_E) => L0 = L1 ∧ GI cy L0 f1 ∧ Eh cy f0 f1 ∧ (r = 0 ∨ r = 1))) ([.ref a0, .int (iI x1)] : List Value).toArray s 0 0 A) (F0 m 75 ls []) := by
            intro n75
            induction n75 with
            | zero => intro y3_75 ly3_75 uy3_75 L fw75 hg hE o_a0 i1 hn75; exact absurd hn75 (Nat.not_lt_zero _)
            | succ n75 ih75 =>
              intro y3_75 ly3_75 uy3_75 L fw75 hg hE o_a0 i1 hn75 H locs ls hw hl
              refine lv_iload_n hx hb dX0_seekAhead_75 rfl (lv_at hl 2 rfl) ?_
              refine lv_aload_n hx hb dX0_seekAhead_76 rfl (lv_at hl 0 rfl) ?_
              refine q_geti (ci := 0) (C := RX0) (T := TX0) (N := 15) hx hb hts (fun w h => List.mem_cons_of_mem _ (mfX00 w h)) hown hK hw m_a0 o_a0 rfl 10 (by decide) (hts _ (List.mem_cons_of_mem _ (mr14 _ (List.mem_of_getElem? (i := 9) rfl)))) (fun _ h => h) rfl dX0_seekAhead_77 (fun x_7 lx_7 ux_7 ex_7 => ?_)
              have bx_7 : 0 ≤ x_7 ∧ x_7 ≤ 16 := by rw [ex_7]; exact hg.1 _ m_a0 0 10 o_a0
              refine q_icmp_ge (tgt := 156) hx hb dX0_seekAhead_80 (by decide) ⟨ly3_75, uy3_75⟩ ⟨lx_7, ux_7⟩ (fun c80 => ?_) (fun c80 => ?_)
              · refine lv_aload_n hx hb dX0_seekAhead_156 rfl (lv_at hl 0 rfl) ?_
                refine q_geti (ci := 0) (C := RX0) (T := TX0) (N := 15) hx hb hts (fun w h => List.mem_cons_of_mem _ (mfX00 w h)) hown hK hw m_a0 o_a0 rfl 14 (by decide) (hts _ (List.mem_cons_of_mem _ (mr29 _ (List.mem_of_getElem? (i := 11) rfl)))) (fun _ h => h) rfl dX0_seekAhead_157 (fun x_8 lx_8 ux_8 ex_8 => ?_)
                refine q_iconst hx hb dX0_seekAhead_160 ?_
                refine q_icmp_eq (tgt := 168) hx hb dX0_seekAhead_161 (by decide) ⟨lx_8, ux_8⟩ ⟨by decide, by decide⟩ (fun c161 => ?_) (fun c161 => ?_)
                · refine q_iconst hx hb dX0_seekAhead_168 ?_
                  exact q_ret_z hx hb hr hlocks hK hAe hw (by omega) (Nat.le_of_ble_eq_true rfl) (Nat.le_of_ble_eq_true rfl) dX0_seekAhead_169 (by exact ⟨rfl, hg, hE, by first | trivial | omega⟩)
                · refine q_iconst hx hb dX0_seekAhead_164 ?_
                  refine lv_goto (tgt := 169) hx hb dX0_seekAhead_165 (by decide) ?_
                  exact q_ret_z hx hb hr hlocks hK hAe hw (by omega) (Nat.le_of_ble_eq_true rfl) (Nat.le_of_ble_eq_true rfl) dX0_seekAhead_169 (by exact ⟨rfl, hg, hE, by first | trivial | omega⟩)
              · refine lv_aload_n hx hb dX0_seekAhead_83 rfl (lv_at hl 0 rfl) ?_
                obtain ⟨r_9, er_9, m_r_9, o_r_9⟩ := (show ∃ r, fR fw75 a0 12 = some r ∧ r ∈ L0 ∧ ArI fw75 r cy.2.1 16 from hg.2.1 _ m_a0 0 12 o_a0)
                refine q_getr (ci := 0) (C := RX0) (T := TX0) (N := 15) hx hb hts (fun w h => List.mem_cons_of_mem _ (mfX00 w h)) hown hK hw m_a0 o_a0 rfl 12 (by decide) (hts _ (List.mem_cons_of_mem _ (mr3 _ (List.mem_of_getElem? (i := 3) rfl)))) (fun _ h => h) rfl er_9 dX0_seekAhead_84 ?_
                refine lv_iload_n hx hb dX0_seekAhead_87 rfl (lv_at hl 2 rfl) ?_
                refine q_iald hx hb hK hw m_r_9 1 o_r_9 rfl ⟨ly3_75, uy3_75⟩ (by omega) (by omega) dX0_seekAhead_88 (fun x_10 lx_10 ux_10 ex_10 => ?_)
                refine lv_istore (lv' := [(4, .int (iI x_10)), (0, .ref a0), (1, .int (iI x1)), (3, .int (iI y3_75))]) hx hb dX0_seekAhead_89 hl (by decide) rfl (fun ls hl => ?_)
                refine lv_aload_n hx hb dX0_seekAhead_91 rfl (lv_at hl 1 rfl) ?_
                obtain ⟨r_11, er_11, m_r_11, o_r_11⟩ := (show ∃ r, fR fw75 a0 11 = some r ∧ r ∈ L0 ∧ ArI fw75 r cy.2.1 16 from hg.2.1 _ m_a0 0 11 o_a0)
                refine q_getr (ci := 0) (C := RX0) (T := TX0) (N := 15) hx hb hts (fun w h => List.mem_cons_of_mem _ (mfX00 w h)) hown hK hw m_a0 o_a0 rfl 11 (by decide) (hts _ (List.mem_cons_of_mem _ (mr3 _ (List.mem_of_getElem? (i := 2) rfl)))) (fun _ h => h) rfl er_11 dX0_seekAhead_92 ?_
                refine lv_iload_n hx hb dX0_seekAhead_95 rfl (lv_at hl 3 rfl) ?_
                refine q_iald hx hb hK hw m_r_11 1 o_r_11 rfl ⟨ly3_75, uy3_75⟩ (by omega) (by omega) dX0_seekAhead_96 (fun x_12 lx_12 ux_12 ex_12 => ?_)
                refine lv_istore (lv' := [(5, .int (iI x_12)), (4, .int (iI x_10)), (0, .ref a0), (1, .int (iI x1)), (3, .int (iI y3_75))]) hx hb dX0_seekAhead_97 hl (by decide) rfl (fun ls hl => ?_)
                refine lv_iload hx hb dX0_seekAhead_99 (lv_at hl 1 rfl) ?_
                refine q_iconst hx hb dX0_seekAhead_101 ?_
                have J150 : ∀ (L : List Nat) (fw150 : Nat → va_E) (hg : GI cy L0 fw150) (hE : Eh cy f0 fw150) (o_a0 : Ob fw150 a0 0) (H : Heap) (locs : List Loc) (ls : Array Slot) (hw : Wd D A s.heap L0 fw150 H locs) (hl : lv_has ls 6 [(0, .ref a0), (1, .int (iI x1)), (3, .int (iI y3_75))]), W p l e ({ frames := 4, cells := 0, slots := 0, locals := 88 } : Room) s m ([.ref a0, .int (iI x1)] : List Value).toArray below meth c H locs (0 + 0 + 0) (0 + 0 + 0) (MQ below (Qi D (tq cy) L0 f0 s.heap.size (fun (r : Int) (L1 : List Nat) (f1 : Nat → va_E) => L0 = L1 ∧ GI cy L0 f1 ∧ Eh cy f0 f1 ∧ (r = 0 ∨ r = 1))) ([.ref a0, .int (iI x1)] : List Value).toArray s 0 0 A) (F0 m 150 ls []) := by
                  intro L fw150 hg hE o_a0 H locs ls hw hl
                  obtain ⟨x_13, lx_13, ux_13, hx_13, ex_13⟩ := q_inc y3_75 (1)
                  try (replace ex_13 : x_13 = y3_75 + (1) := by omega)
                  refine lv_iinc (v := iI x_13) (lv' := [(3, .int (iI x_13)), (0, .ref a0), (1, .int (iI x1))]) hx hb dX0_seekAhead_150 hl (k := 2) rfl hx_13 (by decide) rfl (fun ls hl => ?_)
                  refine lv_goto (tgt := 75) hx hb dX0_seekAhead_153 (by decide) ?_
                  exact ih75 x_13 lx_13 ux_13 L0 fw150 hg hE o_a0 (by omega) (by omega) _ _ _ hw (lv_sub hl [1, 2, 0] rfl)
                refine q_icmp_eq (tgt := 150) hx hb dX0_seekAhead_102 (by decide) ⟨lx_10, ux_10⟩ ⟨by decide, by decide⟩ (fun c102 => ?_) (fun c102 => ?_)
                · exact J150 L0 fw75 hg hE o_a0 _ _ _ hw (lv_sub hl [2, 3, 4] rfl)
                · refine lv_iload hx hb dX0_seekAhead_105 (lv_at hl 1 rfl) ?_
                  refine lv_iload_n hx hb dX0_seekAhead_107 rfl (lv_at hl 3 rfl) ?_
                  refine q_icmp_ge (tgt := 150) hx hb dX0_seekAhead_108 (by decide) ⟨lx_10, ux_10⟩ ⟨lx1, ux1⟩ (fun c108 => ?_) (fun c108 => ?_)
                  · exact J150 L0 fw75 hg hE o_a0 _ _ _ hw (lv_sub hl [2, 3, 4] rfl)
                  · refine lv_iload hx hb dX0_seekAhead_111 (lv_at hl 1 rfl) ?_
                    refine lv_aload_n hx hb dX0_seekAhead_113 rfl (lv_at hl 2 rfl) ?_
                    refine q_geti (ci := 0) (C := RX0) (T := TX0) (N := 15) hx hb hts (fun w h => List.mem_cons_of_mem _ (mfX00 w h)) hown hK hw m_a0 o_a0 rfl 13 (by decide) (hts _ (List.mem_cons_of_mem _ (mr29 _ (List.mem_of_getElem? (i := 13) rfl)))) (fun _ h => h) rfl dX0_seekAhead_114 (fun x_14 lx_14 ux_14 ex_14 => ?_)
                    have J138 : ∀ (H : Heap) (locs : List Loc) (ls : Array Slot) (hw : Wd D A s.heap L0 fw75 H locs) (hl : lv_has ls 6 [(0, .ref a0), (1, .int (iI x1)), (3, .int (iI y3_75)), (4, .int (iI x_10)), (5, .int (iI x_12))]), W p l e ({ frames := 4, cells := 0, slots := 0, locals := 88 } : Room) s m ([.ref a0, .int (iI x1)] : List Value).toArray below meth c H locs (0 + 0 + 0) (0 + 0 + 0) (MQ below (Qi D (tq cy) L0 f0 s.heap.size (fun (r : Int) (L1 : List Nat) (f1 : Nat → va_E) => L0 = L1 ∧ GI cy L0 f1 ∧ Eh cy f0 f1 ∧ (r = 0 ∨ r = 1))) ([.ref a0, .int (iI x1)] : List Value).toArray s 0 0 A) (F0 m 138 ls []) := by
                      intro H locs ls hw hl
                      refine lv_aload_n hx hb dX0_seekAhead_138 rfl (lv_at hl 0 rfl) ?_
                      refine lv_iload hx hb dX0_seekAhead_139 (lv_at hl 3 rfl) ?_
                      refine q_puti (ci := 0) (C := RX0) (T := TX0) (N := 15) hx hb hts (fun w h => List.mem_cons_of_mem _ (mfX00 w h)) hown hK hw m_a0 o_a0 rfl 13 (by decide) (hts _ (List.mem_cons_of_mem _ (mr29 _ (List.mem_of_getElem? (i := 13) rfl)))) (fun _ h => h) tyX0 tyX0_ok nmX0 rfl (ty := .int) (by decide +kernel) rfl rfl dX0_seekAhead_141 (fun H locs hw => ?_)
                      have oo := o_a0
                      obtain ⟨f_15, ef_15⟩ : ∃ g : Nat → va_E, g = pU fw75 a0 13 (.int (iI x_10)) := ⟨_, rfl⟩
                      have hX : Eh cy fw75 f_15 := by rw [ef_15]; exact Eh_pU oo rfl rfl (by decide)
                      have hg : GI cy L0 f_15 := by rw [ef_15]; exact hg.putI oo rfl ⟨lx_10, ux_10⟩ trivial
                      rw [← ef_15] at hw
                      have hE := hE.trans hX
                      have o_a0 := hX.1.1.1 _ _ o_a0
                      have vf_15 : fI f_15 a0 13 = x_10 := by rw [ef_15]; exact fI_pU_self oo rfl ⟨lx_10, ux_10⟩
                      refine lv_aload_n hx hb dX0_seekAhead_144 rfl (lv_at hl 0 rfl) ?_
                      refine lv_iload hx hb dX0_seekAhead_145 (lv_at hl 4 rfl) ?_
                      refine q_puti (ci := 0) (C := RX0) (T := TX0) (N := 15) hx hb hts (fun w h => List.mem_cons_of_mem _ (mfX00 w h)) hown hK hw m_a0 o_a0 rfl 14 (by decide) (hts _ (List.mem_cons_of_mem _ (mr29 _ (List.mem_of_getElem? (i := 11) rfl)))) (fun _ h => h) tyX0 tyX0_ok nmX0 rfl (ty := .int) (by decide +kernel) rfl rfl dX0_seekAhead_147 (fun H locs hw => ?_)
                      have oo := o_a0
                      obtain ⟨f_16, ef_16⟩ : ∃ g : Nat → va_E, g = pU f_15 a0 14 (.int (iI x_12)) := ⟨_, rfl⟩
                      have hX : Eh cy f_15 f_16 := by rw [ef_16]; exact Eh_pU oo rfl rfl (by decide)
                      have hg : GI cy L0 f_16 := by rw [ef_16]; exact hg.putI oo rfl ⟨lx_12, ux_12⟩ trivial
                      rw [← ef_16] at hw
                      have hE := hE.trans hX
                      have o_a0 := hX.1.1.1 _ _ o_a0
                      have vf_16 : fI f_16 a0 14 = x_12 := by rw [ef_16]; exact fI_pU_self oo rfl ⟨lx_12, ux_12⟩
                      exact J150 L0 f_16 hg hE o_a0 _ _ _ hw (lv_sub hl [0, 1, 2] rfl)
                    refine q_icmp_gt (tgt := 138) hx hb dX0_seekAhead_117 (by decide) ⟨lx_10, ux_10⟩ ⟨lx_14, ux_14⟩ (fun c117 => ?_) (fun c117 => ?_)
                    · exact J138 _ _ _ hw (lv_sub hl [2, 3, 4, 1, 0] rfl)
                    · refine lv_iload hx hb dX0_seekAhead_120 (lv_at hl 1 rfl) ?_
                      refine lv_aload_n hx hb dX0_seekAhead_122 rfl (lv_at hl 2 rfl) ?_
                      refine q_geti (ci := 0) (C := RX0) (T := TX0) (N := 15) hx hb hts (fun w h => List.mem_cons_of_mem _ (mfX00 w h)) hown hK hw m_a0 o_a0 rfl 13 (by decide) (hts _ (List.mem_cons_of_mem _ (mr29 _ (List.mem_of_getElem? (i := 13) rfl)))) (fun _ h => h) rfl dX0_seekAhead_123 (fun x_17 lx_17 ux_17 ex_17 => ?_)
                      refine q_icmp_ne (tgt := 150) hx hb dX0_seekAhead_126 (by decide) ⟨lx_10, ux_10⟩ ⟨lx_17, ux_17⟩ (fun c126 => ?_) (fun c126 => ?_)
                      · exact J150 L0 fw75 hg hE o_a0 _ _ _ hw (lv_sub hl [2, 3, 4] rfl)
                      · refine lv_iload hx hb dX0_seekAhead_129 (lv_at hl 0 rfl) ?_
                        refine lv_aload_n hx hb dX0_seekAhead_131 rfl (lv_at hl 2 rfl) ?_
                        refine q_geti (ci := 0) (C := RX0) (T := TX0) (N := 15) hx hb hts (fun w h => List.mem_cons_of_mem _ (mfX00 w h)) hown hK hw m_a0 o_a0 rfl 14 (by decide) (hts _ (List.mem_cons_of_mem _ (mr29 _ (List.mem_of_getElem? (i := 11) rfl)))) (fun _ h => h) rfl dX0_seekAhead_132 (fun x_18 lx_18 ux_18 ex_18 => ?_)
                        refine q_icmp_le (tgt := 150) hx hb dX0_seekAhead_135 (by decide) ⟨lx_12, ux_12⟩ ⟨lx_18, ux_18⟩ (fun c135 => ?_) (fun c135 => ?_)
                        · exact J150 L0 fw75 hg hE o_a0 _ _ _ hw (lv_sub hl [2, 3, 4] rfl)
                        · exact J138 _ _ _ hw (lv_sub hl [2, 3, 4, 1, 0] rfl)
          exact J75 ((((2147483647 : Int) - 0).toNat) + 1) 0 (by decide) (by decide) L0 f_6 hg hE o_a0 (by omega) (by omega) _ _ _ hw (lv_sub hl [1, 2, 0] rfl)
        refine q_icmp_ne (tgt := 65) hx hb dX0_seekAhead_58 (by decide) ⟨ly2_14, uy2_14⟩ ⟨by decide, by decide⟩ (fun c58 => ?_) (fun c58 => ?_)
        · refine lv_aload_n hx hb dX0_seekAhead_65 rfl (lv_at hl 0 rfl) ?_
          refine lv_iload_n hx hb dX0_seekAhead_66 rfl (lv_at hl 2 rfl) ?_
          refine q_call_i hA hK hw (va_runV (As := [.int (iI y2_14)]) (rest := [.ref a0]) ⟨hx, hb, hml, hown, hts⟩ (c_X0_timeOf zo l D cy L0 f_5 a0 y2_14 ly2_14 uy2_14 m_a0 o_a0 hg _) (cwV 1 hts (gT (inV (mr29 _ (List.mem_of_getElem? (i := 23) rfl)) (mr30 _ (List.mem_of_getElem? (i := 0) rfl)) (mr30 _ (List.mem_of_getElem? (i := 1) rfl)) (mr2 _ (List.mem_of_getElem? (i := 9) rfl)) (mr30 _ (List.mem_of_getElem? (i := 2) rfl)))) rfl rfl rfl (by decide +kernel) ⟨Nat.le_of_ble_eq_true rfl, Nat.le_of_ble_eq_true rfl⟩) (Wd.preV zo hA hZ hw hK m_a0 o_a0 rfl) rfl rfl hl.1 rfl (lv_room (Nat.le_of_ble_eq_true rfl)) dX0_seekAhead_67 ⟨Nat.le_of_ble_eq_true rfl, Nat.le_of_ble_eq_true rfl⟩) (fun x_19 L1 f1 H locs lx_19 ux_19 ex_19 hw => ?_)
          obtain ⟨rfl, rfl, ex_19⟩ := ex_19
          exact J70 x_19 lx_19 ux_19 _ _ _ hw (lv_sub hl [0, 1] rfl)
        · refine q_iconst hx hb dX0_seekAhead_61 ?_
          refine lv_goto (tgt := 70) hx hb dX0_seekAhead_62 (by decide) ?_
          exact J70 ((-1)) (by decide) (by decide) _ _ _ hw (lv_sub hl [0, 1] rfl)
      refine q_icmp_ge (tgt := 50) hx hb dX0_seekAhead_19 (by decide) ⟨ly3_14, uy3_14⟩ ⟨lx_4, ux_4⟩ (fun c19 => ?_) (fun c19 => ?_)
      · exact J50 _ _ _ hw (lv_sub hl [0, 1, 2] rfl)
      · refine lv_iload_n hx hb dX0_seekAhead_22 rfl (lv_at hl 2 rfl) ?_
        refine q_iconst hx hb dX0_seekAhead_23 ?_
        refine q_icmp_eq (tgt := 50) hx hb dX0_seekAhead_24 (by decide) ⟨ly2_14, uy2_14⟩ ⟨by decide, by decide⟩ (fun c24 => ?_) (fun c24 => ?_)
        · exact J50 _ _ _ hw (lv_sub hl [0, 1, 2] rfl)
        · refine lv_aload_n hx hb dX0_seekAhead_27 rfl (lv_at hl 0 rfl) ?_
          refine lv_iload_n hx hb dX0_seekAhead_28 rfl (lv_at hl 2 rfl) ?_
          refine q_call_i hA hK hw (va_runV (As := [.int (iI y2_14)]) (rest := []) ⟨hx, hb, hml, hown, hts⟩ (c_X0_changeOf zo l D cy L0 f0 a0 y2_14 ly2_14 uy2_14 m_a0 o_a0 hg _) (cwV 1 hts (gT (inV (mr26 _ (List.mem_of_getElem? (i := 15) rfl)) (mr26 _ (List.mem_of_getElem? (i := 16) rfl)) (mr26 _ (List.mem_of_getElem? (i := 17) rfl)) (mr2 _ (List.mem_of_getElem? (i := 9) rfl)) (mr26 _ (List.mem_of_getElem? (i := 18) rfl)))) rfl rfl rfl (by decide +kernel) ⟨Nat.le_of_ble_eq_true rfl, Nat.le_of_ble_eq_true rfl⟩) (Wd.preV zo hA hZ hw hK m_a0 o_a0 rfl) rfl rfl hl.1 rfl (lv_room (Nat.le_of_ble_eq_true rfl)) dX0_seekAhead_29 ⟨Nat.le_of_ble_eq_true rfl, Nat.le_of_ble_eq_true rfl⟩) (fun x_20 L1 f1 H locs lx_20 ux_20 ex_20 hw => ?_)
          obtain ⟨rfl, rfl, ex_20⟩ := ex_20
          refine q_iconst hx hb dX0_seekAhead_32 ?_
          refine q_icmp_eq (tgt := 50) hx hb dX0_seekAhead_33 (by decide) ⟨lx_20, ux_20⟩ ⟨by decide, by decide⟩ (fun c33 => ?_) (fun c33 => ?_)
          · exact J50 _ _ _ hw (lv_sub hl [0, 1, 2] rfl)
          · refine lv_aload_n hx hb dX0_seekAhead_36 rfl (lv_at hl 0 rfl) ?_
            refine lv_iload_n hx hb dX0_seekAhead_37 rfl (lv_at hl 2 rfl) ?_
            refine q_iconst hx hb dX0_seekAhead_38 ?_
            first | refine q_isub hx hb dX0_seekAhead_39 ⟨by omega, by omega⟩ (fun x_21 lx_21 ux_21 ex_21 => ?_) | refine q_isubw hx hb dX0_seekAhead_39 (fun x_21 lx_21 ux_21 _ => ?_)
            refine q_call_i hA hK hw (va_runV (As := [.int (iI x_21)]) (rest := []) ⟨hx, hb, hml, hown, hts⟩ (c_X0_keyTo zo l D cy L0 f0 a0 x_21 lx_21 ux_21 m_a0 o_a0 hg _) (cwV 1 hts (gT (inV (mr31 _ (List.mem_of_getElem? (i := 3) rfl)) (mr31 _ (List.mem_of_getElem? (i := 4) rfl)) (mr31 _ (List.mem_of_getElem? (i := 5) rfl)) (mr2 _ (List.mem_of_getElem? (i := 9) rfl)) (mr31 _ (List.mem_of_getElem? (i := 6) rfl)))) rfl rfl rfl (by decide +kernel) ⟨Nat.le_of_ble_eq_true rfl, Nat.le_of_ble_eq_true rfl⟩) (Wd.preV zo hA hZ hw hK m_a0 o_a0 rfl) rfl rfl hl.1 rfl (lv_room (Nat.le_of_ble_eq_true rfl)) dX0_seekAhead_40 ⟨Nat.le_of_ble_eq_true rfl, Nat.le_of_ble_eq_true rfl⟩) (fun x_22 L1 f1 H locs lx_22 ux_22 ex_22 hw => ?_)
            obtain ⟨rfl, rfl, ex_22⟩ := ex_22
            refine lv_istore_n (lv' := [(2, .int (iI x_22)), (0, .ref a0), (1, .int (iI x1)), (3, .int (iI y3_14))]) hx hb dX0_seekAhead_43 rfl hl (by decide) rfl (fun ls hl => ?_)
            obtain ⟨x_23, lx_23, ux_23, hx_23, ex_23⟩ := q_inc y3_14 (1)
            try (replace ex_23 : x_23 = y3_14 + (1) := by omega)
            refine lv_iinc (v := iI x_23) (lv' := [(3, .int (iI x_23)), (2, .int (iI x_22)), (0, .ref a0), (1, .int (iI x1))]) hx hb dX0_seekAhead_44 hl (k := 3) rfl hx_23 (by decide) rfl (fun ls hl => ?_)
            refine lv_goto (tgt := 14) hx hb dX0_seekAhead_47 (by decide) ?_
            exact ih14 x_22 lx_22 ux_22 x_23 lx_23 ux_23 (by omega) (by omega) _ _ _ hw (lv_sub hl [2, 3, 1, 0] rfl)
  exact J14 ((((2147483647 : Int) - 0).toNat) + 1) x_3 lx_3 ux_3 0 (by decide) (by decide) (by omega) (by omega) _ _ _ hw (lv_sub hl [2, 3, 1, 0] rfl)
set_option maxHeartbeats 4000000 in
set_option maxRecDepth 100000 in
theorem c_X0_meet_h {Z : Zt} (zo : Zok Z) (l : Launch) (D : va_G) (cy : Cy) (L0 : List Nat) (f0 : Nat → va_E) (a0 : Nat) (x1 : Int) (lx1 : -2147483648 ≤ x1) (ux1 : x1 ≤ 2147483647) (x2 : Int) (lx2 : -2147483648 ≤ x2) (ux2 : x2 ≤ 2147483647) (x3 : Int) (lx3 : -2147483648 ≤ x3) (ux3 : x3 ≤ 2147483647) (m_a0 : a0 ∈ L0) (o_a0 : Ob f0 a0 0) (hg : GI cy L0 f0) : Ci Z l yX0_meet (Cond.code yX0_meet cX0_meet 4 (some .int) :: TB) ({ frames := 5, cells := 0, slots := 0, locals := 117 } : Room) 0 0 D (tq cy) [.ref a0, .int (iI x1), .int (iI x2), .int (iI x3)] L0 f0 (fun (r : Int) (L1 : List Nat) (f1 : Nat → va_E) => L0 = L1 ∧ GI cy L0 f1 ∧ Eh cy f0 f1 ∧ (True)) := by
  refine Ci.enter (cc := cX0_meet) (n := 4) rfl (plainFor_of_name (by decide)) (Nat.le_of_ble_eq_true rfl) ?_
  intro p e s m below meth c ls A hx hb hr hts hown hlocks hnm hml hK hA hAe hw hZ hl
  have hown : s.vm.findClass RX0 = some m.cls := hown
  have hl : lv_has ls 4 [(0, .ref a0), (1, .int (iI x1)), (2, .int (iI x2)), (3, .int (iI x3))] := hl
  have hN : ZN s := (zo.2.2.2.2 _ _ _ hZ).2
  have hE : Eh cy f0 f0 := Eh.refl cy f0
  refine lv_iload_n hx hb dX0_meet_0 rfl (lv_at hl 1 rfl) ?_
  refine lv_iload_n hx hb dX0_meet_1 rfl (lv_at hl 3 rfl) ?_
  have J30 : ∀ (L : List Nat) (fw30 : Nat → va_E) (hg : GI cy L0 fw30) (hE : Eh cy f0 fw30) (o_a0 : Ob fw30 a0 0) (H : Heap) (locs : List Loc) (ls : Array Slot) (hw : Wd D A s.heap L0 fw30 H locs) (hl : lv_has ls 4 [(0, .ref a0), (1, .int (iI x1)), (2, .int (iI x2)), (3, .int (iI x3))]), W p l e ({ frames := 5, cells := 0, slots := 0, locals := 117 } : Room) s m ([.ref a0, .int (iI x1), .int (iI x2), .int (iI x3)] : List Value).toArray below meth c H locs (0) (0) (MQ below (Qi D (tq cy) L0 f0 s.heap.size (fun (r : Int) (L1 : List Nat) (f1 : Nat → va_E) => L0 = L1 ∧ GI cy L0 f1 ∧ Eh cy f0 f1 ∧ (True))) ([.ref a0, .int (iI x1), .int (iI x2), .int (iI x3)] : List Value).toArray s 0 0 A) (F0 m 30 ls []) := by
    intro L fw30 hg hE o_a0 H locs ls hw hl
    refine lv_aload_n hx hb dX0_meet_30 rfl (lv_at hl 0 rfl) ?_
    refine lv_iload_n hx hb dX0_meet_31 rfl (lv_at hl 1 rfl) ?_
    refine q_iconst hx hb dX0_meet_32 ?_
    first | refine q_iadd hx hb dX0_meet_33 ⟨by omega, by omega⟩ (fun x_1 lx_1 ux_1 ex_1 => ?_) | refine q_iaddw hx hb dX0_meet_33 (fun x_1 lx_1 ux_1 _ => ?_)
    refine lv_iload_n hx hb dX0_meet_34 rfl (lv_at hl 3 rfl) ?_
    refine q_max hx hb (hml.trans hl.1.symm) hown (hts _ (List.mem_cons_of_mem _ (mr25 _ (List.mem_of_getElem? (i := 20) rfl)))) (hts _ (List.mem_cons_of_mem _ (mr13 _ (List.mem_of_getElem? (i := 0) rfl)))) (hts _ (List.mem_cons_of_mem _ (mr6 _ (List.mem_of_getElem? (i := 14) rfl)))) (hts _ (List.mem_cons_of_mem _ (mr13 _ (List.mem_of_getElem? (i := 1) rfl)))) (Nat.le_of_ble_eq_true rfl) (Nat.le_of_ble_eq_true rfl) (Nat.le_of_ble_eq_true rfl) (Nat.le_of_ble_eq_true rfl) ⟨lx_1, ux_1⟩ ⟨lx3, ux3⟩ dX0_meet_35 (fun x_2 lx_2 ux_2 ex_2 => ?_)
    refine q_iconst hx hb dX0_meet_38 ?_
    refine q_call_i hA hK hw (va_runV (As := [.int (iI x_2), .int (iI 0)]) (rest := []) ⟨hx, hb, hml, hown, hts⟩ (c_X0_seek_h zo l D cy L0 fw30 a0 x_2 lx_2 ux_2 0 (by decide) (by decide) m_a0 o_a0 hg _) (cwV 2 hts (gT (inV (mr35 _ (List.mem_of_getElem? (i := 14) rfl)) (mr29 _ (List.mem_of_getElem? (i := 8) rfl)) (mr29 _ (List.mem_of_getElem? (i := 9) rfl)) (mr2 _ (List.mem_of_getElem? (i := 9) rfl)) (mr29 _ (List.mem_of_getElem? (i := 10) rfl)))) rfl rfl rfl (by decide +kernel) ⟨Nat.le_of_ble_eq_true rfl, Nat.le_of_ble_eq_true rfl⟩) (Wd.preV zo hA hZ hw hK m_a0 o_a0 rfl) rfl rfl hl.1 rfl (lv_room (Nat.le_of_ble_eq_true rfl)) dX0_meet_39 ⟨Nat.le_of_ble_eq_true rfl, Nat.le_of_ble_eq_true rfl⟩) (fun x_3 L1 f_4 H locs lx_3 ux_3 ex_3 hw => ?_)
    obtain ⟨rfl, hg, hX, ex_3⟩ := ex_3
    have hE := hE.trans hX
    have o_a0 := hX.1.1.1 _ _ o_a0
    refine q_if_eq (tgt := 60) hx hb dX0_meet_42 (by decide) ⟨lx_3, ux_3⟩ (fun c42 => ?_) (fun c42 => ?_)
    · refine q_ldc (n := 2147483647) hx hb hown (hts _ (List.mem_cons_of_mem _ (mr29 _ (List.mem_of_getElem? (i := 12) rfl)))) rfl dX0_meet_60 ?_
      exact q_ret_i hx hb hr hlocks hK hAe hw ⟨by decide, by decide⟩ (Nat.le_of_ble_eq_true rfl) (Nat.le_of_ble_eq_true rfl) dX0_meet_62 (by exact ⟨rfl, hg, hE, by first | trivial | omega⟩)
    · refine lv_aload_n hx hb dX0_meet_45 rfl (lv_at hl 0 rfl) ?_
      refine q_geti (ci := 0) (C := RX0) (T := TX0) (N := 15) hx hb hts (fun w h => List.mem_cons_of_mem _ (mfX00 w h)) hown hK hw m_a0 o_a0 rfl 13 (by decide) (hts _ (List.mem_cons_of_mem _ (mr29 _ (List.mem_of_getElem? (i := 13) rfl)))) (fun _ h => h) rfl dX0_meet_46 (fun x_5 lx_5 ux_5 ex_5 => ?_)
      refine lv_iload_n hx hb dX0_meet_49 rfl (lv_at hl 1 rfl) ?_
      refine lv_iload_n hx hb dX0_meet_50 rfl (lv_at hl 2 rfl) ?_
      first | refine q_iadd hx hb dX0_meet_51 ⟨by omega, by omega⟩ (fun x_6 lx_6 ux_6 ex_6 => ?_) | refine q_iaddw hx hb dX0_meet_51 (fun x_6 lx_6 ux_6 _ => ?_)
      refine q_icmp_ge (tgt := 60) hx hb dX0_meet_52 (by decide) ⟨lx_5, ux_5⟩ ⟨lx_6, ux_6⟩ (fun c52 => ?_) (fun c52 => ?_)
      · refine q_ldc (n := 2147483647) hx hb hown (hts _ (List.mem_cons_of_mem _ (mr29 _ (List.mem_of_getElem? (i := 12) rfl)))) rfl dX0_meet_60 ?_
        exact q_ret_i hx hb hr hlocks hK hAe hw ⟨by decide, by decide⟩ (Nat.le_of_ble_eq_true rfl) (Nat.le_of_ble_eq_true rfl) dX0_meet_62 (by exact ⟨rfl, hg, hE, by first | trivial | omega⟩)
      · refine lv_aload_n hx hb dX0_meet_55 rfl (lv_at hl 0 rfl) ?_
        refine q_geti (ci := 0) (C := RX0) (T := TX0) (N := 15) hx hb hts (fun w h => List.mem_cons_of_mem _ (mfX00 w h)) hown hK hw m_a0 o_a0 rfl 13 (by decide) (hts _ (List.mem_cons_of_mem _ (mr29 _ (List.mem_of_getElem? (i := 13) rfl)))) (fun _ h => h) rfl dX0_meet_56 (fun x_7 lx_7 ux_7 ex_7 => ?_)
        exact q_ret_i hx hb hr hlocks hK hAe hw ⟨lx_7, ux_7⟩ (Nat.le_of_ble_eq_true rfl) (Nat.le_of_ble_eq_true rfl) dX0_meet_59 (by exact ⟨rfl, hg, hE, by first | trivial | omega⟩)
  refine q_icmp_lt (tgt := 30) hx hb dX0_meet_2 (by decide) ⟨lx1, ux1⟩ ⟨lx3, ux3⟩ (fun c2 => ?_) (fun c2 => ?_)
  · exact J30 L0 f0 hg hE o_a0 _ _ _ hw (lv_sub hl [0, 1, 2, 3] rfl)
  · refine lv_aload_n hx hb dX0_meet_5 rfl (lv_at hl 0 rfl) ?_
    refine lv_iload_n hx hb dX0_meet_6 rfl (lv_at hl 1 rfl) ?_
    refine q_iconst hx hb dX0_meet_7 ?_
    first | refine q_iadd hx hb dX0_meet_8 ⟨by omega, by omega⟩ (fun x_8 lx_8 ux_8 ex_8 => ?_) | refine q_iaddw hx hb dX0_meet_8 (fun x_8 lx_8 ux_8 _ => ?_)
    refine q_call_i hA hK hw (va_runV (As := [.int (iI x_8)]) (rest := []) ⟨hx, hb, hml, hown, hts⟩ (c_X0_seekAhead_h zo l D cy L0 f0 a0 x_8 lx_8 ux_8 m_a0 o_a0 hg _) (cwV 1 hts (gT (inV (mr35 _ (List.mem_of_getElem? (i := 13) rfl)) (mr30 _ (List.mem_of_getElem? (i := 20) rfl)) (mr30 _ (List.mem_of_getElem? (i := 21) rfl)) (mr2 _ (List.mem_of_getElem? (i := 9) rfl)) (mr30 _ (List.mem_of_getElem? (i := 22) rfl)))) rfl rfl rfl (by decide +kernel) ⟨Nat.le_of_ble_eq_true rfl, Nat.le_of_ble_eq_true rfl⟩) (Wd.preV zo hA hZ hw hK m_a0 o_a0 rfl) rfl rfl hl.1 rfl (lv_room (Nat.le_of_ble_eq_true rfl)) dX0_meet_9 ⟨Nat.le_of_ble_eq_true rfl, Nat.le_of_ble_eq_true rfl⟩) (fun x_9 L1 f_10 H locs lx_9 ux_9 ex_9 hw => ?_)
    obtain ⟨rfl, hg, hX, ex_9⟩ := ex_9
    have hE := hE.trans hX
    have o_a0 := hX.1.1.1 _ _ o_a0
    refine q_if_eq (tgt := 30) hx hb dX0_meet_12 (by decide) ⟨lx_9, ux_9⟩ (fun c12 => ?_) (fun c12 => ?_)
    · exact J30 L0 f_10 hg hE o_a0 _ _ _ hw (lv_sub hl [0, 1, 2, 3] rfl)
    · refine lv_aload_n hx hb dX0_meet_15 rfl (lv_at hl 0 rfl) ?_
      refine q_geti (ci := 0) (C := RX0) (T := TX0) (N := 15) hx hb hts (fun w h => List.mem_cons_of_mem _ (mfX00 w h)) hown hK hw m_a0 o_a0 rfl 13 (by decide) (hts _ (List.mem_cons_of_mem _ (mr29 _ (List.mem_of_getElem? (i := 13) rfl)))) (fun _ h => h) rfl dX0_meet_16 (fun x_11 lx_11 ux_11 ex_11 => ?_)
      refine lv_aload_n hx hb dX0_meet_19 rfl (lv_at hl 0 rfl) ?_
      refine q_geti (ci := 0) (C := RX0) (T := TX0) (N := 15) hx hb hts (fun w h => List.mem_cons_of_mem _ (mfX00 w h)) hown hK hw m_a0 o_a0 rfl 2 (by decide) (hts _ (List.mem_cons_of_mem _ (mr35 _ (List.mem_of_getElem? (i := 12) rfl)))) (fun _ h => h) rfl dX0_meet_20 (fun x_12 lx_12 ux_12 ex_12 => ?_)
      first | refine q_iadd hx hb dX0_meet_23 ⟨by omega, by omega⟩ (fun x_13 lx_13 ux_13 ex_13 => ?_) | refine q_iaddw hx hb dX0_meet_23 (fun x_13 lx_13 ux_13 _ => ?_)
      refine lv_iload_n hx hb dX0_meet_24 rfl (lv_at hl 1 rfl) ?_
      refine q_icmp_le (tgt := 30) hx hb dX0_meet_25 (by decide) ⟨lx_13, ux_13⟩ ⟨lx1, ux1⟩ (fun c25 => ?_) (fun c25 => ?_)
      · exact J30 L0 f_10 hg hE o_a0 _ _ _ hw (lv_sub hl [0, 1, 2, 3] rfl)
      · refine lv_iload_n hx hb dX0_meet_28 rfl (lv_at hl 1 rfl) ?_
        exact q_ret_i hx hb hr hlocks hK hAe hw ⟨lx1, ux1⟩ (Nat.le_of_ble_eq_true rfl) (Nat.le_of_ble_eq_true rfl) dX0_meet_29 (by exact ⟨rfl, hg, hE, by first | trivial | omega⟩)
set_option maxHeartbeats 4000000 in
set_option maxRecDepth 100000 in
theorem c_X9_next_h {Z : Zt} (zo : Zok Z) (l : Launch) (D : va_G) (cy : Cy) (L0 : List Nat) (f0 : Nat → va_E) (a0 : Nat) (x1 : Int) (lx1 : -2147483648 ≤ x1) (ux1 : x1 ≤ 2147483647) (x2 : Int) (lx2 : -2147483648 ≤ x2) (ux2 : x2 ≤ 2147483647) (x3 : Int) (lx3 : -2147483648 ≤ x3) (ux3 : x3 ≤ 2147483647) (m_a0 : a0 ∈ L0) (o_a0 : Ob f0 a0 7) (hg : GI cy L0 f0) : Ci Z l yX9_next (Cond.code yX9_next cX9_next 5 (some .int) :: TB) ({ frames := 5, cells := 0, slots := 0, locals := 117 } : Room) 0 0 D (tq cy) [.ref a0, .int (iI x1), .int (iI x2), .int (iI x3)] L0 f0 (fun (r : Int) (L1 : List Nat) (f1 : Nat → va_E) => L0 = L1 ∧ GI cy L0 f1 ∧ Eh cy f0 f1 ∧ (True)) := by
  refine Ci.enter (cc := cX9_next) (n := 5) rfl (plainFor_of_name (by decide)) (Nat.le_of_ble_eq_true rfl) ?_
  intro p e s m below meth c ls A hx hb hr hts hown hlocks hnm hml hK hA hAe hw hZ hl
  have hown : s.vm.findClass RX9 = some m.cls := hown
  have hl : lv_has ls 5 [(0, .ref a0), (1, .int (iI x1)), (2, .int (iI x2)), (3, .int (iI x3))] := hl
  have hN : ZN s := (zo.2.2.2.2 _ _ _ hZ).2
  have hE : Eh cy f0 f0 := Eh.refl cy f0
  refine lv_aload_n hx hb dX9_next_0 rfl (lv_at hl 0 rfl) ?_
  obtain ⟨r_1, er_1, m_r_1, o_r_1⟩ := (show ∃ r, fR f0 a0 2 = some r ∧ r ∈ L0 ∧ Ob f0 r 5 from hg.2.1 _ m_a0 7 2 o_a0)
  refine q_getr (ci := 7) (C := RX9) (T := TX9) (N := 4) hx hb hts (fun w h => List.mem_cons_of_mem _ (mfX90 w h)) hown hK hw m_a0 o_a0 rfl 2 (by decide) (hts _ (List.mem_cons_of_mem _ (mr1 _ (List.mem_of_getElem? (i := 20) rfl)))) (fun _ h => h) rfl er_1 dX9_next_1 ?_
  refine lv_iload_n hx hb dX9_next_4 rfl (lv_at hl 1 rfl) ?_
  refine q_call_i hA hK hw (va_runV (As := [.int (iI x1)]) (rest := []) ⟨hx, hb, hml, hown, hts⟩ (c_X7_has zo l D cy L0 f0 r_1 x1 lx1 ux1 m_r_1 o_r_1 hg _) (cwV 1 hts (gT (inV (mr22 _ (List.mem_of_getElem? (i := 9) rfl)) (mr22 _ (List.mem_of_getElem? (i := 10) rfl)) (mr22 _ (List.mem_of_getElem? (i := 11) rfl)) (mr1 _ (List.mem_of_getElem? (i := 19) rfl)) (mr22 _ (List.mem_of_getElem? (i := 12) rfl)))) rfl rfl rfl (by decide +kernel) ⟨Nat.le_of_ble_eq_true rfl, Nat.le_of_ble_eq_true rfl⟩) (Wd.preV zo hA hZ hw hK m_r_1 o_r_1 rfl) rfl rfl hl.1 rfl (lv_room (Nat.le_of_ble_eq_true rfl)) dX9_next_5 ⟨Nat.le_of_ble_eq_true rfl, Nat.le_of_ble_eq_true rfl⟩) (fun x_2 L1 f1 H locs lx_2 ux_2 ex_2 hw => ?_)
  obtain ⟨rfl, rfl, ex_2⟩ := ex_2
  refine q_if_eq (tgt := 18) hx hb dX9_next_8 (by decide) ⟨lx_2, ux_2⟩ (fun c8 => ?_) (fun c8 => ?_)
  · refine q_iconst hx hb dX9_next_18 ?_
    exact q_ret_i hx hb hr hlocks hK hAe hw ⟨by decide, by decide⟩ (Nat.le_of_ble_eq_true rfl) (Nat.le_of_ble_eq_true rfl) dX9_next_19 (by exact ⟨rfl, hg, hE, by first | trivial | omega⟩)
  · refine lv_iload_n hx hb dX9_next_11 rfl (lv_at hl 2 rfl) ?_
    refine q_call_i hA hK hw (va_runS (As := [.int (iI x2)]) (rest := []) ⟨hx, hb, hml, hown, hts⟩ (c_X9_isTime zo l D cy L0 f0 x2 lx2 ux2 _) (va_cwS 1 hts (gT (inS (mr27 _ (List.mem_of_getElem? (i := 19) rfl)) (mr27 _ (List.mem_of_getElem? (i := 20) rfl)) (mr1 _ (List.mem_of_getElem? (i := 2) rfl)) (mr27 _ (List.mem_of_getElem? (i := 21) rfl)))) rfl rfl rfl (by decide +kernel) ⟨Nat.le_of_ble_eq_true rfl, Nat.le_of_ble_eq_true rfl⟩) (Wd.preS zo hA hZ hw hK) rfl rfl hl.1 rfl (lv_room (Nat.le_of_ble_eq_true rfl)) dX9_next_12 ⟨Nat.le_of_ble_eq_true rfl, Nat.le_of_ble_eq_true rfl⟩) (fun x_3 L1 f1 H locs lx_3 ux_3 ex_3 hw => ?_)
    obtain ⟨rfl, rfl, ex_3⟩ := ex_3
    refine q_if_ne (tgt := 20) hx hb dX9_next_15 (by decide) ⟨lx_3, ux_3⟩ (fun c15 => ?_) (fun c15 => ?_)
    · refine lv_aload_n hx hb dX9_next_20 rfl (lv_at hl 0 rfl) ?_
      refine q_getr (ci := 7) (C := RX9) (T := TX9) (N := 4) hx hb hts (fun w h => List.mem_cons_of_mem _ (mfX90 w h)) hown hK hw m_a0 o_a0 rfl 2 (by decide) (hts _ (List.mem_cons_of_mem _ (mr1 _ (List.mem_of_getElem? (i := 20) rfl)))) (fun _ h => h) rfl er_1 dX9_next_21 ?_
      refine lv_iload_n hx hb dX9_next_24 rfl (lv_at hl 1 rfl) ?_
      refine q_call_r hA hK hw (va_runV (As := [.int (iI x1)]) (rest := []) ⟨hx, hb, hml, hown, hts⟩ (c_X7_at zo l D cy L0 f0 r_1 x1 lx1 ux1 m_r_1 o_r_1 hg (by omega) (by omega) _) (cwV 1 hts (gT (inV (mr24 _ (List.mem_of_getElem? (i := 8) rfl)) (mr24 _ (List.mem_of_getElem? (i := 9) rfl)) (mr24 _ (List.mem_of_getElem? (i := 10) rfl)) (mr1 _ (List.mem_of_getElem? (i := 19) rfl)) (mr24 _ (List.mem_of_getElem? (i := 11) rfl)))) rfl rfl rfl (by decide +kernel) ⟨Nat.le_of_ble_eq_true rfl, Nat.le_of_ble_eq_true rfl⟩) (Wd.preV zo hA hZ hw hK m_r_1 o_r_1 rfl) rfl rfl hl.1 rfl (lv_room (Nat.le_of_ble_eq_true rfl)) dX9_next_25 ⟨Nat.le_of_ble_eq_true rfl, Nat.le_of_ble_eq_true rfl⟩) (fun x_4 L1 f1 H locs ex_4 hw => ?_)
      obtain ⟨rfl, rfl, ex_4⟩ := ex_4
      obtain ⟨m_x_4, o_x_4⟩ := ex_4
      refine lv_astore (lv' := [(4, .ref x_4), (0, .ref a0), (1, .int (iI x1)), (2, .int (iI x2)), (3, .int (iI x3))]) hx hb dX9_next_28 hl (by decide) rfl (fun ls hl => ?_)
      refine lv_aload hx hb dX9_next_30 (lv_at hl 0 rfl) ?_
      refine lv_iload_n hx hb dX9_next_32 rfl (lv_at hl 3 rfl) ?_
      refine q_iconst hx hb dX9_next_33 ?_
      refine q_call_i hA hK hw (va_runV (As := [.int (iI x2), .int (iI 0)]) (rest := []) ⟨hx, hb, hml, hown, hts⟩ (c_X0_seek_h zo l D cy L0 f0 x_4 x2 lx2 ux2 0 (by decide) (by decide) m_x_4 o_x_4 hg _) (cwV 2 hts (gT (inV (mr29 _ (List.mem_of_getElem? (i := 7) rfl)) (mr29 _ (List.mem_of_getElem? (i := 8) rfl)) (mr29 _ (List.mem_of_getElem? (i := 9) rfl)) (mr2 _ (List.mem_of_getElem? (i := 9) rfl)) (mr29 _ (List.mem_of_getElem? (i := 10) rfl)))) rfl rfl rfl (by decide +kernel) ⟨Nat.le_of_ble_eq_true rfl, Nat.le_of_ble_eq_true rfl⟩) (Wd.preV zo hA hZ hw hK m_x_4 o_x_4 rfl) rfl rfl hl.1 rfl (lv_room (Nat.le_of_ble_eq_true rfl)) dX9_next_34 ⟨Nat.le_of_ble_eq_true rfl, Nat.le_of_ble_eq_true rfl⟩) (fun x_5 L1 f_6 H locs lx_5 ux_5 ex_5 hw => ?_)
      obtain ⟨rfl, hg, hX, ex_5⟩ := ex_5
      have hE := hE.trans hX
      have o_x_4 := hX.1.1.1 _ _ o_x_4
      have o_a0 := hX.1.1.1 _ _ o_a0
      refine lv_pop hx hb dX9_next_37 rfl ?_
      refine lv_aload hx hb dX9_next_38 (lv_at hl 0 rfl) ?_
      refine lv_iload_n hx hb dX9_next_40 rfl (lv_at hl 4 rfl) ?_
      refine q_call_i hA hK hw (va_runV (As := [.int (iI x3)]) (rest := []) ⟨hx, hb, hml, hown, hts⟩ (c_X0_found zo l D cy L0 f_6 x_4 x3 lx3 ux3 m_x_4 o_x_4 hg _) (cwV 1 hts (gT (inV (mr30 _ (List.mem_of_getElem? (i := 3) rfl)) (mr30 _ (List.mem_of_getElem? (i := 4) rfl)) (mr30 _ (List.mem_of_getElem? (i := 5) rfl)) (mr2 _ (List.mem_of_getElem? (i := 9) rfl)) (mr30 _ (List.mem_of_getElem? (i := 6) rfl)))) rfl rfl rfl (by decide +kernel) ⟨Nat.le_of_ble_eq_true rfl, Nat.le_of_ble_eq_true rfl⟩) (Wd.preV zo hA hZ hw hK m_x_4 o_x_4 rfl) rfl rfl hl.1 rfl (lv_room (Nat.le_of_ble_eq_true rfl)) dX9_next_41 ⟨Nat.le_of_ble_eq_true rfl, Nat.le_of_ble_eq_true rfl⟩) (fun x_7 L1 f1 H locs lx_7 ux_7 ex_7 hw => ?_)
      obtain ⟨rfl, rfl, ex_7⟩ := ex_7
      exact q_ret_i hx hb hr hlocks hK hAe hw ⟨lx_7, ux_7⟩ (Nat.le_of_ble_eq_true rfl) (Nat.le_of_ble_eq_true rfl) dX9_next_44 (by exact ⟨rfl, hg, hE, by first | trivial | omega⟩)
    · refine q_iconst hx hb dX9_next_18 ?_
      exact q_ret_i hx hb hr hlocks hK hAe hw ⟨by decide, by decide⟩ (Nat.le_of_ble_eq_true rfl) (Nat.le_of_ble_eq_true rfl) dX9_next_19 (by exact ⟨rfl, hg, hE, by first | trivial | omega⟩)
set_option maxHeartbeats 4000000 in
set_option maxRecDepth 100000 in
theorem c_X9_ahead_h {Z : Zt} (zo : Zok Z) (l : Launch) (D : va_G) (cy : Cy) (L0 : List Nat) (f0 : Nat → va_E) (a0 : Nat) (x1 : Int) (lx1 : -2147483648 ≤ x1) (ux1 : x1 ≤ 2147483647) (x2 : Int) (lx2 : -2147483648 ≤ x2) (ux2 : x2 ≤ 2147483647) (x3 : Int) (lx3 : -2147483648 ≤ x3) (ux3 : x3 ≤ 2147483647) (m_a0 : a0 ∈ L0) (o_a0 : Ob f0 a0 7) (hg : GI cy L0 f0) : Ci Z l yX9_ahead (Cond.code yX9_ahead cX9_ahead 5 (some .int) :: TB) ({ frames := 5, cells := 0, slots := 0, locals := 113 } : Room) 0 0 D (tq cy) [.ref a0, .int (iI x1), .int (iI x2), .int (iI x3)] L0 f0 (fun (r : Int) (L1 : List Nat) (f1 : Nat → va_E) => L0 = L1 ∧ GI cy L0 f1 ∧ Eh cy f0 f1 ∧ (True)) := by
  refine Ci.enter (cc := cX9_ahead) (n := 5) rfl (plainFor_of_name (by decide)) (Nat.le_of_ble_eq_true rfl) ?_
  intro p e s m below meth c ls A hx hb hr hts hown hlocks hnm hml hK hA hAe hw hZ hl
  have hown : s.vm.findClass RX9 = some m.cls := hown
  have hl : lv_has ls 5 [(0, .ref a0), (1, .int (iI x1)), (2, .int (iI x2)), (3, .int (iI x3))] := hl
  have hN : ZN s := (zo.2.2.2.2 _ _ _ hZ).2
  have hE : Eh cy f0 f0 := Eh.refl cy f0
  refine lv_aload_n hx hb dX9_ahead_0 rfl (lv_at hl 0 rfl) ?_
  obtain ⟨r_1, er_1, m_r_1, o_r_1⟩ := (show ∃ r, fR f0 a0 2 = some r ∧ r ∈ L0 ∧ Ob f0 r 5 from hg.2.1 _ m_a0 7 2 o_a0)
  refine q_getr (ci := 7) (C := RX9) (T := TX9) (N := 4) hx hb hts (fun w h => List.mem_cons_of_mem _ (mfX90 w h)) hown hK hw m_a0 o_a0 rfl 2 (by decide) (hts _ (List.mem_cons_of_mem _ (mr1 _ (List.mem_of_getElem? (i := 20) rfl)))) (fun _ h => h) rfl er_1 dX9_ahead_1 ?_
  refine lv_iload_n hx hb dX9_ahead_4 rfl (lv_at hl 1 rfl) ?_
  refine q_call_i hA hK hw (va_runV (As := [.int (iI x1)]) (rest := []) ⟨hx, hb, hml, hown, hts⟩ (c_X7_has zo l D cy L0 f0 r_1 x1 lx1 ux1 m_r_1 o_r_1 hg _) (cwV 1 hts (gT (inV (mr22 _ (List.mem_of_getElem? (i := 9) rfl)) (mr22 _ (List.mem_of_getElem? (i := 10) rfl)) (mr22 _ (List.mem_of_getElem? (i := 11) rfl)) (mr1 _ (List.mem_of_getElem? (i := 19) rfl)) (mr22 _ (List.mem_of_getElem? (i := 12) rfl)))) rfl rfl rfl (by decide +kernel) ⟨Nat.le_of_ble_eq_true rfl, Nat.le_of_ble_eq_true rfl⟩) (Wd.preV zo hA hZ hw hK m_r_1 o_r_1 rfl) rfl rfl hl.1 rfl (lv_room (Nat.le_of_ble_eq_true rfl)) dX9_ahead_5 ⟨Nat.le_of_ble_eq_true rfl, Nat.le_of_ble_eq_true rfl⟩) (fun x_2 L1 f1 H locs lx_2 ux_2 ex_2 hw => ?_)
  obtain ⟨rfl, rfl, ex_2⟩ := ex_2
  refine q_if_eq (tgt := 18) hx hb dX9_ahead_8 (by decide) ⟨lx_2, ux_2⟩ (fun c8 => ?_) (fun c8 => ?_)
  · refine q_iconst hx hb dX9_ahead_18 ?_
    exact q_ret_i hx hb hr hlocks hK hAe hw ⟨by decide, by decide⟩ (Nat.le_of_ble_eq_true rfl) (Nat.le_of_ble_eq_true rfl) dX9_ahead_19 (by exact ⟨rfl, hg, hE, by first | trivial | omega⟩)
  · refine lv_iload_n hx hb dX9_ahead_11 rfl (lv_at hl 2 rfl) ?_
    refine q_call_i hA hK hw (va_runS (As := [.int (iI x2)]) (rest := []) ⟨hx, hb, hml, hown, hts⟩ (c_X9_isTime zo l D cy L0 f0 x2 lx2 ux2 _) (va_cwS 1 hts (gT (inS (mr27 _ (List.mem_of_getElem? (i := 19) rfl)) (mr27 _ (List.mem_of_getElem? (i := 20) rfl)) (mr1 _ (List.mem_of_getElem? (i := 2) rfl)) (mr27 _ (List.mem_of_getElem? (i := 21) rfl)))) rfl rfl rfl (by decide +kernel) ⟨Nat.le_of_ble_eq_true rfl, Nat.le_of_ble_eq_true rfl⟩) (Wd.preS zo hA hZ hw hK) rfl rfl hl.1 rfl (lv_room (Nat.le_of_ble_eq_true rfl)) dX9_ahead_12 ⟨Nat.le_of_ble_eq_true rfl, Nat.le_of_ble_eq_true rfl⟩) (fun x_3 L1 f1 H locs lx_3 ux_3 ex_3 hw => ?_)
    obtain ⟨rfl, rfl, ex_3⟩ := ex_3
    refine q_if_ne (tgt := 20) hx hb dX9_ahead_15 (by decide) ⟨lx_3, ux_3⟩ (fun c15 => ?_) (fun c15 => ?_)
    · refine lv_aload_n hx hb dX9_ahead_20 rfl (lv_at hl 0 rfl) ?_
      refine q_getr (ci := 7) (C := RX9) (T := TX9) (N := 4) hx hb hts (fun w h => List.mem_cons_of_mem _ (mfX90 w h)) hown hK hw m_a0 o_a0 rfl 2 (by decide) (hts _ (List.mem_cons_of_mem _ (mr1 _ (List.mem_of_getElem? (i := 20) rfl)))) (fun _ h => h) rfl er_1 dX9_ahead_21 ?_
      refine lv_iload_n hx hb dX9_ahead_24 rfl (lv_at hl 1 rfl) ?_
      refine q_call_r hA hK hw (va_runV (As := [.int (iI x1)]) (rest := []) ⟨hx, hb, hml, hown, hts⟩ (c_X7_at zo l D cy L0 f0 r_1 x1 lx1 ux1 m_r_1 o_r_1 hg (by omega) (by omega) _) (cwV 1 hts (gT (inV (mr24 _ (List.mem_of_getElem? (i := 8) rfl)) (mr24 _ (List.mem_of_getElem? (i := 9) rfl)) (mr24 _ (List.mem_of_getElem? (i := 10) rfl)) (mr1 _ (List.mem_of_getElem? (i := 19) rfl)) (mr24 _ (List.mem_of_getElem? (i := 11) rfl)))) rfl rfl rfl (by decide +kernel) ⟨Nat.le_of_ble_eq_true rfl, Nat.le_of_ble_eq_true rfl⟩) (Wd.preV zo hA hZ hw hK m_r_1 o_r_1 rfl) rfl rfl hl.1 rfl (lv_room (Nat.le_of_ble_eq_true rfl)) dX9_ahead_25 ⟨Nat.le_of_ble_eq_true rfl, Nat.le_of_ble_eq_true rfl⟩) (fun x_4 L1 f1 H locs ex_4 hw => ?_)
      obtain ⟨rfl, rfl, ex_4⟩ := ex_4
      obtain ⟨m_x_4, o_x_4⟩ := ex_4
      refine lv_astore (lv' := [(4, .ref x_4), (0, .ref a0), (1, .int (iI x1)), (2, .int (iI x2)), (3, .int (iI x3))]) hx hb dX9_ahead_28 hl (by decide) rfl (fun ls hl => ?_)
      refine lv_aload hx hb dX9_ahead_30 (lv_at hl 0 rfl) ?_
      refine lv_iload_n hx hb dX9_ahead_32 rfl (lv_at hl 3 rfl) ?_
      refine q_call_i hA hK hw (va_runV (As := [.int (iI x2)]) (rest := []) ⟨hx, hb, hml, hown, hts⟩ (c_X0_seekAhead_h zo l D cy L0 f0 x_4 x2 lx2 ux2 m_x_4 o_x_4 hg _) (cwV 1 hts (gT (inV (mr30 _ (List.mem_of_getElem? (i := 19) rfl)) (mr30 _ (List.mem_of_getElem? (i := 20) rfl)) (mr30 _ (List.mem_of_getElem? (i := 21) rfl)) (mr2 _ (List.mem_of_getElem? (i := 9) rfl)) (mr30 _ (List.mem_of_getElem? (i := 22) rfl)))) rfl rfl rfl (by decide +kernel) ⟨Nat.le_of_ble_eq_true rfl, Nat.le_of_ble_eq_true rfl⟩) (Wd.preV zo hA hZ hw hK m_x_4 o_x_4 rfl) rfl rfl hl.1 rfl (lv_room (Nat.le_of_ble_eq_true rfl)) dX9_ahead_33 ⟨Nat.le_of_ble_eq_true rfl, Nat.le_of_ble_eq_true rfl⟩) (fun x_5 L1 f_6 H locs lx_5 ux_5 ex_5 hw => ?_)
      obtain ⟨rfl, hg, hX, ex_5⟩ := ex_5
      have hE := hE.trans hX
      have o_x_4 := hX.1.1.1 _ _ o_x_4
      have o_a0 := hX.1.1.1 _ _ o_a0
      refine lv_pop hx hb dX9_ahead_36 rfl ?_
      refine lv_aload hx hb dX9_ahead_37 (lv_at hl 0 rfl) ?_
      refine lv_iload_n hx hb dX9_ahead_39 rfl (lv_at hl 4 rfl) ?_
      refine q_call_i hA hK hw (va_runV (As := [.int (iI x3)]) (rest := []) ⟨hx, hb, hml, hown, hts⟩ (c_X0_found zo l D cy L0 f_6 x_4 x3 lx3 ux3 m_x_4 o_x_4 hg _) (cwV 1 hts (gT (inV (mr30 _ (List.mem_of_getElem? (i := 3) rfl)) (mr30 _ (List.mem_of_getElem? (i := 4) rfl)) (mr30 _ (List.mem_of_getElem? (i := 5) rfl)) (mr2 _ (List.mem_of_getElem? (i := 9) rfl)) (mr30 _ (List.mem_of_getElem? (i := 6) rfl)))) rfl rfl rfl (by decide +kernel) ⟨Nat.le_of_ble_eq_true rfl, Nat.le_of_ble_eq_true rfl⟩) (Wd.preV zo hA hZ hw hK m_x_4 o_x_4 rfl) rfl rfl hl.1 rfl (lv_room (Nat.le_of_ble_eq_true rfl)) dX9_ahead_40 ⟨Nat.le_of_ble_eq_true rfl, Nat.le_of_ble_eq_true rfl⟩) (fun x_7 L1 f1 H locs lx_7 ux_7 ex_7 hw => ?_)
      obtain ⟨rfl, rfl, ex_7⟩ := ex_7
      exact q_ret_i hx hb hr hlocks hK hAe hw ⟨lx_7, ux_7⟩ (Nat.le_of_ble_eq_true rfl) (Nat.le_of_ble_eq_true rfl) dX9_ahead_43 (by exact ⟨rfl, hg, hE, by first | trivial | omega⟩)
    · refine q_iconst hx hb dX9_ahead_18 ?_
      exact q_ret_i hx hb hr hlocks hK hAe hw ⟨by decide, by decide⟩ (Nat.le_of_ble_eq_true rfl) (Nat.le_of_ble_eq_true rfl) dX9_ahead_19 (by exact ⟨rfl, hg, hE, by first | trivial | omega⟩)
set_option maxHeartbeats 4000000 in
set_option maxRecDepth 100000 in
theorem c_X9_walkOn_h {Z : Zt} (zo : Zok Z) (l : Launch) (D : va_G) (cy : Cy) (L0 : List Nat) (f0 : Nat → va_E) (a0 : Nat) (x1 : Int) (lx1 : -2147483648 ≤ x1) (ux1 : x1 ≤ 2147483647) (x2 : Int) (lx2 : -2147483648 ≤ x2) (ux2 : x2 ≤ 2147483647) (x3 : Int) (lx3 : -2147483648 ≤ x3) (ux3 : x3 ≤ 2147483647) (m_a0 : a0 ∈ L0) (o_a0 : Ob f0 a0 7) (hg : GI cy L0 f0) : Ci Z l yX9_walkOn (Cond.code yX9_walkOn cX9_walkOn 7 (some .int) :: TB) ({ frames := 5, cells := 0, slots := 0, locals := 117 } : Room) 0 0 D (tq cy) [.ref a0, .int (iI x1), .int (iI x2), .int (iI x3)] L0 f0 (fun (r : Int) (L1 : List Nat) (f1 : Nat → va_E) => L0 = L1 ∧ GI cy L0 f1 ∧ Eh cy f0 f1 ∧ (True)) := by
  refine Ci.enter (cc := cX9_walkOn) (n := 7) rfl (plainFor_of_name (by decide)) (Nat.le_of_ble_eq_true rfl) ?_
  intro p e s m below meth c ls A hx hb hr hts hown hlocks hnm hml hK hA hAe hw hZ hl
  have hown : s.vm.findClass RX9 = some m.cls := hown
  have hl : lv_has ls 7 [(0, .ref a0), (1, .int (iI x1)), (2, .int (iI x2)), (3, .int (iI x3))] := hl
  have hN : ZN s := (zo.2.2.2.2 _ _ _ hZ).2
  have hE : Eh cy f0 f0 := Eh.refl cy f0
  refine q_iconst hx hb dX9_walkOn_0 ?_
  refine lv_istore (lv' := [(4, .int (iI 0)), (0, .ref a0), (1, .int (iI x1)), (2, .int (iI x2)), (3, .int (iI x3))]) hx hb dX9_walkOn_1 hl (by decide) rfl (fun ls hl => ?_)
  have J3 : ∀ (n3 : Nat) (y4_3 : Int) (ly4_3 : -2147483648 ≤ y4_3) (uy4_3 : y4_3 ≤ 2147483647) (L : List Nat) (fw3 : Nat → va_E) (hg : GI cy L0 fw3) (hE : Eh cy f0 fw3) (o_a0 : Ob fw3 a0 7) (i1 : 0 ≤ y4_3) (hn3 : ((2147483647 : Int) - y4_3).toNat < n3) (H : Heap) (locs : List Loc) (ls : Array Slot) (hw : Wd D A s.heap L0 fw3 H locs) (hl : lv_has ls 7 [(0, .ref a0), (1, .int (iI x1)), (2, .int (iI x2)), (3, .int (iI x3)), (4, .int (iI y4_3))]), W p l e ({ frames := 5, cells := 0, slots := 0, locals := 117 } : Room) s m ([.ref a0, .int (iI x1), .int (iI x2), .int (iI x3)] : List Value).toArray below meth c H locs (0) (0) (MQ below (Qi D (tq cy) L0 f0 s.heap.size (fun (r : Int) (L1 : List Nat) (f1 : Nat → va_E) => L0 = L1 ∧ GI cy L0 f1 ∧ Eh cy f0 f1 ∧ (True))) ([.ref a0, .int (iI x1), .int (iI x2), .int (iI x3)] : List Value).toArray s 0 0 A) (F0 m 3 ls []) := by
    intro n3
    induction n3 with
    | zero => intro y4_3 ly4_3 uy4_3 L fw3 hg hE o_a0 i1 hn3; exact absurd hn3 (Nat.not_lt_zero _)
    | succ n3 ih3 =>
      intro y4_3 ly4_3 uy4_3 L fw3 hg hE o_a0 i1 hn3 H locs ls hw hl
      refine lv_iload hx hb dX9_walkOn_3 (lv_at hl 4 rfl) ?_
      refine lv_aload_n hx hb dX9_walkOn_5 rfl (lv_at hl 0 rfl) ?_
      obtain ⟨r_1, er_1, m_r_1, o_r_1⟩ := (show ∃ r, fR fw3 a0 2 = some r ∧ r ∈ L0 ∧ Ob fw3 r 5 from hg.2.1 _ m_a0 7 2 o_a0)
      refine q_getr (ci := 7) (C := RX9) (T := TX9) (N := 4) hx hb hts (fun w h => List.mem_cons_of_mem _ (mfX90 w h)) hown hK hw m_a0 o_a0 rfl 2 (by decide) (hts _ (List.mem_cons_of_mem _ (mr1 _ (List.mem_of_getElem? (i := 20) rfl)))) (fun _ h => h) rfl er_1 dX9_walkOn_6 ?_
      refine q_getiN (ci := 5) (C := RX7) (T := TX7) (N := 2) hx hb hts (fun w h => List.mem_cons_of_mem _ (mfX70 w h)) hown hK hw m_r_1 o_r_1 rfl 1 (by decide) (va_Nw.use rfl (hN _ (List.mem_of_getElem? (i := 0) rfl))) (fun _ h => h) rfl dX9_walkOn_9 (fun x_2 lx_2 ux_2 ex_2 => ?_)
      have bx_2 : 0 ≤ x_2 ∧ x_2 ≤ 12 := by rw [ex_2]; exact hg.1 _ m_r_1 5 1 o_r_1
      refine q_icmp_ge (tgt := 48) hx hb dX9_walkOn_12 (by decide) ⟨ly4_3, uy4_3⟩ ⟨lx_2, ux_2⟩ (fun c12 => ?_) (fun c12 => ?_)
      · refine lv_aload_n hx hb dX9_walkOn_48 rfl (lv_at hl 0 rfl) ?_
        refine lv_iload_n hx hb dX9_walkOn_49 rfl (lv_at hl 1 rfl) ?_
        refine q_call_i hA hK hw (va_runV (As := [.int (iI x1)]) (rest := []) ⟨hx, hb, hml, hown, hts⟩ (c_X9_firstFound zo l D cy L0 fw3 a0 x1 lx1 ux1 m_a0 o_a0 hg _) (cwV 1 hts (gT (inV (mr34 _ (List.mem_of_getElem? (i := 9) rfl)) (mr34 _ (List.mem_of_getElem? (i := 10) rfl)) (mr34 _ (List.mem_of_getElem? (i := 11) rfl)) (mr1 _ (List.mem_of_getElem? (i := 2) rfl)) (mr34 _ (List.mem_of_getElem? (i := 12) rfl)))) rfl rfl rfl (by decide +kernel) ⟨Nat.le_of_ble_eq_true rfl, Nat.le_of_ble_eq_true rfl⟩) (Wd.preV zo hA hZ hw hK m_a0 o_a0 rfl) rfl rfl hl.1 rfl (lv_room (Nat.le_of_ble_eq_true rfl)) dX9_walkOn_50 ⟨Nat.le_of_ble_eq_true rfl, Nat.le_of_ble_eq_true rfl⟩) (fun x_3 L1 f1 H locs lx_3 ux_3 ex_3 hw => ?_)
        obtain ⟨rfl, rfl, ex_3⟩ := ex_3
        refine lv_istore (lv' := [(4, .int (iI x_3)), (0, .ref a0), (1, .int (iI x1)), (2, .int (iI x2)), (3, .int (iI x3))]) hx hb dX9_walkOn_53 hl (by decide) rfl (fun ls hl => ?_)
        refine q_iconst hx hb dX9_walkOn_55 ?_
        refine lv_istore (lv' := [(5, .int (iI 0)), (4, .int (iI x_3)), (0, .ref a0), (1, .int (iI x1)), (2, .int (iI x2)), (3, .int (iI x3))]) hx hb dX9_walkOn_56 hl (by decide) rfl (fun ls hl => ?_)
        have J58 : ∀ (n58 : Nat) (y4_58 : Int) (ly4_58 : -2147483648 ≤ y4_58) (uy4_58 : y4_58 ≤ 2147483647) (y5_58 : Int) (ly5_58 : -2147483648 ≤ y5_58) (uy5_58 : y5_58 ≤ 2147483647) (L : List Nat) (fw58 : Nat → va_E) (hg : GI cy L0 fw58) (hE : Eh cy f0 fw58) (o_a0 : Ob fw58 a0 7) (i1 : 0 ≤ y5_58) (hn58 : ((2147483647 : Int) - y5_58).toNat < n58) (H : Heap) (locs : List Loc) (ls : Array Slot) (hw : Wd D A s.heap L0 fw58 H locs) (hl : lv_has ls 7 [(0, .ref a0), (1, .int (iI x1)), (3, .int (iI x3)), (4, .int (iI y4_58)), (5, .int (iI y5_58))]), W p l e ({ frames := 5, cells := 0, slots := 0, locals := 117 } : Room) s m ([.ref a0, .int (iI x1), .int (iI x2), .int (iI x3)] : List Value).toArray below meth c H locs (0 + 0) (0 + 0) (MQ below (Qi D (tq cy) L0 f0 s.heap.size (fun (r : Int) (L1 : List Nat) (f1 : Nat → va_E) => L0 = L1 ∧ GI cy L0 f1 ∧ Eh cy f0 f1 ∧ (True))) ([.ref a0, .int (iI x1), .int (iI x2), .int (iI x3)] : List Value).toArray s 0 0 A) (F0 m 58 ls []) := by
          intro n58
          induction n58 with
          | zero => intro y4_58 ly4_58 uy4_58 y5_58 ly5_58 uy5_58 L fw58 hg hE o_a0 i1 hn58; exact absurd hn58 (Nat.not_lt_zero _)
          | succ n58 ih58 =>
            intro y4_58 ly4_58 uy4_58 y5_58 ly5_58 uy5_58 L fw58 hg hE o_a0 i1 hn58 H locs ls hw hl
            refine lv_iload hx hb dX9_walkOn_58 (lv_at hl 4 rfl) ?_
            refine lv_iload_n hx hb dX9_walkOn_60 rfl (lv_at hl 2 rfl) ?_
            refine q_icmp_ge (tgt := 118) hx hb dX9_walkOn_61 (by decide) ⟨ly5_58, uy5_58⟩ ⟨lx3, ux3⟩ (fun c61 => ?_) (fun c61 => ?_)
            · refine lv_iload hx hb dX9_walkOn_118 (lv_at hl 3 rfl) ?_
              exact q_ret_i hx hb hr hlocks hK hAe hw ⟨ly4_58, uy4_58⟩ (Nat.le_of_ble_eq_true rfl) (Nat.le_of_ble_eq_true rfl) dX9_walkOn_120 (by exact ⟨rfl, hg, hE, by first | trivial | omega⟩)
            · refine lv_aload_n hx hb dX9_walkOn_64 rfl (lv_at hl 0 rfl) ?_
              obtain ⟨r_4, er_4, m_r_4, o_r_4⟩ := (show ∃ r, fR fw58 a0 2 = some r ∧ r ∈ L0 ∧ Ob fw58 r 5 from hg.2.1 _ m_a0 7 2 o_a0)
              refine q_getr (ci := 7) (C := RX9) (T := TX9) (N := 4) hx hb hts (fun w h => List.mem_cons_of_mem _ (mfX90 w h)) hown hK hw m_a0 o_a0 rfl 2 (by decide) (hts _ (List.mem_cons_of_mem _ (mr1 _ (List.mem_of_getElem? (i := 20) rfl)))) (fun _ h => h) rfl er_4 dX9_walkOn_65 ?_
              refine lv_iload hx hb dX9_walkOn_68 (lv_at hl 3 rfl) ?_
              refine q_call_i hA hK hw (va_runV (As := [.int (iI y4_58)]) (rest := []) ⟨hx, hb, hml, hown, hts⟩ (c_X7_has zo l D cy L0 fw58 r_4 y4_58 ly4_58 uy4_58 m_r_4 o_r_4 hg _) (cwV 1 hts (gT (inV (mr22 _ (List.mem_of_getElem? (i := 9) rfl)) (mr22 _ (List.mem_of_getElem? (i := 10) rfl)) (mr22 _ (List.mem_of_getElem? (i := 11) rfl)) (mr1 _ (List.mem_of_getElem? (i := 19) rfl)) (mr22 _ (List.mem_of_getElem? (i := 12) rfl)))) rfl rfl rfl (by decide +kernel) ⟨Nat.le_of_ble_eq_true rfl, Nat.le_of_ble_eq_true rfl⟩) (Wd.preV zo hA hZ hw hK m_r_4 o_r_4 rfl) rfl rfl hl.1 rfl (lv_room (Nat.le_of_ble_eq_true rfl)) dX9_walkOn_70 ⟨Nat.le_of_ble_eq_true rfl, Nat.le_of_ble_eq_true rfl⟩) (fun x_5 L1 f1 H locs lx_5 ux_5 ex_5 hw => ?_)
              obtain ⟨rfl, rfl, ex_5⟩ := ex_5
              refine q_if_eq (tgt := 118) hx hb dX9_walkOn_73 (by decide) ⟨lx_5, ux_5⟩ (fun c73 => ?_) (fun c73 => ?_)
              · refine lv_iload hx hb dX9_walkOn_118 (lv_at hl 3 rfl) ?_
                exact q_ret_i hx hb hr hlocks hK hAe hw ⟨ly4_58, uy4_58⟩ (Nat.le_of_ble_eq_true rfl) (Nat.le_of_ble_eq_true rfl) dX9_walkOn_120 (by exact ⟨rfl, hg, hE, by first | trivial | omega⟩)
              · refine lv_aload_n hx hb dX9_walkOn_76 rfl (lv_at hl 0 rfl) ?_
                refine q_getr (ci := 7) (C := RX9) (T := TX9) (N := 4) hx hb hts (fun w h => List.mem_cons_of_mem _ (mfX90 w h)) hown hK hw m_a0 o_a0 rfl 2 (by decide) (hts _ (List.mem_cons_of_mem _ (mr1 _ (List.mem_of_getElem? (i := 20) rfl)))) (fun _ h => h) rfl er_4 dX9_walkOn_77 ?_
                refine lv_iload hx hb dX9_walkOn_80 (lv_at hl 3 rfl) ?_
                refine q_call_r hA hK hw (va_runV (As := [.int (iI y4_58)]) (rest := []) ⟨hx, hb, hml, hown, hts⟩ (c_X7_at zo l D cy L0 fw58 r_4 y4_58 ly4_58 uy4_58 m_r_4 o_r_4 hg (by omega) (by omega) _) (cwV 1 hts (gT (inV (mr24 _ (List.mem_of_getElem? (i := 8) rfl)) (mr24 _ (List.mem_of_getElem? (i := 9) rfl)) (mr24 _ (List.mem_of_getElem? (i := 10) rfl)) (mr1 _ (List.mem_of_getElem? (i := 19) rfl)) (mr24 _ (List.mem_of_getElem? (i := 11) rfl)))) rfl rfl rfl (by decide +kernel) ⟨Nat.le_of_ble_eq_true rfl, Nat.le_of_ble_eq_true rfl⟩) (Wd.preV zo hA hZ hw hK m_r_4 o_r_4 rfl) rfl rfl hl.1 rfl (lv_room (Nat.le_of_ble_eq_true rfl)) dX9_walkOn_82 ⟨Nat.le_of_ble_eq_true rfl, Nat.le_of_ble_eq_true rfl⟩) (fun x_6 L1 f1 H locs ex_6 hw => ?_)
                obtain ⟨rfl, rfl, ex_6⟩ := ex_6
                obtain ⟨m_x_6, o_x_6⟩ := ex_6
                refine lv_astore (lv' := [(6, .ref x_6), (0, .ref a0), (1, .int (iI x1)), (3, .int (iI x3)), (4, .int (iI y4_58)), (5, .int (iI y5_58))]) hx hb dX9_walkOn_85 hl (by decide) rfl (fun ls hl => ?_)
                refine lv_aload hx hb dX9_walkOn_87 (lv_at hl 0 rfl) ?_
                refine lv_aload hx hb dX9_walkOn_89 (lv_at hl 0 rfl) ?_
                refine q_geti (ci := 0) (C := RX0) (T := TX0) (N := 15) hx hb hts (fun w h => List.mem_cons_of_mem _ (mfX00 w h)) hown hK hw m_x_6 o_x_6 rfl 13 (by decide) (hts _ (List.mem_cons_of_mem _ (mr34 _ (List.mem_of_getElem? (i := 4) rfl)))) (fun _ h => h) rfl dX9_walkOn_91 (fun x_7 lx_7 ux_7 ex_7 => ?_)
                refine lv_aload hx hb dX9_walkOn_94 (lv_at hl 0 rfl) ?_
                refine q_geti (ci := 0) (C := RX0) (T := TX0) (N := 15) hx hb hts (fun w h => List.mem_cons_of_mem _ (mfX00 w h)) hown hK hw m_x_6 o_x_6 rfl 14 (by decide) (hts _ (List.mem_cons_of_mem _ (mr34 _ (List.mem_of_getElem? (i := 3) rfl)))) (fun _ h => h) rfl dX9_walkOn_96 (fun x_8 lx_8 ux_8 ex_8 => ?_)
                refine q_iconst hx hb dX9_walkOn_99 ?_
                first | refine q_iadd hx hb dX9_walkOn_100 ⟨by omega, by omega⟩ (fun x_9 lx_9 ux_9 ex_9 => ?_) | refine q_iaddw hx hb dX9_walkOn_100 (fun x_9 lx_9 ux_9 _ => ?_)
                refine q_call_i hA hK hw (va_runV (As := [.int (iI x_7), .int (iI x_9)]) (rest := []) ⟨hx, hb, hml, hown, hts⟩ (c_X0_seek_h zo l D cy L0 fw58 x_6 x_7 lx_7 ux_7 x_9 lx_9 ux_9 m_x_6 o_x_6 hg _) (cwV 2 hts (gT (inV (mr29 _ (List.mem_of_getElem? (i := 7) rfl)) (mr29 _ (List.mem_of_getElem? (i := 8) rfl)) (mr29 _ (List.mem_of_getElem? (i := 9) rfl)) (mr2 _ (List.mem_of_getElem? (i := 9) rfl)) (mr29 _ (List.mem_of_getElem? (i := 10) rfl)))) rfl rfl rfl (by decide +kernel) ⟨Nat.le_of_ble_eq_true rfl, Nat.le_of_ble_eq_true rfl⟩) (Wd.preV zo hA hZ hw hK m_x_6 o_x_6 rfl) rfl rfl hl.1 rfl (lv_room (Nat.le_of_ble_eq_true rfl)) dX9_walkOn_101 ⟨Nat.le_of_ble_eq_true rfl, Nat.le_of_ble_eq_true rfl⟩) (fun x_10 L1 f_11 H locs lx_10 ux_10 ex_10 hw => ?_)
                obtain ⟨rfl, hg, hX, ex_10⟩ := ex_10
                have hE := hE.trans hX
                have o_x_6 := hX.1.1.1 _ _ o_x_6
                have o_a0 := hX.1.1.1 _ _ o_a0
                refine lv_pop hx hb dX9_walkOn_104 rfl ?_
                refine lv_aload_n hx hb dX9_walkOn_105 rfl (lv_at hl 1 rfl) ?_
                refine lv_iload_n hx hb dX9_walkOn_106 rfl (lv_at hl 2 rfl) ?_
                refine q_call_i hA hK hw (va_runV (As := [.int (iI x1)]) (rest := []) ⟨hx, hb, hml, hown, hts⟩ (c_X9_firstFound zo l D cy L0 f_11 a0 x1 lx1 ux1 m_a0 o_a0 hg _) (cwV 1 hts (gT (inV (mr34 _ (List.mem_of_getElem? (i := 9) rfl)) (mr34 _ (List.mem_of_getElem? (i := 10) rfl)) (mr34 _ (List.mem_of_getElem? (i := 11) rfl)) (mr1 _ (List.mem_of_getElem? (i := 2) rfl)) (mr34 _ (List.mem_of_getElem? (i := 12) rfl)))) rfl rfl rfl (by decide +kernel) ⟨Nat.le_of_ble_eq_true rfl, Nat.le_of_ble_eq_true rfl⟩) (Wd.preV zo hA hZ hw hK m_a0 o_a0 rfl) rfl rfl hl.1 rfl (lv_room (Nat.le_of_ble_eq_true rfl)) dX9_walkOn_107 ⟨Nat.le_of_ble_eq_true rfl, Nat.le_of_ble_eq_true rfl⟩) (fun x_12 L1 f1 H locs lx_12 ux_12 ex_12 hw => ?_)
                obtain ⟨rfl, rfl, ex_12⟩ := ex_12
                refine lv_istore (lv' := [(4, .int (iI x_12)), (6, .ref x_6), (0, .ref a0), (1, .int (iI x1)), (3, .int (iI x3)), (5, .int (iI y5_58))]) hx hb dX9_walkOn_110 hl (by decide) rfl (fun ls hl => ?_)
                obtain ⟨x_13, lx_13, ux_13, hx_13, ex_13⟩ := q_inc y5_58 (1)
                try (replace ex_13 : x_13 = y5_58 + (1) := by omega)
                refine lv_iinc (v := iI x_13) (lv' := [(5, .int (iI x_13)), (4, .int (iI x_12)), (6, .ref x_6), (0, .ref a0), (1, .int (iI x1)), (3, .int (iI x3))]) hx hb dX9_walkOn_112 hl (k := 5) rfl hx_13 (by decide) rfl (fun ls hl => ?_)
                refine lv_goto (tgt := 58) hx hb dX9_walkOn_115 (by decide) ?_
                exact ih58 x_12 lx_12 ux_12 x_13 lx_13 ux_13 L0 f_11 hg hE o_a0 (by omega) (by omega) _ _ _ hw (lv_sub hl [3, 4, 5, 1, 0] rfl)
        exact J58 ((((2147483647 : Int) - 0).toNat) + 1) x_3 lx_3 ux_3 0 (by decide) (by decide) L0 fw3 hg hE o_a0 (by omega) (by omega) _ _ _ hw (lv_sub hl [2, 3, 5, 1, 0] rfl)
      · refine lv_aload_n hx hb dX9_walkOn_15 rfl (lv_at hl 0 rfl) ?_
        refine q_getr (ci := 7) (C := RX9) (T := TX9) (N := 4) hx hb hts (fun w h => List.mem_cons_of_mem _ (mfX90 w h)) hown hK hw m_a0 o_a0 rfl 2 (by decide) (hts _ (List.mem_cons_of_mem _ (mr1 _ (List.mem_of_getElem? (i := 20) rfl)))) (fun _ h => h) rfl er_1 dX9_walkOn_16 ?_
        refine lv_iload hx hb dX9_walkOn_19 (lv_at hl 4 rfl) ?_
        refine q_call_r hA hK hw (va_runV (As := [.int (iI y4_3)]) (rest := []) ⟨hx, hb, hml, hown, hts⟩ (c_X7_at zo l D cy L0 fw3 r_1 y4_3 ly4_3 uy4_3 m_r_1 o_r_1 hg (by omega) (by omega) _) (cwV 1 hts (gT (inV (mr24 _ (List.mem_of_getElem? (i := 8) rfl)) (mr24 _ (List.mem_of_getElem? (i := 9) rfl)) (mr24 _ (List.mem_of_getElem? (i := 10) rfl)) (mr1 _ (List.mem_of_getElem? (i := 19) rfl)) (mr24 _ (List.mem_of_getElem? (i := 11) rfl)))) rfl rfl rfl (by decide +kernel) ⟨Nat.le_of_ble_eq_true rfl, Nat.le_of_ble_eq_true rfl⟩) (Wd.preV zo hA hZ hw hK m_r_1 o_r_1 rfl) rfl rfl hl.1 rfl (lv_room (Nat.le_of_ble_eq_true rfl)) dX9_walkOn_21 ⟨Nat.le_of_ble_eq_true rfl, Nat.le_of_ble_eq_true rfl⟩) (fun x_14 L1 f1 H locs ex_14 hw => ?_)
        obtain ⟨rfl, rfl, ex_14⟩ := ex_14
        obtain ⟨m_x_14, o_x_14⟩ := ex_14
        refine lv_astore (lv' := [(5, .ref x_14), (0, .ref a0), (1, .int (iI x1)), (2, .int (iI x2)), (3, .int (iI x3)), (4, .int (iI y4_3))]) hx hb dX9_walkOn_24 hl (by decide) rfl (fun ls hl => ?_)
        refine lv_aload hx hb dX9_walkOn_26 (lv_at hl 0 rfl) ?_
        refine lv_iload_n hx hb dX9_walkOn_28 rfl (lv_at hl 3 rfl) ?_
        refine lv_aload hx hb dX9_walkOn_29 (lv_at hl 0 rfl) ?_
        refine q_geti (ci := 0) (C := RX0) (T := TX0) (N := 15) hx hb hts (fun w h => List.mem_cons_of_mem _ (mfX00 w h)) hown hK hw m_x_14 o_x_14 rfl 2 (by decide) (hts _ (List.mem_cons_of_mem _ (mr32 _ (List.mem_of_getElem? (i := 9) rfl)))) (fun _ h => h) rfl dX9_walkOn_31 (fun x_15 lx_15 ux_15 ex_15 => ?_)
        first | refine q_isub hx hb dX9_walkOn_34 ⟨by omega, by omega⟩ (fun x_16 lx_16 ux_16 ex_16 => ?_) | refine q_isubw hx hb dX9_walkOn_34 (fun x_16 lx_16 ux_16 _ => ?_)
        refine q_iconst hx hb dX9_walkOn_35 ?_
        first | refine q_iadd hx hb dX9_walkOn_36 ⟨by omega, by omega⟩ (fun x_17 lx_17 ux_17 ex_17 => ?_) | refine q_iaddw hx hb dX9_walkOn_36 (fun x_17 lx_17 ux_17 _ => ?_)
        refine q_iconst hx hb dX9_walkOn_37 ?_
        refine q_call_i hA hK hw (va_runV (As := [.int (iI x_17), .int (iI 0)]) (rest := []) ⟨hx, hb, hml, hown, hts⟩ (c_X0_seek_h zo l D cy L0 fw3 x_14 x_17 lx_17 ux_17 0 (by decide) (by decide) m_x_14 o_x_14 hg _) (cwV 2 hts (gT (inV (mr29 _ (List.mem_of_getElem? (i := 7) rfl)) (mr29 _ (List.mem_of_getElem? (i := 8) rfl)) (mr29 _ (List.mem_of_getElem? (i := 9) rfl)) (mr2 _ (List.mem_of_getElem? (i := 9) rfl)) (mr29 _ (List.mem_of_getElem? (i := 10) rfl)))) rfl rfl rfl (by decide +kernel) ⟨Nat.le_of_ble_eq_true rfl, Nat.le_of_ble_eq_true rfl⟩) (Wd.preV zo hA hZ hw hK m_x_14 o_x_14 rfl) rfl rfl hl.1 rfl (lv_room (Nat.le_of_ble_eq_true rfl)) dX9_walkOn_38 ⟨Nat.le_of_ble_eq_true rfl, Nat.le_of_ble_eq_true rfl⟩) (fun x_18 L1 f_19 H locs lx_18 ux_18 ex_18 hw => ?_)
        obtain ⟨rfl, hg, hX, ex_18⟩ := ex_18
        have hE := hE.trans hX
        have o_x_14 := hX.1.1.1 _ _ o_x_14
        have o_a0 := hX.1.1.1 _ _ o_a0
        refine lv_pop hx hb dX9_walkOn_41 rfl ?_
        obtain ⟨x_20, lx_20, ux_20, hx_20, ex_20⟩ := q_inc y4_3 (1)
        try (replace ex_20 : x_20 = y4_3 + (1) := by omega)
        refine lv_iinc (v := iI x_20) (lv' := [(4, .int (iI x_20)), (5, .ref x_14), (0, .ref a0), (1, .int (iI x1)), (2, .int (iI x2)), (3, .int (iI x3))]) hx hb dX9_walkOn_42 hl (k := 5) rfl hx_20 (by decide) rfl (fun ls hl => ?_)
        refine lv_goto (tgt := 3) hx hb dX9_walkOn_45 (by decide) ?_
        exact ih3 x_20 lx_20 ux_20 L0 f_19 hg hE o_a0 (by omega) (by omega) _ _ _ hw (lv_sub hl [2, 3, 4, 5, 0] rfl)
  exact J3 ((((2147483647 : Int) - 0).toNat) + 1) 0 (by decide) (by decide) L0 f0 hg hE o_a0 (by omega) (by omega) _ _ _ hw (lv_sub hl [1, 2, 3, 4, 0] rfl)
set_option maxHeartbeats 4000000 in
set_option maxRecDepth 100000 in
theorem c_X9_movedClash_h {Z : Zt} (zo : Zok Z) (l : Launch) (D : va_G) (cy : Cy) (L0 : List Nat) (f0 : Nat → va_E) (a0 : Nat) (a1 : Nat) (x2 : Int) (lx2 : -2147483648 ≤ x2) (ux2 : x2 ≤ 2147483647) (x3 : Int) (lx3 : -2147483648 ≤ x3) (ux3 : x3 ≤ 2147483647) (m_a0 : a0 ∈ L0) (o_a0 : Ob f0 a0 0) (m_a1 : a1 ∈ L0) (o_a1 : Ob f0 a1 0) (hg : GI cy L0 f0) : Ci Z l yX9_movedClash (Cond.code yX9_movedClash cX9_movedClash 6 (some .int) :: TB) ({ frames := 6, cells := 0, slots := 0, locals := 140 } : Room) 0 0 D (tq cy) [.ref a0, .ref a1, .int (iI x2), .int (iI x3)] L0 f0 (fun (r : Int) (L1 : List Nat) (f1 : Nat → va_E) => L0 = L1 ∧ GI cy L0 f1 ∧ Eh cy f0 f1 ∧ (True)) := by
  refine Ci.enter (cc := cX9_movedClash) (n := 6) rfl (plainFor_of_name (by decide)) (Nat.le_of_ble_eq_true rfl) ?_
  intro p e s m below meth c ls A hx hb hr hts hown hlocks hnm hml hK hA hAe hw hZ hl
  have hown : s.vm.findClass RX9 = some m.cls := hown
  have hl : lv_has ls 6 [(0, .ref a0), (1, .ref a1), (2, .int (iI x2)), (3, .int (iI x3))] := hl
  have hN : ZN s := (zo.2.2.2.2 _ _ _ hZ).2
  have hE : Eh cy f0 f0 := Eh.refl cy f0
  refine lv_iload_n hx hb dX9_movedClash_0 rfl (lv_at hl 3 rfl) ?_
  refine lv_istore (lv' := [(4, .int (iI x3)), (0, .ref a0), (1, .ref a1), (2, .int (iI x2)), (3, .int (iI x3))]) hx hb dX9_movedClash_1 hl (by decide) rfl (fun ls hl => ?_)
  refine q_iconst hx hb dX9_movedClash_3 ?_
  refine lv_istore (lv' := [(5, .int (iI 0)), (4, .int (iI x3)), (0, .ref a0), (1, .ref a1), (2, .int (iI x2)), (3, .int (iI x3))]) hx hb dX9_movedClash_4 hl (by decide) rfl (fun ls hl => ?_)
  have J6 : ∀ (n6 : Nat) (y4_6 : Int) (ly4_6 : -2147483648 ≤ y4_6) (uy4_6 : y4_6 ≤ 2147483647) (y5_6 : Int) (ly5_6 : -2147483648 ≤ y5_6) (uy5_6 : y5_6 ≤ 2147483647) (L : List Nat) (fw6 : Nat → va_E) (hg : GI cy L0 fw6) (hE : Eh cy f0 fw6) (o_a0 : Ob fw6 a0 0) (o_a1 : Ob fw6 a1 0) (i1 : 0 ≤ y5_6) (hn6 : ((2147483647 : Int) - y5_6).toNat < n6) (H : Heap) (locs : List Loc) (ls : Array Slot) (hw : Wd D A s.heap L0 fw6 H locs) (hl : lv_has ls 6 [(0, .ref a0), (1, .ref a1), (2, .int (iI x2)), (4, .int (iI y4_6)), (5, .int (iI y5_6))]), W p l e ({ frames := 6, cells := 0, slots := 0, locals := 140 } : Room) s m ([.ref a0, .ref a1, .int (iI x2), .int (iI x3)] : List Value).toArray below meth c H locs (0) (0) (MQ below (Qi D (tq cy) L0 f0 s.heap.size (fun (r : Int) (L1 : List Nat) (f1 : Nat → va_E) => L0 = L1 ∧ GI cy L0 f1 ∧ Eh cy f0 f1 ∧ (True))) ([.ref a0, .ref a1, .int (iI x2), .int (iI x3)] : List Value).toArray s 0 0 A) (F0 m 6 ls []) := by
    intro n6
    induction n6 with
    | zero => intro y4_6 ly4_6 uy4_6 y5_6 ly5_6 uy5_6 L fw6 hg hE o_a0 o_a1 i1 hn6; exact absurd hn6 (Nat.not_lt_zero _)
    | succ n6 ih6 =>
      intro y4_6 ly4_6 uy4_6 y5_6 ly5_6 uy5_6 L fw6 hg hE o_a0 o_a1 i1 hn6 H locs ls hw hl
      refine lv_iload hx hb dX9_movedClash_6 (lv_at hl 4 rfl) ?_
      refine lv_aload_n hx hb dX9_movedClash_8 rfl (lv_at hl 0 rfl) ?_
      refine q_geti (ci := 0) (C := RX0) (T := TX0) (N := 15) hx hb hts (fun w h => List.mem_cons_of_mem _ (mfX00 w h)) hown hK hw m_a0 o_a0 rfl 10 (by decide) (hts _ (List.mem_cons_of_mem _ (mr35 _ (List.mem_of_getElem? (i := 5) rfl)))) (fun _ h => h) rfl dX9_movedClash_9 (fun x_1 lx_1 ux_1 ex_1 => ?_)
      have bx_1 : 0 ≤ x_1 ∧ x_1 ≤ 16 := by rw [ex_1]; exact hg.1 _ m_a0 0 10 o_a0
      refine q_icmp_ge (tgt := 55) hx hb dX9_movedClash_12 (by decide) ⟨ly5_6, uy5_6⟩ ⟨lx_1, ux_1⟩ (fun c12 => ?_) (fun c12 => ?_)
      · refine q_iconst hx hb dX9_movedClash_55 ?_
        refine lv_istore (lv' := [(5, .int (iI 0)), (0, .ref a0), (1, .ref a1), (2, .int (iI x2)), (4, .int (iI y4_6))]) hx hb dX9_movedClash_56 hl (by decide) rfl (fun ls hl => ?_)
        have J58 : ∀ (n58 : Nat) (y4_58 : Int) (ly4_58 : -2147483648 ≤ y4_58) (uy4_58 : y4_58 ≤ 2147483647) (y5_58 : Int) (ly5_58 : -2147483648 ≤ y5_58) (uy5_58 : y5_58 ≤ 2147483647) (L : List Nat) (fw58 : Nat → va_E) (hg : GI cy L0 fw58) (hE : Eh cy f0 fw58) (o_a0 : Ob fw58 a0 0) (o_a1 : Ob fw58 a1 0) (i1 : 0 ≤ y5_58) (hn58 : ((2147483647 : Int) - y5_58).toNat < n58) (H : Heap) (locs : List Loc) (ls : Array Slot) (hw : Wd D A s.heap L0 fw58 H locs) (hl : lv_has ls 6 [(0, .ref a0), (1, .ref a1), (2, .int (iI x2)), (4, .int (iI y4_58)), (5, .int (iI y5_58))]), W p l e ({ frames := 6, cells := 0, slots := 0, locals := 140 } : Room) s m ([.ref a0, .ref a1, .int (iI x2), .int (iI x3)] : List Value).toArray below meth c H locs (0) (0) (MQ below (Qi D (tq cy) L0 f0 s.heap.size (fun (r : Int) (L1 : List Nat) (f1 : Nat → va_E) => L0 = L1 ∧ GI cy L0 f1 ∧ Eh cy f0 f1 ∧ (True))) ([.ref a0, .ref a1, .int (iI x2), .int (iI x3)] : List Value).toArray s 0 0 A) (F0 m 58 ls []) := by
          intro n58
          induction n58 with
          | zero => intro y4_58 ly4_58 uy4_58 y5_58 ly5_58 uy5_58 L fw58 hg hE o_a0 o_a1 i1 hn58; exact absurd hn58 (Nat.not_lt_zero _)
          | succ n58 ih58 =>
            intro y4_58 ly4_58 uy4_58 y5_58 ly5_58 uy5_58 L fw58 hg hE o_a0 o_a1 i1 hn58 H locs ls hw hl
            refine lv_iload hx hb dX9_movedClash_58 (lv_at hl 4 rfl) ?_
            refine lv_aload_n hx hb dX9_movedClash_60 rfl (lv_at hl 1 rfl) ?_
            refine q_geti (ci := 0) (C := RX0) (T := TX0) (N := 15) hx hb hts (fun w h => List.mem_cons_of_mem _ (mfX00 w h)) hown hK hw m_a1 o_a1 rfl 10 (by decide) (hts _ (List.mem_cons_of_mem _ (mr35 _ (List.mem_of_getElem? (i := 5) rfl)))) (fun _ h => h) rfl dX9_movedClash_61 (fun x_2 lx_2 ux_2 ex_2 => ?_)
            have bx_2 : 0 ≤ x_2 ∧ x_2 ≤ 16 := by rw [ex_2]; exact hg.1 _ m_a1 0 10 o_a1
            refine q_icmp_ge (tgt := 107) hx hb dX9_movedClash_64 (by decide) ⟨ly5_58, uy5_58⟩ ⟨lx_2, ux_2⟩ (fun c64 => ?_) (fun c64 => ?_)
            · refine lv_iload hx hb dX9_movedClash_107 (lv_at hl 3 rfl) ?_
              exact q_ret_i hx hb hr hlocks hK hAe hw ⟨ly4_58, uy4_58⟩ (Nat.le_of_ble_eq_true rfl) (Nat.le_of_ble_eq_true rfl) dX9_movedClash_109 (by exact ⟨rfl, hg, hE, by first | trivial | omega⟩)
            · refine lv_aload_n hx hb dX9_movedClash_67 rfl (lv_at hl 1 rfl) ?_
              obtain ⟨r_3, er_3, m_r_3, o_r_3⟩ := (show ∃ r, fR fw58 a1 12 = some r ∧ r ∈ L0 ∧ ArI fw58 r cy.2.1 16 from hg.2.1 _ m_a1 0 12 o_a1)
              refine q_getr (ci := 0) (C := RX0) (T := TX0) (N := 15) hx hb hts (fun w h => List.mem_cons_of_mem _ (mfX00 w h)) hown hK hw m_a1 o_a1 rfl 12 (by decide) (hts _ (List.mem_cons_of_mem _ (mr35 _ (List.mem_of_getElem? (i := 6) rfl)))) (fun _ h => h) rfl er_3 dX9_movedClash_68 ?_
              refine lv_iload hx hb dX9_movedClash_71 (lv_at hl 4 rfl) ?_
              refine q_iald hx hb hK hw m_r_3 1 o_r_3 rfl ⟨ly5_58, uy5_58⟩ (by omega) (by omega) dX9_movedClash_73 (fun x_4 lx_4 ux_4 ex_4 => ?_)
              refine q_iconst hx hb dX9_movedClash_74 ?_
              have J101 : ∀ (z4_101 : Int) (lz4_101 : -2147483648 ≤ z4_101) (uz4_101 : z4_101 ≤ 2147483647) (L : List Nat) (fw101 : Nat → va_E) (hg : GI cy L0 fw101) (hE : Eh cy f0 fw101) (o_a0 : Ob fw101 a0 0) (o_a1 : Ob fw101 a1 0) (H : Heap) (locs : List Loc) (ls : Array Slot) (hw : Wd D A s.heap L0 fw101 H locs) (hl : lv_has ls 6 [(0, .ref a0), (1, .ref a1), (2, .int (iI x2)), (4, .int (iI z4_101)), (5, .int (iI y5_58))]), W p l e ({ frames := 6, cells := 0, slots := 0, locals := 140 } : Room) s m ([.ref a0, .ref a1, .int (iI x2), .int (iI x3)] : List Value).toArray below meth c H locs (0) (0) (MQ below (Qi D (tq cy) L0 f0 s.heap.size (fun (r : Int) (L1 : List Nat) (f1 : Nat → va_E) => L0 = L1 ∧ GI cy L0 f1 ∧ Eh cy f0 f1 ∧ (True))) ([.ref a0, .ref a1, .int (iI x2), .int (iI x3)] : List Value).toArray s 0 0 A) (F0 m 101 ls []) := by
                intro z4_101 lz4_101 uz4_101 L fw101 hg hE o_a0 o_a1 H locs ls hw hl
                obtain ⟨x_5, lx_5, ux_5, hx_5, ex_5⟩ := q_inc y5_58 (1)
                try (replace ex_5 : x_5 = y5_58 + (1) := by omega)
                refine lv_iinc (v := iI x_5) (lv' := [(5, .int (iI x_5)), (0, .ref a0), (1, .ref a1), (2, .int (iI x2)), (4, .int (iI z4_101))]) hx hb dX9_movedClash_101 hl (k := 4) rfl hx_5 (by decide) rfl (fun ls hl => ?_)
                refine lv_goto (tgt := 58) hx hb dX9_movedClash_104 (by decide) ?_
                exact ih58 z4_101 lz4_101 uz4_101 x_5 lx_5 ux_5 L0 fw101 hg hE o_a0 o_a1 (by omega) (by omega) _ _ _ hw (lv_sub hl [1, 2, 3, 4, 0] rfl)
              refine q_icmp_eq (tgt := 101) hx hb dX9_movedClash_75 (by decide) ⟨lx_4, ux_4⟩ ⟨by decide, by decide⟩ (fun c75 => ?_) (fun c75 => ?_)
              · exact J101 y4_58 ly4_58 uy4_58 L0 fw58 hg hE o_a0 o_a1 _ _ _ hw (lv_sub hl [0, 1, 2, 3, 4] rfl)
              · refine lv_iload hx hb dX9_movedClash_78 (lv_at hl 3 rfl) ?_
                refine lv_aload_n hx hb dX9_movedClash_80 rfl (lv_at hl 0 rfl) ?_
                refine lv_aload_n hx hb dX9_movedClash_81 rfl (lv_at hl 1 rfl) ?_
                refine q_getr (ci := 0) (C := RX0) (T := TX0) (N := 15) hx hb hts (fun w h => List.mem_cons_of_mem _ (mfX00 w h)) hown hK hw m_a1 o_a1 rfl 12 (by decide) (hts _ (List.mem_cons_of_mem _ (mr35 _ (List.mem_of_getElem? (i := 6) rfl)))) (fun _ h => h) rfl er_3 dX9_movedClash_82 ?_
                refine lv_iload hx hb dX9_movedClash_85 (lv_at hl 4 rfl) ?_
                refine q_iald hx hb hK hw m_r_3 1 o_r_3 rfl ⟨ly5_58, uy5_58⟩ (by omega) (by omega) dX9_movedClash_87 (fun x_6 lx_6 ux_6 ex_6 => ?_)
                refine lv_aload_n hx hb dX9_movedClash_88 rfl (lv_at hl 1 rfl) ?_
                refine q_geti (ci := 0) (C := RX0) (T := TX0) (N := 15) hx hb hts (fun w h => List.mem_cons_of_mem _ (mfX00 w h)) hown hK hw m_a1 o_a1 rfl 2 (by decide) (hts _ (List.mem_cons_of_mem _ (mr32 _ (List.mem_of_getElem? (i := 9) rfl)))) (fun _ h => h) rfl dX9_movedClash_89 (fun x_7 lx_7 ux_7 ex_7 => ?_)
                refine lv_iload_n hx hb dX9_movedClash_92 rfl (lv_at hl 2 rfl) ?_
                refine q_call_i hA hK hw (va_runV (As := [.int (iI x_6), .int (iI x_7), .int (iI x2)]) (rest := [.int (iI y4_58)]) ⟨hx, hb, hml, hown, hts⟩ (c_X0_meet_h zo l D cy L0 fw58 a0 x_6 lx_6 ux_6 x_7 lx_7 ux_7 x2 lx2 ux2 m_a0 o_a0 hg _) (cwV 3 hts (gT (inV (mr35 _ (List.mem_of_getElem? (i := 8) rfl)) (mr35 _ (List.mem_of_getElem? (i := 9) rfl)) (mr35 _ (List.mem_of_getElem? (i := 10) rfl)) (mr2 _ (List.mem_of_getElem? (i := 9) rfl)) (mr35 _ (List.mem_of_getElem? (i := 11) rfl)))) rfl rfl rfl (by decide +kernel) ⟨Nat.le_of_ble_eq_true rfl, Nat.le_of_ble_eq_true rfl⟩) (Wd.preV zo hA hZ hw hK m_a0 o_a0 rfl) rfl rfl hl.1 rfl (lv_room (Nat.le_of_ble_eq_true rfl)) dX9_movedClash_93 ⟨Nat.le_of_ble_eq_true rfl, Nat.le_of_ble_eq_true rfl⟩) (fun x_8 L1 f_9 H locs lx_8 ux_8 ex_8 hw => ?_)
                obtain ⟨rfl, hg, hX, ex_8⟩ := ex_8
                have hE := hE.trans hX
                have o_a0 := hX.1.1.1 _ _ o_a0
                have o_a1 := hX.1.1.1 _ _ o_a1
                refine q_min hx hb (hml.trans hl.1.symm) hown (hts _ (List.mem_cons_of_mem _ (mr35 _ (List.mem_of_getElem? (i := 7) rfl)))) (hts _ (List.mem_cons_of_mem _ (mr6 _ (List.mem_of_getElem? (i := 13) rfl)))) (hts _ (List.mem_cons_of_mem _ (mr6 _ (List.mem_of_getElem? (i := 14) rfl)))) (hts _ (List.mem_cons_of_mem _ (mr6 _ (List.mem_of_getElem? (i := 15) rfl)))) (Nat.le_of_ble_eq_true rfl) (Nat.le_of_ble_eq_true rfl) (Nat.le_of_ble_eq_true rfl) (Nat.le_of_ble_eq_true rfl) ⟨ly4_58, uy4_58⟩ ⟨lx_8, ux_8⟩ dX9_movedClash_96 (fun x_10 lx_10 ux_10 ex_10 => ?_)
                refine lv_istore (lv' := [(4, .int (iI x_10)), (0, .ref a0), (1, .ref a1), (2, .int (iI x2)), (5, .int (iI y5_58))]) hx hb dX9_movedClash_99 hl (by decide) rfl (fun ls hl => ?_)
                exact J101 x_10 lx_10 ux_10 L0 f_9 hg hE o_a0 o_a1 _ _ _ hw (lv_sub hl [1, 2, 3, 0, 4] rfl)
        exact J58 ((((2147483647 : Int) - 0).toNat) + 1) y4_6 ly4_6 uy4_6 0 (by decide) (by decide) L0 fw6 hg hE o_a0 o_a1 (by omega) (by omega) _ _ _ hw (lv_sub hl [1, 2, 3, 4, 0] rfl)
      · refine lv_aload_n hx hb dX9_movedClash_15 rfl (lv_at hl 0 rfl) ?_
        obtain ⟨r_11, er_11, m_r_11, o_r_11⟩ := (show ∃ r, fR fw6 a0 12 = some r ∧ r ∈ L0 ∧ ArI fw6 r cy.2.1 16 from hg.2.1 _ m_a0 0 12 o_a0)
        refine q_getr (ci := 0) (C := RX0) (T := TX0) (N := 15) hx hb hts (fun w h => List.mem_cons_of_mem _ (mfX00 w h)) hown hK hw m_a0 o_a0 rfl 12 (by decide) (hts _ (List.mem_cons_of_mem _ (mr35 _ (List.mem_of_getElem? (i := 6) rfl)))) (fun _ h => h) rfl er_11 dX9_movedClash_16 ?_
        refine lv_iload hx hb dX9_movedClash_19 (lv_at hl 4 rfl) ?_
        refine q_iald hx hb hK hw m_r_11 1 o_r_11 rfl ⟨ly5_6, uy5_6⟩ (by omega) (by omega) dX9_movedClash_21 (fun x_12 lx_12 ux_12 ex_12 => ?_)
        refine q_iconst hx hb dX9_movedClash_22 ?_
        have J49 : ∀ (z4_49 : Int) (lz4_49 : -2147483648 ≤ z4_49) (uz4_49 : z4_49 ≤ 2147483647) (L : List Nat) (fw49 : Nat → va_E) (hg : GI cy L0 fw49) (hE : Eh cy f0 fw49) (o_a0 : Ob fw49 a0 0) (o_a1 : Ob fw49 a1 0) (H : Heap) (locs : List Loc) (ls : Array Slot) (hw : Wd D A s.heap L0 fw49 H locs) (hl : lv_has ls 6 [(0, .ref a0), (1, .ref a1), (2, .int (iI x2)), (4, .int (iI z4_49)), (5, .int (iI y5_6))]), W p l e ({ frames := 6, cells := 0, slots := 0, locals := 140 } : Room) s m ([.ref a0, .ref a1, .int (iI x2), .int (iI x3)] : List Value).toArray below meth c H locs (0) (0) (MQ below (Qi D (tq cy) L0 f0 s.heap.size (fun (r : Int) (L1 : List Nat) (f1 : Nat → va_E) => L0 = L1 ∧ GI cy L0 f1 ∧ Eh cy f0 f1 ∧ (True))) ([.ref a0, .ref a1, .int (iI x2), .int (iI x3)] : List Value).toArray s 0 0 A) (F0 m 49 ls []) := by
          intro z4_49 lz4_49 uz4_49 L fw49 hg hE o_a0 o_a1 H locs ls hw hl
          obtain ⟨x_13, lx_13, ux_13, hx_13, ex_13⟩ := q_inc y5_6 (1)
          try (replace ex_13 : x_13 = y5_6 + (1) := by omega)
          refine lv_iinc (v := iI x_13) (lv' := [(5, .int (iI x_13)), (0, .ref a0), (1, .ref a1), (2, .int (iI x2)), (4, .int (iI z4_49))]) hx hb dX9_movedClash_49 hl (k := 4) rfl hx_13 (by decide) rfl (fun ls hl => ?_)
          refine lv_goto (tgt := 6) hx hb dX9_movedClash_52 (by decide) ?_
          exact ih6 z4_49 lz4_49 uz4_49 x_13 lx_13 ux_13 L0 fw49 hg hE o_a0 o_a1 (by omega) (by omega) _ _ _ hw (lv_sub hl [1, 2, 3, 4, 0] rfl)
        refine q_icmp_eq (tgt := 49) hx hb dX9_movedClash_23 (by decide) ⟨lx_12, ux_12⟩ ⟨by decide, by decide⟩ (fun c23 => ?_) (fun c23 => ?_)
        · exact J49 y4_6 ly4_6 uy4_6 L0 fw6 hg hE o_a0 o_a1 _ _ _ hw (lv_sub hl [0, 1, 2, 3, 4] rfl)
        · refine lv_iload hx hb dX9_movedClash_26 (lv_at hl 3 rfl) ?_
          refine lv_aload_n hx hb dX9_movedClash_28 rfl (lv_at hl 1 rfl) ?_
          refine lv_aload_n hx hb dX9_movedClash_29 rfl (lv_at hl 0 rfl) ?_
          refine q_getr (ci := 0) (C := RX0) (T := TX0) (N := 15) hx hb hts (fun w h => List.mem_cons_of_mem _ (mfX00 w h)) hown hK hw m_a0 o_a0 rfl 12 (by decide) (hts _ (List.mem_cons_of_mem _ (mr35 _ (List.mem_of_getElem? (i := 6) rfl)))) (fun _ h => h) rfl er_11 dX9_movedClash_30 ?_
          refine lv_iload hx hb dX9_movedClash_33 (lv_at hl 4 rfl) ?_
          refine q_iald hx hb hK hw m_r_11 1 o_r_11 rfl ⟨ly5_6, uy5_6⟩ (by omega) (by omega) dX9_movedClash_35 (fun x_14 lx_14 ux_14 ex_14 => ?_)
          refine lv_aload_n hx hb dX9_movedClash_36 rfl (lv_at hl 0 rfl) ?_
          refine q_geti (ci := 0) (C := RX0) (T := TX0) (N := 15) hx hb hts (fun w h => List.mem_cons_of_mem _ (mfX00 w h)) hown hK hw m_a0 o_a0 rfl 2 (by decide) (hts _ (List.mem_cons_of_mem _ (mr32 _ (List.mem_of_getElem? (i := 9) rfl)))) (fun _ h => h) rfl dX9_movedClash_37 (fun x_15 lx_15 ux_15 ex_15 => ?_)
          refine lv_iload_n hx hb dX9_movedClash_40 rfl (lv_at hl 2 rfl) ?_
          refine q_call_i hA hK hw (va_runV (As := [.int (iI x_14), .int (iI x_15), .int (iI x2)]) (rest := [.int (iI y4_6)]) ⟨hx, hb, hml, hown, hts⟩ (c_X0_meet_h zo l D cy L0 fw6 a1 x_14 lx_14 ux_14 x_15 lx_15 ux_15 x2 lx2 ux2 m_a1 o_a1 hg _) (cwV 3 hts (gT (inV (mr35 _ (List.mem_of_getElem? (i := 8) rfl)) (mr35 _ (List.mem_of_getElem? (i := 9) rfl)) (mr35 _ (List.mem_of_getElem? (i := 10) rfl)) (mr2 _ (List.mem_of_getElem? (i := 9) rfl)) (mr35 _ (List.mem_of_getElem? (i := 11) rfl)))) rfl rfl rfl (by decide +kernel) ⟨Nat.le_of_ble_eq_true rfl, Nat.le_of_ble_eq_true rfl⟩) (Wd.preV zo hA hZ hw hK m_a1 o_a1 rfl) rfl rfl hl.1 rfl (lv_room (Nat.le_of_ble_eq_true rfl)) dX9_movedClash_41 ⟨Nat.le_of_ble_eq_true rfl, Nat.le_of_ble_eq_true rfl⟩) (fun x_16 L1 f_17 H locs lx_16 ux_16 ex_16 hw => ?_)
          obtain ⟨rfl, hg, hX, ex_16⟩ := ex_16
          have hE := hE.trans hX
          have o_a0 := hX.1.1.1 _ _ o_a0
          have o_a1 := hX.1.1.1 _ _ o_a1
          refine q_min hx hb (hml.trans hl.1.symm) hown (hts _ (List.mem_cons_of_mem _ (mr35 _ (List.mem_of_getElem? (i := 7) rfl)))) (hts _ (List.mem_cons_of_mem _ (mr6 _ (List.mem_of_getElem? (i := 13) rfl)))) (hts _ (List.mem_cons_of_mem _ (mr6 _ (List.mem_of_getElem? (i := 14) rfl)))) (hts _ (List.mem_cons_of_mem _ (mr6 _ (List.mem_of_getElem? (i := 15) rfl)))) (Nat.le_of_ble_eq_true rfl) (Nat.le_of_ble_eq_true rfl) (Nat.le_of_ble_eq_true rfl) (Nat.le_of_ble_eq_true rfl) ⟨ly4_6, uy4_6⟩ ⟨lx_16, ux_16⟩ dX9_movedClash_44 (fun x_18 lx_18 ux_18 ex_18 => ?_)
          refine lv_istore (lv' := [(4, .int (iI x_18)), (0, .ref a0), (1, .ref a1), (2, .int (iI x2)), (5, .int (iI y5_6))]) hx hb dX9_movedClash_47 hl (by decide) rfl (fun ls hl => ?_)
          exact J49 x_18 lx_18 ux_18 L0 f_17 hg hE o_a0 o_a1 _ _ _ hw (lv_sub hl [1, 2, 3, 0, 4] rfl)
  exact J6 ((((2147483647 : Int) - 0).toNat) + 1) x3 lx3 ux3 0 (by decide) (by decide) L0 f0 hg hE o_a0 o_a1 (by omega) (by omega) _ _ _ hw (lv_sub hl [2, 3, 4, 1, 0] rfl)
set_option maxHeartbeats 4000000 in
set_option maxRecDepth 100000 in
theorem c_X9_ruledClash_h {Z : Zt} (zo : Zok Z) (l : Launch) (D : va_G) (cy : Cy) (L0 : List Nat) (f0 : Nat → va_E) (a0 : Nat) (a1 : Nat) (x2 : Int) (lx2 : -2147483648 ≤ x2) (ux2 : x2 ≤ 2147483647) (x3 : Int) (lx3 : -2147483648 ≤ x3) (ux3 : x3 ≤ 2147483647) (m_a0 : a0 ∈ L0) (o_a0 : Ob f0 a0 0) (m_a1 : a1 ∈ L0) (o_a1 : Ob f0 a1 0) (hg : GI cy L0 f0) : Ci Z l yX9_ruledClash (Cond.code yX9_ruledClash cX9_ruledClash 13 (some .int) :: TB) ({ frames := 6, cells := 0, slots := 0, locals := 140 } : Room) 0 0 D (tq cy) [.ref a0, .ref a1, .int (iI x2), .int (iI x3)] L0 f0 (fun (r : Int) (L1 : List Nat) (f1 : Nat → va_E) => L0 = L1 ∧ GI cy L0 f1 ∧ Eh cy f0 f1 ∧ (True)) := by
  refine Ci.enter (cc := cX9_ruledClash) (n := 13) rfl (plainFor_of_name (by decide)) (Nat.le_of_ble_eq_true rfl) ?_
  intro p e s m below meth c ls A hx hb hr hts hown hlocks hnm hml hK hA hAe hw hZ hl
  have hown : s.vm.findClass RX9 = some m.cls := hown
  have hl : lv_has ls 13 [(0, .ref a0), (1, .ref a1), (2, .int (iI x2)), (3, .int (iI x3))] := hl
  have hN : ZN s := (zo.2.2.2.2 _ _ _ hZ).2
  have hE : Eh cy f0 f0 := Eh.refl cy f0
  refine lv_aload_n hx hb dX9_ruledClash_0 rfl (lv_at hl 0 rfl) ?_
  refine q_geti (ci := 0) (C := RX0) (T := TX0) (N := 15) hx hb hts (fun w h => List.mem_cons_of_mem _ (mfX00 w h)) hown hK hw m_a0 o_a0 rfl 9 (by decide) (hts _ (List.mem_cons_of_mem _ (mr35 _ (List.mem_of_getElem? (i := 18) rfl)))) (fun _ h => h) rfl dX9_ruledClash_1 (fun x_1 lx_1 ux_1 ex_1 => ?_)
  refine lv_aload_n hx hb dX9_ruledClash_4 rfl (lv_at hl 1 rfl) ?_
  refine q_geti (ci := 0) (C := RX0) (T := TX0) (N := 15) hx hb hts (fun w h => List.mem_cons_of_mem _ (mfX00 w h)) hown hK hw m_a1 o_a1 rfl 9 (by decide) (hts _ (List.mem_cons_of_mem _ (mr35 _ (List.mem_of_getElem? (i := 18) rfl)))) (fun _ h => h) rfl dX9_ruledClash_5 (fun x_2 lx_2 ux_2 ex_2 => ?_)
  have J16 : ∀ (w0_16 : Nat) (m_w0_16 : w0_16 ∈ L0) (o_w0_16 : Ob f0 w0_16 0) (H : Heap) (locs : List Loc) (ls : Array Slot) (hw : Wd D A s.heap L0 f0 H locs) (hl : lv_has ls 13 [(0, .ref a0), (1, .ref a1), (2, .int (iI x2)), (3, .int (iI x3))]), W p l e ({ frames := 6, cells := 0, slots := 0, locals := 140 } : Room) s m ([.ref a0, .ref a1, .int (iI x2), .int (iI x3)] : List Value).toArray below meth c H locs (0) (0) (MQ below (Qi D (tq cy) L0 f0 s.heap.size (fun (r : Int) (L1 : List Nat) (f1 : Nat → va_E) => L0 = L1 ∧ GI cy L0 f1 ∧ Eh cy f0 f1 ∧ (True))) ([.ref a0, .ref a1, .int (iI x2), .int (iI x3)] : List Value).toArray s 0 0 A) (F0 m 16 ls [.ref w0_16]) := by
    intro w0_16 m_w0_16 o_w0_16 H locs ls hw hl
    refine lv_astore (lv' := [(4, .ref w0_16), (0, .ref a0), (1, .ref a1), (2, .int (iI x2)), (3, .int (iI x3))]) hx hb dX9_ruledClash_16 hl (by decide) rfl (fun ls hl => ?_)
    refine lv_aload_n hx hb dX9_ruledClash_18 rfl (lv_at hl 1 rfl) ?_
    refine q_geti (ci := 0) (C := RX0) (T := TX0) (N := 15) hx hb hts (fun w h => List.mem_cons_of_mem _ (mfX00 w h)) hown hK hw m_a0 o_a0 rfl 9 (by decide) (hts _ (List.mem_cons_of_mem _ (mr35 _ (List.mem_of_getElem? (i := 18) rfl)))) (fun _ h => h) rfl dX9_ruledClash_19 (fun x_3 lx_3 ux_3 ex_3 => ?_)
    refine lv_aload_n hx hb dX9_ruledClash_22 rfl (lv_at hl 2 rfl) ?_
    refine q_geti (ci := 0) (C := RX0) (T := TX0) (N := 15) hx hb hts (fun w h => List.mem_cons_of_mem _ (mfX00 w h)) hown hK hw m_a1 o_a1 rfl 9 (by decide) (hts _ (List.mem_cons_of_mem _ (mr35 _ (List.mem_of_getElem? (i := 18) rfl)))) (fun _ h => h) rfl dX9_ruledClash_23 (fun x_4 lx_4 ux_4 ex_4 => ?_)
    have J34 : ∀ (w0_34 : Nat) (m_w0_34 : w0_34 ∈ L0) (o_w0_34 : Ob f0 w0_34 0) (H : Heap) (locs : List Loc) (ls : Array Slot) (hw : Wd D A s.heap L0 f0 H locs) (hl : lv_has ls 13 [(2, .int (iI x2)), (3, .int (iI x3)), (4, .ref w0_16)]), W p l e ({ frames := 6, cells := 0, slots := 0, locals := 140 } : Room) s m ([.ref a0, .ref a1, .int (iI x2), .int (iI x3)] : List Value).toArray below meth c H locs (0) (0) (MQ below (Qi D (tq cy) L0 f0 s.heap.size (fun (r : Int) (L1 : List Nat) (f1 : Nat → va_E) => L0 = L1 ∧ GI cy L0 f1 ∧ Eh cy f0 f1 ∧ (True))) ([.ref a0, .ref a1, .int (iI x2), .int (iI x3)] : List Value).toArray s 0 0 A) (F0 m 34 ls [.ref w0_34]) := by
      intro w0_34 m_w0_34 o_w0_34 H locs ls hw hl
      refine lv_astore (lv' := [(5, .ref w0_34), (2, .int (iI x2)), (3, .int (iI x3)), (4, .ref w0_16)]) hx hb dX9_ruledClash_34 hl (by decide) rfl (fun ls hl => ?_)
      refine lv_iload_n hx hb dX9_ruledClash_36 rfl (lv_at hl 2 rfl) ?_
      refine lv_istore (lv' := [(6, .int (iI x3)), (5, .ref w0_34), (2, .int (iI x2)), (3, .int (iI x3)), (4, .ref w0_16)]) hx hb dX9_ruledClash_37 hl (by decide) rfl (fun ls hl => ?_)
      refine lv_aload hx hb dX9_ruledClash_39 (lv_at hl 4 rfl) ?_
      refine lv_aload hx hb dX9_ruledClash_41 (lv_at hl 1 rfl) ?_
      refine lv_iload_n hx hb dX9_ruledClash_43 rfl (lv_at hl 2 rfl) ?_
      refine q_call_i hA hK hw (va_runS (As := [.ref w0_16, .ref w0_34, .int (iI x2)]) (rest := []) ⟨hx, hb, hml, hown, hts⟩ (c_X9_lastKeyToTry zo l D cy L0 f0 w0_16 w0_34 x2 lx2 ux2 m_w0_16 o_w0_16 m_w0_34 o_w0_34 hg _) (va_cwS 3 hts (gT (inS (mr35 _ (List.mem_of_getElem? (i := 21) rfl)) (mr35 _ (List.mem_of_getElem? (i := 22) rfl)) (mr1 _ (List.mem_of_getElem? (i := 2) rfl)) (mr35 _ (List.mem_of_getElem? (i := 23) rfl)))) rfl rfl rfl (by decide +kernel) ⟨Nat.le_of_ble_eq_true rfl, Nat.le_of_ble_eq_true rfl⟩) (Wd.preS zo hA hZ hw hK) rfl rfl hl.1 rfl (lv_room (Nat.le_of_ble_eq_true rfl)) dX9_ruledClash_44 ⟨Nat.le_of_ble_eq_true rfl, Nat.le_of_ble_eq_true rfl⟩) (fun x_5 L1 f1 H locs lx_5 ux_5 ex_5 hw => ?_)
      obtain ⟨rfl, rfl, ex_5⟩ := ex_5
      refine lv_istore (lv' := [(7, .int (iI x_5)), (6, .int (iI x3)), (5, .ref w0_34), (2, .int (iI x2)), (3, .int (iI x3)), (4, .ref w0_16)]) hx hb dX9_ruledClash_47 hl (by decide) rfl (fun ls hl => ?_)
      refine lv_aload hx hb dX9_ruledClash_49 (lv_at hl 5 rfl) ?_
      refine lv_iload_n hx hb dX9_ruledClash_51 rfl (lv_at hl 3 rfl) ?_
      refine q_sipush hx hb dX9_ruledClash_52 rfl ?_
      first | refine q_idiv hx hb dX9_ruledClash_55 ⟨lx2, ux2⟩ ⟨by decide, by decide⟩ (by omega) (by omega) (fun x_6 lx_6 ux_6 ex_6 => ?_) | refine q_idivw hx hb dX9_ruledClash_55 ⟨lx2, ux2⟩ ⟨by decide, by decide⟩ (by omega) (fun x_6 lx_6 ux_6 ex_6 => ?_)
      refine lv_aload hx hb dX9_ruledClash_56 (lv_at hl 2 rfl) ?_
      refine q_geti (ci := 0) (C := RX0) (T := TX0) (N := 15) hx hb hts (fun w h => List.mem_cons_of_mem _ (mfX00 w h)) hown hK hw m_w0_34 o_w0_34 rfl 7 (by decide) (hts _ (List.mem_cons_of_mem _ (mr35 _ (List.mem_of_getElem? (i := 19) rfl)))) (fun _ h => h) rfl dX9_ruledClash_58 (fun x_7 lx_7 ux_7 ex_7 => ?_)
      refine q_max hx hb (hml.trans hl.1.symm) hown (hts _ (List.mem_cons_of_mem _ (mr35 _ (List.mem_of_getElem? (i := 20) rfl)))) (hts _ (List.mem_cons_of_mem _ (mr13 _ (List.mem_of_getElem? (i := 0) rfl)))) (hts _ (List.mem_cons_of_mem _ (mr6 _ (List.mem_of_getElem? (i := 14) rfl)))) (hts _ (List.mem_cons_of_mem _ (mr13 _ (List.mem_of_getElem? (i := 1) rfl)))) (Nat.le_of_ble_eq_true rfl) (Nat.le_of_ble_eq_true rfl) (Nat.le_of_ble_eq_true rfl) (Nat.le_of_ble_eq_true rfl) ⟨lx_6, ux_6⟩ ⟨lx_7, ux_7⟩ dX9_ruledClash_61 (fun x_8 lx_8 ux_8 ex_8 => ?_)
      refine q_iconst hx hb dX9_ruledClash_64 ?_
      first | refine q_isub hx hb dX9_ruledClash_65 ⟨by omega, by omega⟩ (fun x_9 lx_9 ux_9 ex_9 => ?_) | refine q_isubw hx hb dX9_ruledClash_65 (fun x_9 lx_9 ux_9 _ => ?_)
      refine q_call_i hA hK hw (va_runV (As := [.int (iI x_9)]) (rest := []) ⟨hx, hb, hml, hown, hts⟩ (c_X0_keyFrom zo l D cy L0 f0 w0_16 x_9 lx_9 ux_9 m_w0_16 o_w0_16 hg _) (cwV 1 hts (gT (inV (mr24 _ (List.mem_of_getElem? (i := 12) rfl)) (mr24 _ (List.mem_of_getElem? (i := 13) rfl)) (mr24 _ (List.mem_of_getElem? (i := 14) rfl)) (mr2 _ (List.mem_of_getElem? (i := 9) rfl)) (mr24 _ (List.mem_of_getElem? (i := 15) rfl)))) rfl rfl rfl (by decide +kernel) ⟨Nat.le_of_ble_eq_true rfl, Nat.le_of_ble_eq_true rfl⟩) (Wd.preV zo hA hZ hw hK m_w0_16 o_w0_16 rfl) rfl rfl hl.1 rfl (lv_room (Nat.le_of_ble_eq_true rfl)) dX9_ruledClash_66 ⟨Nat.le_of_ble_eq_true rfl, Nat.le_of_ble_eq_true rfl⟩) (fun x_10 L1 f1 H locs lx_10 ux_10 ex_10 hw => ?_)
      obtain ⟨rfl, rfl, ex_10⟩ := ex_10
      refine lv_istore (lv' := [(8, .int (iI x_10)), (7, .int (iI x_5)), (6, .int (iI x3)), (5, .ref w0_34), (2, .int (iI x2)), (3, .int (iI x3)), (4, .ref w0_16)]) hx hb dX9_ruledClash_69 hl (by decide) rfl (fun ls hl => ?_)
      refine q_iconst hx hb dX9_ruledClash_71 ?_
      refine lv_istore (lv' := [(9, .int (iI 0)), (8, .int (iI x_10)), (7, .int (iI x_5)), (6, .int (iI x3)), (5, .ref w0_34), (2, .int (iI x2)), (3, .int (iI x3)), (4, .ref w0_16)]) hx hb dX9_ruledClash_72 hl (by decide) rfl (fun ls hl => ?_)
      have J74 : ∀ (n74 : Nat) (y6_74 : Int) (ly6_74 : -2147483648 ≤ y6_74) (uy6_74 : y6_74 ≤ 2147483647) (y8_74 : Int) (ly8_74 : -2147483648 ≤ y8_74) (uy8_74 : y8_74 ≤ 2147483647) (y9_74 : Int) (ly9_74 : -2147483648 ≤ y9_74) (uy9_74 : y9_74 ≤ 2147483647) (L : List Nat) (fw74 : Nat → va_E) (hg : GI cy L0 fw74) (hE : Eh cy f0 fw74) (o_w0_16 : Ob fw74 w0_16 0) (o_w0_34 : Ob fw74 w0_34 0) (i1 : 0 ≤ y9_74) (hn74 : ((2147483647 : Int) - y9_74).toNat < n74) (H : Heap) (locs : List Loc) (ls : Array Slot) (hw : Wd D A s.heap L0 fw74 H locs) (hl : lv_has ls 13 [(2, .int (iI x2)), (4, .ref w0_16), (5, .ref w0_34), (6, .int (iI y6_74)), (7, .int (iI x_5)), (8, .int (iI y8_74)), (9, .int (iI y9_74))]), W p l e ({ frames := 6, cells := 0, slots := 0, locals := 140 } : Room) s m ([.ref a0, .ref a1, .int (iI x2), .int (iI x3)] : List Value).toArray below meth c H locs (0 + 0 + 0) (0 + 0 + 0) (MQ below (Qi D (tq cy) L0 f0 s.heap.size (fun (r : Int) (L1 : List Nat) (f1 : Nat → va_E) => L0 = L1 ∧ GI cy L0 f1 ∧ Eh cy f0 f1 ∧ (True))) ([.ref a0, .ref a1, .int (iI x2), .int (iI x3)] : List Value).toArray s 0 0 A) (F0 m 74 ls []) := by
        intro n74
        induction n74 with
        | zero => intro y6_74 ly6_74 uy6_74 y8_74 ly8_74 uy8_74 y9_74 ly9_74 uy9_74 L fw74 hg hE o_w0_16 o_w0_34 i1 hn74; exact absurd hn74 (Nat.not_lt_zero _)
        | succ n74 ih74 =>
          intro y6_74 ly6_74 uy6_74 y8_74 ly8_74 uy8_74 y9_74 ly9_74 uy9_74 L fw74 hg hE o_w0_16 o_w0_34 i1 hn74 H locs ls hw hl
          refine lv_iload hx hb dX9_ruledClash_74 (lv_at hl 6 rfl) ?_
          refine q_ldc (n := 36524) hx hb hown (hts _ (List.mem_cons_of_mem _ (mr23 _ (List.mem_of_getElem? (i := 16) rfl)))) rfl dX9_ruledClash_76 ?_
          refine q_icmp_gt (tgt := 235) hx hb dX9_ruledClash_78 (by decide) ⟨ly9_74, uy9_74⟩ ⟨by decide, by decide⟩ (fun c78 => ?_) (fun c78 => ?_)
          · refine lv_iload hx hb dX9_ruledClash_235 (lv_at hl 3 rfl) ?_
            exact q_ret_i hx hb hr hlocks hK hAe hw ⟨ly6_74, uy6_74⟩ (Nat.le_of_ble_eq_true rfl) (Nat.le_of_ble_eq_true rfl) dX9_ruledClash_237 (by exact ⟨rfl, hg, hE, by first | trivial | omega⟩)
          · refine lv_iload hx hb dX9_ruledClash_81 (lv_at hl 5 rfl) ?_
            refine q_iconst hx hb dX9_ruledClash_83 ?_
            refine q_icmp_eq (tgt := 235) hx hb dX9_ruledClash_84 (by decide) ⟨ly8_74, uy8_74⟩ ⟨by decide, by decide⟩ (fun c84 => ?_) (fun c84 => ?_)
            · refine lv_iload hx hb dX9_ruledClash_235 (lv_at hl 3 rfl) ?_
              exact q_ret_i hx hb hr hlocks hK hAe hw ⟨ly6_74, uy6_74⟩ (Nat.le_of_ble_eq_true rfl) (Nat.le_of_ble_eq_true rfl) dX9_ruledClash_237 (by exact ⟨rfl, hg, hE, by first | trivial | omega⟩)
            · refine lv_iload hx hb dX9_ruledClash_87 (lv_at hl 5 rfl) ?_
              refine lv_iload hx hb dX9_ruledClash_89 (lv_at hl 4 rfl) ?_
              refine q_icmp_gt (tgt := 235) hx hb dX9_ruledClash_91 (by decide) ⟨ly8_74, uy8_74⟩ ⟨lx_5, ux_5⟩ (fun c91 => ?_) (fun c91 => ?_)
              · refine lv_iload hx hb dX9_ruledClash_235 (lv_at hl 3 rfl) ?_
                exact q_ret_i hx hb hr hlocks hK hAe hw ⟨ly6_74, uy6_74⟩ (Nat.le_of_ble_eq_true rfl) (Nat.le_of_ble_eq_true rfl) dX9_ruledClash_237 (by exact ⟨rfl, hg, hE, by first | trivial | omega⟩)
              · refine lv_aload hx hb dX9_ruledClash_94 (lv_at hl 1 rfl) ?_
                refine lv_iload hx hb dX9_ruledClash_96 (lv_at hl 5 rfl) ?_
                refine q_call_i hA hK hw (va_runV (As := [.int (iI y8_74)]) (rest := []) ⟨hx, hb, hml, hown, hts⟩ (c_X0_timeOf zo l D cy L0 fw74 w0_16 y8_74 ly8_74 uy8_74 m_w0_16 o_w0_16 hg _) (cwV 1 hts (gT (inV (mr37 _ (List.mem_of_getElem? (i := 4) rfl)) (mr30 _ (List.mem_of_getElem? (i := 0) rfl)) (mr30 _ (List.mem_of_getElem? (i := 1) rfl)) (mr2 _ (List.mem_of_getElem? (i := 9) rfl)) (mr30 _ (List.mem_of_getElem? (i := 2) rfl)))) rfl rfl rfl (by decide +kernel) ⟨Nat.le_of_ble_eq_true rfl, Nat.le_of_ble_eq_true rfl⟩) (Wd.preV zo hA hZ hw hK m_w0_16 o_w0_16 rfl) rfl rfl hl.1 rfl (lv_room (Nat.le_of_ble_eq_true rfl)) dX9_ruledClash_98 ⟨Nat.le_of_ble_eq_true rfl, Nat.le_of_ble_eq_true rfl⟩) (fun x_11 L1 f1 H locs lx_11 ux_11 ex_11 hw => ?_)
                obtain ⟨rfl, rfl, ex_11⟩ := ex_11
                refine lv_iload hx hb dX9_ruledClash_101 (lv_at hl 3 rfl) ?_
                refine q_icmp_ge (tgt := 235) hx hb dX9_ruledClash_103 (by decide) ⟨lx_11, ux_11⟩ ⟨ly6_74, uy6_74⟩ (fun c103 => ?_) (fun c103 => ?_)
                · refine lv_iload hx hb dX9_ruledClash_235 (lv_at hl 3 rfl) ?_
                  exact q_ret_i hx hb hr hlocks hK hAe hw ⟨ly6_74, uy6_74⟩ (Nat.le_of_ble_eq_true rfl) (Nat.le_of_ble_eq_true rfl) dX9_ruledClash_237 (by exact ⟨rfl, hg, hE, by first | trivial | omega⟩)
                · refine lv_aload hx hb dX9_ruledClash_106 (lv_at hl 1 rfl) ?_
                  refine lv_iload hx hb dX9_ruledClash_108 (lv_at hl 5 rfl) ?_
                  refine q_call_i hA hK hw (va_runV (As := [.int (iI y8_74)]) (rest := []) ⟨hx, hb, hml, hown, hts⟩ (c_X0_timeOf zo l D cy L0 fw74 w0_16 y8_74 ly8_74 uy8_74 m_w0_16 o_w0_16 hg _) (cwV 1 hts (gT (inV (mr37 _ (List.mem_of_getElem? (i := 4) rfl)) (mr30 _ (List.mem_of_getElem? (i := 0) rfl)) (mr30 _ (List.mem_of_getElem? (i := 1) rfl)) (mr2 _ (List.mem_of_getElem? (i := 9) rfl)) (mr30 _ (List.mem_of_getElem? (i := 2) rfl)))) rfl rfl rfl (by decide +kernel) ⟨Nat.le_of_ble_eq_true rfl, Nat.le_of_ble_eq_true rfl⟩) (Wd.preV zo hA hZ hw hK m_w0_16 o_w0_16 rfl) rfl rfl hl.1 rfl (lv_room (Nat.le_of_ble_eq_true rfl)) dX9_ruledClash_110 ⟨Nat.le_of_ble_eq_true rfl, Nat.le_of_ble_eq_true rfl⟩) (fun x_12 L1 f1 H locs lx_12 ux_12 ex_12 hw => ?_)
                  obtain ⟨rfl, rfl, ex_12⟩ := ex_12
                  refine lv_istore (lv' := [(10, .int (iI x_12)), (2, .int (iI x2)), (4, .ref w0_16), (5, .ref w0_34), (6, .int (iI y6_74)), (7, .int (iI x_5)), (8, .int (iI y8_74)), (9, .int (iI y9_74))]) hx hb dX9_ruledClash_113 hl (by decide) rfl (fun ls hl => ?_)
                  refine lv_aload hx hb dX9_ruledClash_115 (lv_at hl 3 rfl) ?_
                  refine lv_aload hx hb dX9_ruledClash_117 (lv_at hl 3 rfl) ?_
                  refine lv_iload hx hb dX9_ruledClash_119 (lv_at hl 0 rfl) ?_
                  refine lv_aload hx hb dX9_ruledClash_121 (lv_at hl 3 rfl) ?_
                  refine q_geti (ci := 0) (C := RX0) (T := TX0) (N := 15) hx hb hts (fun w h => List.mem_cons_of_mem _ (mfX00 w h)) hown hK hw m_w0_34 o_w0_34 rfl 2 (by decide) (hts _ (List.mem_cons_of_mem _ (mr32 _ (List.mem_of_getElem? (i := 9) rfl)))) (fun _ h => h) rfl dX9_ruledClash_123 (fun x_13 lx_13 ux_13 ex_13 => ?_)
                  first | refine q_isub hx hb dX9_ruledClash_126 ⟨by omega, by omega⟩ (fun x_14 lx_14 ux_14 ex_14 => ?_) | refine q_isubw hx hb dX9_ruledClash_126 (fun x_14 lx_14 ux_14 _ => ?_)
                  refine q_iconst hx hb dX9_ruledClash_127 ?_
                  first | refine q_iadd hx hb dX9_ruledClash_128 ⟨by omega, by omega⟩ (fun x_15 lx_15 ux_15 ex_15 => ?_) | refine q_iaddw hx hb dX9_ruledClash_128 (fun x_15 lx_15 ux_15 _ => ?_)
                  refine q_call_i hA hK hw (va_runV (As := [.int (iI x_15)]) (rest := [.ref w0_34]) ⟨hx, hb, hml, hown, hts⟩ (c_X0_ruledFrom zo l D cy L0 fw74 w0_34 x_15 lx_15 ux_15 m_w0_34 o_w0_34 hg _) (cwV 1 hts (gT (inV (mr37 _ (List.mem_of_getElem? (i := 5) rfl)) (mr29 _ (List.mem_of_getElem? (i := 15) rfl)) (mr29 _ (List.mem_of_getElem? (i := 16) rfl)) (mr2 _ (List.mem_of_getElem? (i := 9) rfl)) (mr29 _ (List.mem_of_getElem? (i := 17) rfl)))) rfl rfl rfl (by decide +kernel) ⟨Nat.le_of_ble_eq_true rfl, Nat.le_of_ble_eq_true rfl⟩) (Wd.preV zo hA hZ hw hK m_w0_34 o_w0_34 rfl) rfl rfl hl.1 rfl (lv_room (Nat.le_of_ble_eq_true rfl)) dX9_ruledClash_129 ⟨Nat.le_of_ble_eq_true rfl, Nat.le_of_ble_eq_true rfl⟩) (fun x_16 L1 f1 H locs lx_16 ux_16 ex_16 hw => ?_)
                  obtain ⟨rfl, rfl, ex_16⟩ := ex_16
                  refine q_call_i hA hK hw (va_runV (As := [.int (iI x_16)]) (rest := []) ⟨hx, hb, hml, hown, hts⟩ (c_X0_keyFrom zo l D cy L0 fw74 w0_34 x_16 lx_16 ux_16 m_w0_34 o_w0_34 hg _) (cwV 1 hts (gT (inV (mr24 _ (List.mem_of_getElem? (i := 12) rfl)) (mr24 _ (List.mem_of_getElem? (i := 13) rfl)) (mr24 _ (List.mem_of_getElem? (i := 14) rfl)) (mr2 _ (List.mem_of_getElem? (i := 9) rfl)) (mr24 _ (List.mem_of_getElem? (i := 15) rfl)))) rfl rfl rfl (by decide +kernel) ⟨Nat.le_of_ble_eq_true rfl, Nat.le_of_ble_eq_true rfl⟩) (Wd.preV zo hA hZ hw hK m_w0_34 o_w0_34 rfl) rfl rfl hl.1 rfl (lv_room (Nat.le_of_ble_eq_true rfl)) dX9_ruledClash_132 ⟨Nat.le_of_ble_eq_true rfl, Nat.le_of_ble_eq_true rfl⟩) (fun x_17 L1 f1 H locs lx_17 ux_17 ex_17 hw => ?_)
                  obtain ⟨rfl, rfl, ex_17⟩ := ex_17
                  refine lv_istore (lv' := [(11, .int (iI x_17)), (10, .int (iI x_12)), (2, .int (iI x2)), (4, .ref w0_16), (5, .ref w0_34), (6, .int (iI y6_74)), (7, .int (iI x_5)), (8, .int (iI y8_74)), (9, .int (iI y9_74))]) hx hb dX9_ruledClash_135 hl (by decide) rfl (fun ls hl => ?_)
                  refine lv_iload hx hb dX9_ruledClash_137 (lv_at hl 0 rfl) ?_
                  refine q_iconst hx hb dX9_ruledClash_139 ?_
                  refine q_icmp_ne (tgt := 146) hx hb dX9_ruledClash_140 (by decide) ⟨lx_17, ux_17⟩ ⟨by decide, by decide⟩ (fun c140 => ?_) (fun c140 => ?_)
                  · refine lv_aload hx hb dX9_ruledClash_146 (lv_at hl 3 rfl) ?_
                    refine lv_aload hx hb dX9_ruledClash_148 (lv_at hl 4 rfl) ?_
                    refine lv_iload hx hb dX9_ruledClash_150 (lv_at hl 0 rfl) ?_
                    refine q_call_i hA hK hw (va_runV (As := [.int (iI x_17)]) (rest := [.ref w0_16]) ⟨hx, hb, hml, hown, hts⟩ (c_X0_timeOf zo l D cy L0 fw74 w0_34 x_17 lx_17 ux_17 m_w0_34 o_w0_34 hg _) (cwV 1 hts (gT (inV (mr37 _ (List.mem_of_getElem? (i := 4) rfl)) (mr30 _ (List.mem_of_getElem? (i := 0) rfl)) (mr30 _ (List.mem_of_getElem? (i := 1) rfl)) (mr2 _ (List.mem_of_getElem? (i := 9) rfl)) (mr30 _ (List.mem_of_getElem? (i := 2) rfl)))) rfl rfl rfl (by decide +kernel) ⟨Nat.le_of_ble_eq_true rfl, Nat.le_of_ble_eq_true rfl⟩) (Wd.preV zo hA hZ hw hK m_w0_34 o_w0_34 rfl) rfl rfl hl.1 rfl (lv_room (Nat.le_of_ble_eq_true rfl)) dX9_ruledClash_152 ⟨Nat.le_of_ble_eq_true rfl, Nat.le_of_ble_eq_true rfl⟩) (fun x_18 L1 f1 H locs lx_18 ux_18 ex_18 hw => ?_)
                    obtain ⟨rfl, rfl, ex_18⟩ := ex_18
                    refine lv_aload hx hb dX9_ruledClash_155 (lv_at hl 3 rfl) ?_
                    refine q_geti (ci := 0) (C := RX0) (T := TX0) (N := 15) hx hb hts (fun w h => List.mem_cons_of_mem _ (mfX00 w h)) hown hK hw m_w0_16 o_w0_16 rfl 2 (by decide) (hts _ (List.mem_cons_of_mem _ (mr32 _ (List.mem_of_getElem? (i := 9) rfl)))) (fun _ h => h) rfl dX9_ruledClash_157 (fun x_19 lx_19 ux_19 ex_19 => ?_)
                    first | refine q_isub hx hb dX9_ruledClash_160 ⟨by omega, by omega⟩ (fun x_20 lx_20 ux_20 ex_20 => ?_) | refine q_isubw hx hb dX9_ruledClash_160 (fun x_20 lx_20 ux_20 _ => ?_)
                    refine q_iconst hx hb dX9_ruledClash_161 ?_
                    first | refine q_iadd hx hb dX9_ruledClash_162 ⟨by omega, by omega⟩ (fun x_21 lx_21 ux_21 ex_21 => ?_) | refine q_iaddw hx hb dX9_ruledClash_162 (fun x_21 lx_21 ux_21 _ => ?_)
                    refine q_call_i hA hK hw (va_runV (As := [.int (iI x_21)]) (rest := []) ⟨hx, hb, hml, hown, hts⟩ (c_X0_ruledFrom zo l D cy L0 fw74 w0_16 x_21 lx_21 ux_21 m_w0_16 o_w0_16 hg _) (cwV 1 hts (gT (inV (mr37 _ (List.mem_of_getElem? (i := 5) rfl)) (mr29 _ (List.mem_of_getElem? (i := 15) rfl)) (mr29 _ (List.mem_of_getElem? (i := 16) rfl)) (mr2 _ (List.mem_of_getElem? (i := 9) rfl)) (mr29 _ (List.mem_of_getElem? (i := 17) rfl)))) rfl rfl rfl (by decide +kernel) ⟨Nat.le_of_ble_eq_true rfl, Nat.le_of_ble_eq_true rfl⟩) (Wd.preV zo hA hZ hw hK m_w0_16 o_w0_16 rfl) rfl rfl hl.1 rfl (lv_room (Nat.le_of_ble_eq_true rfl)) dX9_ruledClash_163 ⟨Nat.le_of_ble_eq_true rfl, Nat.le_of_ble_eq_true rfl⟩) (fun x_22 L1 f1 H locs lx_22 ux_22 ex_22 hw => ?_)
                    obtain ⟨rfl, rfl, ex_22⟩ := ex_22
                    refine lv_istore (lv' := [(12, .int (iI x_22)), (11, .int (iI x_17)), (10, .int (iI x_12)), (2, .int (iI x2)), (4, .ref w0_16), (5, .ref w0_34), (6, .int (iI y6_74)), (7, .int (iI x_5)), (8, .int (iI y8_74)), (9, .int (iI y9_74))]) hx hb dX9_ruledClash_166 hl (by decide) rfl (fun ls hl => ?_)
                    refine lv_iload hx hb dX9_ruledClash_168 (lv_at hl 0 rfl) ?_
                    refine lv_iload hx hb dX9_ruledClash_170 (lv_at hl 8 rfl) ?_
                    have J229 : ∀ (z6_229 : Int) (lz6_229 : -2147483648 ≤ z6_229) (uz6_229 : z6_229 ≤ 2147483647) (z8_229 : Int) (lz8_229 : -2147483648 ≤ z8_229) (uz8_229 : z8_229 ≤ 2147483647) (L : List Nat) (fw229 : Nat → va_E) (hg : GI cy L0 fw229) (hE : Eh cy f0 fw229) (o_w0_16 : Ob fw229 w0_16 0) (o_w0_34 : Ob fw229 w0_34 0) (H : Heap) (locs : List Loc) (ls : Array Slot) (hw : Wd D A s.heap L0 fw229 H locs) (hl : lv_has ls 13 [(2, .int (iI x2)), (4, .ref w0_16), (5, .ref w0_34), (6, .int (iI z6_229)), (7, .int (iI x_5)), (8, .int (iI z8_229)), (9, .int (iI y9_74))]), W p l e ({ frames := 6, cells := 0, slots := 0, locals := 140 } : Room) s m ([.ref a0, .ref a1, .int (iI x2), .int (iI x3)] : List Value).toArray below meth c H locs (0 + 0 + 0 + 0 + 0 + 0 + 0 + 0 + 0) (0 + 0 + 0 + 0 + 0 + 0 + 0 + 0 + 0) (MQ below (Qi D (tq cy) L0 f0 s.heap.size (fun (r : Int) (L1 : List Nat) (f1 : Nat → va_E) => L0 = L1 ∧ GI cy L0 f1 ∧ Eh cy f0 f1 ∧ (True))) ([.ref a0, .ref a1, .int (iI x2), .int (iI x3)] : List Value).toArray s 0 0 A) (F0 m 229 ls []) := by
                      intro z6_229 lz6_229 uz6_229 z8_229 lz8_229 uz8_229 L fw229 hg hE o_w0_16 o_w0_34 H locs ls hw hl
                      obtain ⟨x_23, lx_23, ux_23, hx_23, ex_23⟩ := q_inc y9_74 (1)
                      try (replace ex_23 : x_23 = y9_74 + (1) := by omega)
                      refine lv_iinc (v := iI x_23) (lv' := [(9, .int (iI x_23)), (2, .int (iI x2)), (4, .ref w0_16), (5, .ref w0_34), (6, .int (iI z6_229)), (7, .int (iI x_5)), (8, .int (iI z8_229))]) hx hb dX9_ruledClash_229 hl (k := 6) rfl hx_23 (by decide) rfl (fun ls hl => ?_)
                      refine lv_goto (tgt := 74) hx hb dX9_ruledClash_232 (by decide) ?_
                      exact ih74 z6_229 lz6_229 uz6_229 z8_229 lz8_229 uz8_229 x_23 lx_23 ux_23 L0 fw229 hg hE o_w0_16 o_w0_34 (by omega) (by omega) _ _ _ hw (lv_sub hl [1, 2, 3, 4, 5, 6, 0] rfl)
                    refine q_icmp_le (tgt := 187) hx hb dX9_ruledClash_172 (by decide) ⟨lx_22, ux_22⟩ ⟨ly8_74, uy8_74⟩ (fun c172 => ?_) (fun c172 => ?_)
                    · refine lv_aload hx hb dX9_ruledClash_187 (lv_at hl 4 rfl) ?_
                      refine lv_iload hx hb dX9_ruledClash_189 (lv_at hl 8 rfl) ?_
                      refine q_call_i hA hK hw (va_runV (As := [.int (iI y8_74)]) (rest := []) ⟨hx, hb, hml, hown, hts⟩ (c_X0_changeOf zo l D cy L0 fw74 w0_16 y8_74 ly8_74 uy8_74 m_w0_16 o_w0_16 hg _) (cwV 1 hts (gT (inV (mr37 _ (List.mem_of_getElem? (i := 6) rfl)) (mr26 _ (List.mem_of_getElem? (i := 16) rfl)) (mr26 _ (List.mem_of_getElem? (i := 17) rfl)) (mr2 _ (List.mem_of_getElem? (i := 9) rfl)) (mr26 _ (List.mem_of_getElem? (i := 18) rfl)))) rfl rfl rfl (by decide +kernel) ⟨Nat.le_of_ble_eq_true rfl, Nat.le_of_ble_eq_true rfl⟩) (Wd.preV zo hA hZ hw hK m_w0_16 o_w0_16 rfl) rfl rfl hl.1 rfl (lv_room (Nat.le_of_ble_eq_true rfl)) dX9_ruledClash_191 ⟨Nat.le_of_ble_eq_true rfl, Nat.le_of_ble_eq_true rfl⟩) (fun x_24 L1 f1 H locs lx_24 ux_24 ex_24 hw => ?_)
                      obtain ⟨rfl, rfl, ex_24⟩ := ex_24
                      refine q_iconst hx hb dX9_ruledClash_194 ?_
                      have J218 : ∀ (z6_218 : Int) (lz6_218 : -2147483648 ≤ z6_218) (uz6_218 : z6_218 ≤ 2147483647) (L : List Nat) (fw218 : Nat → va_E) (hg : GI cy L0 fw218) (hE : Eh cy f0 fw218) (o_w0_16 : Ob fw218 w0_16 0) (o_w0_34 : Ob fw218 w0_34 0) (H : Heap) (locs : List Loc) (ls : Array Slot) (hw : Wd D A s.heap L0 fw218 H locs) (hl : lv_has ls 13 [(2, .int (iI x2)), (4, .ref w0_16), (5, .ref w0_34), (6, .int (iI z6_218)), (7, .int (iI x_5)), (8, .int (iI y8_74)), (9, .int (iI y9_74))]), W p l e ({ frames := 6, cells := 0, slots := 0, locals := 140 } : Room) s m ([.ref a0, .ref a1, .int (iI x2), .int (iI x3)] : List Value).toArray below meth c H locs (0 + 0 + 0 + 0 + 0 + 0 + 0 + 0 + 0 + 0) (0 + 0 + 0 + 0 + 0 + 0 + 0 + 0 + 0 + 0) (MQ below (Qi D (tq cy) L0 f0 s.heap.size (fun (r : Int) (L1 : List Nat) (f1 : Nat → va_E) => L0 = L1 ∧ GI cy L0 f1 ∧ Eh cy f0 f1 ∧ (True))) ([.ref a0, .ref a1, .int (iI x2), .int (iI x3)] : List Value).toArray s 0 0 A) (F0 m 218 ls []) := by
                        intro z6_218 lz6_218 uz6_218 L fw218 hg hE o_w0_16 o_w0_34 H locs ls hw hl
                        refine lv_aload hx hb dX9_ruledClash_218 (lv_at hl 1 rfl) ?_
                        refine lv_iload hx hb dX9_ruledClash_220 (lv_at hl 5 rfl) ?_
                        refine q_iconst hx hb dX9_ruledClash_222 ?_
                        first | refine q_iadd hx hb dX9_ruledClash_223 ⟨by omega, by omega⟩ (fun x_25 lx_25 ux_25 ex_25 => ?_) | refine q_iaddw hx hb dX9_ruledClash_223 (fun x_25 lx_25 ux_25 _ => ?_)
                        refine q_call_i hA hK hw (va_runV (As := [.int (iI x_25)]) (rest := []) ⟨hx, hb, hml, hown, hts⟩ (c_X0_keyFrom zo l D cy L0 fw218 w0_16 x_25 lx_25 ux_25 m_w0_16 o_w0_16 hg _) (cwV 1 hts (gT (inV (mr24 _ (List.mem_of_getElem? (i := 12) rfl)) (mr24 _ (List.mem_of_getElem? (i := 13) rfl)) (mr24 _ (List.mem_of_getElem? (i := 14) rfl)) (mr2 _ (List.mem_of_getElem? (i := 9) rfl)) (mr24 _ (List.mem_of_getElem? (i := 15) rfl)))) rfl rfl rfl (by decide +kernel) ⟨Nat.le_of_ble_eq_true rfl, Nat.le_of_ble_eq_true rfl⟩) (Wd.preV zo hA hZ hw hK m_w0_16 o_w0_16 rfl) rfl rfl hl.1 rfl (lv_room (Nat.le_of_ble_eq_true rfl)) dX9_ruledClash_224 ⟨Nat.le_of_ble_eq_true rfl, Nat.le_of_ble_eq_true rfl⟩) (fun x_26 L1 f1 H locs lx_26 ux_26 ex_26 hw => ?_)
                        obtain ⟨rfl, rfl, ex_26⟩ := ex_26
                        refine lv_istore (lv' := [(8, .int (iI x_26)), (2, .int (iI x2)), (4, .ref w0_16), (5, .ref w0_34), (6, .int (iI z6_218)), (7, .int (iI x_5)), (9, .int (iI y9_74))]) hx hb dX9_ruledClash_227 hl (by decide) rfl (fun ls hl => ?_)
                        exact J229 z6_218 lz6_218 uz6_218 x_26 lx_26 ux_26 L0 fw218 hg hE o_w0_16 o_w0_34 _ _ _ hw (lv_sub hl [1, 2, 3, 4, 5, 0, 6] rfl)
                      refine q_icmp_ne (tgt := 218) hx hb dX9_ruledClash_195 (by decide) ⟨lx_24, ux_24⟩ ⟨by decide, by decide⟩ (fun c195 => ?_) (fun c195 => ?_)
                      · exact J218 y6_74 ly6_74 uy6_74 L0 fw74 hg hE o_w0_16 o_w0_34 _ _ _ hw (lv_sub hl [3, 4, 5, 6, 7, 8, 9] rfl)
                      · refine lv_iload hx hb dX9_ruledClash_198 (lv_at hl 6 rfl) ?_
                        refine lv_aload hx hb dX9_ruledClash_200 (lv_at hl 5 rfl) ?_
                        refine lv_iload hx hb dX9_ruledClash_202 (lv_at hl 2 rfl) ?_
                        refine lv_aload hx hb dX9_ruledClash_204 (lv_at hl 4 rfl) ?_
                        refine q_geti (ci := 0) (C := RX0) (T := TX0) (N := 15) hx hb hts (fun w h => List.mem_cons_of_mem _ (mfX00 w h)) hown hK hw m_w0_16 o_w0_16 rfl 2 (by decide) (hts _ (List.mem_cons_of_mem _ (mr32 _ (List.mem_of_getElem? (i := 9) rfl)))) (fun _ h => h) rfl dX9_ruledClash_206 (fun x_27 lx_27 ux_27 ex_27 => ?_)
                        refine lv_iload_n hx hb dX9_ruledClash_209 rfl (lv_at hl 3 rfl) ?_
                        refine q_call_i hA hK hw (va_runV (As := [.int (iI x_12), .int (iI x_27), .int (iI x2)]) (rest := [.int (iI y6_74)]) ⟨hx, hb, hml, hown, hts⟩ (c_X0_meet_h zo l D cy L0 fw74 w0_34 x_12 lx_12 ux_12 x_27 lx_27 ux_27 x2 lx2 ux2 m_w0_34 o_w0_34 hg _) (cwV 3 hts (gT (inV (mr35 _ (List.mem_of_getElem? (i := 8) rfl)) (mr35 _ (List.mem_of_getElem? (i := 9) rfl)) (mr35 _ (List.mem_of_getElem? (i := 10) rfl)) (mr2 _ (List.mem_of_getElem? (i := 9) rfl)) (mr35 _ (List.mem_of_getElem? (i := 11) rfl)))) rfl rfl rfl (by decide +kernel) ⟨Nat.le_of_ble_eq_true rfl, Nat.le_of_ble_eq_true rfl⟩) (Wd.preV zo hA hZ hw hK m_w0_34 o_w0_34 rfl) rfl rfl hl.1 rfl (lv_room (Nat.le_of_ble_eq_true rfl)) dX9_ruledClash_210 ⟨Nat.le_of_ble_eq_true rfl, Nat.le_of_ble_eq_true rfl⟩) (fun x_28 L1 f_29 H locs lx_28 ux_28 ex_28 hw => ?_)
                        obtain ⟨rfl, hg, hX, ex_28⟩ := ex_28
                        have hE := hE.trans hX
                        have o_w0_16 := hX.1.1.1 _ _ o_w0_16
                        have o_w0_34 := hX.1.1.1 _ _ o_w0_34
                        refine q_min hx hb (hml.trans hl.1.symm) hown (hts _ (List.mem_cons_of_mem _ (mr35 _ (List.mem_of_getElem? (i := 7) rfl)))) (hts _ (List.mem_cons_of_mem _ (mr6 _ (List.mem_of_getElem? (i := 13) rfl)))) (hts _ (List.mem_cons_of_mem _ (mr6 _ (List.mem_of_getElem? (i := 14) rfl)))) (hts _ (List.mem_cons_of_mem _ (mr6 _ (List.mem_of_getElem? (i := 15) rfl)))) (Nat.le_of_ble_eq_true rfl) (Nat.le_of_ble_eq_true rfl) (Nat.le_of_ble_eq_true rfl) (Nat.le_of_ble_eq_true rfl) ⟨ly6_74, uy6_74⟩ ⟨lx_28, ux_28⟩ dX9_ruledClash_213 (fun x_30 lx_30 ux_30 ex_30 => ?_)
                        refine lv_istore (lv' := [(6, .int (iI x_30)), (12, .int (iI x_22)), (11, .int (iI x_17)), (10, .int (iI x_12)), (2, .int (iI x2)), (4, .ref w0_16), (5, .ref w0_34), (7, .int (iI x_5)), (8, .int (iI y8_74)), (9, .int (iI y9_74))]) hx hb dX9_ruledClash_216 hl (by decide) rfl (fun ls hl => ?_)
                        exact J218 x_30 lx_30 ux_30 L0 f_29 hg hE o_w0_16 o_w0_34 _ _ _ hw (lv_sub hl [4, 5, 6, 0, 7, 8, 9] rfl)
                    · refine lv_aload hx hb dX9_ruledClash_175 (lv_at hl 4 rfl) ?_
                      refine lv_iload hx hb dX9_ruledClash_177 (lv_at hl 0 rfl) ?_
                      refine q_call_i hA hK hw (va_runV (As := [.int (iI x_22)]) (rest := []) ⟨hx, hb, hml, hown, hts⟩ (c_X0_keyFrom zo l D cy L0 fw74 w0_16 x_22 lx_22 ux_22 m_w0_16 o_w0_16 hg _) (cwV 1 hts (gT (inV (mr24 _ (List.mem_of_getElem? (i := 12) rfl)) (mr24 _ (List.mem_of_getElem? (i := 13) rfl)) (mr24 _ (List.mem_of_getElem? (i := 14) rfl)) (mr2 _ (List.mem_of_getElem? (i := 9) rfl)) (mr24 _ (List.mem_of_getElem? (i := 15) rfl)))) rfl rfl rfl (by decide +kernel) ⟨Nat.le_of_ble_eq_true rfl, Nat.le_of_ble_eq_true rfl⟩) (Wd.preV zo hA hZ hw hK m_w0_16 o_w0_16 rfl) rfl rfl hl.1 rfl (lv_room (Nat.le_of_ble_eq_true rfl)) dX9_ruledClash_179 ⟨Nat.le_of_ble_eq_true rfl, Nat.le_of_ble_eq_true rfl⟩) (fun x_31 L1 f1 H locs lx_31 ux_31 ex_31 hw => ?_)
                      obtain ⟨rfl, rfl, ex_31⟩ := ex_31
                      refine lv_istore (lv' := [(8, .int (iI x_31)), (12, .int (iI x_22)), (11, .int (iI x_17)), (10, .int (iI x_12)), (2, .int (iI x2)), (4, .ref w0_16), (5, .ref w0_34), (6, .int (iI y6_74)), (7, .int (iI x_5)), (9, .int (iI y9_74))]) hx hb dX9_ruledClash_182 hl (by decide) rfl (fun ls hl => ?_)
                      refine lv_goto (tgt := 229) hx hb dX9_ruledClash_184 (by decide) ?_
                      exact J229 y6_74 ly6_74 uy6_74 x_31 lx_31 ux_31 L0 fw74 hg hE o_w0_16 o_w0_34 _ _ _ hw (lv_sub hl [4, 5, 6, 7, 8, 0, 9] rfl)
                  · refine lv_iload hx hb dX9_ruledClash_143 (lv_at hl 5 rfl) ?_
                    exact q_ret_i hx hb hr hlocks hK hAe hw ⟨ly6_74, uy6_74⟩ (Nat.le_of_ble_eq_true rfl) (Nat.le_of_ble_eq_true rfl) dX9_ruledClash_145 (by exact ⟨rfl, hg, hE, by first | trivial | omega⟩)
      exact J74 ((((2147483647 : Int) - 0).toNat) + 1) x3 lx3 ux3 x_10 lx_10 ux_10 0 (by decide) (by decide) L0 f0 hg hE o_w0_16 o_w0_34 (by omega) (by omega) _ _ _ hw (lv_sub hl [5, 7, 4, 3, 2, 1, 0] rfl)
    refine q_icmp_gt (tgt := 33) hx hb dX9_ruledClash_26 (by decide) ⟨lx_3, ux_3⟩ ⟨lx_4, ux_4⟩ (fun c26 => ?_) (fun c26 => ?_)
    · refine lv_aload_n hx hb dX9_ruledClash_33 rfl (lv_at hl 1 rfl) ?_
      exact J34 a0 m_a0 o_a0 _ _ _ hw (lv_sub hl [3, 4, 0] rfl)
    · refine lv_aload_n hx hb dX9_ruledClash_29 rfl (lv_at hl 2 rfl) ?_
      refine lv_goto (tgt := 34) hx hb dX9_ruledClash_30 (by decide) ?_
      exact J34 a1 m_a1 o_a1 _ _ _ hw (lv_sub hl [3, 4, 0] rfl)
  refine q_icmp_gt (tgt := 15) hx hb dX9_ruledClash_8 (by decide) ⟨lx_1, ux_1⟩ ⟨lx_2, ux_2⟩ (fun c8 => ?_) (fun c8 => ?_)
  · refine lv_aload_n hx hb dX9_ruledClash_15 rfl (lv_at hl 1 rfl) ?_
    exact J16 a1 m_a1 o_a1 _ _ _ hw (lv_sub hl [0, 1, 2, 3] rfl)
  · refine lv_aload_n hx hb dX9_ruledClash_11 rfl (lv_at hl 0 rfl) ?_
    refine lv_goto (tgt := 16) hx hb dX9_ruledClash_12 (by decide) ?_
    exact J16 a0 m_a0 o_a0 _ _ _ hw (lv_sub hl [0, 1, 2, 3] rfl)
set_option maxHeartbeats 4000000 in
set_option maxRecDepth 100000 in
theorem c_X9_countMet_h {Z : Zt} (zo : Zok Z) (l : Launch) (D : va_G) (cy : Cy) (L0 : List Nat) (f0 : Nat → va_E) (a0 : Nat) (a1 : Nat) (x2 : Int) (lx2 : -2147483648 ≤ x2) (ux2 : x2 ≤ 2147483647) (x3 : Int) (lx3 : -2147483648 ≤ x3) (ux3 : x3 ≤ 2147483647) (x4 : Int) (lx4 : -2147483648 ≤ x4) (ux4 : x4 ≤ 2147483647) (m_a0 : a0 ∈ L0) (o_a0 : Ob f0 a0 0) (m_a1 : a1 ∈ L0) (o_a1 : Ob f0 a1 0) (hg : GI cy L0 f0) : Ci Z l yX9_countMet (Cond.code yX9_countMet cX9_countMet 8 (some .int) :: TB) ({ frames := 5, cells := 0, slots := 0, locals := 122 } : Room) 0 0 D (tq cy) [.ref a0, .ref a1, .int (iI x2), .int (iI x3), .int (iI x4)] L0 f0 (fun (r : Int) (L1 : List Nat) (f1 : Nat → va_E) => L0 = L1 ∧ GI cy L0 f1 ∧ Eh cy f0 f1 ∧ (True)) := by
  refine Ci.enter (cc := cX9_countMet) (n := 8) rfl (plainFor_of_name (by decide)) (Nat.le_of_ble_eq_true rfl) ?_
  intro p e s m below meth c ls A hx hb hr hts hown hlocks hnm hml hK hA hAe hw hZ hl
  have hown : s.vm.findClass RX9 = some m.cls := hown
  have hl : lv_has ls 8 [(0, .ref a0), (1, .ref a1), (2, .int (iI x2)), (3, .int (iI x3)), (4, .int (iI x4))] := hl
  have hN : ZN s := (zo.2.2.2.2 _ _ _ hZ).2
  have hE : Eh cy f0 f0 := Eh.refl cy f0
  refine q_iconst hx hb dX9_countMet_0 ?_
  refine lv_istore (lv' := [(5, .int (iI 0)), (0, .ref a0), (1, .ref a1), (2, .int (iI x2)), (3, .int (iI x3)), (4, .int (iI x4))]) hx hb dX9_countMet_1 hl (by decide) rfl (fun ls hl => ?_)
  refine lv_aload_n hx hb dX9_countMet_3 rfl (lv_at hl 1 rfl) ?_
  refine lv_iload_n hx hb dX9_countMet_4 rfl (lv_at hl 3 rfl) ?_
  refine q_iconst hx hb dX9_countMet_5 ?_
  refine q_call_i hA hK hw (va_runV (As := [.int (iI x2), .int (iI 0)]) (rest := []) ⟨hx, hb, hml, hown, hts⟩ (c_X0_seek_h zo l D cy L0 f0 a0 x2 lx2 ux2 0 (by decide) (by decide) m_a0 o_a0 hg _) (cwV 2 hts (gT (inV (mr29 _ (List.mem_of_getElem? (i := 7) rfl)) (mr29 _ (List.mem_of_getElem? (i := 8) rfl)) (mr29 _ (List.mem_of_getElem? (i := 9) rfl)) (mr2 _ (List.mem_of_getElem? (i := 9) rfl)) (mr29 _ (List.mem_of_getElem? (i := 10) rfl)))) rfl rfl rfl (by decide +kernel) ⟨Nat.le_of_ble_eq_true rfl, Nat.le_of_ble_eq_true rfl⟩) (Wd.preV zo hA hZ hw hK m_a0 o_a0 rfl) rfl rfl hl.1 rfl (lv_room (Nat.le_of_ble_eq_true rfl)) dX9_countMet_6 ⟨Nat.le_of_ble_eq_true rfl, Nat.le_of_ble_eq_true rfl⟩) (fun x_1 L1 f_2 H locs lx_1 ux_1 ex_1 hw => ?_)
  obtain ⟨rfl, hg, hX, ex_1⟩ := ex_1
  have hE := hE.trans hX
  have o_a0 := hX.1.1.1 _ _ o_a0
  have o_a1 := hX.1.1.1 _ _ o_a1
  refine lv_istore (lv' := [(6, .int (iI x_1)), (5, .int (iI 0)), (0, .ref a0), (1, .ref a1), (2, .int (iI x2)), (3, .int (iI x3)), (4, .int (iI x4))]) hx hb dX9_countMet_9 hl (by decide) rfl (fun ls hl => ?_)
  refine q_iconst hx hb dX9_countMet_11 ?_
  refine lv_istore (lv' := [(7, .int (iI 0)), (6, .int (iI x_1)), (5, .int (iI 0)), (0, .ref a0), (1, .ref a1), (2, .int (iI x2)), (3, .int (iI x3)), (4, .int (iI x4))]) hx hb dX9_countMet_12 hl (by decide) rfl (fun ls hl => ?_)
  have J14 : ∀ (n14 : Nat) (y5_14 : Int) (ly5_14 : -2147483648 ≤ y5_14) (uy5_14 : y5_14 ≤ 2147483647) (y6_14 : Int) (ly6_14 : -2147483648 ≤ y6_14) (uy6_14 : y6_14 ≤ 2147483647) (y7_14 : Int) (ly7_14 : -2147483648 ≤ y7_14) (uy7_14 : y7_14 ≤ 2147483647) (L : List Nat) (fw14 : Nat → va_E) (hg : GI cy L0 fw14) (hE : Eh cy f0 fw14) (o_a0 : Ob fw14 a0 0) (o_a1 : Ob fw14 a1 0) (hn14 : ((2147483647 : Int) - y7_14).toNat < n14) (H : Heap) (locs : List Loc) (ls : Array Slot) (hw : Wd D A s.heap L0 fw14 H locs) (hl : lv_has ls 8 [(0, .ref a0), (1, .ref a1), (3, .int (iI x3)), (4, .int (iI x4)), (5, .int (iI y5_14)), (6, .int (iI y6_14)), (7, .int (iI y7_14))]), W p l e ({ frames := 5, cells := 0, slots := 0, locals := 122 } : Room) s m ([.ref a0, .ref a1, .int (iI x2), .int (iI x3), .int (iI x4)] : List Value).toArray below meth c H locs (0 + 0) (0 + 0) (MQ below (Qi D (tq cy) L0 f0 s.heap.size (fun (r : Int) (L1 : List Nat) (f1 : Nat → va_E) => L0 = L1 ∧ GI cy L0 f1 ∧ Eh cy f0 f1 ∧ (True))) ([.ref a0, .ref a1, .int (iI x2), .int (iI x3), .int (iI x4)] : List Value).toArray s 0 0 A) (F0 m 14 ls []) := by
    intro n14
    induction n14 with
    | zero => intro y5_14 ly5_14 uy5_14 y6_14 ly6_14 uy6_14 y7_14 ly7_14 uy7_14 L fw14 hg hE o_a0 o_a1 hn14; exact absurd hn14 (Nat.not_lt_zero _)
    | succ n14 ih14 =>
      intro y5_14 ly5_14 uy5_14 y6_14 ly6_14 uy6_14 y7_14 ly7_14 uy7_14 L fw14 hg hE o_a0 o_a1 hn14 H locs ls hw hl
      refine lv_iload hx hb dX9_countMet_14 (lv_at hl 6 rfl) ?_
      refine q_ldc (n := 36524) hx hb hown (hts _ (List.mem_cons_of_mem _ (mr23 _ (List.mem_of_getElem? (i := 16) rfl)))) rfl dX9_countMet_16 ?_
      refine q_icmp_gt (tgt := 83) hx hb dX9_countMet_18 (by decide) ⟨ly7_14, uy7_14⟩ ⟨by decide, by decide⟩ (fun c18 => ?_) (fun c18 => ?_)
      · refine lv_iload hx hb dX9_countMet_83 (lv_at hl 4 rfl) ?_
        exact q_ret_i hx hb hr hlocks hK hAe hw ⟨ly5_14, uy5_14⟩ (Nat.le_of_ble_eq_true rfl) (Nat.le_of_ble_eq_true rfl) dX9_countMet_85 (by exact ⟨rfl, hg, hE, by first | trivial | omega⟩)
      · refine lv_iload hx hb dX9_countMet_21 (lv_at hl 5 rfl) ?_
        refine q_if_eq (tgt := 83) hx hb dX9_countMet_23 (by decide) ⟨ly6_14, uy6_14⟩ (fun c23 => ?_) (fun c23 => ?_)
        · refine lv_iload hx hb dX9_countMet_83 (lv_at hl 4 rfl) ?_
          exact q_ret_i hx hb hr hlocks hK hAe hw ⟨ly5_14, uy5_14⟩ (Nat.le_of_ble_eq_true rfl) (Nat.le_of_ble_eq_true rfl) dX9_countMet_85 (by exact ⟨rfl, hg, hE, by first | trivial | omega⟩)
        · refine lv_aload_n hx hb dX9_countMet_26 rfl (lv_at hl 0 rfl) ?_
          refine q_geti (ci := 0) (C := RX0) (T := TX0) (N := 15) hx hb hts (fun w h => List.mem_cons_of_mem _ (mfX00 w h)) hown hK hw m_a0 o_a0 rfl 13 (by decide) (hts _ (List.mem_cons_of_mem _ (mr34 _ (List.mem_of_getElem? (i := 4) rfl)))) (fun _ h => h) rfl dX9_countMet_27 (fun x_3 lx_3 ux_3 ex_3 => ?_)
          refine lv_iload_n hx hb dX9_countMet_30 rfl (lv_at hl 2 rfl) ?_
          refine q_icmp_gt (tgt := 83) hx hb dX9_countMet_31 (by decide) ⟨lx_3, ux_3⟩ ⟨lx3, ux3⟩ (fun c31 => ?_) (fun c31 => ?_)
          · refine lv_iload hx hb dX9_countMet_83 (lv_at hl 4 rfl) ?_
            exact q_ret_i hx hb hr hlocks hK hAe hw ⟨ly5_14, uy5_14⟩ (Nat.le_of_ble_eq_true rfl) (Nat.le_of_ble_eq_true rfl) dX9_countMet_85 (by exact ⟨rfl, hg, hE, by first | trivial | omega⟩)
          · refine lv_iload hx hb dX9_countMet_34 (lv_at hl 4 rfl) ?_
            refine lv_aload_n hx hb dX9_countMet_36 rfl (lv_at hl 1 rfl) ?_
            refine lv_aload_n hx hb dX9_countMet_37 rfl (lv_at hl 0 rfl) ?_
            refine q_geti (ci := 0) (C := RX0) (T := TX0) (N := 15) hx hb hts (fun w h => List.mem_cons_of_mem _ (mfX00 w h)) hown hK hw m_a0 o_a0 rfl 13 (by decide) (hts _ (List.mem_cons_of_mem _ (mr34 _ (List.mem_of_getElem? (i := 4) rfl)))) (fun _ h => h) rfl dX9_countMet_38 (fun x_4 lx_4 ux_4 ex_4 => ?_)
            refine lv_aload_n hx hb dX9_countMet_41 rfl (lv_at hl 1 rfl) ?_
            refine q_geti (ci := 0) (C := RX0) (T := TX0) (N := 15) hx hb hts (fun w h => List.mem_cons_of_mem _ (mfX00 w h)) hown hK hw m_a1 o_a1 rfl 2 (by decide) (hts _ (List.mem_cons_of_mem _ (mr32 _ (List.mem_of_getElem? (i := 9) rfl)))) (fun _ h => h) rfl dX9_countMet_42 (fun x_5 lx_5 ux_5 ex_5 => ?_)
            first | refine q_isub hx hb dX9_countMet_45 ⟨by omega, by omega⟩ (fun x_6 lx_6 ux_6 ex_6 => ?_) | refine q_isubw hx hb dX9_countMet_45 (fun x_6 lx_6 ux_6 _ => ?_)
            refine q_iconst hx hb dX9_countMet_46 ?_
            first | refine q_iadd hx hb dX9_countMet_47 ⟨by omega, by omega⟩ (fun x_7 lx_7 ux_7 ex_7 => ?_) | refine q_iaddw hx hb dX9_countMet_47 (fun x_7 lx_7 ux_7 _ => ?_)
            refine lv_aload_n hx hb dX9_countMet_48 rfl (lv_at hl 0 rfl) ?_
            refine q_geti (ci := 0) (C := RX0) (T := TX0) (N := 15) hx hb hts (fun w h => List.mem_cons_of_mem _ (mfX00 w h)) hown hK hw m_a0 o_a0 rfl 13 (by decide) (hts _ (List.mem_cons_of_mem _ (mr34 _ (List.mem_of_getElem? (i := 4) rfl)))) (fun _ h => h) rfl dX9_countMet_49 (fun x_8 lx_8 ux_8 ex_8 => ?_)
            refine lv_iload hx hb dX9_countMet_52 (lv_at hl 3 rfl) ?_
            first | refine q_isub hx hb dX9_countMet_54 ⟨by omega, by omega⟩ (fun x_9 lx_9 ux_9 ex_9 => ?_) | refine q_isubw hx hb dX9_countMet_54 (fun x_9 lx_9 ux_9 _ => ?_)
            refine q_call_i hA hK hw (va_runV (As := [.int (iI x_7), .int (iI x_9)]) (rest := [.int (iI y5_14)]) ⟨hx, hb, hml, hown, hts⟩ (c_X0_beginsIn zo l D cy L0 fw14 a1 x_7 lx_7 ux_7 x_9 lx_9 ux_9 m_a1 o_a1 hg _) (cwV 2 hts (gT (inV (mr31 _ (List.mem_of_getElem? (i := 15) rfl)) (mr31 _ (List.mem_of_getElem? (i := 16) rfl)) (mr31 _ (List.mem_of_getElem? (i := 17) rfl)) (mr2 _ (List.mem_of_getElem? (i := 9) rfl)) (mr31 _ (List.mem_of_getElem? (i := 18) rfl)))) rfl rfl rfl (by decide +kernel) ⟨Nat.le_of_ble_eq_true rfl, Nat.le_of_ble_eq_true rfl⟩) (Wd.preV zo hA hZ hw hK m_a1 o_a1 rfl) rfl rfl hl.1 rfl (lv_room (Nat.le_of_ble_eq_true rfl)) dX9_countMet_55 ⟨Nat.le_of_ble_eq_true rfl, Nat.le_of_ble_eq_true rfl⟩) (fun x_10 L1 f1 H locs lx_10 ux_10 ex_10 hw => ?_)
            obtain ⟨rfl, rfl, ex_10⟩ := ex_10
            first | refine q_iadd hx hb dX9_countMet_58 ⟨by omega, by omega⟩ (fun x_11 lx_11 ux_11 ex_11 => ?_) | refine q_iaddw hx hb dX9_countMet_58 (fun x_11 lx_11 ux_11 _ => ?_)
            refine lv_istore (lv' := [(5, .int (iI x_11)), (0, .ref a0), (1, .ref a1), (3, .int (iI x3)), (4, .int (iI x4)), (6, .int (iI y6_14)), (7, .int (iI y7_14))]) hx hb dX9_countMet_59 hl (by decide) rfl (fun ls hl => ?_)
            refine lv_aload_n hx hb dX9_countMet_61 rfl (lv_at hl 1 rfl) ?_
            refine lv_aload_n hx hb dX9_countMet_62 rfl (lv_at hl 1 rfl) ?_
            refine q_geti (ci := 0) (C := RX0) (T := TX0) (N := 15) hx hb hts (fun w h => List.mem_cons_of_mem _ (mfX00 w h)) hown hK hw m_a0 o_a0 rfl 13 (by decide) (hts _ (List.mem_cons_of_mem _ (mr34 _ (List.mem_of_getElem? (i := 4) rfl)))) (fun _ h => h) rfl dX9_countMet_63 (fun x_12 lx_12 ux_12 ex_12 => ?_)
            refine lv_aload_n hx hb dX9_countMet_66 rfl (lv_at hl 1 rfl) ?_
            refine q_geti (ci := 0) (C := RX0) (T := TX0) (N := 15) hx hb hts (fun w h => List.mem_cons_of_mem _ (mfX00 w h)) hown hK hw m_a0 o_a0 rfl 14 (by decide) (hts _ (List.mem_cons_of_mem _ (mr34 _ (List.mem_of_getElem? (i := 3) rfl)))) (fun _ h => h) rfl dX9_countMet_67 (fun x_13 lx_13 ux_13 ex_13 => ?_)
            refine q_iconst hx hb dX9_countMet_70 ?_
            first | refine q_iadd hx hb dX9_countMet_71 ⟨by omega, by omega⟩ (fun x_14 lx_14 ux_14 ex_14 => ?_) | refine q_iaddw hx hb dX9_countMet_71 (fun x_14 lx_14 ux_14 _ => ?_)
            refine q_call_i hA hK hw (va_runV (As := [.int (iI x_12), .int (iI x_14)]) (rest := []) ⟨hx, hb, hml, hown, hts⟩ (c_X0_seek_h zo l D cy L0 fw14 a0 x_12 lx_12 ux_12 x_14 lx_14 ux_14 m_a0 o_a0 hg _) (cwV 2 hts (gT (inV (mr29 _ (List.mem_of_getElem? (i := 7) rfl)) (mr29 _ (List.mem_of_getElem? (i := 8) rfl)) (mr29 _ (List.mem_of_getElem? (i := 9) rfl)) (mr2 _ (List.mem_of_getElem? (i := 9) rfl)) (mr29 _ (List.mem_of_getElem? (i := 10) rfl)))) rfl rfl rfl (by decide +kernel) ⟨Nat.le_of_ble_eq_true rfl, Nat.le_of_ble_eq_true rfl⟩) (Wd.preV zo hA hZ hw hK m_a0 o_a0 rfl) rfl rfl hl.1 rfl (lv_room (Nat.le_of_ble_eq_true rfl)) dX9_countMet_72 ⟨Nat.le_of_ble_eq_true rfl, Nat.le_of_ble_eq_true rfl⟩) (fun x_15 L1 f_16 H locs lx_15 ux_15 ex_15 hw => ?_)
            obtain ⟨rfl, hg, hX, ex_15⟩ := ex_15
            have hE := hE.trans hX
            have o_a0 := hX.1.1.1 _ _ o_a0
            have o_a1 := hX.1.1.1 _ _ o_a1
            refine lv_istore (lv' := [(6, .int (iI x_15)), (5, .int (iI x_11)), (0, .ref a0), (1, .ref a1), (3, .int (iI x3)), (4, .int (iI x4)), (7, .int (iI y7_14))]) hx hb dX9_countMet_75 hl (by decide) rfl (fun ls hl => ?_)
            obtain ⟨x_17, lx_17, ux_17, hx_17, ex_17⟩ := q_inc y7_14 (1)
            try (replace ex_17 : x_17 = y7_14 + (1) := by omega)
            refine lv_iinc (v := iI x_17) (lv' := [(7, .int (iI x_17)), (6, .int (iI x_15)), (5, .int (iI x_11)), (0, .ref a0), (1, .ref a1), (3, .int (iI x3)), (4, .int (iI x4))]) hx hb dX9_countMet_77 hl (k := 6) rfl hx_17 (by decide) rfl (fun ls hl => ?_)
            refine lv_goto (tgt := 14) hx hb dX9_countMet_80 (by decide) ?_
            exact ih14 x_11 lx_11 ux_11 x_15 lx_15 ux_15 x_17 lx_17 ux_17 L0 f_16 hg hE o_a0 o_a1 (by omega) _ _ _ hw (lv_sub hl [3, 4, 5, 6, 2, 1, 0] rfl)
  exact J14 ((((2147483647 : Int) - 0).toNat) + 1) 0 (by decide) (by decide) x_1 lx_1 ux_1 0 (by decide) (by decide) L0 f_2 hg hE o_a0 o_a1 (by omega) _ _ _ hw (lv_sub hl [3, 4, 6, 7, 2, 1, 0] rfl)
set_option maxHeartbeats 4000000 in
set_option maxRecDepth 100000 in
theorem c_X9_clash_h {Z : Zt} (zo : Zok Z) (l : Launch) (D : va_G) (cy : Cy) (L0 : List Nat) (f0 : Nat → va_E) (a0 : Nat) (x1 : Int) (lx1 : -2147483648 ≤ x1) (ux1 : x1 ≤ 2147483647) (x2 : Int) (lx2 : -2147483648 ≤ x2) (ux2 : x2 ≤ 2147483647) (x3 : Int) (lx3 : -2147483648 ≤ x3) (ux3 : x3 ≤ 2147483647) (m_a0 : a0 ∈ L0) (o_a0 : Ob f0 a0 7) (hg : GI cy L0 f0) : Ci Z l yX9_clash (Cond.code yX9_clash cX9_clash 7 (some .int) :: TB) ({ frames := 7, cells := 0, slots := 0, locals := 172 } : Room) 0 0 D (tq cy) [.ref a0, .int (iI x1), .int (iI x2), .int (iI x3)] L0 f0 (fun (r : Int) (L1 : List Nat) (f1 : Nat → va_E) => L0 = L1 ∧ GI cy L0 f1 ∧ Eh cy f0 f1 ∧ (True)) := by
  refine Ci.enter (cc := cX9_clash) (n := 7) rfl (plainFor_of_name (by decide)) (Nat.le_of_ble_eq_true rfl) ?_
  intro p e s m below meth c ls A hx hb hr hts hown hlocks hnm hml hK hA hAe hw hZ hl
  have hown : s.vm.findClass RX9 = some m.cls := hown
  have hl : lv_has ls 7 [(0, .ref a0), (1, .int (iI x1)), (2, .int (iI x2)), (3, .int (iI x3))] := hl
  have hN : ZN s := (zo.2.2.2.2 _ _ _ hZ).2
  have hE : Eh cy f0 f0 := Eh.refl cy f0
  refine lv_aload_n hx hb dX9_clash_0 rfl (lv_at hl 0 rfl) ?_
  refine lv_iload_n hx hb dX9_clash_1 rfl (lv_at hl 1 rfl) ?_
  refine lv_iload_n hx hb dX9_clash_2 rfl (lv_at hl 2 rfl) ?_
  refine q_call_i hA hK hw (va_runV (As := [.int (iI x1), .int (iI x2)]) (rest := []) ⟨hx, hb, hml, hown, hts⟩ (c_X9_areTwo zo l D cy L0 f0 a0 x1 lx1 ux1 x2 lx2 ux2 m_a0 o_a0 hg _) (cwV 2 hts (gT (inV (mr34 _ (List.mem_of_getElem? (i := 22) rfl)) (mr34 _ (List.mem_of_getElem? (i := 23) rfl)) (mr35 _ (List.mem_of_getElem? (i := 0) rfl)) (mr1 _ (List.mem_of_getElem? (i := 2) rfl)) (mr35 _ (List.mem_of_getElem? (i := 1) rfl)))) rfl rfl rfl (by decide +kernel) ⟨Nat.le_of_ble_eq_true rfl, Nat.le_of_ble_eq_true rfl⟩) (Wd.preV zo hA hZ hw hK m_a0 o_a0 rfl) rfl rfl hl.1 rfl (lv_room (Nat.le_of_ble_eq_true rfl)) dX9_clash_3 ⟨Nat.le_of_ble_eq_true rfl, Nat.le_of_ble_eq_true rfl⟩) (fun x_1 L1 f1 H locs lx_1 ux_1 ex_1 hw => ?_)
  obtain ⟨rfl, rfl, ex_1⟩ := ex_1
  refine q_if_eq (tgt := 16) hx hb dX9_clash_6 (by decide) ⟨lx_1, ux_1⟩ (fun c6 => ?_) (fun c6 => ?_)
  · refine q_iconst hx hb dX9_clash_16 ?_
    exact q_ret_i hx hb hr hlocks hK hAe hw ⟨by decide, by decide⟩ (Nat.le_of_ble_eq_true rfl) (Nat.le_of_ble_eq_true rfl) dX9_clash_17 (by exact ⟨rfl, hg, hE, by first | trivial | omega⟩)
  · refine lv_iload_n hx hb dX9_clash_9 rfl (lv_at hl 3 rfl) ?_
    refine q_call_i hA hK hw (va_runS (As := [.int (iI x3)]) (rest := []) ⟨hx, hb, hml, hown, hts⟩ (c_X9_isTime zo l D cy L0 f0 x3 lx3 ux3 _) (va_cwS 1 hts (gT (inS (mr27 _ (List.mem_of_getElem? (i := 19) rfl)) (mr27 _ (List.mem_of_getElem? (i := 20) rfl)) (mr1 _ (List.mem_of_getElem? (i := 2) rfl)) (mr27 _ (List.mem_of_getElem? (i := 21) rfl)))) rfl rfl rfl (by decide +kernel) ⟨Nat.le_of_ble_eq_true rfl, Nat.le_of_ble_eq_true rfl⟩) (Wd.preS zo hA hZ hw hK) rfl rfl hl.1 rfl (lv_room (Nat.le_of_ble_eq_true rfl)) dX9_clash_10 ⟨Nat.le_of_ble_eq_true rfl, Nat.le_of_ble_eq_true rfl⟩) (fun x_2 L1 f1 H locs lx_2 ux_2 ex_2 hw => ?_)
    obtain ⟨rfl, rfl, ex_2⟩ := ex_2
    refine q_if_ne (tgt := 18) hx hb dX9_clash_13 (by decide) ⟨lx_2, ux_2⟩ (fun c13 => ?_) (fun c13 => ?_)
    · refine lv_aload_n hx hb dX9_clash_18 rfl (lv_at hl 0 rfl) ?_
      obtain ⟨r_3, er_3, m_r_3, o_r_3⟩ := (show ∃ r, fR f0 a0 2 = some r ∧ r ∈ L0 ∧ Ob f0 r 5 from hg.2.1 _ m_a0 7 2 o_a0)
      refine q_getr (ci := 7) (C := RX9) (T := TX9) (N := 4) hx hb hts (fun w h => List.mem_cons_of_mem _ (mfX90 w h)) hown hK hw m_a0 o_a0 rfl 2 (by decide) (hts _ (List.mem_cons_of_mem _ (mr1 _ (List.mem_of_getElem? (i := 20) rfl)))) (fun _ h => h) rfl er_3 dX9_clash_19 ?_
      refine lv_iload_n hx hb dX9_clash_22 rfl (lv_at hl 1 rfl) ?_
      refine q_call_r hA hK hw (va_runV (As := [.int (iI x1)]) (rest := []) ⟨hx, hb, hml, hown, hts⟩ (c_X7_at zo l D cy L0 f0 r_3 x1 lx1 ux1 m_r_3 o_r_3 hg (by omega) (by omega) _) (cwV 1 hts (gT (inV (mr24 _ (List.mem_of_getElem? (i := 8) rfl)) (mr24 _ (List.mem_of_getElem? (i := 9) rfl)) (mr24 _ (List.mem_of_getElem? (i := 10) rfl)) (mr1 _ (List.mem_of_getElem? (i := 19) rfl)) (mr24 _ (List.mem_of_getElem? (i := 11) rfl)))) rfl rfl rfl (by decide +kernel) ⟨Nat.le_of_ble_eq_true rfl, Nat.le_of_ble_eq_true rfl⟩) (Wd.preV zo hA hZ hw hK m_r_3 o_r_3 rfl) rfl rfl hl.1 rfl (lv_room (Nat.le_of_ble_eq_true rfl)) dX9_clash_23 ⟨Nat.le_of_ble_eq_true rfl, Nat.le_of_ble_eq_true rfl⟩) (fun x_4 L1 f1 H locs ex_4 hw => ?_)
      obtain ⟨rfl, rfl, ex_4⟩ := ex_4
      obtain ⟨m_x_4, o_x_4⟩ := ex_4
      refine lv_astore (lv' := [(4, .ref x_4), (0, .ref a0), (1, .int (iI x1)), (2, .int (iI x2)), (3, .int (iI x3))]) hx hb dX9_clash_26 hl (by decide) rfl (fun ls hl => ?_)
      refine lv_aload_n hx hb dX9_clash_28 rfl (lv_at hl 1 rfl) ?_
      refine q_getr (ci := 7) (C := RX9) (T := TX9) (N := 4) hx hb hts (fun w h => List.mem_cons_of_mem _ (mfX90 w h)) hown hK hw m_a0 o_a0 rfl 2 (by decide) (hts _ (List.mem_cons_of_mem _ (mr1 _ (List.mem_of_getElem? (i := 20) rfl)))) (fun _ h => h) rfl er_3 dX9_clash_29 ?_
      refine lv_iload_n hx hb dX9_clash_32 rfl (lv_at hl 3 rfl) ?_
      refine q_call_r hA hK hw (va_runV (As := [.int (iI x2)]) (rest := []) ⟨hx, hb, hml, hown, hts⟩ (c_X7_at zo l D cy L0 f0 r_3 x2 lx2 ux2 m_r_3 o_r_3 hg (by omega) (by omega) _) (cwV 1 hts (gT (inV (mr24 _ (List.mem_of_getElem? (i := 8) rfl)) (mr24 _ (List.mem_of_getElem? (i := 9) rfl)) (mr24 _ (List.mem_of_getElem? (i := 10) rfl)) (mr1 _ (List.mem_of_getElem? (i := 19) rfl)) (mr24 _ (List.mem_of_getElem? (i := 11) rfl)))) rfl rfl rfl (by decide +kernel) ⟨Nat.le_of_ble_eq_true rfl, Nat.le_of_ble_eq_true rfl⟩) (Wd.preV zo hA hZ hw hK m_r_3 o_r_3 rfl) rfl rfl hl.1 rfl (lv_room (Nat.le_of_ble_eq_true rfl)) dX9_clash_33 ⟨Nat.le_of_ble_eq_true rfl, Nat.le_of_ble_eq_true rfl⟩) (fun x_5 L1 f1 H locs ex_5 hw => ?_)
      obtain ⟨rfl, rfl, ex_5⟩ := ex_5
      obtain ⟨m_x_5, o_x_5⟩ := ex_5
      refine lv_astore (lv' := [(5, .ref x_5), (4, .ref x_4), (0, .ref a0), (1, .int (iI x1)), (2, .int (iI x2)), (3, .int (iI x3))]) hx hb dX9_clash_36 hl (by decide) rfl (fun ls hl => ?_)
      refine lv_aload hx hb dX9_clash_38 (lv_at hl 1 rfl) ?_
      refine lv_aload hx hb dX9_clash_40 (lv_at hl 0 rfl) ?_
      refine lv_iload_n hx hb dX9_clash_42 rfl (lv_at hl 5 rfl) ?_
      refine q_ldc (n := 2147483647) hx hb hown (hts _ (List.mem_cons_of_mem _ (mr34 _ (List.mem_of_getElem? (i := 13) rfl)))) rfl dX9_clash_43 ?_
      refine q_call_i hA hK hw (va_runS (As := [.ref x_4, .ref x_5, .int (iI x3), .int (iI 2147483647)]) (rest := []) ⟨hx, hb, hml, hown, hts⟩ (c_X9_movedClash_h zo l D cy L0 f0 x_4 x_5 x3 lx3 ux3 2147483647 (by decide) (by decide) m_x_4 o_x_4 m_x_5 o_x_5 hg _) (va_cwS 4 hts (gT (inS (mr35 _ (List.mem_of_getElem? (i := 2) rfl)) (mr35 _ (List.mem_of_getElem? (i := 3) rfl)) (mr1 _ (List.mem_of_getElem? (i := 2) rfl)) (mr35 _ (List.mem_of_getElem? (i := 4) rfl)))) rfl rfl rfl (by decide +kernel) ⟨Nat.le_of_ble_eq_true rfl, Nat.le_of_ble_eq_true rfl⟩) (Wd.preS zo hA hZ hw hK) rfl rfl hl.1 rfl (lv_room (Nat.le_of_ble_eq_true rfl)) dX9_clash_45 ⟨Nat.le_of_ble_eq_true rfl, Nat.le_of_ble_eq_true rfl⟩) (fun x_6 L1 f_7 H locs lx_6 ux_6 ex_6 hw => ?_)
      obtain ⟨rfl, hg, hX, ex_6⟩ := ex_6
      have hE := hE.trans hX
      have o_x_5 := hX.1.1.1 _ _ o_x_5
      have o_x_4 := hX.1.1.1 _ _ o_x_4
      have o_a0 := hX.1.1.1 _ _ o_a0
      refine lv_istore (lv' := [(6, .int (iI x_6)), (5, .ref x_5), (4, .ref x_4), (0, .ref a0), (1, .int (iI x1)), (2, .int (iI x2)), (3, .int (iI x3))]) hx hb dX9_clash_48 hl (by decide) rfl (fun ls hl => ?_)
      refine lv_aload hx hb dX9_clash_50 (lv_at hl 2 rfl) ?_
      refine lv_aload hx hb dX9_clash_52 (lv_at hl 1 rfl) ?_
      refine lv_iload_n hx hb dX9_clash_54 rfl (lv_at hl 6 rfl) ?_
      refine lv_iload hx hb dX9_clash_55 (lv_at hl 0 rfl) ?_
      refine q_call_i hA hK hw (va_runS (As := [.ref x_4, .ref x_5, .int (iI x3), .int (iI x_6)]) (rest := []) ⟨hx, hb, hml, hown, hts⟩ (c_X9_ruledClash_h zo l D cy L0 f_7 x_4 x_5 x3 lx3 ux3 x_6 lx_6 ux_6 m_x_4 o_x_4 m_x_5 o_x_5 hg _) (va_cwS 4 hts (gT (inS (mr35 _ (List.mem_of_getElem? (i := 15) rfl)) (mr35 _ (List.mem_of_getElem? (i := 16) rfl)) (mr1 _ (List.mem_of_getElem? (i := 2) rfl)) (mr35 _ (List.mem_of_getElem? (i := 17) rfl)))) rfl rfl rfl (by decide +kernel) ⟨Nat.le_of_ble_eq_true rfl, Nat.le_of_ble_eq_true rfl⟩) (Wd.preS zo hA hZ hw hK) rfl rfl hl.1 rfl (lv_room (Nat.le_of_ble_eq_true rfl)) dX9_clash_57 ⟨Nat.le_of_ble_eq_true rfl, Nat.le_of_ble_eq_true rfl⟩) (fun x_8 L1 f_9 H locs lx_8 ux_8 ex_8 hw => ?_)
      obtain ⟨rfl, hg, hX, ex_8⟩ := ex_8
      have hE := hE.trans hX
      have o_x_5 := hX.1.1.1 _ _ o_x_5
      have o_x_4 := hX.1.1.1 _ _ o_x_4
      have o_a0 := hX.1.1.1 _ _ o_a0
      refine lv_istore (lv' := [(6, .int (iI x_8)), (5, .ref x_5), (4, .ref x_4), (0, .ref a0), (1, .int (iI x1)), (2, .int (iI x2)), (3, .int (iI x3))]) hx hb dX9_clash_60 hl (by decide) rfl (fun ls hl => ?_)
      refine lv_iload hx hb dX9_clash_62 (lv_at hl 0 rfl) ?_
      refine q_ldc (n := 2147483647) hx hb hown (hts _ (List.mem_cons_of_mem _ (mr34 _ (List.mem_of_getElem? (i := 13) rfl)))) rfl dX9_clash_64 ?_
      refine q_icmp_ne (tgt := 73) hx hb dX9_clash_66 (by decide) ⟨lx_8, ux_8⟩ ⟨by decide, by decide⟩ (fun c66 => ?_) (fun c66 => ?_)
      · refine lv_iload hx hb dX9_clash_73 (lv_at hl 0 rfl) ?_
        exact q_ret_i hx hb hr hlocks hK hAe hw ⟨lx_8, ux_8⟩ (Nat.le_of_ble_eq_true rfl) (Nat.le_of_ble_eq_true rfl) dX9_clash_75 (by exact ⟨rfl, hg, hE, by first | trivial | omega⟩)
      · refine q_iconst hx hb dX9_clash_69 ?_
        refine lv_goto (tgt := 75) hx hb dX9_clash_70 (by decide) ?_
        exact q_ret_i hx hb hr hlocks hK hAe hw ⟨by decide, by decide⟩ (Nat.le_of_ble_eq_true rfl) (Nat.le_of_ble_eq_true rfl) dX9_clash_75 (by exact ⟨rfl, hg, hE, by first | trivial | omega⟩)
    · refine q_iconst hx hb dX9_clash_16 ?_
      exact q_ret_i hx hb hr hlocks hK hAe hw ⟨by decide, by decide⟩ (Nat.le_of_ble_eq_true rfl) (Nat.le_of_ble_eq_true rfl) dX9_clash_17 (by exact ⟨rfl, hg, hE, by first | trivial | omega⟩)
set_option maxHeartbeats 4000000 in
set_option maxRecDepth 100000 in
theorem c_X9_clashes_h {Z : Zt} (zo : Zok Z) (l : Launch) (D : va_G) (cy : Cy) (L0 : List Nat) (f0 : Nat → va_E) (a0 : Nat) (x1 : Int) (lx1 : -2147483648 ≤ x1) (ux1 : x1 ≤ 2147483647) (x2 : Int) (lx2 : -2147483648 ≤ x2) (ux2 : x2 ≤ 2147483647) (x3 : Int) (lx3 : -2147483648 ≤ x3) (ux3 : x3 ≤ 2147483647) (x4 : Int) (lx4 : -2147483648 ≤ x4) (ux4 : x4 ≤ 2147483647) (m_a0 : a0 ∈ L0) (o_a0 : Ob f0 a0 7) (hg : GI cy L0 f0) : Ci Z l yX9_clashes (Cond.code yX9_clashes cX9_clashes 9 (some .int) :: TB) ({ frames := 6, cells := 0, slots := 0, locals := 149 } : Room) 0 0 D (tq cy) [.ref a0, .int (iI x1), .int (iI x2), .int (iI x3), .int (iI x4)] L0 f0 (fun (r : Int) (L1 : List Nat) (f1 : Nat → va_E) => L0 = L1 ∧ GI cy L0 f1 ∧ Eh cy f0 f1 ∧ (True)) := by
  refine Ci.enter (cc := cX9_clashes) (n := 9) rfl (plainFor_of_name (by decide)) (Nat.le_of_ble_eq_true rfl) ?_
  intro p e s m below meth c ls A hx hb hr hts hown hlocks hnm hml hK hA hAe hw hZ hl
  have hown : s.vm.findClass RX9 = some m.cls := hown
  have hl : lv_has ls 9 [(0, .ref a0), (1, .int (iI x1)), (2, .int (iI x2)), (3, .int (iI x3)), (4, .int (iI x4))] := hl
  have hN : ZN s := (zo.2.2.2.2 _ _ _ hZ).2
  have hE : Eh cy f0 f0 := Eh.refl cy f0
  refine lv_aload_n hx hb dX9_clashes_0 rfl (lv_at hl 0 rfl) ?_
  refine lv_iload_n hx hb dX9_clashes_1 rfl (lv_at hl 1 rfl) ?_
  refine lv_iload_n hx hb dX9_clashes_2 rfl (lv_at hl 2 rfl) ?_
  refine q_call_i hA hK hw (va_runV (As := [.int (iI x1), .int (iI x2)]) (rest := []) ⟨hx, hb, hml, hown, hts⟩ (c_X9_areTwo zo l D cy L0 f0 a0 x1 lx1 ux1 x2 lx2 ux2 m_a0 o_a0 hg _) (cwV 2 hts (gT (inV (mr34 _ (List.mem_of_getElem? (i := 22) rfl)) (mr34 _ (List.mem_of_getElem? (i := 23) rfl)) (mr35 _ (List.mem_of_getElem? (i := 0) rfl)) (mr1 _ (List.mem_of_getElem? (i := 2) rfl)) (mr35 _ (List.mem_of_getElem? (i := 1) rfl)))) rfl rfl rfl (by decide +kernel) ⟨Nat.le_of_ble_eq_true rfl, Nat.le_of_ble_eq_true rfl⟩) (Wd.preV zo hA hZ hw hK m_a0 o_a0 rfl) rfl rfl hl.1 rfl (lv_room (Nat.le_of_ble_eq_true rfl)) dX9_clashes_3 ⟨Nat.le_of_ble_eq_true rfl, Nat.le_of_ble_eq_true rfl⟩) (fun x_1 L1 f1 H locs lx_1 ux_1 ex_1 hw => ?_)
  obtain ⟨rfl, rfl, ex_1⟩ := ex_1
  refine q_if_eq (tgt := 21) hx hb dX9_clashes_6 (by decide) ⟨lx_1, ux_1⟩ (fun c6 => ?_) (fun c6 => ?_)
  · refine q_iconst hx hb dX9_clashes_21 ?_
    exact q_ret_i hx hb hr hlocks hK hAe hw ⟨by decide, by decide⟩ (Nat.le_of_ble_eq_true rfl) (Nat.le_of_ble_eq_true rfl) dX9_clashes_22 (by exact ⟨rfl, hg, hE, by first | trivial | omega⟩)
  · refine lv_iload_n hx hb dX9_clashes_9 rfl (lv_at hl 3 rfl) ?_
    refine lv_iload hx hb dX9_clashes_10 (lv_at hl 4 rfl) ?_
    refine q_sipush hx hb dX9_clashes_12 rfl ?_
    refine q_call_i hA hK hw (va_runS (As := [.int (iI x3), .int (iI x4), .int (iI 400)]) (rest := []) ⟨hx, hb, hml, hown, hts⟩ (c_X9_areDays zo l D cy L0 f0 x3 lx3 ux3 x4 lx4 ux4 400 (by decide) (by decide) _) (va_cwS 3 hts (gT (inS (mr25 _ (List.mem_of_getElem? (i := 13) rfl)) (mr25 _ (List.mem_of_getElem? (i := 14) rfl)) (mr1 _ (List.mem_of_getElem? (i := 2) rfl)) (mr25 _ (List.mem_of_getElem? (i := 15) rfl)))) rfl rfl rfl (by decide +kernel) ⟨Nat.le_of_ble_eq_true rfl, Nat.le_of_ble_eq_true rfl⟩) (Wd.preS zo hA hZ hw hK) rfl rfl hl.1 rfl (lv_room (Nat.le_of_ble_eq_true rfl)) dX9_clashes_15 ⟨Nat.le_of_ble_eq_true rfl, Nat.le_of_ble_eq_true rfl⟩) (fun x_2 L1 f1 H locs lx_2 ux_2 ex_2 hw => ?_)
    obtain ⟨rfl, rfl, ex_2⟩ := ex_2
    refine q_if_ne (tgt := 23) hx hb dX9_clashes_18 (by decide) ⟨lx_2, ux_2⟩ (fun c18 => ?_) (fun c18 => ?_)
    · refine lv_aload_n hx hb dX9_clashes_23 rfl (lv_at hl 0 rfl) ?_
      obtain ⟨r_3, er_3, m_r_3, o_r_3⟩ := (show ∃ r, fR f0 a0 2 = some r ∧ r ∈ L0 ∧ Ob f0 r 5 from hg.2.1 _ m_a0 7 2 o_a0)
      refine q_getr (ci := 7) (C := RX9) (T := TX9) (N := 4) hx hb hts (fun w h => List.mem_cons_of_mem _ (mfX90 w h)) hown hK hw m_a0 o_a0 rfl 2 (by decide) (hts _ (List.mem_cons_of_mem _ (mr1 _ (List.mem_of_getElem? (i := 20) rfl)))) (fun _ h => h) rfl er_3 dX9_clashes_24 ?_
      refine lv_iload_n hx hb dX9_clashes_27 rfl (lv_at hl 1 rfl) ?_
      refine q_call_r hA hK hw (va_runV (As := [.int (iI x1)]) (rest := []) ⟨hx, hb, hml, hown, hts⟩ (c_X7_at zo l D cy L0 f0 r_3 x1 lx1 ux1 m_r_3 o_r_3 hg (by omega) (by omega) _) (cwV 1 hts (gT (inV (mr24 _ (List.mem_of_getElem? (i := 8) rfl)) (mr24 _ (List.mem_of_getElem? (i := 9) rfl)) (mr24 _ (List.mem_of_getElem? (i := 10) rfl)) (mr1 _ (List.mem_of_getElem? (i := 19) rfl)) (mr24 _ (List.mem_of_getElem? (i := 11) rfl)))) rfl rfl rfl (by decide +kernel) ⟨Nat.le_of_ble_eq_true rfl, Nat.le_of_ble_eq_true rfl⟩) (Wd.preV zo hA hZ hw hK m_r_3 o_r_3 rfl) rfl rfl hl.1 rfl (lv_room (Nat.le_of_ble_eq_true rfl)) dX9_clashes_28 ⟨Nat.le_of_ble_eq_true rfl, Nat.le_of_ble_eq_true rfl⟩) (fun x_4 L1 f1 H locs ex_4 hw => ?_)
      obtain ⟨rfl, rfl, ex_4⟩ := ex_4
      obtain ⟨m_x_4, o_x_4⟩ := ex_4
      refine lv_astore (lv' := [(5, .ref x_4), (0, .ref a0), (1, .int (iI x1)), (2, .int (iI x2)), (3, .int (iI x3)), (4, .int (iI x4))]) hx hb dX9_clashes_31 hl (by decide) rfl (fun ls hl => ?_)
      refine lv_aload_n hx hb dX9_clashes_33 rfl (lv_at hl 1 rfl) ?_
      refine q_getr (ci := 7) (C := RX9) (T := TX9) (N := 4) hx hb hts (fun w h => List.mem_cons_of_mem _ (mfX90 w h)) hown hK hw m_a0 o_a0 rfl 2 (by decide) (hts _ (List.mem_cons_of_mem _ (mr1 _ (List.mem_of_getElem? (i := 20) rfl)))) (fun _ h => h) rfl er_3 dX9_clashes_34 ?_
      refine lv_iload_n hx hb dX9_clashes_37 rfl (lv_at hl 3 rfl) ?_
      refine q_call_r hA hK hw (va_runV (As := [.int (iI x2)]) (rest := []) ⟨hx, hb, hml, hown, hts⟩ (c_X7_at zo l D cy L0 f0 r_3 x2 lx2 ux2 m_r_3 o_r_3 hg (by omega) (by omega) _) (cwV 1 hts (gT (inV (mr24 _ (List.mem_of_getElem? (i := 8) rfl)) (mr24 _ (List.mem_of_getElem? (i := 9) rfl)) (mr24 _ (List.mem_of_getElem? (i := 10) rfl)) (mr1 _ (List.mem_of_getElem? (i := 19) rfl)) (mr24 _ (List.mem_of_getElem? (i := 11) rfl)))) rfl rfl rfl (by decide +kernel) ⟨Nat.le_of_ble_eq_true rfl, Nat.le_of_ble_eq_true rfl⟩) (Wd.preV zo hA hZ hw hK m_r_3 o_r_3 rfl) rfl rfl hl.1 rfl (lv_room (Nat.le_of_ble_eq_true rfl)) dX9_clashes_38 ⟨Nat.le_of_ble_eq_true rfl, Nat.le_of_ble_eq_true rfl⟩) (fun x_5 L1 f1 H locs ex_5 hw => ?_)
      obtain ⟨rfl, rfl, ex_5⟩ := ex_5
      obtain ⟨m_x_5, o_x_5⟩ := ex_5
      refine lv_astore (lv' := [(6, .ref x_5), (5, .ref x_4), (0, .ref a0), (1, .int (iI x1)), (2, .int (iI x2)), (3, .int (iI x3)), (4, .int (iI x4))]) hx hb dX9_clashes_41 hl (by decide) rfl (fun ls hl => ?_)
      refine lv_iload_n hx hb dX9_clashes_43 rfl (lv_at hl 5 rfl) ?_
      refine q_sipush hx hb dX9_clashes_44 rfl ?_
      first | refine q_imul hx hb dX9_clashes_47 ⟨by omega, by omega⟩ (fun x_6 lx_6 ux_6 ex_6 => ?_) | refine q_imulw hx hb dX9_clashes_47 (fun x_6 lx_6 ux_6 _ => ?_)
      refine lv_istore (lv' := [(7, .int (iI x_6)), (6, .ref x_5), (5, .ref x_4), (0, .ref a0), (1, .int (iI x1)), (2, .int (iI x2)), (3, .int (iI x3)), (4, .int (iI x4))]) hx hb dX9_clashes_48 hl (by decide) rfl (fun ls hl => ?_)
      refine lv_iload hx hb dX9_clashes_50 (lv_at hl 7 rfl) ?_
      refine q_sipush hx hb dX9_clashes_52 rfl ?_
      first | refine q_imul hx hb dX9_clashes_55 ⟨by omega, by omega⟩ (fun x_7 lx_7 ux_7 ex_7 => ?_) | refine q_imulw hx hb dX9_clashes_55 (fun x_7 lx_7 ux_7 _ => ?_)
      refine q_sipush hx hb dX9_clashes_56 rfl ?_
      first | refine q_iadd hx hb dX9_clashes_59 ⟨by omega, by omega⟩ (fun x_8 lx_8 ux_8 ex_8 => ?_) | refine q_iaddw hx hb dX9_clashes_59 (fun x_8 lx_8 ux_8 _ => ?_)
      refine q_iconst hx hb dX9_clashes_60 ?_
      first | refine q_isub hx hb dX9_clashes_61 ⟨by omega, by omega⟩ (fun x_9 lx_9 ux_9 ex_9 => ?_) | refine q_isubw hx hb dX9_clashes_61 (fun x_9 lx_9 ux_9 _ => ?_)
      refine lv_istore (lv' := [(8, .int (iI x_9)), (7, .int (iI x_6)), (6, .ref x_5), (5, .ref x_4), (0, .ref a0), (1, .int (iI x1)), (2, .int (iI x2)), (3, .int (iI x3)), (4, .int (iI x4))]) hx hb dX9_clashes_62 hl (by decide) rfl (fun ls hl => ?_)
      refine lv_aload hx hb dX9_clashes_64 (lv_at hl 3 rfl) ?_
      refine lv_aload hx hb dX9_clashes_66 (lv_at hl 2 rfl) ?_
      refine lv_iload hx hb dX9_clashes_68 (lv_at hl 1 rfl) ?_
      refine lv_iload hx hb dX9_clashes_70 (lv_at hl 0 rfl) ?_
      refine q_iconst hx hb dX9_clashes_72 ?_
      refine q_call_i hA hK hw (va_runS (As := [.ref x_4, .ref x_5, .int (iI x_6), .int (iI x_9), .int (iI 0)]) (rest := []) ⟨hx, hb, hml, hown, hts⟩ (c_X9_countMet_h zo l D cy L0 f0 x_4 x_5 x_6 lx_6 ux_6 x_9 lx_9 ux_9 0 (by decide) (by decide) m_x_4 o_x_4 m_x_5 o_x_5 hg _) (va_cwS 5 hts (gT (inS (mr37 _ (List.mem_of_getElem? (i := 19) rfl)) (mr37 _ (List.mem_of_getElem? (i := 20) rfl)) (mr1 _ (List.mem_of_getElem? (i := 2) rfl)) (mr37 _ (List.mem_of_getElem? (i := 21) rfl)))) rfl rfl rfl (by decide +kernel) ⟨Nat.le_of_ble_eq_true rfl, Nat.le_of_ble_eq_true rfl⟩) (Wd.preS zo hA hZ hw hK) rfl rfl hl.1 rfl (lv_room (Nat.le_of_ble_eq_true rfl)) dX9_clashes_73 ⟨Nat.le_of_ble_eq_true rfl, Nat.le_of_ble_eq_true rfl⟩) (fun x_10 L1 f_11 H locs lx_10 ux_10 ex_10 hw => ?_)
      obtain ⟨rfl, hg, hX, ex_10⟩ := ex_10
      have hE := hE.trans hX
      have o_x_5 := hX.1.1.1 _ _ o_x_5
      have o_x_4 := hX.1.1.1 _ _ o_x_4
      have o_a0 := hX.1.1.1 _ _ o_a0
      refine lv_aload hx hb dX9_clashes_76 (lv_at hl 2 rfl) ?_
      refine lv_aload hx hb dX9_clashes_78 (lv_at hl 3 rfl) ?_
      refine lv_iload hx hb dX9_clashes_80 (lv_at hl 1 rfl) ?_
      refine lv_iload hx hb dX9_clashes_82 (lv_at hl 0 rfl) ?_
      refine q_iconst hx hb dX9_clashes_84 ?_
      refine q_call_i hA hK hw (va_runS (As := [.ref x_5, .ref x_4, .int (iI x_6), .int (iI x_9), .int (iI 1)]) (rest := [.int (iI x_10)]) ⟨hx, hb, hml, hown, hts⟩ (c_X9_countMet_h zo l D cy L0 f_11 x_5 x_4 x_6 lx_6 ux_6 x_9 lx_9 ux_9 1 (by decide) (by decide) m_x_5 o_x_5 m_x_4 o_x_4 hg _) (va_cwS 5 hts (gT (inS (mr37 _ (List.mem_of_getElem? (i := 19) rfl)) (mr37 _ (List.mem_of_getElem? (i := 20) rfl)) (mr1 _ (List.mem_of_getElem? (i := 2) rfl)) (mr37 _ (List.mem_of_getElem? (i := 21) rfl)))) rfl rfl rfl (by decide +kernel) ⟨Nat.le_of_ble_eq_true rfl, Nat.le_of_ble_eq_true rfl⟩) (Wd.preS zo hA hZ hw hK) rfl rfl hl.1 rfl (lv_room (Nat.le_of_ble_eq_true rfl)) dX9_clashes_85 ⟨Nat.le_of_ble_eq_true rfl, Nat.le_of_ble_eq_true rfl⟩) (fun x_12 L1 f_13 H locs lx_12 ux_12 ex_12 hw => ?_)
      obtain ⟨rfl, hg, hX, ex_12⟩ := ex_12
      have hE := hE.trans hX
      have o_x_5 := hX.1.1.1 _ _ o_x_5
      have o_x_4 := hX.1.1.1 _ _ o_x_4
      have o_a0 := hX.1.1.1 _ _ o_a0
      first | refine q_iadd hx hb dX9_clashes_88 ⟨by omega, by omega⟩ (fun x_14 lx_14 ux_14 ex_14 => ?_) | refine q_iaddw hx hb dX9_clashes_88 (fun x_14 lx_14 ux_14 _ => ?_)
      exact q_ret_i hx hb hr hlocks hK hAe hw ⟨lx_14, ux_14⟩ (Nat.le_of_ble_eq_true rfl) (Nat.le_of_ble_eq_true rfl) dX9_clashes_89 (by exact ⟨rfl, hg, hE, by first | trivial | omega⟩)
    · refine q_iconst hx hb dX9_clashes_21 ?_
      exact q_ret_i hx hb hr hlocks hK hAe hw ⟨by decide, by decide⟩ (Nat.le_of_ble_eq_true rfl) (Nat.le_of_ble_eq_true rfl) dX9_clashes_22 (by exact ⟨rfl, hg, hE, by first | trivial | omega⟩)
set_option maxHeartbeats 4000000 in
set_option maxRecDepth 100000 in
theorem c_X9_roomClash_h {Z : Zt} (zo : Zok Z) (l : Launch) (D : va_G) (cy : Cy) (L0 : List Nat) (f0 : Nat → va_E) (a0 : Nat) (x1 : Int) (lx1 : -2147483648 ≤ x1) (ux1 : x1 ≤ 2147483647) (x2 : Int) (lx2 : -2147483648 ≤ x2) (ux2 : x2 ≤ 2147483647) (x3 : Int) (lx3 : -2147483648 ≤ x3) (ux3 : x3 ≤ 2147483647) (m_a0 : a0 ∈ L0) (o_a0 : Ob f0 a0 7) (hg : GI cy L0 f0) : Ci Z l yX9_roomClash (Cond.code yX9_roomClash cX9_roomClash 10 (some .int) :: TB) ({ frames := 7, cells := 0, slots := 0, locals := 172 } : Room) 0 0 D (tq cy) [.ref a0, .int (iI x1), .int (iI x2), .int (iI x3)] L0 f0 (fun (r : Int) (L1 : List Nat) (f1 : Nat → va_E) => L0 = L1 ∧ GI cy L0 f1 ∧ Eh cy f0 f1 ∧ (True)) := by
  refine Ci.enter (cc := cX9_roomClash) (n := 10) rfl (plainFor_of_name (by decide)) (Nat.le_of_ble_eq_true rfl) ?_
  intro p e s m below meth c ls A hx hb hr hts hown hlocks hnm hml hK hA hAe hw hZ hl
  have hown : s.vm.findClass RX9 = some m.cls := hown
  have hl : lv_has ls 10 [(0, .ref a0), (1, .int (iI x1)), (2, .int (iI x2)), (3, .int (iI x3))] := hl
  have hN : ZN s := (zo.2.2.2.2 _ _ _ hZ).2
  have hE : Eh cy f0 f0 := Eh.refl cy f0
  refine lv_iload_n hx hb dX9_roomClash_0 rfl (lv_at hl 1 rfl) ?_
  refine q_call_i hA hK hw (va_runS (As := [.int (iI x1)]) (rest := []) ⟨hx, hb, hml, hown, hts⟩ (c_X9_isRoom zo l D cy L0 f0 x1 lx1 ux1 _) (va_cwS 1 hts (gT (inS (mr32 _ (List.mem_of_getElem? (i := 10) rfl)) (mr32 _ (List.mem_of_getElem? (i := 11) rfl)) (mr1 _ (List.mem_of_getElem? (i := 2) rfl)) (mr32 _ (List.mem_of_getElem? (i := 12) rfl)))) rfl rfl rfl (by decide +kernel) ⟨Nat.le_of_ble_eq_true rfl, Nat.le_of_ble_eq_true rfl⟩) (Wd.preS zo hA hZ hw hK) rfl rfl hl.1 rfl (lv_room (Nat.le_of_ble_eq_true rfl)) dX9_roomClash_1 ⟨Nat.le_of_ble_eq_true rfl, Nat.le_of_ble_eq_true rfl⟩) (fun x_1 L1 f1 H locs lx_1 ux_1 ex_1 hw => ?_)
  obtain ⟨rfl, rfl, ex_1⟩ := ex_1
  refine q_if_eq (tgt := 23) hx hb dX9_roomClash_4 (by decide) ⟨lx_1, ux_1⟩ (fun c4 => ?_) (fun c4 => ?_)
  · refine q_iconst hx hb dX9_roomClash_23 ?_
    exact q_ret_i hx hb hr hlocks hK hAe hw ⟨by decide, by decide⟩ (Nat.le_of_ble_eq_true rfl) (Nat.le_of_ble_eq_true rfl) dX9_roomClash_24 (by exact ⟨rfl, hg, hE, by first | trivial | omega⟩)
  · refine lv_iload_n hx hb dX9_roomClash_7 rfl (lv_at hl 2 rfl) ?_
    refine q_call_i hA hK hw (va_runS (As := [.int (iI x2)]) (rest := []) ⟨hx, hb, hml, hown, hts⟩ (c_X9_isTime zo l D cy L0 f0 x2 lx2 ux2 _) (va_cwS 1 hts (gT (inS (mr27 _ (List.mem_of_getElem? (i := 19) rfl)) (mr27 _ (List.mem_of_getElem? (i := 20) rfl)) (mr1 _ (List.mem_of_getElem? (i := 2) rfl)) (mr27 _ (List.mem_of_getElem? (i := 21) rfl)))) rfl rfl rfl (by decide +kernel) ⟨Nat.le_of_ble_eq_true rfl, Nat.le_of_ble_eq_true rfl⟩) (Wd.preS zo hA hZ hw hK) rfl rfl hl.1 rfl (lv_room (Nat.le_of_ble_eq_true rfl)) dX9_roomClash_8 ⟨Nat.le_of_ble_eq_true rfl, Nat.le_of_ble_eq_true rfl⟩) (fun x_2 L1 f1 H locs lx_2 ux_2 ex_2 hw => ?_)
    obtain ⟨rfl, rfl, ex_2⟩ := ex_2
    refine q_if_eq (tgt := 23) hx hb dX9_roomClash_11 (by decide) ⟨lx_2, ux_2⟩ (fun c11 => ?_) (fun c11 => ?_)
    · refine q_iconst hx hb dX9_roomClash_23 ?_
      exact q_ret_i hx hb hr hlocks hK hAe hw ⟨by decide, by decide⟩ (Nat.le_of_ble_eq_true rfl) (Nat.le_of_ble_eq_true rfl) dX9_roomClash_24 (by exact ⟨rfl, hg, hE, by first | trivial | omega⟩)
    · refine lv_iload_n hx hb dX9_roomClash_14 rfl (lv_at hl 3 rfl) ?_
      refine q_if_lt (tgt := 23) hx hb dX9_roomClash_15 (by decide) ⟨lx3, ux3⟩ (fun c15 => ?_) (fun c15 => ?_)
      · refine q_iconst hx hb dX9_roomClash_23 ?_
        exact q_ret_i hx hb hr hlocks hK hAe hw ⟨by decide, by decide⟩ (Nat.le_of_ble_eq_true rfl) (Nat.le_of_ble_eq_true rfl) dX9_roomClash_24 (by exact ⟨rfl, hg, hE, by first | trivial | omega⟩)
      · refine lv_iload_n hx hb dX9_roomClash_18 rfl (lv_at hl 3 rfl) ?_
        refine q_iconst hx hb dX9_roomClash_19 ?_
        refine q_icmp_le (tgt := 25) hx hb dX9_roomClash_20 (by decide) ⟨lx3, ux3⟩ ⟨by decide, by decide⟩ (fun c20 => ?_) (fun c20 => ?_)
        · refine q_ldc (n := 2147483647) hx hb hown (hts _ (List.mem_cons_of_mem _ (mr34 _ (List.mem_of_getElem? (i := 13) rfl)))) rfl dX9_roomClash_25 ?_
          refine lv_istore (lv' := [(4, .int (iI 2147483647)), (0, .ref a0), (1, .int (iI x1)), (2, .int (iI x2)), (3, .int (iI x3))]) hx hb dX9_roomClash_27 hl (by decide) rfl (fun ls hl => ?_)
          refine q_iconst hx hb dX9_roomClash_29 ?_
          refine lv_istore (lv' := [(5, .int (iI ((-1)))), (4, .int (iI 2147483647)), (0, .ref a0), (1, .int (iI x1)), (2, .int (iI x2)), (3, .int (iI x3))]) hx hb dX9_roomClash_30 hl (by decide) rfl (fun ls hl => ?_)
          refine q_iconst hx hb dX9_roomClash_32 ?_
          refine lv_istore (lv' := [(6, .int (iI ((-1)))), (5, .int (iI ((-1)))), (4, .int (iI 2147483647)), (0, .ref a0), (1, .int (iI x1)), (2, .int (iI x2)), (3, .int (iI x3))]) hx hb dX9_roomClash_33 hl (by decide) rfl (fun ls hl => ?_)
          refine q_iconst hx hb dX9_roomClash_35 ?_
          refine lv_istore (lv' := [(7, .int (iI 0)), (6, .int (iI ((-1)))), (5, .int (iI ((-1)))), (4, .int (iI 2147483647)), (0, .ref a0), (1, .int (iI x1)), (2, .int (iI x2)), (3, .int (iI x3))]) hx hb dX9_roomClash_36 hl (by decide) rfl (fun ls hl => ?_)
          have J38 : ∀ (n38 : Nat) (y4_38 : Int) (ly4_38 : -2147483648 ≤ y4_38) (uy4_38 : y4_38 ≤ 2147483647) (y5_38 : Int) (ly5_38 : -2147483648 ≤ y5_38) (uy5_38 : y5_38 ≤ 2147483647) (y6_38 : Int) (ly6_38 : -2147483648 ≤ y6_38) (uy6_38 : y6_38 ≤ 2147483647) (y7_38 : Int) (ly7_38 : -2147483648 ≤ y7_38) (uy7_38 : y7_38 ≤ 2147483647) (L : List Nat) (fw38 : Nat → va_E) (hg : GI cy L0 fw38) (hE : Eh cy f0 fw38) (o_a0 : Ob fw38 a0 7) (i1 : 0 ≤ y7_38) (hn38 : ((2147483647 : Int) - y7_38).toNat < n38) (H : Heap) (locs : List Loc) (ls : Array Slot) (hw : Wd D A s.heap L0 fw38 H locs) (hl : lv_has ls 10 [(0, .ref a0), (1, .int (iI x1)), (2, .int (iI x2)), (3, .int (iI x3)), (4, .int (iI y4_38)), (5, .int (iI y5_38)), (6, .int (iI y6_38)), (7, .int (iI y7_38))]), W p l e ({ frames := 7, cells := 0, slots := 0, locals := 172 } : Room) s m ([.ref a0, .int (iI x1), .int (iI x2), .int (iI x3)] : List Value).toArray below meth c H locs (0 + 0 + 0) (0 + 0 + 0) (MQ below (Qi D (tq cy) L0 f0 s.heap.size (fun (r : Int) (L1 : List Nat) (f1 : Nat → va_E) => L0 = L1 ∧ GI cy L0 f1 ∧ Eh cy f0 f1 ∧ (True))) ([.ref a0, .int (iI x1), .int (iI x2), .int (iI x3)] : List Value).toArray s 0 0 A) (F0 m 38 ls []) := by
            intro n38
            induction n38 with
            | zero => intro y4_38 ly4_38 uy4_38 y5_38 ly5_38 uy5_38 y6_38 ly6_38 uy6_38 y7_38 ly7_38 uy7_38 L fw38 hg hE o_a0 i1 hn38; exact absurd hn38 (Nat.not_lt_zero _)
            | succ n38 ih38 =>
              intro y4_38 ly4_38 uy4_38 y5_38 ly5_38 uy5_38 y6_38 ly6_38 uy6_38 y7_38 ly7_38 uy7_38 L fw38 hg hE o_a0 i1 hn38 H locs ls hw hl
              refine lv_iload hx hb dX9_roomClash_38 (lv_at hl 7 rfl) ?_
              refine lv_aload_n hx hb dX9_roomClash_40 rfl (lv_at hl 0 rfl) ?_
              obtain ⟨r_3, er_3, m_r_3, o_r_3⟩ := (show ∃ r, fR fw38 a0 2 = some r ∧ r ∈ L0 ∧ Ob fw38 r 5 from hg.2.1 _ m_a0 7 2 o_a0)
              refine q_getr (ci := 7) (C := RX9) (T := TX9) (N := 4) hx hb hts (fun w h => List.mem_cons_of_mem _ (mfX90 w h)) hown hK hw m_a0 o_a0 rfl 2 (by decide) (hts _ (List.mem_cons_of_mem _ (mr1 _ (List.mem_of_getElem? (i := 20) rfl)))) (fun _ h => h) rfl er_3 dX9_roomClash_41 ?_
              refine q_getiN (ci := 5) (C := RX7) (T := TX7) (N := 2) hx hb hts (fun w h => List.mem_cons_of_mem _ (mfX70 w h)) hown hK hw m_r_3 o_r_3 rfl 1 (by decide) (va_Nw.use rfl (hN _ (List.mem_of_getElem? (i := 0) rfl))) (fun _ h => h) rfl dX9_roomClash_44 (fun x_4 lx_4 ux_4 ex_4 => ?_)
              have bx_4 : 0 ≤ x_4 ∧ x_4 ≤ 12 := by rw [ex_4]; exact hg.1 _ m_r_3 5 1 o_r_3
              refine q_icmp_ge (tgt := 177) hx hb dX9_roomClash_47 (by decide) ⟨ly7_38, uy7_38⟩ ⟨lx_4, ux_4⟩ (fun c47 => ?_) (fun c47 => ?_)
              · refine lv_iload hx hb dX9_roomClash_177 (lv_at hl 4 rfl) ?_
                refine q_ldc (n := 2147483647) hx hb hown (hts _ (List.mem_cons_of_mem _ (mr34 _ (List.mem_of_getElem? (i := 13) rfl)))) rfl dX9_roomClash_179 ?_
                refine q_icmp_eq (tgt := 189) hx hb dX9_roomClash_181 (by decide) ⟨ly4_38, uy4_38⟩ ⟨by decide, by decide⟩ (fun c181 => ?_) (fun c181 => ?_)
                · refine lv_iload hx hb dX9_roomClash_189 (lv_at hl 5 rfl) ?_
                  exact q_ret_i hx hb hr hlocks hK hAe hw ⟨ly5_38, uy5_38⟩ (Nat.le_of_ble_eq_true rfl) (Nat.le_of_ble_eq_true rfl) dX9_roomClash_191 (by exact ⟨rfl, hg, hE, by first | trivial | omega⟩)
                · refine lv_iload_n hx hb dX9_roomClash_184 rfl (lv_at hl 3 rfl) ?_
                  refine q_iconst hx hb dX9_roomClash_185 ?_
                  refine q_icmp_ne (tgt := 192) hx hb dX9_roomClash_186 (by decide) ⟨lx3, ux3⟩ ⟨by decide, by decide⟩ (fun c186 => ?_) (fun c186 => ?_)
                  · refine lv_iload_n hx hb dX9_roomClash_192 rfl (lv_at hl 3 rfl) ?_
                    refine q_if_ne (tgt := 201) hx hb dX9_roomClash_193 (by decide) ⟨lx3, ux3⟩ (fun c193 => ?_) (fun c193 => ?_)
                    · refine lv_iload hx hb dX9_roomClash_201 (lv_at hl 6 rfl) ?_
                      exact q_ret_i hx hb hr hlocks hK hAe hw ⟨ly6_38, uy6_38⟩ (Nat.le_of_ble_eq_true rfl) (Nat.le_of_ble_eq_true rfl) dX9_roomClash_203 (by exact ⟨rfl, hg, hE, by first | trivial | omega⟩)
                    · refine lv_iload hx hb dX9_roomClash_196 (lv_at hl 4 rfl) ?_
                      refine lv_goto (tgt := 203) hx hb dX9_roomClash_198 (by decide) ?_
                      exact q_ret_i hx hb hr hlocks hK hAe hw ⟨ly4_38, uy4_38⟩ (Nat.le_of_ble_eq_true rfl) (Nat.le_of_ble_eq_true rfl) dX9_roomClash_203 (by exact ⟨rfl, hg, hE, by first | trivial | omega⟩)
                  · refine lv_iload hx hb dX9_roomClash_189 (lv_at hl 5 rfl) ?_
                    exact q_ret_i hx hb hr hlocks hK hAe hw ⟨ly5_38, uy5_38⟩ (Nat.le_of_ble_eq_true rfl) (Nat.le_of_ble_eq_true rfl) dX9_roomClash_191 (by exact ⟨rfl, hg, hE, by first | trivial | omega⟩)
              · refine lv_iload hx hb dX9_roomClash_50 (lv_at hl 7 rfl) ?_
                refine q_iconst hx hb dX9_roomClash_52 ?_
                first | refine q_iadd hx hb dX9_roomClash_53 ⟨by omega, by omega⟩ (fun x_5 lx_5 ux_5 ex_5 => ?_) | refine q_iaddw hx hb dX9_roomClash_53 (fun x_5 lx_5 ux_5 _ => ?_)
                refine lv_istore (lv' := [(8, .int (iI x_5)), (0, .ref a0), (1, .int (iI x1)), (2, .int (iI x2)), (3, .int (iI x3)), (4, .int (iI y4_38)), (5, .int (iI y5_38)), (6, .int (iI y6_38)), (7, .int (iI y7_38))]) hx hb dX9_roomClash_54 hl (by decide) rfl (fun ls hl => ?_)
                have J56 : ∀ (n56 : Nat) (y4_56 : Int) (ly4_56 : -2147483648 ≤ y4_56) (uy4_56 : y4_56 ≤ 2147483647) (y5_56 : Int) (ly5_56 : -2147483648 ≤ y5_56) (uy5_56 : y5_56 ≤ 2147483647) (y6_56 : Int) (ly6_56 : -2147483648 ≤ y6_56) (uy6_56 : y6_56 ≤ 2147483647) (y8_56 : Int) (ly8_56 : -2147483648 ≤ y8_56) (uy8_56 : y8_56 ≤ 2147483647) (L : List Nat) (fw56 : Nat → va_E) (hg : GI cy L0 fw56) (hE : Eh cy f0 fw56) (o_a0 : Ob fw56 a0 7) (i1 : 0 ≤ y8_56) (hn56 : ((2147483647 : Int) - y8_56).toNat < n56) (H : Heap) (locs : List Loc) (ls : Array Slot) (hw : Wd D A s.heap L0 fw56 H locs) (hl : lv_has ls 10 [(0, .ref a0), (1, .int (iI x1)), (2, .int (iI x2)), (3, .int (iI x3)), (4, .int (iI y4_56)), (5, .int (iI y5_56)), (6, .int (iI y6_56)), (7, .int (iI y7_38)), (8, .int (iI y8_56))]), W p l e ({ frames := 7, cells := 0, slots := 0, locals := 172 } : Room) s m ([.ref a0, .int (iI x1), .int (iI x2), .int (iI x3)] : List Value).toArray below meth c H locs (0 + 0 + 0) (0 + 0 + 0) (MQ below (Qi D (tq cy) L0 f0 s.heap.size (fun (r : Int) (L1 : List Nat) (f1 : Nat → va_E) => L0 = L1 ∧ GI cy L0 f1 ∧ Eh cy f0 f1 ∧ (True))) ([.ref a0, .int (iI x1), .int (iI x2), .int (iI x3)] : List Value).toArray s 0 0 A) (F0 m 56 ls []) := by
                  intro n56
                  induction n56 with
                  | zero => intro y4_56 ly4_56 uy4_56 y5_56 ly5_56 uy5_56 y6_56 ly6_56 uy6_56 y8_56 ly8_56 uy8_56 L fw56 hg hE o_a0 i1 hn56; exact absurd hn56 (Nat.not_lt_zero _)
                  | succ n56 ih56 =>
                    intro y4_56 ly4_56 uy4_56 y5_56 ly5_56 uy5_56 y6_56 ly6_56 uy6_56 y8_56 ly8_56 uy8_56 L fw56 hg hE o_a0 i1 hn56 H locs ls hw hl
                    refine lv_iload hx hb dX9_roomClash_56 (lv_at hl 8 rfl) ?_
                    refine lv_aload_n hx hb dX9_roomClash_58 rfl (lv_at hl 0 rfl) ?_
                    obtain ⟨r_6, er_6, m_r_6, o_r_6⟩ := (show ∃ r, fR fw56 a0 2 = some r ∧ r ∈ L0 ∧ Ob fw56 r 5 from hg.2.1 _ m_a0 7 2 o_a0)
                    refine q_getr (ci := 7) (C := RX9) (T := TX9) (N := 4) hx hb hts (fun w h => List.mem_cons_of_mem _ (mfX90 w h)) hown hK hw m_a0 o_a0 rfl 2 (by decide) (hts _ (List.mem_cons_of_mem _ (mr1 _ (List.mem_of_getElem? (i := 20) rfl)))) (fun _ h => h) rfl er_6 dX9_roomClash_59 ?_
                    refine q_getiN (ci := 5) (C := RX7) (T := TX7) (N := 2) hx hb hts (fun w h => List.mem_cons_of_mem _ (mfX70 w h)) hown hK hw m_r_6 o_r_6 rfl 1 (by decide) (va_Nw.use rfl (hN _ (List.mem_of_getElem? (i := 0) rfl))) (fun _ h => h) rfl dX9_roomClash_62 (fun x_7 lx_7 ux_7 ex_7 => ?_)
                    have bx_7 : 0 ≤ x_7 ∧ x_7 ≤ 12 := by rw [ex_7]; exact hg.1 _ m_r_6 5 1 o_r_6
                    refine q_icmp_ge (tgt := 171) hx hb dX9_roomClash_65 (by decide) ⟨ly8_56, uy8_56⟩ ⟨lx_7, ux_7⟩ (fun c65 => ?_) (fun c65 => ?_)
                    · obtain ⟨x_8, lx_8, ux_8, hx_8, ex_8⟩ := q_inc y7_38 (1)
                      try (replace ex_8 : x_8 = y7_38 + (1) := by omega)
                      refine lv_iinc (v := iI x_8) (lv' := [(7, .int (iI x_8)), (0, .ref a0), (1, .int (iI x1)), (2, .int (iI x2)), (3, .int (iI x3)), (4, .int (iI y4_56)), (5, .int (iI y5_56)), (6, .int (iI y6_56)), (8, .int (iI y8_56))]) hx hb dX9_roomClash_171 hl (k := 7) rfl hx_8 (by decide) rfl (fun ls hl => ?_)
                      refine lv_goto (tgt := 38) hx hb dX9_roomClash_174 (by decide) ?_
                      exact ih38 y4_56 ly4_56 uy4_56 y5_56 ly5_56 uy5_56 y6_56 ly6_56 uy6_56 x_8 lx_8 ux_8 L0 fw56 hg hE o_a0 (by omega) (by omega) _ _ _ hw (lv_sub hl [1, 2, 3, 4, 5, 6, 7, 0] rfl)
                    · refine lv_aload_n hx hb dX9_roomClash_68 rfl (lv_at hl 0 rfl) ?_
                      refine q_getr (ci := 7) (C := RX9) (T := TX9) (N := 4) hx hb hts (fun w h => List.mem_cons_of_mem _ (mfX90 w h)) hown hK hw m_a0 o_a0 rfl 2 (by decide) (hts _ (List.mem_cons_of_mem _ (mr1 _ (List.mem_of_getElem? (i := 20) rfl)))) (fun _ h => h) rfl er_6 dX9_roomClash_69 ?_
                      refine lv_iload hx hb dX9_roomClash_72 (lv_at hl 7 rfl) ?_
                      refine lv_iload_n hx hb dX9_roomClash_74 rfl (lv_at hl 1 rfl) ?_
                      refine q_call_i hA hK hw (va_runV (As := [.int (iI y7_38), .int (iI x1)]) (rest := []) ⟨hx, hb, hml, hown, hts⟩ (c_X7_isOf zo l D cy L0 fw56 r_6 y7_38 ly7_38 uy7_38 x1 lx1 ux1 m_r_6 o_r_6 hg (by omega) (by omega) _) (cwV 2 hts (gT (inV (mr32 _ (List.mem_of_getElem? (i := 13) rfl)) (mr32 _ (List.mem_of_getElem? (i := 14) rfl)) (mr32 _ (List.mem_of_getElem? (i := 15) rfl)) (mr1 _ (List.mem_of_getElem? (i := 19) rfl)) (mr32 _ (List.mem_of_getElem? (i := 16) rfl)))) rfl rfl rfl (by decide +kernel) ⟨Nat.le_of_ble_eq_true rfl, Nat.le_of_ble_eq_true rfl⟩) (Wd.preV zo hA hZ hw hK m_r_6 o_r_6 rfl) rfl rfl hl.1 rfl (lv_room (Nat.le_of_ble_eq_true rfl)) dX9_roomClash_75 ⟨Nat.le_of_ble_eq_true rfl, Nat.le_of_ble_eq_true rfl⟩) (fun x_9 L1 f1 H locs lx_9 ux_9 ex_9 hw => ?_)
                      obtain ⟨rfl, rfl, ex_9⟩ := ex_9
                      have J165 : ∀ (z4_165 : Int) (lz4_165 : -2147483648 ≤ z4_165) (uz4_165 : z4_165 ≤ 2147483647) (z5_165 : Int) (lz5_165 : -2147483648 ≤ z5_165) (uz5_165 : z5_165 ≤ 2147483647) (z6_165 : Int) (lz6_165 : -2147483648 ≤ z6_165) (uz6_165 : z6_165 ≤ 2147483647) (L : List Nat) (fw165 : Nat → va_E) (hg : GI cy L0 fw165) (hE : Eh cy f0 fw165) (o_a0 : Ob fw165 a0 7) (H : Heap) (locs : List Loc) (ls : Array Slot) (hw : Wd D A s.heap L0 fw165 H locs) (hl : lv_has ls 10 [(0, .ref a0), (1, .int (iI x1)), (2, .int (iI x2)), (3, .int (iI x3)), (4, .int (iI z4_165)), (5, .int (iI z5_165)), (6, .int (iI z6_165)), (7, .int (iI y7_38)), (8, .int (iI y8_56))]), W p l e ({ frames := 7, cells := 0, slots := 0, locals := 172 } : Room) s m ([.ref a0, .int (iI x1), .int (iI x2), .int (iI x3)] : List Value).toArray below meth c H locs (0 + 0 + 0 + 0) (0 + 0 + 0 + 0) (MQ below (Qi D (tq cy) L0 f0 s.heap.size (fun (r : Int) (L1 : List Nat) (f1 : Nat → va_E) => L0 = L1 ∧ GI cy L0 f1 ∧ Eh cy f0 f1 ∧ (True))) ([.ref a0, .int (iI x1), .int (iI x2), .int (iI x3)] : List Value).toArray s 0 0 A) (F0 m 165 ls []) := by
                        intro z4_165 lz4_165 uz4_165 z5_165 lz5_165 uz5_165 z6_165 lz6_165 uz6_165 L fw165 hg hE o_a0 H locs ls hw hl
                        obtain ⟨x_10, lx_10, ux_10, hx_10, ex_10⟩ := q_inc y8_56 (1)
                        try (replace ex_10 : x_10 = y8_56 + (1) := by omega)
                        refine lv_iinc (v := iI x_10) (lv' := [(8, .int (iI x_10)), (0, .ref a0), (1, .int (iI x1)), (2, .int (iI x2)), (3, .int (iI x3)), (4, .int (iI z4_165)), (5, .int (iI z5_165)), (6, .int (iI z6_165)), (7, .int (iI y7_38))]) hx hb dX9_roomClash_165 hl (k := 8) rfl hx_10 (by decide) rfl (fun ls hl => ?_)
                        refine lv_goto (tgt := 56) hx hb dX9_roomClash_168 (by decide) ?_
                        exact ih56 z4_165 lz4_165 uz4_165 z5_165 lz5_165 uz5_165 z6_165 lz6_165 uz6_165 x_10 lx_10 ux_10 L0 fw165 hg hE o_a0 (by omega) (by omega) _ _ _ hw (lv_sub hl [1, 2, 3, 4, 5, 6, 7, 8, 0] rfl)
                      refine q_if_eq (tgt := 165) hx hb dX9_roomClash_78 (by decide) ⟨lx_9, ux_9⟩ (fun c78 => ?_) (fun c78 => ?_)
                      · exact J165 y4_56 ly4_56 uy4_56 y5_56 ly5_56 uy5_56 y6_56 ly6_56 uy6_56 L0 fw56 hg hE o_a0 _ _ _ hw (lv_sub hl [0, 1, 2, 3, 4, 5, 6, 7, 8] rfl)
                      · refine lv_aload_n hx hb dX9_roomClash_81 rfl (lv_at hl 0 rfl) ?_
                        refine q_getr (ci := 7) (C := RX9) (T := TX9) (N := 4) hx hb hts (fun w h => List.mem_cons_of_mem _ (mfX90 w h)) hown hK hw m_a0 o_a0 rfl 2 (by decide) (hts _ (List.mem_cons_of_mem _ (mr1 _ (List.mem_of_getElem? (i := 20) rfl)))) (fun _ h => h) rfl er_6 dX9_roomClash_82 ?_
                        refine lv_iload hx hb dX9_roomClash_85 (lv_at hl 8 rfl) ?_
                        refine lv_iload_n hx hb dX9_roomClash_87 rfl (lv_at hl 1 rfl) ?_
                        refine q_call_i hA hK hw (va_runV (As := [.int (iI y8_56), .int (iI x1)]) (rest := []) ⟨hx, hb, hml, hown, hts⟩ (c_X7_isOf zo l D cy L0 fw56 r_6 y8_56 ly8_56 uy8_56 x1 lx1 ux1 m_r_6 o_r_6 hg (by omega) (by omega) _) (cwV 2 hts (gT (inV (mr32 _ (List.mem_of_getElem? (i := 13) rfl)) (mr32 _ (List.mem_of_getElem? (i := 14) rfl)) (mr32 _ (List.mem_of_getElem? (i := 15) rfl)) (mr1 _ (List.mem_of_getElem? (i := 19) rfl)) (mr32 _ (List.mem_of_getElem? (i := 16) rfl)))) rfl rfl rfl (by decide +kernel) ⟨Nat.le_of_ble_eq_true rfl, Nat.le_of_ble_eq_true rfl⟩) (Wd.preV zo hA hZ hw hK m_r_6 o_r_6 rfl) rfl rfl hl.1 rfl (lv_room (Nat.le_of_ble_eq_true rfl)) dX9_roomClash_88 ⟨Nat.le_of_ble_eq_true rfl, Nat.le_of_ble_eq_true rfl⟩) (fun x_11 L1 f1 H locs lx_11 ux_11 ex_11 hw => ?_)
                        obtain ⟨rfl, rfl, ex_11⟩ := ex_11
                        refine q_if_eq (tgt := 165) hx hb dX9_roomClash_91 (by decide) ⟨lx_11, ux_11⟩ (fun c91 => ?_) (fun c91 => ?_)
                        · exact J165 y4_56 ly4_56 uy4_56 y5_56 ly5_56 uy5_56 y6_56 ly6_56 uy6_56 L0 fw56 hg hE o_a0 _ _ _ hw (lv_sub hl [0, 1, 2, 3, 4, 5, 6, 7, 8] rfl)
                        · refine lv_aload_n hx hb dX9_roomClash_94 rfl (lv_at hl 0 rfl) ?_
                          refine q_getr (ci := 7) (C := RX9) (T := TX9) (N := 4) hx hb hts (fun w h => List.mem_cons_of_mem _ (mfX90 w h)) hown hK hw m_a0 o_a0 rfl 2 (by decide) (hts _ (List.mem_cons_of_mem _ (mr1 _ (List.mem_of_getElem? (i := 20) rfl)))) (fun _ h => h) rfl er_6 dX9_roomClash_95 ?_
                          refine lv_iload hx hb dX9_roomClash_98 (lv_at hl 7 rfl) ?_
                          refine q_call_r hA hK hw (va_runV (As := [.int (iI y7_38)]) (rest := []) ⟨hx, hb, hml, hown, hts⟩ (c_X7_at zo l D cy L0 fw56 r_6 y7_38 ly7_38 uy7_38 m_r_6 o_r_6 hg (by omega) (by omega) _) (cwV 1 hts (gT (inV (mr24 _ (List.mem_of_getElem? (i := 8) rfl)) (mr24 _ (List.mem_of_getElem? (i := 9) rfl)) (mr24 _ (List.mem_of_getElem? (i := 10) rfl)) (mr1 _ (List.mem_of_getElem? (i := 19) rfl)) (mr24 _ (List.mem_of_getElem? (i := 11) rfl)))) rfl rfl rfl (by decide +kernel) ⟨Nat.le_of_ble_eq_true rfl, Nat.le_of_ble_eq_true rfl⟩) (Wd.preV zo hA hZ hw hK m_r_6 o_r_6 rfl) rfl rfl hl.1 rfl (lv_room (Nat.le_of_ble_eq_true rfl)) dX9_roomClash_100 ⟨Nat.le_of_ble_eq_true rfl, Nat.le_of_ble_eq_true rfl⟩) (fun x_12 L1 f1 H locs ex_12 hw => ?_)
                          obtain ⟨rfl, rfl, ex_12⟩ := ex_12
                          obtain ⟨m_x_12, o_x_12⟩ := ex_12
                          refine lv_aload_n hx hb dX9_roomClash_103 rfl (lv_at hl 0 rfl) ?_
                          refine q_getr (ci := 7) (C := RX9) (T := TX9) (N := 4) hx hb hts (fun w h => List.mem_cons_of_mem _ (mfX90 w h)) hown hK hw m_a0 o_a0 rfl 2 (by decide) (hts _ (List.mem_cons_of_mem _ (mr1 _ (List.mem_of_getElem? (i := 20) rfl)))) (fun _ h => h) rfl er_6 dX9_roomClash_104 ?_
                          refine lv_iload hx hb dX9_roomClash_107 (lv_at hl 8 rfl) ?_
                          refine q_call_r hA hK hw (va_runV (As := [.int (iI y8_56)]) (rest := [.ref x_12]) ⟨hx, hb, hml, hown, hts⟩ (c_X7_at zo l D cy L0 fw56 r_6 y8_56 ly8_56 uy8_56 m_r_6 o_r_6 hg (by omega) (by omega) _) (cwV 1 hts (gT (inV (mr24 _ (List.mem_of_getElem? (i := 8) rfl)) (mr24 _ (List.mem_of_getElem? (i := 9) rfl)) (mr24 _ (List.mem_of_getElem? (i := 10) rfl)) (mr1 _ (List.mem_of_getElem? (i := 19) rfl)) (mr24 _ (List.mem_of_getElem? (i := 11) rfl)))) rfl rfl rfl (by decide +kernel) ⟨Nat.le_of_ble_eq_true rfl, Nat.le_of_ble_eq_true rfl⟩) (Wd.preV zo hA hZ hw hK m_r_6 o_r_6 rfl) rfl rfl hl.1 rfl (lv_room (Nat.le_of_ble_eq_true rfl)) dX9_roomClash_109 ⟨Nat.le_of_ble_eq_true rfl, Nat.le_of_ble_eq_true rfl⟩) (fun x_13 L1 f1 H locs ex_13 hw => ?_)
                          obtain ⟨rfl, rfl, ex_13⟩ := ex_13
                          obtain ⟨m_x_13, o_x_13⟩ := ex_13
                          refine lv_iload_n hx hb dX9_roomClash_112 rfl (lv_at hl 2 rfl) ?_
                          refine lv_iload hx hb dX9_roomClash_113 (lv_at hl 4 rfl) ?_
                          refine q_call_i hA hK hw (va_runS (As := [.ref x_12, .ref x_13, .int (iI x2), .int (iI y4_56)]) (rest := []) ⟨hx, hb, hml, hown, hts⟩ (c_X9_movedClash_h zo l D cy L0 fw56 x_12 x_13 x2 lx2 ux2 y4_56 ly4_56 uy4_56 m_x_12 o_x_12 m_x_13 o_x_13 hg _) (va_cwS 4 hts (gT (inS (mr35 _ (List.mem_of_getElem? (i := 2) rfl)) (mr35 _ (List.mem_of_getElem? (i := 3) rfl)) (mr1 _ (List.mem_of_getElem? (i := 2) rfl)) (mr35 _ (List.mem_of_getElem? (i := 4) rfl)))) rfl rfl rfl (by decide +kernel) ⟨Nat.le_of_ble_eq_true rfl, Nat.le_of_ble_eq_true rfl⟩) (Wd.preS zo hA hZ hw hK) rfl rfl hl.1 rfl (lv_room (Nat.le_of_ble_eq_true rfl)) dX9_roomClash_115 ⟨Nat.le_of_ble_eq_true rfl, Nat.le_of_ble_eq_true rfl⟩) (fun x_14 L1 f_15 H locs lx_14 ux_14 ex_14 hw => ?_)
                          obtain ⟨rfl, hg, hX, ex_14⟩ := ex_14
                          have hE := hE.trans hX
                          have o_a0 := hX.1.1.1 _ _ o_a0
                          refine lv_istore (lv' := [(9, .int (iI x_14)), (0, .ref a0), (1, .int (iI x1)), (2, .int (iI x2)), (3, .int (iI x3)), (4, .int (iI y4_56)), (5, .int (iI y5_56)), (6, .int (iI y6_56)), (7, .int (iI y7_38)), (8, .int (iI y8_56))]) hx hb dX9_roomClash_118 hl (by decide) rfl (fun ls hl => ?_)
                          refine lv_aload_n hx hb dX9_roomClash_120 rfl (lv_at hl 1 rfl) ?_
                          obtain ⟨r_16, er_16, m_r_16, o_r_16⟩ := (show ∃ r, fR f_15 a0 2 = some r ∧ r ∈ L0 ∧ Ob f_15 r 5 from hg.2.1 _ m_a0 7 2 o_a0)
                          refine q_getr (ci := 7) (C := RX9) (T := TX9) (N := 4) hx hb hts (fun w h => List.mem_cons_of_mem _ (mfX90 w h)) hown hK hw m_a0 o_a0 rfl 2 (by decide) (hts _ (List.mem_cons_of_mem _ (mr1 _ (List.mem_of_getElem? (i := 20) rfl)))) (fun _ h => h) rfl er_16 dX9_roomClash_121 ?_
                          refine lv_iload hx hb dX9_roomClash_124 (lv_at hl 8 rfl) ?_
                          refine q_call_r hA hK hw (va_runV (As := [.int (iI y7_38)]) (rest := []) ⟨hx, hb, hml, hown, hts⟩ (c_X7_at zo l D cy L0 f_15 r_16 y7_38 ly7_38 uy7_38 m_r_16 o_r_16 hg (by omega) (by omega) _) (cwV 1 hts (gT (inV (mr24 _ (List.mem_of_getElem? (i := 8) rfl)) (mr24 _ (List.mem_of_getElem? (i := 9) rfl)) (mr24 _ (List.mem_of_getElem? (i := 10) rfl)) (mr1 _ (List.mem_of_getElem? (i := 19) rfl)) (mr24 _ (List.mem_of_getElem? (i := 11) rfl)))) rfl rfl rfl (by decide +kernel) ⟨Nat.le_of_ble_eq_true rfl, Nat.le_of_ble_eq_true rfl⟩) (Wd.preV zo hA hZ hw hK m_r_16 o_r_16 rfl) rfl rfl hl.1 rfl (lv_room (Nat.le_of_ble_eq_true rfl)) dX9_roomClash_126 ⟨Nat.le_of_ble_eq_true rfl, Nat.le_of_ble_eq_true rfl⟩) (fun x_17 L1 f1 H locs ex_17 hw => ?_)
                          obtain ⟨rfl, rfl, ex_17⟩ := ex_17
                          obtain ⟨m_x_17, o_x_17⟩ := ex_17
                          refine lv_aload_n hx hb dX9_roomClash_129 rfl (lv_at hl 1 rfl) ?_
                          refine q_getr (ci := 7) (C := RX9) (T := TX9) (N := 4) hx hb hts (fun w h => List.mem_cons_of_mem _ (mfX90 w h)) hown hK hw m_a0 o_a0 rfl 2 (by decide) (hts _ (List.mem_cons_of_mem _ (mr1 _ (List.mem_of_getElem? (i := 20) rfl)))) (fun _ h => h) rfl er_16 dX9_roomClash_130 ?_
                          refine lv_iload hx hb dX9_roomClash_133 (lv_at hl 9 rfl) ?_
                          refine q_call_r hA hK hw (va_runV (As := [.int (iI y8_56)]) (rest := [.ref x_17]) ⟨hx, hb, hml, hown, hts⟩ (c_X7_at zo l D cy L0 f_15 r_16 y8_56 ly8_56 uy8_56 m_r_16 o_r_16 hg (by omega) (by omega) _) (cwV 1 hts (gT (inV (mr24 _ (List.mem_of_getElem? (i := 8) rfl)) (mr24 _ (List.mem_of_getElem? (i := 9) rfl)) (mr24 _ (List.mem_of_getElem? (i := 10) rfl)) (mr1 _ (List.mem_of_getElem? (i := 19) rfl)) (mr24 _ (List.mem_of_getElem? (i := 11) rfl)))) rfl rfl rfl (by decide +kernel) ⟨Nat.le_of_ble_eq_true rfl, Nat.le_of_ble_eq_true rfl⟩) (Wd.preV zo hA hZ hw hK m_r_16 o_r_16 rfl) rfl rfl hl.1 rfl (lv_room (Nat.le_of_ble_eq_true rfl)) dX9_roomClash_135 ⟨Nat.le_of_ble_eq_true rfl, Nat.le_of_ble_eq_true rfl⟩) (fun x_18 L1 f1 H locs ex_18 hw => ?_)
                          obtain ⟨rfl, rfl, ex_18⟩ := ex_18
                          obtain ⟨m_x_18, o_x_18⟩ := ex_18
                          refine lv_iload_n hx hb dX9_roomClash_138 rfl (lv_at hl 3 rfl) ?_
                          refine lv_iload hx hb dX9_roomClash_139 (lv_at hl 0 rfl) ?_
                          refine q_call_i hA hK hw (va_runS (As := [.ref x_17, .ref x_18, .int (iI x2), .int (iI x_14)]) (rest := []) ⟨hx, hb, hml, hown, hts⟩ (c_X9_ruledClash_h zo l D cy L0 f_15 x_17 x_18 x2 lx2 ux2 x_14 lx_14 ux_14 m_x_17 o_x_17 m_x_18 o_x_18 hg _) (va_cwS 4 hts (gT (inS (mr35 _ (List.mem_of_getElem? (i := 15) rfl)) (mr35 _ (List.mem_of_getElem? (i := 16) rfl)) (mr1 _ (List.mem_of_getElem? (i := 2) rfl)) (mr35 _ (List.mem_of_getElem? (i := 17) rfl)))) rfl rfl rfl (by decide +kernel) ⟨Nat.le_of_ble_eq_true rfl, Nat.le_of_ble_eq_true rfl⟩) (Wd.preS zo hA hZ hw hK) rfl rfl hl.1 rfl (lv_room (Nat.le_of_ble_eq_true rfl)) dX9_roomClash_141 ⟨Nat.le_of_ble_eq_true rfl, Nat.le_of_ble_eq_true rfl⟩) (fun x_19 L1 f_20 H locs lx_19 ux_19 ex_19 hw => ?_)
                          obtain ⟨rfl, hg, hX, ex_19⟩ := ex_19
                          have hE := hE.trans hX
                          have o_a0 := hX.1.1.1 _ _ o_a0
                          refine lv_istore (lv' := [(9, .int (iI x_19)), (0, .ref a0), (1, .int (iI x1)), (2, .int (iI x2)), (3, .int (iI x3)), (4, .int (iI y4_56)), (5, .int (iI y5_56)), (6, .int (iI y6_56)), (7, .int (iI y7_38)), (8, .int (iI y8_56))]) hx hb dX9_roomClash_144 hl (by decide) rfl (fun ls hl => ?_)
                          refine lv_iload hx hb dX9_roomClash_146 (lv_at hl 0 rfl) ?_
                          refine lv_iload hx hb dX9_roomClash_148 (lv_at hl 5 rfl) ?_
                          refine q_icmp_ge (tgt := 165) hx hb dX9_roomClash_150 (by decide) ⟨lx_19, ux_19⟩ ⟨ly4_56, uy4_56⟩ (fun c150 => ?_) (fun c150 => ?_)
                          · exact J165 y4_56 ly4_56 uy4_56 y5_56 ly5_56 uy5_56 y6_56 ly6_56 uy6_56 L0 f_20 hg hE o_a0 _ _ _ hw (lv_sub hl [1, 2, 3, 4, 5, 6, 7, 8, 9] rfl)
                          · refine lv_iload hx hb dX9_roomClash_153 (lv_at hl 0 rfl) ?_
                            refine lv_istore (lv' := [(4, .int (iI x_19)), (9, .int (iI x_19)), (0, .ref a0), (1, .int (iI x1)), (2, .int (iI x2)), (3, .int (iI x3)), (5, .int (iI y5_56)), (6, .int (iI y6_56)), (7, .int (iI y7_38)), (8, .int (iI y8_56))]) hx hb dX9_roomClash_155 hl (by decide) rfl (fun ls hl => ?_)
                            refine lv_iload hx hb dX9_roomClash_157 (lv_at hl 8 rfl) ?_
                            refine lv_istore (lv' := [(5, .int (iI y7_38)), (4, .int (iI x_19)), (9, .int (iI x_19)), (0, .ref a0), (1, .int (iI x1)), (2, .int (iI x2)), (3, .int (iI x3)), (6, .int (iI y6_56)), (7, .int (iI y7_38)), (8, .int (iI y8_56))]) hx hb dX9_roomClash_159 hl (by decide) rfl (fun ls hl => ?_)
                            refine lv_iload hx hb dX9_roomClash_161 (lv_at hl 9 rfl) ?_
                            refine lv_istore (lv' := [(6, .int (iI y8_56)), (5, .int (iI y7_38)), (4, .int (iI x_19)), (9, .int (iI x_19)), (0, .ref a0), (1, .int (iI x1)), (2, .int (iI x2)), (3, .int (iI x3)), (7, .int (iI y7_38)), (8, .int (iI y8_56))]) hx hb dX9_roomClash_163 hl (by decide) rfl (fun ls hl => ?_)
                            exact J165 x_19 lx_19 ux_19 y7_38 ly7_38 uy7_38 y8_56 ly8_56 uy8_56 L0 f_20 hg hE o_a0 _ _ _ hw (lv_sub hl [4, 5, 6, 7, 2, 1, 0, 8, 9] rfl)
                exact J56 ((((2147483647 : Int) - x_5).toNat) + 1) y4_38 ly4_38 uy4_38 y5_38 ly5_38 uy5_38 y6_38 ly6_38 uy6_38 x_5 lx_5 ux_5 L0 fw38 hg hE o_a0 (by omega) (by omega) _ _ _ hw (lv_sub hl [1, 2, 3, 4, 5, 6, 7, 8, 0] rfl)
          exact J38 ((((2147483647 : Int) - 0).toNat) + 1) 2147483647 (by decide) (by decide) ((-1)) (by decide) (by decide) ((-1)) (by decide) (by decide) 0 (by decide) (by decide) L0 f0 hg hE o_a0 (by omega) (by omega) _ _ _ hw (lv_sub hl [4, 5, 6, 7, 3, 2, 1, 0] rfl)
        · refine q_iconst hx hb dX9_roomClash_23 ?_
          exact q_ret_i hx hb hr hlocks hK hAe hw ⟨by decide, by decide⟩ (Nat.le_of_ble_eq_true rfl) (Nat.le_of_ble_eq_true rfl) dX9_roomClash_24 (by exact ⟨rfl, hg, hE, by first | trivial | omega⟩)
set_option maxHeartbeats 4000000 in
set_option maxRecDepth 100000 in
theorem c_X9_takenTill_h {Z : Zt} (zo : Zok Z) (l : Launch) (D : va_G) (cy : Cy) (L0 : List Nat) (f0 : Nat → va_E) (a0 : Nat) (x1 : Int) (lx1 : -2147483648 ≤ x1) (ux1 : x1 ≤ 2147483647) (x2 : Int) (lx2 : -2147483648 ≤ x2) (ux2 : x2 ≤ 2147483647) (x3 : Int) (lx3 : -2147483648 ≤ x3) (ux3 : x3 ≤ 2147483647) (m_a0 : a0 ∈ L0) (o_a0 : Ob f0 a0 7) (hg : GI cy L0 f0) : Ci Z l yX9_takenTill (Cond.code yX9_takenTill cX9_takenTill 7 (some .int) :: TB) ({ frames := 5, cells := 0, slots := 0, locals := 113 } : Room) 0 0 D (tq cy) [.ref a0, .int (iI x1), .int (iI x2), .int (iI x3)] L0 f0 (fun (r : Int) (L1 : List Nat) (f1 : Nat → va_E) => L0 = L1 ∧ GI cy L0 f1 ∧ Eh cy f0 f1 ∧ (True)) := by
  refine Ci.enter (cc := cX9_takenTill) (n := 7) rfl (plainFor_of_name (by decide)) (Nat.le_of_ble_eq_true rfl) ?_
  intro p e s m below meth c ls A hx hb hr hts hown hlocks hnm hml hK hA hAe hw hZ hl
  have hown : s.vm.findClass RX9 = some m.cls := hown
  have hl : lv_has ls 7 [(0, .ref a0), (1, .int (iI x1)), (2, .int (iI x2)), (3, .int (iI x3))] := hl
  have hN : ZN s := (zo.2.2.2.2 _ _ _ hZ).2
  have hE : Eh cy f0 f0 := Eh.refl cy f0
  refine lv_iload_n hx hb dX9_takenTill_0 rfl (lv_at hl 2 rfl) ?_
  refine lv_istore (lv' := [(4, .int (iI x2)), (0, .ref a0), (1, .int (iI x1)), (2, .int (iI x2)), (3, .int (iI x3))]) hx hb dX9_takenTill_1 hl (by decide) rfl (fun ls hl => ?_)
  refine q_iconst hx hb dX9_takenTill_3 ?_
  refine lv_istore (lv' := [(5, .int (iI 0)), (4, .int (iI x2)), (0, .ref a0), (1, .int (iI x1)), (2, .int (iI x2)), (3, .int (iI x3))]) hx hb dX9_takenTill_4 hl (by decide) rfl (fun ls hl => ?_)
  have J6 : ∀ (n6 : Nat) (y4_6 : Int) (ly4_6 : -2147483648 ≤ y4_6) (uy4_6 : y4_6 ≤ 2147483647) (y5_6 : Int) (ly5_6 : -2147483648 ≤ y5_6) (uy5_6 : y5_6 ≤ 2147483647) (L : List Nat) (fw6 : Nat → va_E) (hg : GI cy L0 fw6) (hE : Eh cy f0 fw6) (o_a0 : Ob fw6 a0 7) (i1 : 0 ≤ y5_6) (hn6 : ((2147483647 : Int) - y5_6).toNat < n6) (H : Heap) (locs : List Loc) (ls : Array Slot) (hw : Wd D A s.heap L0 fw6 H locs) (hl : lv_has ls 7 [(0, .ref a0), (1, .int (iI x1)), (2, .int (iI x2)), (3, .int (iI x3)), (4, .int (iI y4_6)), (5, .int (iI y5_6))]), W p l e ({ frames := 5, cells := 0, slots := 0, locals := 113 } : Room) s m ([.ref a0, .int (iI x1), .int (iI x2), .int (iI x3)] : List Value).toArray below meth c H locs (0) (0) (MQ below (Qi D (tq cy) L0 f0 s.heap.size (fun (r : Int) (L1 : List Nat) (f1 : Nat → va_E) => L0 = L1 ∧ GI cy L0 f1 ∧ Eh cy f0 f1 ∧ (True))) ([.ref a0, .int (iI x1), .int (iI x2), .int (iI x3)] : List Value).toArray s 0 0 A) (F0 m 6 ls []) := by
    intro n6
    induction n6 with
    | zero => intro y4_6 ly4_6 uy4_6 y5_6 ly5_6 uy5_6 L fw6 hg hE o_a0 i1 hn6; exact absurd hn6 (Nat.not_lt_zero _)
    | succ n6 ih6 =>
      intro y4_6 ly4_6 uy4_6 y5_6 ly5_6 uy5_6 L fw6 hg hE o_a0 i1 hn6 H locs ls hw hl
      refine lv_iload hx hb dX9_takenTill_6 (lv_at hl 5 rfl) ?_
      refine lv_aload_n hx hb dX9_takenTill_8 rfl (lv_at hl 0 rfl) ?_
      obtain ⟨r_1, er_1, m_r_1, o_r_1⟩ := (show ∃ r, fR fw6 a0 2 = some r ∧ r ∈ L0 ∧ Ob fw6 r 5 from hg.2.1 _ m_a0 7 2 o_a0)
      refine q_getr (ci := 7) (C := RX9) (T := TX9) (N := 4) hx hb hts (fun w h => List.mem_cons_of_mem _ (mfX90 w h)) hown hK hw m_a0 o_a0 rfl 2 (by decide) (hts _ (List.mem_cons_of_mem _ (mr1 _ (List.mem_of_getElem? (i := 20) rfl)))) (fun _ h => h) rfl er_1 dX9_takenTill_9 ?_
      refine q_getiN (ci := 5) (C := RX7) (T := TX7) (N := 2) hx hb hts (fun w h => List.mem_cons_of_mem _ (mfX70 w h)) hown hK hw m_r_1 o_r_1 rfl 1 (by decide) (va_Nw.use rfl (hN _ (List.mem_of_getElem? (i := 0) rfl))) (fun _ h => h) rfl dX9_takenTill_12 (fun x_2 lx_2 ux_2 ex_2 => ?_)
      have bx_2 : 0 ≤ x_2 ∧ x_2 ≤ 12 := by rw [ex_2]; exact hg.1 _ m_r_1 5 1 o_r_1
      refine q_icmp_ge (tgt := 77) hx hb dX9_takenTill_15 (by decide) ⟨ly5_6, uy5_6⟩ ⟨lx_2, ux_2⟩ (fun c15 => ?_) (fun c15 => ?_)
      · refine lv_iload hx hb dX9_takenTill_77 (lv_at hl 4 rfl) ?_
        exact q_ret_i hx hb hr hlocks hK hAe hw ⟨ly4_6, uy4_6⟩ (Nat.le_of_ble_eq_true rfl) (Nat.le_of_ble_eq_true rfl) dX9_takenTill_79 (by exact ⟨rfl, hg, hE, by first | trivial | omega⟩)
      · refine lv_aload_n hx hb dX9_takenTill_18 rfl (lv_at hl 0 rfl) ?_
        refine q_getr (ci := 7) (C := RX9) (T := TX9) (N := 4) hx hb hts (fun w h => List.mem_cons_of_mem _ (mfX90 w h)) hown hK hw m_a0 o_a0 rfl 2 (by decide) (hts _ (List.mem_cons_of_mem _ (mr1 _ (List.mem_of_getElem? (i := 20) rfl)))) (fun _ h => h) rfl er_1 dX9_takenTill_19 ?_
        refine lv_iload hx hb dX9_takenTill_22 (lv_at hl 5 rfl) ?_
        refine q_call_r hA hK hw (va_runV (As := [.int (iI y5_6)]) (rest := []) ⟨hx, hb, hml, hown, hts⟩ (c_X7_at zo l D cy L0 fw6 r_1 y5_6 ly5_6 uy5_6 m_r_1 o_r_1 hg (by omega) (by omega) _) (cwV 1 hts (gT (inV (mr24 _ (List.mem_of_getElem? (i := 8) rfl)) (mr24 _ (List.mem_of_getElem? (i := 9) rfl)) (mr24 _ (List.mem_of_getElem? (i := 10) rfl)) (mr1 _ (List.mem_of_getElem? (i := 19) rfl)) (mr24 _ (List.mem_of_getElem? (i := 11) rfl)))) rfl rfl rfl (by decide +kernel) ⟨Nat.le_of_ble_eq_true rfl, Nat.le_of_ble_eq_true rfl⟩) (Wd.preV zo hA hZ hw hK m_r_1 o_r_1 rfl) rfl rfl hl.1 rfl (lv_room (Nat.le_of_ble_eq_true rfl)) dX9_takenTill_24 ⟨Nat.le_of_ble_eq_true rfl, Nat.le_of_ble_eq_true rfl⟩) (fun x_3 L1 f1 H locs ex_3 hw => ?_)
        obtain ⟨rfl, rfl, ex_3⟩ := ex_3
        obtain ⟨m_x_3, o_x_3⟩ := ex_3
        refine lv_astore (lv' := [(6, .ref x_3), (0, .ref a0), (1, .int (iI x1)), (2, .int (iI x2)), (3, .int (iI x3)), (4, .int (iI y4_6)), (5, .int (iI y5_6))]) hx hb dX9_takenTill_27 hl (by decide) rfl (fun ls hl => ?_)
        refine lv_aload_n hx hb dX9_takenTill_29 rfl (lv_at hl 1 rfl) ?_
        refine q_getr (ci := 7) (C := RX9) (T := TX9) (N := 4) hx hb hts (fun w h => List.mem_cons_of_mem _ (mfX90 w h)) hown hK hw m_a0 o_a0 rfl 2 (by decide) (hts _ (List.mem_cons_of_mem _ (mr1 _ (List.mem_of_getElem? (i := 20) rfl)))) (fun _ h => h) rfl er_1 dX9_takenTill_30 ?_
        refine lv_iload hx hb dX9_takenTill_33 (lv_at hl 6 rfl) ?_
        refine lv_iload_n hx hb dX9_takenTill_35 rfl (lv_at hl 2 rfl) ?_
        refine q_call_i hA hK hw (va_runV (As := [.int (iI y5_6), .int (iI x1)]) (rest := []) ⟨hx, hb, hml, hown, hts⟩ (c_X7_isOf zo l D cy L0 fw6 r_1 y5_6 ly5_6 uy5_6 x1 lx1 ux1 m_r_1 o_r_1 hg (by omega) (by omega) _) (cwV 2 hts (gT (inV (mr32 _ (List.mem_of_getElem? (i := 13) rfl)) (mr32 _ (List.mem_of_getElem? (i := 14) rfl)) (mr32 _ (List.mem_of_getElem? (i := 15) rfl)) (mr1 _ (List.mem_of_getElem? (i := 19) rfl)) (mr32 _ (List.mem_of_getElem? (i := 16) rfl)))) rfl rfl rfl (by decide +kernel) ⟨Nat.le_of_ble_eq_true rfl, Nat.le_of_ble_eq_true rfl⟩) (Wd.preV zo hA hZ hw hK m_r_1 o_r_1 rfl) rfl rfl hl.1 rfl (lv_room (Nat.le_of_ble_eq_true rfl)) dX9_takenTill_36 ⟨Nat.le_of_ble_eq_true rfl, Nat.le_of_ble_eq_true rfl⟩) (fun x_4 L1 f1 H locs lx_4 ux_4 ex_4 hw => ?_)
        obtain ⟨rfl, rfl, ex_4⟩ := ex_4
        have J71 : ∀ (z4_71 : Int) (lz4_71 : -2147483648 ≤ z4_71) (uz4_71 : z4_71 ≤ 2147483647) (L : List Nat) (fw71 : Nat → va_E) (hg : GI cy L0 fw71) (hE : Eh cy f0 fw71) (o_a0 : Ob fw71 a0 7) (H : Heap) (locs : List Loc) (ls : Array Slot) (hw : Wd D A s.heap L0 fw71 H locs) (hl : lv_has ls 7 [(0, .ref a0), (1, .int (iI x1)), (2, .int (iI x2)), (3, .int (iI x3)), (4, .int (iI z4_71)), (5, .int (iI y5_6))]), W p l e ({ frames := 5, cells := 0, slots := 0, locals := 113 } : Room) s m ([.ref a0, .int (iI x1), .int (iI x2), .int (iI x3)] : List Value).toArray below meth c H locs (0 + 0 + 0) (0 + 0 + 0) (MQ below (Qi D (tq cy) L0 f0 s.heap.size (fun (r : Int) (L1 : List Nat) (f1 : Nat → va_E) => L0 = L1 ∧ GI cy L0 f1 ∧ Eh cy f0 f1 ∧ (True))) ([.ref a0, .int (iI x1), .int (iI x2), .int (iI x3)] : List Value).toArray s 0 0 A) (F0 m 71 ls []) := by
          intro z4_71 lz4_71 uz4_71 L fw71 hg hE o_a0 H locs ls hw hl
          obtain ⟨x_5, lx_5, ux_5, hx_5, ex_5⟩ := q_inc y5_6 (1)
          try (replace ex_5 : x_5 = y5_6 + (1) := by omega)
          refine lv_iinc (v := iI x_5) (lv' := [(5, .int (iI x_5)), (0, .ref a0), (1, .int (iI x1)), (2, .int (iI x2)), (3, .int (iI x3)), (4, .int (iI z4_71))]) hx hb dX9_takenTill_71 hl (k := 5) rfl hx_5 (by decide) rfl (fun ls hl => ?_)
          refine lv_goto (tgt := 6) hx hb dX9_takenTill_74 (by decide) ?_
          exact ih6 z4_71 lz4_71 uz4_71 x_5 lx_5 ux_5 L0 fw71 hg hE o_a0 (by omega) (by omega) _ _ _ hw (lv_sub hl [1, 2, 3, 4, 5, 0] rfl)
        refine q_if_eq (tgt := 71) hx hb dX9_takenTill_39 (by decide) ⟨lx_4, ux_4⟩ (fun c39 => ?_) (fun c39 => ?_)
        · exact J71 y4_6 ly4_6 uy4_6 L0 fw6 hg hE o_a0 _ _ _ hw (lv_sub hl [1, 2, 3, 4, 5, 6] rfl)
        · refine lv_aload hx hb dX9_takenTill_42 (lv_at hl 0 rfl) ?_
          refine lv_iload_n hx hb dX9_takenTill_44 rfl (lv_at hl 3 rfl) ?_
          refine lv_iload_n hx hb dX9_takenTill_45 rfl (lv_at hl 4 rfl) ?_
          first | refine q_iadd hx hb dX9_takenTill_46 ⟨by omega, by omega⟩ (fun x_6 lx_6 ux_6 ex_6 => ?_) | refine q_iaddw hx hb dX9_takenTill_46 (fun x_6 lx_6 ux_6 _ => ?_)
          refine q_call_i hA hK hw (va_runV (As := [.int (iI x_6)]) (rest := []) ⟨hx, hb, hml, hown, hts⟩ (c_X0_seekAhead_h zo l D cy L0 fw6 x_3 x_6 lx_6 ux_6 m_x_3 o_x_3 hg _) (cwV 1 hts (gT (inV (mr30 _ (List.mem_of_getElem? (i := 19) rfl)) (mr30 _ (List.mem_of_getElem? (i := 20) rfl)) (mr30 _ (List.mem_of_getElem? (i := 21) rfl)) (mr2 _ (List.mem_of_getElem? (i := 9) rfl)) (mr30 _ (List.mem_of_getElem? (i := 22) rfl)))) rfl rfl rfl (by decide +kernel) ⟨Nat.le_of_ble_eq_true rfl, Nat.le_of_ble_eq_true rfl⟩) (Wd.preV zo hA hZ hw hK m_x_3 o_x_3 rfl) rfl rfl hl.1 rfl (lv_room (Nat.le_of_ble_eq_true rfl)) dX9_takenTill_47 ⟨Nat.le_of_ble_eq_true rfl, Nat.le_of_ble_eq_true rfl⟩) (fun x_7 L1 f_8 H locs lx_7 ux_7 ex_7 hw => ?_)
          obtain ⟨rfl, hg, hX, ex_7⟩ := ex_7
          have hE := hE.trans hX
          have o_x_3 := hX.1.1.1 _ _ o_x_3
          have o_a0 := hX.1.1.1 _ _ o_a0
          refine q_if_eq (tgt := 71) hx hb dX9_takenTill_50 (by decide) ⟨lx_7, ux_7⟩ (fun c50 => ?_) (fun c50 => ?_)
          · exact J71 y4_6 ly4_6 uy4_6 L0 f_8 hg hE o_a0 _ _ _ hw (lv_sub hl [1, 2, 3, 4, 5, 6] rfl)
          · refine lv_iload hx hb dX9_takenTill_53 (lv_at hl 5 rfl) ?_
            refine lv_aload hx hb dX9_takenTill_55 (lv_at hl 0 rfl) ?_
            refine q_geti (ci := 0) (C := RX0) (T := TX0) (N := 15) hx hb hts (fun w h => List.mem_cons_of_mem _ (mfX00 w h)) hown hK hw m_x_3 o_x_3 rfl 13 (by decide) (hts _ (List.mem_cons_of_mem _ (mr34 _ (List.mem_of_getElem? (i := 4) rfl)))) (fun _ h => h) rfl dX9_takenTill_57 (fun x_9 lx_9 ux_9 ex_9 => ?_)
            refine lv_aload hx hb dX9_takenTill_60 (lv_at hl 0 rfl) ?_
            refine q_geti (ci := 0) (C := RX0) (T := TX0) (N := 15) hx hb hts (fun w h => List.mem_cons_of_mem _ (mfX00 w h)) hown hK hw m_x_3 o_x_3 rfl 2 (by decide) (hts _ (List.mem_cons_of_mem _ (mr32 _ (List.mem_of_getElem? (i := 9) rfl)))) (fun _ h => h) rfl dX9_takenTill_62 (fun x_10 lx_10 ux_10 ex_10 => ?_)
            first | refine q_iadd hx hb dX9_takenTill_65 ⟨by omega, by omega⟩ (fun x_11 lx_11 ux_11 ex_11 => ?_) | refine q_iaddw hx hb dX9_takenTill_65 (fun x_11 lx_11 ux_11 _ => ?_)
            refine q_max hx hb (hml.trans hl.1.symm) hown (hts _ (List.mem_cons_of_mem _ (mr35 _ (List.mem_of_getElem? (i := 20) rfl)))) (hts _ (List.mem_cons_of_mem _ (mr13 _ (List.mem_of_getElem? (i := 0) rfl)))) (hts _ (List.mem_cons_of_mem _ (mr6 _ (List.mem_of_getElem? (i := 14) rfl)))) (hts _ (List.mem_cons_of_mem _ (mr13 _ (List.mem_of_getElem? (i := 1) rfl)))) (Nat.le_of_ble_eq_true rfl) (Nat.le_of_ble_eq_true rfl) (Nat.le_of_ble_eq_true rfl) (Nat.le_of_ble_eq_true rfl) ⟨ly4_6, uy4_6⟩ ⟨lx_11, ux_11⟩ dX9_takenTill_66 (fun x_12 lx_12 ux_12 ex_12 => ?_)
            refine lv_istore (lv' := [(4, .int (iI x_12)), (6, .ref x_3), (0, .ref a0), (1, .int (iI x1)), (2, .int (iI x2)), (3, .int (iI x3)), (5, .int (iI y5_6))]) hx hb dX9_takenTill_69 hl (by decide) rfl (fun ls hl => ?_)
            exact J71 x_12 lx_12 ux_12 L0 f_8 hg hE o_a0 _ _ _ hw (lv_sub hl [2, 3, 4, 5, 0, 6] rfl)
  exact J6 ((((2147483647 : Int) - 0).toNat) + 1) x2 lx2 ux2 0 (by decide) (by decide) L0 f0 hg hE o_a0 (by omega) (by omega) _ _ _ hw (lv_sub hl [2, 3, 4, 5, 1, 0] rfl)
set_option maxHeartbeats 4000000 in
set_option maxRecDepth 100000 in
theorem c_X9_firstBegin_h {Z : Zt} (zo : Zok Z) (l : Launch) (D : va_G) (cy : Cy) (L0 : List Nat) (f0 : Nat → va_E) (a0 : Nat) (x1 : Int) (lx1 : -2147483648 ≤ x1) (ux1 : x1 ≤ 2147483647) (x2 : Int) (lx2 : -2147483648 ≤ x2) (ux2 : x2 ≤ 2147483647) (m_a0 : a0 ∈ L0) (o_a0 : Ob f0 a0 7) (hg : GI cy L0 f0) : Ci Z l yX9_firstBegin (Cond.code yX9_firstBegin cX9_firstBegin 6 (some .int) :: TB) ({ frames := 5, cells := 0, slots := 0, locals := 117 } : Room) 0 0 D (tq cy) [.ref a0, .int (iI x1), .int (iI x2)] L0 f0 (fun (r : Int) (L1 : List Nat) (f1 : Nat → va_E) => L0 = L1 ∧ GI cy L0 f1 ∧ Eh cy f0 f1 ∧ (True)) := by
  refine Ci.enter (cc := cX9_firstBegin) (n := 6) rfl (plainFor_of_name (by decide)) (Nat.le_of_ble_eq_true rfl) ?_
  intro p e s m below meth c ls A hx hb hr hts hown hlocks hnm hml hK hA hAe hw hZ hl
  have hown : s.vm.findClass RX9 = some m.cls := hown
  have hl : lv_has ls 6 [(0, .ref a0), (1, .int (iI x1)), (2, .int (iI x2))] := hl
  have hN : ZN s := (zo.2.2.2.2 _ _ _ hZ).2
  have hE : Eh cy f0 f0 := Eh.refl cy f0
  refine q_ldc (n := 2147483647) hx hb hown (hts _ (List.mem_cons_of_mem _ (mr34 _ (List.mem_of_getElem? (i := 13) rfl)))) rfl dX9_firstBegin_0 ?_
  refine lv_istore_n (lv' := [(3, .int (iI 2147483647)), (0, .ref a0), (1, .int (iI x1)), (2, .int (iI x2))]) hx hb dX9_firstBegin_2 rfl hl (by decide) rfl (fun ls hl => ?_)
  refine q_iconst hx hb dX9_firstBegin_3 ?_
  refine lv_istore (lv' := [(4, .int (iI 0)), (3, .int (iI 2147483647)), (0, .ref a0), (1, .int (iI x1)), (2, .int (iI x2))]) hx hb dX9_firstBegin_4 hl (by decide) rfl (fun ls hl => ?_)
  have J6 : ∀ (n6 : Nat) (y3_6 : Int) (ly3_6 : -2147483648 ≤ y3_6) (uy3_6 : y3_6 ≤ 2147483647) (y4_6 : Int) (ly4_6 : -2147483648 ≤ y4_6) (uy4_6 : y4_6 ≤ 2147483647) (L : List Nat) (fw6 : Nat → va_E) (hg : GI cy L0 fw6) (hE : Eh cy f0 fw6) (o_a0 : Ob fw6 a0 7) (i1 : 0 ≤ y4_6) (hn6 : ((2147483647 : Int) - y4_6).toNat < n6) (H : Heap) (locs : List Loc) (ls : Array Slot) (hw : Wd D A s.heap L0 fw6 H locs) (hl : lv_has ls 6 [(0, .ref a0), (1, .int (iI x1)), (2, .int (iI x2)), (3, .int (iI y3_6)), (4, .int (iI y4_6))]), W p l e ({ frames := 5, cells := 0, slots := 0, locals := 117 } : Room) s m ([.ref a0, .int (iI x1), .int (iI x2)] : List Value).toArray below meth c H locs (0) (0) (MQ below (Qi D (tq cy) L0 f0 s.heap.size (fun (r : Int) (L1 : List Nat) (f1 : Nat → va_E) => L0 = L1 ∧ GI cy L0 f1 ∧ Eh cy f0 f1 ∧ (True))) ([.ref a0, .int (iI x1), .int (iI x2)] : List Value).toArray s 0 0 A) (F0 m 6 ls []) := by
    intro n6
    induction n6 with
    | zero => intro y3_6 ly3_6 uy3_6 y4_6 ly4_6 uy4_6 L fw6 hg hE o_a0 i1 hn6; exact absurd hn6 (Nat.not_lt_zero _)
    | succ n6 ih6 =>
      intro y3_6 ly3_6 uy3_6 y4_6 ly4_6 uy4_6 L fw6 hg hE o_a0 i1 hn6 H locs ls hw hl
      refine lv_iload hx hb dX9_firstBegin_6 (lv_at hl 4 rfl) ?_
      refine lv_aload_n hx hb dX9_firstBegin_8 rfl (lv_at hl 0 rfl) ?_
      obtain ⟨r_1, er_1, m_r_1, o_r_1⟩ := (show ∃ r, fR fw6 a0 2 = some r ∧ r ∈ L0 ∧ Ob fw6 r 5 from hg.2.1 _ m_a0 7 2 o_a0)
      refine q_getr (ci := 7) (C := RX9) (T := TX9) (N := 4) hx hb hts (fun w h => List.mem_cons_of_mem _ (mfX90 w h)) hown hK hw m_a0 o_a0 rfl 2 (by decide) (hts _ (List.mem_cons_of_mem _ (mr1 _ (List.mem_of_getElem? (i := 20) rfl)))) (fun _ h => h) rfl er_1 dX9_firstBegin_9 ?_
      refine q_getiN (ci := 5) (C := RX7) (T := TX7) (N := 2) hx hb hts (fun w h => List.mem_cons_of_mem _ (mfX70 w h)) hown hK hw m_r_1 o_r_1 rfl 1 (by decide) (va_Nw.use rfl (hN _ (List.mem_of_getElem? (i := 0) rfl))) (fun _ h => h) rfl dX9_firstBegin_12 (fun x_2 lx_2 ux_2 ex_2 => ?_)
      have bx_2 : 0 ≤ x_2 ∧ x_2 ≤ 12 := by rw [ex_2]; exact hg.1 _ m_r_1 5 1 o_r_1
      refine q_icmp_ge (tgt := 68) hx hb dX9_firstBegin_15 (by decide) ⟨ly4_6, uy4_6⟩ ⟨lx_2, ux_2⟩ (fun c15 => ?_) (fun c15 => ?_)
      · refine lv_iload_n hx hb dX9_firstBegin_68 rfl (lv_at hl 3 rfl) ?_
        exact q_ret_i hx hb hr hlocks hK hAe hw ⟨ly3_6, uy3_6⟩ (Nat.le_of_ble_eq_true rfl) (Nat.le_of_ble_eq_true rfl) dX9_firstBegin_69 (by exact ⟨rfl, hg, hE, by first | trivial | omega⟩)
      · refine lv_aload_n hx hb dX9_firstBegin_18 rfl (lv_at hl 0 rfl) ?_
        refine q_getr (ci := 7) (C := RX9) (T := TX9) (N := 4) hx hb hts (fun w h => List.mem_cons_of_mem _ (mfX90 w h)) hown hK hw m_a0 o_a0 rfl 2 (by decide) (hts _ (List.mem_cons_of_mem _ (mr1 _ (List.mem_of_getElem? (i := 20) rfl)))) (fun _ h => h) rfl er_1 dX9_firstBegin_19 ?_
        refine lv_iload hx hb dX9_firstBegin_22 (lv_at hl 4 rfl) ?_
        refine q_call_r hA hK hw (va_runV (As := [.int (iI y4_6)]) (rest := []) ⟨hx, hb, hml, hown, hts⟩ (c_X7_at zo l D cy L0 fw6 r_1 y4_6 ly4_6 uy4_6 m_r_1 o_r_1 hg (by omega) (by omega) _) (cwV 1 hts (gT (inV (mr24 _ (List.mem_of_getElem? (i := 8) rfl)) (mr24 _ (List.mem_of_getElem? (i := 9) rfl)) (mr24 _ (List.mem_of_getElem? (i := 10) rfl)) (mr1 _ (List.mem_of_getElem? (i := 19) rfl)) (mr24 _ (List.mem_of_getElem? (i := 11) rfl)))) rfl rfl rfl (by decide +kernel) ⟨Nat.le_of_ble_eq_true rfl, Nat.le_of_ble_eq_true rfl⟩) (Wd.preV zo hA hZ hw hK m_r_1 o_r_1 rfl) rfl rfl hl.1 rfl (lv_room (Nat.le_of_ble_eq_true rfl)) dX9_firstBegin_24 ⟨Nat.le_of_ble_eq_true rfl, Nat.le_of_ble_eq_true rfl⟩) (fun x_3 L1 f1 H locs ex_3 hw => ?_)
        obtain ⟨rfl, rfl, ex_3⟩ := ex_3
        obtain ⟨m_x_3, o_x_3⟩ := ex_3
        refine lv_astore (lv' := [(5, .ref x_3), (0, .ref a0), (1, .int (iI x1)), (2, .int (iI x2)), (3, .int (iI y3_6)), (4, .int (iI y4_6))]) hx hb dX9_firstBegin_27 hl (by decide) rfl (fun ls hl => ?_)
        refine lv_aload_n hx hb dX9_firstBegin_29 rfl (lv_at hl 1 rfl) ?_
        refine q_getr (ci := 7) (C := RX9) (T := TX9) (N := 4) hx hb hts (fun w h => List.mem_cons_of_mem _ (mfX90 w h)) hown hK hw m_a0 o_a0 rfl 2 (by decide) (hts _ (List.mem_cons_of_mem _ (mr1 _ (List.mem_of_getElem? (i := 20) rfl)))) (fun _ h => h) rfl er_1 dX9_firstBegin_30 ?_
        refine lv_iload hx hb dX9_firstBegin_33 (lv_at hl 5 rfl) ?_
        refine lv_iload_n hx hb dX9_firstBegin_35 rfl (lv_at hl 2 rfl) ?_
        refine q_call_i hA hK hw (va_runV (As := [.int (iI y4_6), .int (iI x1)]) (rest := []) ⟨hx, hb, hml, hown, hts⟩ (c_X7_isOf zo l D cy L0 fw6 r_1 y4_6 ly4_6 uy4_6 x1 lx1 ux1 m_r_1 o_r_1 hg (by omega) (by omega) _) (cwV 2 hts (gT (inV (mr32 _ (List.mem_of_getElem? (i := 13) rfl)) (mr32 _ (List.mem_of_getElem? (i := 14) rfl)) (mr32 _ (List.mem_of_getElem? (i := 15) rfl)) (mr1 _ (List.mem_of_getElem? (i := 19) rfl)) (mr32 _ (List.mem_of_getElem? (i := 16) rfl)))) rfl rfl rfl (by decide +kernel) ⟨Nat.le_of_ble_eq_true rfl, Nat.le_of_ble_eq_true rfl⟩) (Wd.preV zo hA hZ hw hK m_r_1 o_r_1 rfl) rfl rfl hl.1 rfl (lv_room (Nat.le_of_ble_eq_true rfl)) dX9_firstBegin_36 ⟨Nat.le_of_ble_eq_true rfl, Nat.le_of_ble_eq_true rfl⟩) (fun x_4 L1 f1 H locs lx_4 ux_4 ex_4 hw => ?_)
        obtain ⟨rfl, rfl, ex_4⟩ := ex_4
        have J62 : ∀ (z3_62 : Int) (lz3_62 : -2147483648 ≤ z3_62) (uz3_62 : z3_62 ≤ 2147483647) (L : List Nat) (fw62 : Nat → va_E) (hg : GI cy L0 fw62) (hE : Eh cy f0 fw62) (o_a0 : Ob fw62 a0 7) (H : Heap) (locs : List Loc) (ls : Array Slot) (hw : Wd D A s.heap L0 fw62 H locs) (hl : lv_has ls 6 [(0, .ref a0), (1, .int (iI x1)), (2, .int (iI x2)), (3, .int (iI z3_62)), (4, .int (iI y4_6))]), W p l e ({ frames := 5, cells := 0, slots := 0, locals := 117 } : Room) s m ([.ref a0, .int (iI x1), .int (iI x2)] : List Value).toArray below meth c H locs (0 + 0 + 0) (0 + 0 + 0) (MQ below (Qi D (tq cy) L0 f0 s.heap.size (fun (r : Int) (L1 : List Nat) (f1 : Nat → va_E) => L0 = L1 ∧ GI cy L0 f1 ∧ Eh cy f0 f1 ∧ (True))) ([.ref a0, .int (iI x1), .int (iI x2)] : List Value).toArray s 0 0 A) (F0 m 62 ls []) := by
          intro z3_62 lz3_62 uz3_62 L fw62 hg hE o_a0 H locs ls hw hl
          obtain ⟨x_5, lx_5, ux_5, hx_5, ex_5⟩ := q_inc y4_6 (1)
          try (replace ex_5 : x_5 = y4_6 + (1) := by omega)
          refine lv_iinc (v := iI x_5) (lv' := [(4, .int (iI x_5)), (0, .ref a0), (1, .int (iI x1)), (2, .int (iI x2)), (3, .int (iI z3_62))]) hx hb dX9_firstBegin_62 hl (k := 4) rfl hx_5 (by decide) rfl (fun ls hl => ?_)
          refine lv_goto (tgt := 6) hx hb dX9_firstBegin_65 (by decide) ?_
          exact ih6 z3_62 lz3_62 uz3_62 x_5 lx_5 ux_5 L0 fw62 hg hE o_a0 (by omega) (by omega) _ _ _ hw (lv_sub hl [1, 2, 3, 4, 0] rfl)
        refine q_if_eq (tgt := 62) hx hb dX9_firstBegin_39 (by decide) ⟨lx_4, ux_4⟩ (fun c39 => ?_) (fun c39 => ?_)
        · exact J62 y3_6 ly3_6 uy3_6 L0 fw6 hg hE o_a0 _ _ _ hw (lv_sub hl [1, 2, 3, 4, 5] rfl)
        · refine lv_aload hx hb dX9_firstBegin_42 (lv_at hl 0 rfl) ?_
          refine lv_iload_n hx hb dX9_firstBegin_44 rfl (lv_at hl 3 rfl) ?_
          refine q_iconst hx hb dX9_firstBegin_45 ?_
          refine q_call_i hA hK hw (va_runV (As := [.int (iI x2), .int (iI 0)]) (rest := []) ⟨hx, hb, hml, hown, hts⟩ (c_X0_seek_h zo l D cy L0 fw6 x_3 x2 lx2 ux2 0 (by decide) (by decide) m_x_3 o_x_3 hg _) (cwV 2 hts (gT (inV (mr29 _ (List.mem_of_getElem? (i := 7) rfl)) (mr29 _ (List.mem_of_getElem? (i := 8) rfl)) (mr29 _ (List.mem_of_getElem? (i := 9) rfl)) (mr2 _ (List.mem_of_getElem? (i := 9) rfl)) (mr29 _ (List.mem_of_getElem? (i := 10) rfl)))) rfl rfl rfl (by decide +kernel) ⟨Nat.le_of_ble_eq_true rfl, Nat.le_of_ble_eq_true rfl⟩) (Wd.preV zo hA hZ hw hK m_x_3 o_x_3 rfl) rfl rfl hl.1 rfl (lv_room (Nat.le_of_ble_eq_true rfl)) dX9_firstBegin_46 ⟨Nat.le_of_ble_eq_true rfl, Nat.le_of_ble_eq_true rfl⟩) (fun x_6 L1 f_7 H locs lx_6 ux_6 ex_6 hw => ?_)
          obtain ⟨rfl, hg, hX, ex_6⟩ := ex_6
          have hE := hE.trans hX
          have o_x_3 := hX.1.1.1 _ _ o_x_3
          have o_a0 := hX.1.1.1 _ _ o_a0
          refine q_if_eq (tgt := 62) hx hb dX9_firstBegin_49 (by decide) ⟨lx_6, ux_6⟩ (fun c49 => ?_) (fun c49 => ?_)
          · exact J62 y3_6 ly3_6 uy3_6 L0 f_7 hg hE o_a0 _ _ _ hw (lv_sub hl [1, 2, 3, 4, 5] rfl)
          · refine lv_iload_n hx hb dX9_firstBegin_52 rfl (lv_at hl 4 rfl) ?_
            refine lv_aload hx hb dX9_firstBegin_53 (lv_at hl 0 rfl) ?_
            refine q_geti (ci := 0) (C := RX0) (T := TX0) (N := 15) hx hb hts (fun w h => List.mem_cons_of_mem _ (mfX00 w h)) hown hK hw m_x_3 o_x_3 rfl 13 (by decide) (hts _ (List.mem_cons_of_mem _ (mr34 _ (List.mem_of_getElem? (i := 4) rfl)))) (fun _ h => h) rfl dX9_firstBegin_55 (fun x_8 lx_8 ux_8 ex_8 => ?_)
            refine q_min hx hb (hml.trans hl.1.symm) hown (hts _ (List.mem_cons_of_mem _ (mr35 _ (List.mem_of_getElem? (i := 7) rfl)))) (hts _ (List.mem_cons_of_mem _ (mr6 _ (List.mem_of_getElem? (i := 13) rfl)))) (hts _ (List.mem_cons_of_mem _ (mr6 _ (List.mem_of_getElem? (i := 14) rfl)))) (hts _ (List.mem_cons_of_mem _ (mr6 _ (List.mem_of_getElem? (i := 15) rfl)))) (Nat.le_of_ble_eq_true rfl) (Nat.le_of_ble_eq_true rfl) (Nat.le_of_ble_eq_true rfl) (Nat.le_of_ble_eq_true rfl) ⟨ly3_6, uy3_6⟩ ⟨lx_8, ux_8⟩ dX9_firstBegin_58 (fun x_9 lx_9 ux_9 ex_9 => ?_)
            refine lv_istore_n (lv' := [(3, .int (iI x_9)), (5, .ref x_3), (0, .ref a0), (1, .int (iI x1)), (2, .int (iI x2)), (4, .int (iI y4_6))]) hx hb dX9_firstBegin_61 rfl hl (by decide) rfl (fun ls hl => ?_)
            exact J62 x_9 lx_9 ux_9 L0 f_7 hg hE o_a0 _ _ _ hw (lv_sub hl [2, 3, 4, 0, 5] rfl)
  exact J6 ((((2147483647 : Int) - 0).toNat) + 1) 2147483647 (by decide) (by decide) 0 (by decide) (by decide) L0 f0 hg hE o_a0 (by omega) (by omega) _ _ _ hw (lv_sub hl [2, 3, 4, 1, 0] rfl)
set_option maxHeartbeats 4000000 in
set_option maxRecDepth 100000 in
theorem c_X9_takenMinutes_h {Z : Zt} (zo : Zok Z) (l : Launch) (D : va_G) (cy : Cy) (L0 : List Nat) (f0 : Nat → va_E) (a0 : Nat) (x1 : Int) (lx1 : -2147483648 ≤ x1) (ux1 : x1 ≤ 2147483647) (x2 : Int) (lx2 : -2147483648 ≤ x2) (ux2 : x2 ≤ 2147483647) (m_a0 : a0 ∈ L0) (o_a0 : Ob f0 a0 7) (hg : GI cy L0 f0) : Ci Z l yX9_takenMinutes (Cond.code yX9_takenMinutes cX9_takenMinutes 8 (some .int) :: TB) ({ frames := 6, cells := 0, slots := 0, locals := 142 } : Room) 0 0 D (tq cy) [.ref a0, .int (iI x1), .int (iI x2)] L0 f0 (fun (r : Int) (L1 : List Nat) (f1 : Nat → va_E) => L0 = L1 ∧ GI cy L0 f1 ∧ Eh cy f0 f1 ∧ (True)) := by
  refine Ci.enter (cc := cX9_takenMinutes) (n := 8) rfl (plainFor_of_name (by decide)) (Nat.le_of_ble_eq_true rfl) ?_
  intro p e s m below meth c ls A hx hb hr hts hown hlocks hnm hml hK hA hAe hw hZ hl
  have hown : s.vm.findClass RX9 = some m.cls := hown
  have hl : lv_has ls 8 [(0, .ref a0), (1, .int (iI x1)), (2, .int (iI x2))] := hl
  have hN : ZN s := (zo.2.2.2.2 _ _ _ hZ).2
  have hE : Eh cy f0 f0 := Eh.refl cy f0
  refine lv_iload_n hx hb dX9_takenMinutes_0 rfl (lv_at hl 2 rfl) ?_
  refine q_sipush hx hb dX9_takenMinutes_1 rfl ?_
  first | refine q_imul hx hb dX9_takenMinutes_4 ⟨by omega, by omega⟩ (fun x_1 lx_1 ux_1 ex_1 => ?_) | refine q_imulw hx hb dX9_takenMinutes_4 (fun x_1 lx_1 ux_1 _ => ?_)
  refine lv_istore_n (lv' := [(3, .int (iI x_1)), (0, .ref a0), (1, .int (iI x1)), (2, .int (iI x2))]) hx hb dX9_takenMinutes_5 rfl hl (by decide) rfl (fun ls hl => ?_)
  refine lv_iload_n hx hb dX9_takenMinutes_6 rfl (lv_at hl 0 rfl) ?_
  refine q_sipush hx hb dX9_takenMinutes_7 rfl ?_
  first | refine q_iadd hx hb dX9_takenMinutes_10 ⟨by omega, by omega⟩ (fun x_2 lx_2 ux_2 ex_2 => ?_) | refine q_iaddw hx hb dX9_takenMinutes_10 (fun x_2 lx_2 ux_2 _ => ?_)
  refine lv_istore (lv' := [(4, .int (iI x_2)), (3, .int (iI x_1)), (0, .ref a0), (1, .int (iI x1)), (2, .int (iI x2))]) hx hb dX9_takenMinutes_11 hl (by decide) rfl (fun ls hl => ?_)
  refine q_iconst hx hb dX9_takenMinutes_13 ?_
  refine lv_istore (lv' := [(5, .int (iI 0)), (4, .int (iI x_2)), (3, .int (iI x_1)), (0, .ref a0), (1, .int (iI x1)), (2, .int (iI x2))]) hx hb dX9_takenMinutes_14 hl (by decide) rfl (fun ls hl => ?_)
  refine q_iconst hx hb dX9_takenMinutes_16 ?_
  refine lv_istore (lv' := [(6, .int (iI 0)), (5, .int (iI 0)), (4, .int (iI x_2)), (3, .int (iI x_1)), (0, .ref a0), (1, .int (iI x1)), (2, .int (iI x2))]) hx hb dX9_takenMinutes_17 hl (by decide) rfl (fun ls hl => ?_)
  have J19 : ∀ (n19 : Nat) (y3_19 : Int) (ly3_19 : -2147483648 ≤ y3_19) (uy3_19 : y3_19 ≤ 2147483647) (y5_19 : Int) (ly5_19 : -2147483648 ≤ y5_19) (uy5_19 : y5_19 ≤ 2147483647) (y6_19 : Int) (ly6_19 : -2147483648 ≤ y6_19) (uy6_19 : y6_19 ≤ 2147483647) (L : List Nat) (fw19 : Nat → va_E) (hg : GI cy L0 fw19) (hE : Eh cy f0 fw19) (o_a0 : Ob fw19 a0 7) (hn19 : ((2147483647 : Int) - y6_19).toNat < n19) (H : Heap) (locs : List Loc) (ls : Array Slot) (hw : Wd D A s.heap L0 fw19 H locs) (hl : lv_has ls 8 [(0, .ref a0), (1, .int (iI x1)), (3, .int (iI y3_19)), (4, .int (iI x_2)), (5, .int (iI y5_19)), (6, .int (iI y6_19))]), W p l e ({ frames := 6, cells := 0, slots := 0, locals := 142 } : Room) s m ([.ref a0, .int (iI x1), .int (iI x2)] : List Value).toArray below meth c H locs (0) (0) (MQ below (Qi D (tq cy) L0 f0 s.heap.size (fun (r : Int) (L1 : List Nat) (f1 : Nat → va_E) => L0 = L1 ∧ GI cy L0 f1 ∧ Eh cy f0 f1 ∧ (True))) ([.ref a0, .int (iI x1), .int (iI x2)] : List Value).toArray s 0 0 A) (F0 m 19 ls []) := by
    intro n19
    induction n19 with
    | zero => intro y3_19 ly3_19 uy3_19 y5_19 ly5_19 uy5_19 y6_19 ly6_19 uy6_19 L fw19 hg hE o_a0 hn19; exact absurd hn19 (Nat.not_lt_zero _)
    | succ n19 ih19 =>
      intro y3_19 ly3_19 uy3_19 y5_19 ly5_19 uy5_19 y6_19 ly6_19 uy6_19 L fw19 hg hE o_a0 hn19 H locs ls hw hl
      refine lv_iload hx hb dX9_takenMinutes_19 (lv_at hl 5 rfl) ?_
      refine q_sipush hx hb dX9_takenMinutes_21 rfl ?_
      refine q_icmp_ge (tgt := 85) hx hb dX9_takenMinutes_24 (by decide) ⟨ly6_19, uy6_19⟩ ⟨by decide, by decide⟩ (fun c24 => ?_) (fun c24 => ?_)
      · refine lv_iload hx hb dX9_takenMinutes_85 (lv_at hl 4 rfl) ?_
        exact q_ret_i hx hb hr hlocks hK hAe hw ⟨ly5_19, uy5_19⟩ (Nat.le_of_ble_eq_true rfl) (Nat.le_of_ble_eq_true rfl) dX9_takenMinutes_87 (by exact ⟨rfl, hg, hE, by first | trivial | omega⟩)
      · refine lv_iload_n hx hb dX9_takenMinutes_27 rfl (lv_at hl 2 rfl) ?_
        refine lv_iload hx hb dX9_takenMinutes_28 (lv_at hl 3 rfl) ?_
        refine q_icmp_ge (tgt := 85) hx hb dX9_takenMinutes_30 (by decide) ⟨ly3_19, uy3_19⟩ ⟨lx_2, ux_2⟩ (fun c30 => ?_) (fun c30 => ?_)
        · refine lv_iload hx hb dX9_takenMinutes_85 (lv_at hl 4 rfl) ?_
          exact q_ret_i hx hb hr hlocks hK hAe hw ⟨ly5_19, uy5_19⟩ (Nat.le_of_ble_eq_true rfl) (Nat.le_of_ble_eq_true rfl) dX9_takenMinutes_87 (by exact ⟨rfl, hg, hE, by first | trivial | omega⟩)
        · refine lv_aload_n hx hb dX9_takenMinutes_33 rfl (lv_at hl 0 rfl) ?_
          refine lv_iload_n hx hb dX9_takenMinutes_34 rfl (lv_at hl 1 rfl) ?_
          refine lv_iload_n hx hb dX9_takenMinutes_35 rfl (lv_at hl 2 rfl) ?_
          refine q_iconst hx hb dX9_takenMinutes_36 ?_
          refine q_call_i hA hK hw (va_runV (As := [.int (iI x1), .int (iI y3_19), .int (iI 1)]) (rest := []) ⟨hx, hb, hml, hown, hts⟩ (c_X9_takenTill_h zo l D cy L0 fw19 a0 x1 lx1 ux1 y3_19 ly3_19 uy3_19 1 (by decide) (by decide) m_a0 o_a0 hg _) (cwV 3 hts (gT (inV (mr38 _ (List.mem_of_getElem? (i := 14) rfl)) (mr38 _ (List.mem_of_getElem? (i := 15) rfl)) (mr38 _ (List.mem_of_getElem? (i := 16) rfl)) (mr1 _ (List.mem_of_getElem? (i := 2) rfl)) (mr38 _ (List.mem_of_getElem? (i := 17) rfl)))) rfl rfl rfl (by decide +kernel) ⟨Nat.le_of_ble_eq_true rfl, Nat.le_of_ble_eq_true rfl⟩) (Wd.preV zo hA hZ hw hK m_a0 o_a0 rfl) rfl rfl hl.1 rfl (lv_room (Nat.le_of_ble_eq_true rfl)) dX9_takenMinutes_37 ⟨Nat.le_of_ble_eq_true rfl, Nat.le_of_ble_eq_true rfl⟩) (fun x_3 L1 f_4 H locs lx_3 ux_3 ex_3 hw => ?_)
          obtain ⟨rfl, hg, hX, ex_3⟩ := ex_3
          have hE := hE.trans hX
          have o_a0 := hX.1.1.1 _ _ o_a0
          refine lv_iload hx hb dX9_takenMinutes_40 (lv_at hl 3 rfl) ?_
          refine q_min hx hb (hml.trans hl.1.symm) hown (hts _ (List.mem_cons_of_mem _ (mr35 _ (List.mem_of_getElem? (i := 7) rfl)))) (hts _ (List.mem_cons_of_mem _ (mr6 _ (List.mem_of_getElem? (i := 13) rfl)))) (hts _ (List.mem_cons_of_mem _ (mr6 _ (List.mem_of_getElem? (i := 14) rfl)))) (hts _ (List.mem_cons_of_mem _ (mr6 _ (List.mem_of_getElem? (i := 15) rfl)))) (Nat.le_of_ble_eq_true rfl) (Nat.le_of_ble_eq_true rfl) (Nat.le_of_ble_eq_true rfl) (Nat.le_of_ble_eq_true rfl) ⟨lx_3, ux_3⟩ ⟨lx_2, ux_2⟩ dX9_takenMinutes_42 (fun x_5 lx_5 ux_5 ex_5 => ?_)
          refine lv_istore (lv' := [(7, .int (iI x_5)), (0, .ref a0), (1, .int (iI x1)), (3, .int (iI y3_19)), (4, .int (iI x_2)), (5, .int (iI y5_19)), (6, .int (iI y6_19))]) hx hb dX9_takenMinutes_45 hl (by decide) rfl (fun ls hl => ?_)
          refine lv_iload hx hb dX9_takenMinutes_47 (lv_at hl 5 rfl) ?_
          refine lv_iload hx hb dX9_takenMinutes_49 (lv_at hl 0 rfl) ?_
          refine lv_iload_n hx hb dX9_takenMinutes_51 rfl (lv_at hl 3 rfl) ?_
          first | refine q_isub hx hb dX9_takenMinutes_52 ⟨by omega, by omega⟩ (fun x_6 lx_6 ux_6 ex_6 => ?_) | refine q_isubw hx hb dX9_takenMinutes_52 (fun x_6 lx_6 ux_6 _ => ?_)
          first | refine q_iadd hx hb dX9_takenMinutes_53 ⟨by omega, by omega⟩ (fun x_7 lx_7 ux_7 ex_7 => ?_) | refine q_iaddw hx hb dX9_takenMinutes_53 (fun x_7 lx_7 ux_7 _ => ?_)
          refine lv_istore (lv' := [(5, .int (iI x_7)), (7, .int (iI x_5)), (0, .ref a0), (1, .int (iI x1)), (3, .int (iI y3_19)), (4, .int (iI x_2)), (6, .int (iI y6_19))]) hx hb dX9_takenMinutes_54 hl (by decide) rfl (fun ls hl => ?_)
          refine lv_iload hx hb dX9_takenMinutes_56 (lv_at hl 1 rfl) ?_
          refine lv_iload_n hx hb dX9_takenMinutes_58 rfl (lv_at hl 4 rfl) ?_
          have J78 : ∀ (w0_78 : Int) (lw0_78 : -2147483648 ≤ w0_78) (uw0_78 : w0_78 ≤ 2147483647) (L : List Nat) (fw78 : Nat → va_E) (hg : GI cy L0 fw78) (hE : Eh cy f0 fw78) (o_a0 : Ob fw78 a0 7) (H : Heap) (locs : List Loc) (ls : Array Slot) (hw : Wd D A s.heap L0 fw78 H locs) (hl : lv_has ls 8 [(0, .ref a0), (1, .int (iI x1)), (4, .int (iI x_2)), (5, .int (iI x_7)), (6, .int (iI y6_19))]), W p l e ({ frames := 6, cells := 0, slots := 0, locals := 142 } : Room) s m ([.ref a0, .int (iI x1), .int (iI x2)] : List Value).toArray below meth c H locs (0 + 0) (0 + 0) (MQ below (Qi D (tq cy) L0 f0 s.heap.size (fun (r : Int) (L1 : List Nat) (f1 : Nat → va_E) => L0 = L1 ∧ GI cy L0 f1 ∧ Eh cy f0 f1 ∧ (True))) ([.ref a0, .int (iI x1), .int (iI x2)] : List Value).toArray s 0 0 A) (F0 m 78 ls [.int (iI w0_78)]) := by
            intro w0_78 lw0_78 uw0_78 L fw78 hg hE o_a0 H locs ls hw hl
            refine lv_istore_n (lv' := [(3, .int (iI w0_78)), (0, .ref a0), (1, .int (iI x1)), (4, .int (iI x_2)), (5, .int (iI x_7)), (6, .int (iI y6_19))]) hx hb dX9_takenMinutes_78 rfl hl (by decide) rfl (fun ls hl => ?_)
            obtain ⟨x_8, lx_8, ux_8, hx_8, ex_8⟩ := q_inc y6_19 (1)
            try (replace ex_8 : x_8 = y6_19 + (1) := by omega)
            refine lv_iinc (v := iI x_8) (lv' := [(6, .int (iI x_8)), (3, .int (iI w0_78)), (0, .ref a0), (1, .int (iI x1)), (4, .int (iI x_2)), (5, .int (iI x_7))]) hx hb dX9_takenMinutes_79 hl (k := 5) rfl hx_8 (by decide) rfl (fun ls hl => ?_)
            refine lv_goto (tgt := 19) hx hb dX9_takenMinutes_82 (by decide) ?_
            exact ih19 w0_78 lw0_78 uw0_78 x_7 lx_7 ux_7 x_8 lx_8 ux_8 L0 fw78 hg hE o_a0 (by omega) _ _ _ hw (lv_sub hl [2, 3, 1, 4, 5, 0] rfl)
          refine q_icmp_le (tgt := 67) hx hb dX9_takenMinutes_59 (by decide) ⟨lx_5, ux_5⟩ ⟨ly3_19, uy3_19⟩ (fun c59 => ?_) (fun c59 => ?_)
          · refine lv_aload_n hx hb dX9_takenMinutes_67 rfl (lv_at hl 2 rfl) ?_
            refine lv_iload_n hx hb dX9_takenMinutes_68 rfl (lv_at hl 3 rfl) ?_
            refine lv_iload_n hx hb dX9_takenMinutes_69 rfl (lv_at hl 4 rfl) ?_
            refine q_call_i hA hK hw (va_runV (As := [.int (iI x1), .int (iI y3_19)]) (rest := []) ⟨hx, hb, hml, hown, hts⟩ (c_X9_firstBegin_h zo l D cy L0 f_4 a0 x1 lx1 ux1 y3_19 ly3_19 uy3_19 m_a0 o_a0 hg _) (cwV 2 hts (gT (inV (mr39 _ (List.mem_of_getElem? (i := 11) rfl)) (mr39 _ (List.mem_of_getElem? (i := 12) rfl)) (mr39 _ (List.mem_of_getElem? (i := 13) rfl)) (mr1 _ (List.mem_of_getElem? (i := 2) rfl)) (mr39 _ (List.mem_of_getElem? (i := 14) rfl)))) rfl rfl rfl (by decide +kernel) ⟨Nat.le_of_ble_eq_true rfl, Nat.le_of_ble_eq_true rfl⟩) (Wd.preV zo hA hZ hw hK m_a0 o_a0 rfl) rfl rfl hl.1 rfl (lv_room (Nat.le_of_ble_eq_true rfl)) dX9_takenMinutes_70 ⟨Nat.le_of_ble_eq_true rfl, Nat.le_of_ble_eq_true rfl⟩) (fun x_9 L1 f_10 H locs lx_9 ux_9 ex_9 hw => ?_)
            obtain ⟨rfl, hg, hX, ex_9⟩ := ex_9
            have hE := hE.trans hX
            have o_a0 := hX.1.1.1 _ _ o_a0
            refine lv_iload hx hb dX9_takenMinutes_73 (lv_at hl 5 rfl) ?_
            refine q_min hx hb (hml.trans hl.1.symm) hown (hts _ (List.mem_cons_of_mem _ (mr35 _ (List.mem_of_getElem? (i := 7) rfl)))) (hts _ (List.mem_cons_of_mem _ (mr6 _ (List.mem_of_getElem? (i := 13) rfl)))) (hts _ (List.mem_cons_of_mem _ (mr6 _ (List.mem_of_getElem? (i := 14) rfl)))) (hts _ (List.mem_cons_of_mem _ (mr6 _ (List.mem_of_getElem? (i := 15) rfl)))) (Nat.le_of_ble_eq_true rfl) (Nat.le_of_ble_eq_true rfl) (Nat.le_of_ble_eq_true rfl) (Nat.le_of_ble_eq_true rfl) ⟨lx_9, ux_9⟩ ⟨lx_2, ux_2⟩ dX9_takenMinutes_75 (fun x_11 lx_11 ux_11 ex_11 => ?_)
            exact J78 x_11 lx_11 ux_11 L0 f_10 hg hE o_a0 _ _ _ hw (lv_sub hl [2, 3, 5, 0, 6] rfl)
          · refine lv_iload hx hb dX9_takenMinutes_62 (lv_at hl 1 rfl) ?_
            refine lv_goto (tgt := 78) hx hb dX9_takenMinutes_64 (by decide) ?_
            exact J78 x_5 lx_5 ux_5 L0 f_4 hg hE o_a0 _ _ _ hw (lv_sub hl [2, 3, 5, 0, 6] rfl)
  exact J19 ((((2147483647 : Int) - 0).toNat) + 1) x_1 lx_1 ux_1 0 (by decide) (by decide) 0 (by decide) (by decide) L0 f0 hg hE o_a0 (by omega) _ _ _ hw (lv_sub hl [4, 5, 3, 2, 1, 0] rfl)
set_option maxHeartbeats 4000000 in
set_option maxRecDepth 100000 in
theorem c_X9_free_h {Z : Zt} (zo : Zok Z) (l : Launch) (D : va_G) (cy : Cy) (L0 : List Nat) (f0 : Nat → va_E) (a0 : Nat) (x1 : Int) (lx1 : -2147483648 ≤ x1) (ux1 : x1 ≤ 2147483647) (x2 : Int) (lx2 : -2147483648 ≤ x2) (ux2 : x2 ≤ 2147483647) (x3 : Int) (lx3 : -2147483648 ≤ x3) (ux3 : x3 ≤ 2147483647) (m_a0 : a0 ∈ L0) (o_a0 : Ob f0 a0 7) (hg : GI cy L0 f0) : Ci Z l yX9_free (Cond.code yX9_free cX9_free 8 (some .int) :: TB) ({ frames := 6, cells := 0, slots := 0, locals := 139 } : Room) 0 0 D (tq cy) [.ref a0, .int (iI x1), .int (iI x2), .int (iI x3)] L0 f0 (fun (r : Int) (L1 : List Nat) (f1 : Nat → va_E) => L0 = L1 ∧ GI cy L0 f1 ∧ Eh cy f0 f1 ∧ (True)) := by
  refine Ci.enter (cc := cX9_free) (n := 8) rfl (plainFor_of_name (by decide)) (Nat.le_of_ble_eq_true rfl) ?_
  intro p e s m below meth c ls A hx hb hr hts hown hlocks hnm hml hK hA hAe hw hZ hl
  have hown : s.vm.findClass RX9 = some m.cls := hown
  have hl : lv_has ls 8 [(0, .ref a0), (1, .int (iI x1)), (2, .int (iI x2)), (3, .int (iI x3))] := hl
  have hN : ZN s := (zo.2.2.2.2 _ _ _ hZ).2
  have hE : Eh cy f0 f0 := Eh.refl cy f0
  refine lv_iload_n hx hb dX9_free_0 rfl (lv_at hl 1 rfl) ?_
  refine q_call_i hA hK hw (va_runS (As := [.int (iI x1)]) (rest := []) ⟨hx, hb, hml, hown, hts⟩ (c_X9_isRoom zo l D cy L0 f0 x1 lx1 ux1 _) (va_cwS 1 hts (gT (inS (mr32 _ (List.mem_of_getElem? (i := 10) rfl)) (mr32 _ (List.mem_of_getElem? (i := 11) rfl)) (mr1 _ (List.mem_of_getElem? (i := 2) rfl)) (mr32 _ (List.mem_of_getElem? (i := 12) rfl)))) rfl rfl rfl (by decide +kernel) ⟨Nat.le_of_ble_eq_true rfl, Nat.le_of_ble_eq_true rfl⟩) (Wd.preS zo hA hZ hw hK) rfl rfl hl.1 rfl (lv_room (Nat.le_of_ble_eq_true rfl)) dX9_free_1 ⟨Nat.le_of_ble_eq_true rfl, Nat.le_of_ble_eq_true rfl⟩) (fun x_1 L1 f1 H locs lx_1 ux_1 ex_1 hw => ?_)
  obtain ⟨rfl, rfl, ex_1⟩ := ex_1
  refine q_if_eq (tgt := 26) hx hb dX9_free_4 (by decide) ⟨lx_1, ux_1⟩ (fun c4 => ?_) (fun c4 => ?_)
  · refine q_iconst hx hb dX9_free_26 ?_
    exact q_ret_i hx hb hr hlocks hK hAe hw ⟨by decide, by decide⟩ (Nat.le_of_ble_eq_true rfl) (Nat.le_of_ble_eq_true rfl) dX9_free_27 (by exact ⟨rfl, hg, hE, by first | trivial | omega⟩)
  · refine lv_iload_n hx hb dX9_free_7 rfl (lv_at hl 2 rfl) ?_
    refine q_call_i hA hK hw (va_runS (As := [.int (iI x2)]) (rest := []) ⟨hx, hb, hml, hown, hts⟩ (c_X9_isTime zo l D cy L0 f0 x2 lx2 ux2 _) (va_cwS 1 hts (gT (inS (mr27 _ (List.mem_of_getElem? (i := 19) rfl)) (mr27 _ (List.mem_of_getElem? (i := 20) rfl)) (mr1 _ (List.mem_of_getElem? (i := 2) rfl)) (mr27 _ (List.mem_of_getElem? (i := 21) rfl)))) rfl rfl rfl (by decide +kernel) ⟨Nat.le_of_ble_eq_true rfl, Nat.le_of_ble_eq_true rfl⟩) (Wd.preS zo hA hZ hw hK) rfl rfl hl.1 rfl (lv_room (Nat.le_of_ble_eq_true rfl)) dX9_free_8 ⟨Nat.le_of_ble_eq_true rfl, Nat.le_of_ble_eq_true rfl⟩) (fun x_2 L1 f1 H locs lx_2 ux_2 ex_2 hw => ?_)
    obtain ⟨rfl, rfl, ex_2⟩ := ex_2
    refine q_if_eq (tgt := 26) hx hb dX9_free_11 (by decide) ⟨lx_2, ux_2⟩ (fun c11 => ?_) (fun c11 => ?_)
    · refine q_iconst hx hb dX9_free_26 ?_
      exact q_ret_i hx hb hr hlocks hK hAe hw ⟨by decide, by decide⟩ (Nat.le_of_ble_eq_true rfl) (Nat.le_of_ble_eq_true rfl) dX9_free_27 (by exact ⟨rfl, hg, hE, by first | trivial | omega⟩)
    · refine lv_iload_n hx hb dX9_free_14 rfl (lv_at hl 3 rfl) ?_
      refine q_iconst hx hb dX9_free_15 ?_
      refine q_icmp_lt (tgt := 26) hx hb dX9_free_16 (by decide) ⟨lx3, ux3⟩ ⟨by decide, by decide⟩ (fun c16 => ?_) (fun c16 => ?_)
      · refine q_iconst hx hb dX9_free_26 ?_
        exact q_ret_i hx hb hr hlocks hK hAe hw ⟨by decide, by decide⟩ (Nat.le_of_ble_eq_true rfl) (Nat.le_of_ble_eq_true rfl) dX9_free_27 (by exact ⟨rfl, hg, hE, by first | trivial | omega⟩)
      · refine lv_iload_n hx hb dX9_free_19 rfl (lv_at hl 3 rfl) ?_
        refine q_sipush hx hb dX9_free_20 rfl ?_
        refine q_icmp_le (tgt := 28) hx hb dX9_free_23 (by decide) ⟨lx3, ux3⟩ ⟨by decide, by decide⟩ (fun c23 => ?_) (fun c23 => ?_)
        · refine lv_iload_n hx hb dX9_free_28 rfl (lv_at hl 2 rfl) ?_
          refine q_ldc (n := 86400) hx hb hown (hts _ (List.mem_cons_of_mem _ (mr32 _ (List.mem_of_getElem? (i := 8) rfl)))) rfl dX9_free_29 ?_
          first | refine q_iadd hx hb dX9_free_31 ⟨by omega, by omega⟩ (fun x_3 lx_3 ux_3 ex_3 => ?_) | refine q_iaddw hx hb dX9_free_31 (fun x_3 lx_3 ux_3 _ => ?_)
          refine q_ldc (n := 52595999) hx hb hown (hts _ (List.mem_cons_of_mem _ (mr27 _ (List.mem_of_getElem? (i := 22) rfl)))) rfl dX9_free_32 ?_
          refine q_min hx hb (hml.trans hl.1.symm) hown (hts _ (List.mem_cons_of_mem _ (mr35 _ (List.mem_of_getElem? (i := 7) rfl)))) (hts _ (List.mem_cons_of_mem _ (mr6 _ (List.mem_of_getElem? (i := 13) rfl)))) (hts _ (List.mem_cons_of_mem _ (mr6 _ (List.mem_of_getElem? (i := 14) rfl)))) (hts _ (List.mem_cons_of_mem _ (mr6 _ (List.mem_of_getElem? (i := 15) rfl)))) (Nat.le_of_ble_eq_true rfl) (Nat.le_of_ble_eq_true rfl) (Nat.le_of_ble_eq_true rfl) (Nat.le_of_ble_eq_true rfl) ⟨lx_3, ux_3⟩ ⟨by decide, by decide⟩ dX9_free_34 (fun x_4 lx_4 ux_4 ex_4 => ?_)
          refine lv_istore (lv' := [(4, .int (iI x_4)), (0, .ref a0), (1, .int (iI x1)), (2, .int (iI x2)), (3, .int (iI x3))]) hx hb dX9_free_37 hl (by decide) rfl (fun ls hl => ?_)
          refine lv_iload_n hx hb dX9_free_39 rfl (lv_at hl 3 rfl) ?_
          refine lv_istore (lv' := [(5, .int (iI x2)), (4, .int (iI x_4)), (0, .ref a0), (1, .int (iI x1)), (2, .int (iI x2)), (3, .int (iI x3))]) hx hb dX9_free_40 hl (by decide) rfl (fun ls hl => ?_)
          refine q_iconst hx hb dX9_free_42 ?_
          refine lv_istore (lv' := [(6, .int (iI 0)), (5, .int (iI x2)), (4, .int (iI x_4)), (0, .ref a0), (1, .int (iI x1)), (2, .int (iI x2)), (3, .int (iI x3))]) hx hb dX9_free_43 hl (by decide) rfl (fun ls hl => ?_)
          have J45 : ∀ (n45 : Nat) (y5_45 : Int) (ly5_45 : -2147483648 ≤ y5_45) (uy5_45 : y5_45 ≤ 2147483647) (y6_45 : Int) (ly6_45 : -2147483648 ≤ y6_45) (uy6_45 : y6_45 ≤ 2147483647) (L : List Nat) (fw45 : Nat → va_E) (hg : GI cy L0 fw45) (hE : Eh cy f0 fw45) (o_a0 : Ob fw45 a0 7) (hn45 : ((2147483647 : Int) - y6_45).toNat < n45) (H : Heap) (locs : List Loc) (ls : Array Slot) (hw : Wd D A s.heap L0 fw45 H locs) (hl : lv_has ls 8 [(0, .ref a0), (1, .int (iI x1)), (3, .int (iI x3)), (4, .int (iI x_4)), (5, .int (iI y5_45)), (6, .int (iI y6_45))]), W p l e ({ frames := 6, cells := 0, slots := 0, locals := 139 } : Room) s m ([.ref a0, .int (iI x1), .int (iI x2), .int (iI x3)] : List Value).toArray below meth c H locs (0 + 0 + 0) (0 + 0 + 0) (MQ below (Qi D (tq cy) L0 f0 s.heap.size (fun (r : Int) (L1 : List Nat) (f1 : Nat → va_E) => L0 = L1 ∧ GI cy L0 f1 ∧ Eh cy f0 f1 ∧ (True))) ([.ref a0, .int (iI x1), .int (iI x2), .int (iI x3)] : List Value).toArray s 0 0 A) (F0 m 45 ls []) := by
            intro n45
            induction n45 with
            | zero => intro y5_45 ly5_45 uy5_45 y6_45 ly6_45 uy6_45 L fw45 hg hE o_a0 hn45; exact absurd hn45 (Nat.not_lt_zero _)
            | succ n45 ih45 =>
              intro y5_45 ly5_45 uy5_45 y6_45 ly6_45 uy6_45 L fw45 hg hE o_a0 hn45 H locs ls hw hl
              refine lv_iload hx hb dX9_free_45 (lv_at hl 5 rfl) ?_
              refine q_ldc (n := 86400) hx hb hown (hts _ (List.mem_cons_of_mem _ (mr32 _ (List.mem_of_getElem? (i := 8) rfl)))) rfl dX9_free_47 ?_
              refine q_icmp_gt (tgt := 89) hx hb dX9_free_49 (by decide) ⟨ly6_45, uy6_45⟩ ⟨by decide, by decide⟩ (fun c49 => ?_) (fun c49 => ?_)
              · refine q_iconst hx hb dX9_free_89 ?_
                exact q_ret_i hx hb hr hlocks hK hAe hw ⟨by decide, by decide⟩ (Nat.le_of_ble_eq_true rfl) (Nat.le_of_ble_eq_true rfl) dX9_free_90 (by exact ⟨rfl, hg, hE, by first | trivial | omega⟩)
              · refine lv_iload hx hb dX9_free_52 (lv_at hl 4 rfl) ?_
                refine lv_iload hx hb dX9_free_54 (lv_at hl 3 rfl) ?_
                refine q_icmp_gt (tgt := 89) hx hb dX9_free_56 (by decide) ⟨ly5_45, uy5_45⟩ ⟨lx_4, ux_4⟩ (fun c56 => ?_) (fun c56 => ?_)
                · refine q_iconst hx hb dX9_free_89 ?_
                  exact q_ret_i hx hb hr hlocks hK hAe hw ⟨by decide, by decide⟩ (Nat.le_of_ble_eq_true rfl) (Nat.le_of_ble_eq_true rfl) dX9_free_90 (by exact ⟨rfl, hg, hE, by first | trivial | omega⟩)
                · refine lv_aload_n hx hb dX9_free_59 rfl (lv_at hl 0 rfl) ?_
                  refine lv_iload_n hx hb dX9_free_60 rfl (lv_at hl 1 rfl) ?_
                  refine lv_iload hx hb dX9_free_61 (lv_at hl 4 rfl) ?_
                  refine lv_iload_n hx hb dX9_free_63 rfl (lv_at hl 2 rfl) ?_
                  refine q_call_i hA hK hw (va_runV (As := [.int (iI x1), .int (iI y5_45), .int (iI x3)]) (rest := []) ⟨hx, hb, hml, hown, hts⟩ (c_X9_takenTill_h zo l D cy L0 fw45 a0 x1 lx1 ux1 y5_45 ly5_45 uy5_45 x3 lx3 ux3 m_a0 o_a0 hg _) (cwV 3 hts (gT (inV (mr38 _ (List.mem_of_getElem? (i := 14) rfl)) (mr38 _ (List.mem_of_getElem? (i := 15) rfl)) (mr38 _ (List.mem_of_getElem? (i := 16) rfl)) (mr1 _ (List.mem_of_getElem? (i := 2) rfl)) (mr38 _ (List.mem_of_getElem? (i := 17) rfl)))) rfl rfl rfl (by decide +kernel) ⟨Nat.le_of_ble_eq_true rfl, Nat.le_of_ble_eq_true rfl⟩) (Wd.preV zo hA hZ hw hK m_a0 o_a0 rfl) rfl rfl hl.1 rfl (lv_room (Nat.le_of_ble_eq_true rfl)) dX9_free_64 ⟨Nat.le_of_ble_eq_true rfl, Nat.le_of_ble_eq_true rfl⟩) (fun x_5 L1 f_6 H locs lx_5 ux_5 ex_5 hw => ?_)
                  obtain ⟨rfl, hg, hX, ex_5⟩ := ex_5
                  have hE := hE.trans hX
                  have o_a0 := hX.1.1.1 _ _ o_a0
                  refine lv_istore (lv' := [(7, .int (iI x_5)), (0, .ref a0), (1, .int (iI x1)), (3, .int (iI x3)), (4, .int (iI x_4)), (5, .int (iI y5_45)), (6, .int (iI y6_45))]) hx hb dX9_free_67 hl (by decide) rfl (fun ls hl => ?_)
                  refine lv_iload hx hb dX9_free_69 (lv_at hl 0 rfl) ?_
                  refine lv_iload hx hb dX9_free_71 (lv_at hl 5 rfl) ?_
                  refine q_icmp_gt (tgt := 79) hx hb dX9_free_73 (by decide) ⟨lx_5, ux_5⟩ ⟨ly5_45, uy5_45⟩ (fun c73 => ?_) (fun c73 => ?_)
                  · refine lv_iload hx hb dX9_free_79 (lv_at hl 0 rfl) ?_
                    refine lv_istore (lv' := [(5, .int (iI x_5)), (7, .int (iI x_5)), (0, .ref a0), (1, .int (iI x1)), (3, .int (iI x3)), (4, .int (iI x_4)), (6, .int (iI y6_45))]) hx hb dX9_free_81 hl (by decide) rfl (fun ls hl => ?_)
                    obtain ⟨x_7, lx_7, ux_7, hx_7, ex_7⟩ := q_inc y6_45 (1)
                    try (replace ex_7 : x_7 = y6_45 + (1) := by omega)
                    refine lv_iinc (v := iI x_7) (lv' := [(6, .int (iI x_7)), (5, .int (iI x_5)), (7, .int (iI x_5)), (0, .ref a0), (1, .int (iI x1)), (3, .int (iI x3)), (4, .int (iI x_4))]) hx hb dX9_free_83 hl (k := 6) rfl hx_7 (by decide) rfl (fun ls hl => ?_)
                    refine lv_goto (tgt := 45) hx hb dX9_free_86 (by decide) ?_
                    exact ih45 x_5 lx_5 ux_5 x_7 lx_7 ux_7 L0 f_6 hg hE o_a0 (by omega) _ _ _ hw (lv_sub hl [3, 4, 5, 6, 1, 0] rfl)
                  · refine lv_iload hx hb dX9_free_76 (lv_at hl 5 rfl) ?_
                    exact q_ret_i hx hb hr hlocks hK hAe hw ⟨ly5_45, uy5_45⟩ (Nat.le_of_ble_eq_true rfl) (Nat.le_of_ble_eq_true rfl) dX9_free_78 (by exact ⟨rfl, hg, hE, by first | trivial | omega⟩)
          exact J45 ((((2147483647 : Int) - 0).toNat) + 1) x2 lx2 ux2 0 (by decide) (by decide) L0 f0 hg hE o_a0 (by omega) _ _ _ hw (lv_sub hl [3, 4, 6, 2, 1, 0] rfl)
        · refine q_iconst hx hb dX9_free_26 ?_
          exact q_ret_i hx hb hr hlocks hK hAe hw ⟨by decide, by decide⟩ (Nat.le_of_ble_eq_true rfl) (Nat.le_of_ble_eq_true rfl) dX9_free_27 (by exact ⟨rfl, hg, hE, by first | trivial | omega⟩)
set_option maxHeartbeats 4000000 in
set_option maxRecDepth 100000 in
theorem c_X9_busy_h {Z : Zt} (zo : Zok Z) (l : Launch) (D : va_G) (cy : Cy) (L0 : List Nat) (f0 : Nat → va_E) (a0 : Nat) (x1 : Int) (lx1 : -2147483648 ≤ x1) (ux1 : x1 ≤ 2147483647) (x2 : Int) (lx2 : -2147483648 ≤ x2) (ux2 : x2 ≤ 2147483647) (m_a0 : a0 ∈ L0) (o_a0 : Ob f0 a0 7) (hg : GI cy L0 f0) : Ci Z l yX9_busy (Cond.code yX9_busy cX9_busy 3 (some .int) :: TB) ({ frames := 7, cells := 0, slots := 0, locals := 169 } : Room) 0 0 D (tq cy) [.ref a0, .int (iI x1), .int (iI x2)] L0 f0 (fun (r : Int) (L1 : List Nat) (f1 : Nat → va_E) => L0 = L1 ∧ GI cy L0 f1 ∧ Eh cy f0 f1 ∧ (True)) := by
  refine Ci.enter (cc := cX9_busy) (n := 3) rfl (plainFor_of_name (by decide)) (Nat.le_of_ble_eq_true rfl) ?_
  intro p e s m below meth c ls A hx hb hr hts hown hlocks hnm hml hK hA hAe hw hZ hl
  have hown : s.vm.findClass RX9 = some m.cls := hown
  have hl : lv_has ls 3 [(0, .ref a0), (1, .int (iI x1)), (2, .int (iI x2))] := hl
  have hN : ZN s := (zo.2.2.2.2 _ _ _ hZ).2
  have hE : Eh cy f0 f0 := Eh.refl cy f0
  refine lv_iload_n hx hb dX9_busy_0 rfl (lv_at hl 1 rfl) ?_
  refine q_call_i hA hK hw (va_runS (As := [.int (iI x1)]) (rest := []) ⟨hx, hb, hml, hown, hts⟩ (c_X9_isRoom zo l D cy L0 f0 x1 lx1 ux1 _) (va_cwS 1 hts (gT (inS (mr32 _ (List.mem_of_getElem? (i := 10) rfl)) (mr32 _ (List.mem_of_getElem? (i := 11) rfl)) (mr1 _ (List.mem_of_getElem? (i := 2) rfl)) (mr32 _ (List.mem_of_getElem? (i := 12) rfl)))) rfl rfl rfl (by decide +kernel) ⟨Nat.le_of_ble_eq_true rfl, Nat.le_of_ble_eq_true rfl⟩) (Wd.preS zo hA hZ hw hK) rfl rfl hl.1 rfl (lv_room (Nat.le_of_ble_eq_true rfl)) dX9_busy_1 ⟨Nat.le_of_ble_eq_true rfl, Nat.le_of_ble_eq_true rfl⟩) (fun x_1 L1 f1 H locs lx_1 ux_1 ex_1 hw => ?_)
  obtain ⟨rfl, rfl, ex_1⟩ := ex_1
  refine q_if_eq (tgt := 14) hx hb dX9_busy_4 (by decide) ⟨lx_1, ux_1⟩ (fun c4 => ?_) (fun c4 => ?_)
  · refine q_iconst hx hb dX9_busy_14 ?_
    exact q_ret_i hx hb hr hlocks hK hAe hw ⟨by decide, by decide⟩ (Nat.le_of_ble_eq_true rfl) (Nat.le_of_ble_eq_true rfl) dX9_busy_15 (by exact ⟨rfl, hg, hE, by first | trivial | omega⟩)
  · refine lv_iload_n hx hb dX9_busy_7 rfl (lv_at hl 2 rfl) ?_
    refine q_call_i hA hK hw (va_runS (As := [.int (iI x2)]) (rest := []) ⟨hx, hb, hml, hown, hts⟩ (c_X9_isDay zo l D cy L0 f0 x2 lx2 ux2 _) (va_cwS 1 hts (gT (inS (mr23 _ (List.mem_of_getElem? (i := 13) rfl)) (mr23 _ (List.mem_of_getElem? (i := 14) rfl)) (mr1 _ (List.mem_of_getElem? (i := 2) rfl)) (mr23 _ (List.mem_of_getElem? (i := 15) rfl)))) rfl rfl rfl (by decide +kernel) ⟨Nat.le_of_ble_eq_true rfl, Nat.le_of_ble_eq_true rfl⟩) (Wd.preS zo hA hZ hw hK) rfl rfl hl.1 rfl (lv_room (Nat.le_of_ble_eq_true rfl)) dX9_busy_8 ⟨Nat.le_of_ble_eq_true rfl, Nat.le_of_ble_eq_true rfl⟩) (fun x_2 L1 f1 H locs lx_2 ux_2 ex_2 hw => ?_)
    obtain ⟨rfl, rfl, ex_2⟩ := ex_2
    refine q_if_ne (tgt := 16) hx hb dX9_busy_11 (by decide) ⟨lx_2, ux_2⟩ (fun c11 => ?_) (fun c11 => ?_)
    · refine lv_aload_n hx hb dX9_busy_16 rfl (lv_at hl 0 rfl) ?_
      refine lv_iload_n hx hb dX9_busy_17 rfl (lv_at hl 1 rfl) ?_
      refine lv_iload_n hx hb dX9_busy_18 rfl (lv_at hl 2 rfl) ?_
      refine q_call_i hA hK hw (va_runV (As := [.int (iI x1), .int (iI x2)]) (rest := []) ⟨hx, hb, hml, hown, hts⟩ (c_X9_takenMinutes_h zo l D cy L0 f0 a0 x1 lx1 ux1 x2 lx2 ux2 m_a0 o_a0 hg _) (cwV 2 hts (gT (inV (mr39 _ (List.mem_of_getElem? (i := 7) rfl)) (mr39 _ (List.mem_of_getElem? (i := 8) rfl)) (mr39 _ (List.mem_of_getElem? (i := 9) rfl)) (mr1 _ (List.mem_of_getElem? (i := 2) rfl)) (mr39 _ (List.mem_of_getElem? (i := 10) rfl)))) rfl rfl rfl (by decide +kernel) ⟨Nat.le_of_ble_eq_true rfl, Nat.le_of_ble_eq_true rfl⟩) (Wd.preV zo hA hZ hw hK m_a0 o_a0 rfl) rfl rfl hl.1 rfl (lv_room (Nat.le_of_ble_eq_true rfl)) dX9_busy_19 ⟨Nat.le_of_ble_eq_true rfl, Nat.le_of_ble_eq_true rfl⟩) (fun x_3 L1 f_4 H locs lx_3 ux_3 ex_3 hw => ?_)
      obtain ⟨rfl, hg, hX, ex_3⟩ := ex_3
      have hE := hE.trans hX
      have o_a0 := hX.1.1.1 _ _ o_a0
      exact q_ret_i hx hb hr hlocks hK hAe hw ⟨lx_3, ux_3⟩ (Nat.le_of_ble_eq_true rfl) (Nat.le_of_ble_eq_true rfl) dX9_busy_22 (by exact ⟨rfl, hg, hE, by first | trivial | omega⟩)
    · refine q_iconst hx hb dX9_busy_14 ?_
      exact q_ret_i hx hb hr hlocks hK hAe hw ⟨by decide, by decide⟩ (Nat.le_of_ble_eq_true rfl) (Nat.le_of_ble_eq_true rfl) dX9_busy_15 (by exact ⟨rfl, hg, hE, by first | trivial | omega⟩)
set_option maxHeartbeats 4000000 in
set_option maxRecDepth 100000 in
theorem c_X9_onAt_h {Z : Zt} (zo : Zok Z) (l : Launch) (D : va_G) (cy : Cy) (L0 : List Nat) (f0 : Nat → va_E) (a0 : Nat) (x1 : Int) (lx1 : -2147483648 ≤ x1) (ux1 : x1 ≤ 2147483647) (x2 : Int) (lx2 : -2147483648 ≤ x2) (ux2 : x2 ≤ 2147483647) (x3 : Int) (lx3 : -2147483648 ≤ x3) (ux3 : x3 ≤ 2147483647) (x4 : Int) (lx4 : -2147483648 ≤ x4) (ux4 : x4 ≤ 2147483647) (x5 : Int) (lx5 : -2147483648 ≤ x5) (ux5 : x5 ≤ 2147483647) (m_a0 : a0 ∈ L0) (o_a0 : Ob f0 a0 7) (hg : GI cy L0 f0) (hlt : l.stackTraces = false) (zc : ∀ (A : Nat → Prop) (U : State) (H : Heap), Z A U H → ZE U) : Cx Z l yX9_onAt (Cond.code yX9_onAt cX9_onAt 8 (some .int) :: TB) ({ frames := 6, cells := 1, slots := 6, locals := 148 } : Room) 1 6 D (tq cy) [.ref a0, .int (iI x1), .int (iI x2), .int (iI x3), .int (iI x4), .int (iI x5)] L0 f0 (fun (r : Int) (L1 : List Nat) (f1 : Nat → va_E) => L0 = L1 ∧ GI cy L0 f1 ∧ Eh cy f0 f1 ∧ (True)) (fun (L1 : List Nat) (f1 : Nat → va_E) => L0 = L1 ∧ GI cy L0 f1 ∧ Eh cy f0 f1) := by
  refine Cx.enter (cc := cX9_onAt) (n := 8) rfl (by decide) (Nat.le_of_ble_eq_true rfl) ?_
  intro p e s m below meth c ls A hx hb hr hts hown hlocks hnm hml hext hK hA hAe hw hZ hl
  have hown : s.vm.findClass RX9 = some m.cls := hown
  have hl : lv_has ls 8 [(0, .ref a0), (1, .int (iI x1)), (2, .int (iI x2)), (3, .int (iI x3)), (4, .int (iI x4)), (5, .int (iI x5))] := hl
  have hN : ZN s := (zo.2.2.2.2 _ _ _ hZ).2
  have hE : Eh cy f0 f0 := Eh.refl cy f0
  refine lv_iload hx hb dX9_onAt_0 (lv_at hl 4 rfl) ?_
  refine q_if_lt (tgt := 28) hx hb dX9_onAt_2 (by decide) ⟨lx4, ux4⟩ (fun c2 => ?_) (fun c2 => ?_)
  · exact q_throw zo hx hb hlt (zc _ _ _ hZ) hown (hts _ (List.mem_cons_of_mem _ (mr34 _ (List.mem_of_getElem? (i := 1) rfl)))) (hts _ (List.mem_cons_of_mem _ (mr34 _ (List.mem_of_getElem? (i := 2) rfl)))) hext hlocks hK hAe hw hZ (hl.1.trans hml.symm) dX9_onAt_28 dX9_onAt_31 dX9_onAt_32 dX9_onAt_34 dX9_onAt_37 (Nat.le_of_ble_eq_true rfl) (Nat.le_of_ble_eq_true rfl) (Nat.le_of_ble_eq_true rfl) (Nat.le_of_ble_eq_true rfl) (Nat.le_of_ble_eq_true rfl) (Nat.le_of_ble_eq_true rfl) ⟨rfl, hg, hE⟩
  · refine lv_iload hx hb dX9_onAt_5 (lv_at hl 4 rfl) ?_
    refine lv_aload_n hx hb dX9_onAt_7 rfl (lv_at hl 0 rfl) ?_
    refine lv_iload_n hx hb dX9_onAt_8 rfl (lv_at hl 1 rfl) ?_
    refine lv_iload_n hx hb dX9_onAt_9 rfl (lv_at hl 2 rfl) ?_
    refine lv_iload_n hx hb dX9_onAt_10 rfl (lv_at hl 3 rfl) ?_
    refine q_call_i hA hK hw (va_runV (As := [.int (iI x1), .int (iI x2), .int (iI x3)]) (rest := [.int (iI x4)]) ⟨hx, hb, hml, hown, hts⟩ (c_X9_countOn zo l D cy L0 f0 a0 x1 lx1 ux1 x2 lx2 ux2 x3 lx3 ux3 m_a0 o_a0 hg _) (cwV 3 hts (gT (inV (mr32 _ (List.mem_of_getElem? (i := 4) rfl)) (mr32 _ (List.mem_of_getElem? (i := 5) rfl)) (mr32 _ (List.mem_of_getElem? (i := 6) rfl)) (mr1 _ (List.mem_of_getElem? (i := 2) rfl)) (mr32 _ (List.mem_of_getElem? (i := 7) rfl)))) rfl rfl rfl (by decide +kernel) ⟨Nat.le_of_ble_eq_true rfl, Nat.le_of_ble_eq_true rfl⟩) (Wd.preV zo hA hZ hw hK m_a0 o_a0 rfl) rfl rfl hl.1 rfl (lv_room (Nat.le_of_ble_eq_true rfl)) dX9_onAt_11 ⟨Nat.le_of_ble_eq_true rfl, Nat.le_of_ble_eq_true rfl⟩) (fun x_1 L1 f1 H locs lx_1 ux_1 ex_1 hw => ?_)
    obtain ⟨rfl, rfl, ex_1⟩ := ex_1
    refine q_icmp_ge (tgt := 28) hx hb dX9_onAt_14 (by decide) ⟨lx4, ux4⟩ ⟨lx_1, ux_1⟩ (fun c14 => ?_) (fun c14 => ?_)
    · exact q_throw zo hx hb hlt (zc _ _ _ hZ) hown (hts _ (List.mem_cons_of_mem _ (mr34 _ (List.mem_of_getElem? (i := 1) rfl)))) (hts _ (List.mem_cons_of_mem _ (mr34 _ (List.mem_of_getElem? (i := 2) rfl)))) hext hlocks hK hAe hw hZ (hl.1.trans hml.symm) dX9_onAt_28 dX9_onAt_31 dX9_onAt_32 dX9_onAt_34 dX9_onAt_37 (Nat.le_of_ble_eq_true rfl) (Nat.le_of_ble_eq_true rfl) (Nat.le_of_ble_eq_true rfl) (Nat.le_of_ble_eq_true rfl) (Nat.le_of_ble_eq_true rfl) (Nat.le_of_ble_eq_true rfl) ⟨rfl, hg, hE⟩
    · refine lv_iload hx hb dX9_onAt_17 (lv_at hl 5 rfl) ?_
      refine q_if_lt (tgt := 28) hx hb dX9_onAt_19 (by decide) ⟨lx5, ux5⟩ (fun c19 => ?_) (fun c19 => ?_)
      · exact q_throw zo hx hb hlt (zc _ _ _ hZ) hown (hts _ (List.mem_cons_of_mem _ (mr34 _ (List.mem_of_getElem? (i := 1) rfl)))) (hts _ (List.mem_cons_of_mem _ (mr34 _ (List.mem_of_getElem? (i := 2) rfl)))) hext hlocks hK hAe hw hZ (hl.1.trans hml.symm) dX9_onAt_28 dX9_onAt_31 dX9_onAt_32 dX9_onAt_34 dX9_onAt_37 (Nat.le_of_ble_eq_true rfl) (Nat.le_of_ble_eq_true rfl) (Nat.le_of_ble_eq_true rfl) (Nat.le_of_ble_eq_true rfl) (Nat.le_of_ble_eq_true rfl) (Nat.le_of_ble_eq_true rfl) ⟨rfl, hg, hE⟩
      · refine lv_iload hx hb dX9_onAt_22 (lv_at hl 5 rfl) ?_
        refine q_iconst hx hb dX9_onAt_24 ?_
        refine q_icmp_le (tgt := 38) hx hb dX9_onAt_25 (by decide) ⟨lx5, ux5⟩ ⟨by decide, by decide⟩ (fun c25 => ?_) (fun c25 => ?_)
        · refine lv_aload_n hx hb dX9_onAt_38 rfl (lv_at hl 0 rfl) ?_
          refine lv_iload_n hx hb dX9_onAt_39 rfl (lv_at hl 1 rfl) ?_
          refine lv_iload_n hx hb dX9_onAt_40 rfl (lv_at hl 2 rfl) ?_
          refine lv_iload hx hb dX9_onAt_41 (lv_at hl 4 rfl) ?_
          refine q_call_i hA hK hw (va_runV (As := [.int (iI x1), .int (iI x2), .int (iI x4)]) (rest := []) ⟨hx, hb, hml, hown, hts⟩ (c_X9_walkOn_h zo l D cy L0 f0 a0 x1 lx1 ux1 x2 lx2 ux2 x4 lx4 ux4 m_a0 o_a0 hg _) (cwV 3 hts (gT (inV (mr34 _ (List.mem_of_getElem? (i := 5) rfl)) (mr34 _ (List.mem_of_getElem? (i := 6) rfl)) (mr34 _ (List.mem_of_getElem? (i := 7) rfl)) (mr1 _ (List.mem_of_getElem? (i := 2) rfl)) (mr34 _ (List.mem_of_getElem? (i := 8) rfl)))) rfl rfl rfl (by decide +kernel) ⟨Nat.le_of_ble_eq_true rfl, Nat.le_of_ble_eq_true rfl⟩) (Wd.preV zo hA hZ hw hK m_a0 o_a0 rfl) rfl rfl hl.1 rfl (lv_room (Nat.le_of_ble_eq_true rfl)) dX9_onAt_43 ⟨Nat.le_of_ble_eq_true rfl, Nat.le_of_ble_eq_true rfl⟩) (fun x_2 L1 f_3 H locs lx_2 ux_2 ex_2 hw => ?_)
          obtain ⟨rfl, hg, hX, ex_2⟩ := ex_2
          have hE := hE.trans hX
          have o_a0 := hX.1.1.1 _ _ o_a0
          refine lv_istore (lv' := [(6, .int (iI x_2)), (0, .ref a0), (1, .int (iI x1)), (2, .int (iI x2)), (3, .int (iI x3)), (4, .int (iI x4)), (5, .int (iI x5))]) hx hb dX9_onAt_46 hl (by decide) rfl (fun ls hl => ?_)
          refine lv_aload_n hx hb dX9_onAt_48 rfl (lv_at hl 1 rfl) ?_
          obtain ⟨r_4, er_4, m_r_4, o_r_4⟩ := (show ∃ r, fR f_3 a0 2 = some r ∧ r ∈ L0 ∧ Ob f_3 r 5 from hg.2.1 _ m_a0 7 2 o_a0)
          refine q_getr (ci := 7) (C := RX9) (T := TX9) (N := 4) hx hb hts (fun w h => List.mem_cons_of_mem _ (mfX90 w h)) hown hK hw m_a0 o_a0 rfl 2 (by decide) (hts _ (List.mem_cons_of_mem _ (mr1 _ (List.mem_of_getElem? (i := 20) rfl)))) (fun _ h => h) rfl er_4 dX9_onAt_49 ?_
          refine lv_iload hx hb dX9_onAt_52 (lv_at hl 0 rfl) ?_
          refine q_call_i hA hK hw (va_runV (As := [.int (iI x_2)]) (rest := []) ⟨hx, hb, hml, hown, hts⟩ (c_X7_has zo l D cy L0 f_3 r_4 x_2 lx_2 ux_2 m_r_4 o_r_4 hg _) (cwV 1 hts (gT (inV (mr22 _ (List.mem_of_getElem? (i := 9) rfl)) (mr22 _ (List.mem_of_getElem? (i := 10) rfl)) (mr22 _ (List.mem_of_getElem? (i := 11) rfl)) (mr1 _ (List.mem_of_getElem? (i := 19) rfl)) (mr22 _ (List.mem_of_getElem? (i := 12) rfl)))) rfl rfl rfl (by decide +kernel) ⟨Nat.le_of_ble_eq_true rfl, Nat.le_of_ble_eq_true rfl⟩) (Wd.preV zo hA hZ hw hK m_r_4 o_r_4 rfl) rfl rfl hl.1 rfl (lv_room (Nat.le_of_ble_eq_true rfl)) dX9_onAt_54 ⟨Nat.le_of_ble_eq_true rfl, Nat.le_of_ble_eq_true rfl⟩) (fun x_5 L1 f1 H locs lx_5 ux_5 ex_5 hw => ?_)
          obtain ⟨rfl, rfl, ex_5⟩ := ex_5
          refine q_if_ne (tgt := 70) hx hb dX9_onAt_57 (by decide) ⟨lx_5, ux_5⟩ (fun c57 => ?_) (fun c57 => ?_)
          · refine lv_iload hx hb dX9_onAt_70 (lv_at hl 6 rfl) ?_
            refine q_if_ne (tgt := 78) hx hb dX9_onAt_72 (by decide) ⟨lx5, ux5⟩ (fun c72 => ?_) (fun c72 => ?_)
            · refine lv_aload_n hx hb dX9_onAt_78 rfl (lv_at hl 1 rfl) ?_
              refine q_getr (ci := 7) (C := RX9) (T := TX9) (N := 4) hx hb hts (fun w h => List.mem_cons_of_mem _ (mfX90 w h)) hown hK hw m_a0 o_a0 rfl 2 (by decide) (hts _ (List.mem_cons_of_mem _ (mr1 _ (List.mem_of_getElem? (i := 20) rfl)))) (fun _ h => h) rfl er_4 dX9_onAt_79 ?_
              refine lv_iload hx hb dX9_onAt_82 (lv_at hl 0 rfl) ?_
              refine q_call_r hA hK hw (va_runV (As := [.int (iI x_2)]) (rest := []) ⟨hx, hb, hml, hown, hts⟩ (c_X7_at zo l D cy L0 f_3 r_4 x_2 lx_2 ux_2 m_r_4 o_r_4 hg (by omega) (by omega) _) (cwV 1 hts (gT (inV (mr24 _ (List.mem_of_getElem? (i := 8) rfl)) (mr24 _ (List.mem_of_getElem? (i := 9) rfl)) (mr24 _ (List.mem_of_getElem? (i := 10) rfl)) (mr1 _ (List.mem_of_getElem? (i := 19) rfl)) (mr24 _ (List.mem_of_getElem? (i := 11) rfl)))) rfl rfl rfl (by decide +kernel) ⟨Nat.le_of_ble_eq_true rfl, Nat.le_of_ble_eq_true rfl⟩) (Wd.preV zo hA hZ hw hK m_r_4 o_r_4 rfl) rfl rfl hl.1 rfl (lv_room (Nat.le_of_ble_eq_true rfl)) dX9_onAt_84 ⟨Nat.le_of_ble_eq_true rfl, Nat.le_of_ble_eq_true rfl⟩) (fun x_6 L1 f1 H locs ex_6 hw => ?_)
              obtain ⟨rfl, rfl, ex_6⟩ := ex_6
              obtain ⟨m_x_6, o_x_6⟩ := ex_6
              refine lv_astore (lv' := [(7, .ref x_6), (6, .int (iI x_2)), (0, .ref a0), (1, .int (iI x1)), (2, .int (iI x2)), (3, .int (iI x3)), (4, .int (iI x4)), (5, .int (iI x5))]) hx hb dX9_onAt_87 hl (by decide) rfl (fun ls hl => ?_)
              refine lv_iload hx hb dX9_onAt_89 (lv_at hl 7 rfl) ?_
              refine q_iconst hx hb dX9_onAt_91 ?_
              refine q_icmp_ne (tgt := 103) hx hb dX9_onAt_92 (by decide) ⟨lx5, ux5⟩ ⟨by decide, by decide⟩ (fun c92 => ?_) (fun c92 => ?_)
              · refine lv_aload hx hb dX9_onAt_103 (lv_at hl 0 rfl) ?_
                refine q_geti (ci := 0) (C := RX0) (T := TX0) (N := 15) hx hb hts (fun w h => List.mem_cons_of_mem _ (mfX00 w h)) hown hK hw m_x_6 o_x_6 rfl 13 (by decide) (hts _ (List.mem_cons_of_mem _ (mr34 _ (List.mem_of_getElem? (i := 4) rfl)))) (fun _ h => h) rfl dX9_onAt_105 (fun x_7 lx_7 ux_7 ex_7 => ?_)
                refine vx_ret ?_
                exact q_ret_i hx hb hr hlocks hK hAe hw ⟨lx_7, ux_7⟩ (Nat.le_of_ble_eq_true rfl) (Nat.le_of_ble_eq_true rfl) dX9_onAt_108 (by exact ⟨rfl, hg, hE, by first | trivial | omega⟩)
              · refine lv_aload hx hb dX9_onAt_95 (lv_at hl 0 rfl) ?_
                refine q_geti (ci := 0) (C := RX0) (T := TX0) (N := 15) hx hb hts (fun w h => List.mem_cons_of_mem _ (mfX00 w h)) hown hK hw m_x_6 o_x_6 rfl 14 (by decide) (hts _ (List.mem_cons_of_mem _ (mr34 _ (List.mem_of_getElem? (i := 3) rfl)))) (fun _ h => h) rfl dX9_onAt_97 (fun x_8 lx_8 ux_8 ex_8 => ?_)
                refine lv_goto (tgt := 108) hx hb dX9_onAt_100 (by decide) ?_
                refine vx_ret ?_
                exact q_ret_i hx hb hr hlocks hK hAe hw ⟨lx_8, ux_8⟩ (Nat.le_of_ble_eq_true rfl) (Nat.le_of_ble_eq_true rfl) dX9_onAt_108 (by exact ⟨rfl, hg, hE, by first | trivial | omega⟩)
            · refine lv_iload hx hb dX9_onAt_75 (lv_at hl 0 rfl) ?_
              refine vx_ret ?_
              exact q_ret_i hx hb hr hlocks hK hAe hw ⟨lx_2, ux_2⟩ (Nat.le_of_ble_eq_true rfl) (Nat.le_of_ble_eq_true rfl) dX9_onAt_77 (by exact ⟨rfl, hg, hE, by first | trivial | omega⟩)
          · exact q_throw zo hx hb hlt (zc _ _ _ hZ) hown (hts _ (List.mem_cons_of_mem _ (mr34 _ (List.mem_of_getElem? (i := 1) rfl)))) (hts _ (List.mem_cons_of_mem _ (mr34 _ (List.mem_of_getElem? (i := 2) rfl)))) hext hlocks hK hAe hw hZ (hl.1.trans hml.symm) dX9_onAt_60 dX9_onAt_63 dX9_onAt_64 dX9_onAt_66 dX9_onAt_69 (Nat.le_of_ble_eq_true rfl) (Nat.le_of_ble_eq_true rfl) (Nat.le_of_ble_eq_true rfl) (Nat.le_of_ble_eq_true rfl) (Nat.le_of_ble_eq_true rfl) (Nat.le_of_ble_eq_true rfl) ⟨rfl, hg, hE⟩
        · exact q_throw zo hx hb hlt (zc _ _ _ hZ) hown (hts _ (List.mem_cons_of_mem _ (mr34 _ (List.mem_of_getElem? (i := 1) rfl)))) (hts _ (List.mem_cons_of_mem _ (mr34 _ (List.mem_of_getElem? (i := 2) rfl)))) hext hlocks hK hAe hw hZ (hl.1.trans hml.symm) dX9_onAt_28 dX9_onAt_31 dX9_onAt_32 dX9_onAt_34 dX9_onAt_37 (Nat.le_of_ble_eq_true rfl) (Nat.le_of_ble_eq_true rfl) (Nat.le_of_ble_eq_true rfl) (Nat.le_of_ble_eq_true rfl) (Nat.le_of_ble_eq_true rfl) (Nat.le_of_ble_eq_true rfl) ⟨rfl, hg, hE⟩
