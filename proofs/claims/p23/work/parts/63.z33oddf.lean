/-! ===== a text is read into a Booking: its arrays stay ===== -/
def FN (f g : Nat → va_E) (b : Nat) : Prop := fV g b 11 = fV f b 11 ∧ fV g b 12 = fV f b 12
theorem FN.trans {f g h : Nat → va_E} {b : Nat} (x : FN f g b) (y : FN g h b) : FN f h b := ⟨y.1.trans x.1, y.2.trans x.2⟩
theorem FN.of {f g : Nat → va_E} {b : Nat} (e : g b = f b) : FN f g b := ⟨by unfold fV; rw [e], by unfold fV; rw [e]⟩
theorem FN.pU {f g : Nat → va_E} {b k : Nat} {v : Value} (e : g = Jvm.Pilot.CBookIndexLaw_law_r3826_022878.pU f b k v) (n1 : 11 ≠ k) (n2 : 12 ≠ k) : FN f g b := by rw [e]; exact ⟨fV_pU (Or.inr n1), fV_pU (Or.inr n2)⟩
def OBo (f g : Nat → va_E) (a b : Nat) : Prop := b ≠ a ∧ OB f g a b ∧ FN f g b
theorem OBo.mk {f : Nat → va_E} {a b : Nat} (ne : b ≠ a) : OBo f f a b := ⟨ne, OB.refl f a b, rfl, rfl⟩
theorem OBo.oa {f g h : Nat → va_E} {a b : Nat} (x : OBo f g a b) (y : OA g h a) : OBo f h a b := ⟨x.1, x.2.1.oa y, x.2.2.trans (FN.of (y b x.1))⟩
theorem OBo.put {f g h : Nat → va_E} {a b k : Nat} {v : Value} (x : OBo f g a b) (e : h = pU g b k v) (n1 : 11 ≠ k := by decide) (n2 : 12 ≠ k := by decide) : OBo f h a b := ⟨x.1, x.2.1.put e, x.2.2.trans (FN.pU e n1 n2)⟩
theorem OBo.putA {f g h : Nat → va_E} {a b k : Nat} {v : Value} (x : OBo f g a b) (e : h = pU g a k v) : OBo f h a b := ⟨x.1, x.2.1.putA e, x.2.2.trans (FN.of (by rw [e]; exact pU_ne x.1))⟩
def OLo (L : List Nat) (f g : Nat → va_E) (a b : Nat) : Prop := b ≠ a ∧ OL L f g a b ∧ FN f g b
theorem OLo.mk {L : List Nat} {f : Nat → va_E} {a b : Nat} (ne : b ≠ a) : OLo L f f a b := ⟨ne, OL.refl L f a b, rfl, rfl⟩
theorem OLo.oa {L : List Nat} {f g h : Nat → va_E} {a b : Nat} (x : OLo L f g a b) (y : OA g h a) : OLo L f h a b := ⟨x.1, x.2.1.oa y, x.2.2.trans (FN.of (y b x.1))⟩
theorem OLo.ob {L : List Nat} {f g h : Nat → va_E} {a b : Nat} (x : OLo L f g a b) (y : OBo g h a b) : OLo L f h a b := ⟨x.1, x.2.1.ob y.2.1, x.2.2.trans y.2.2⟩
theorem OLo.oab {L : List Nat} {f g h : Nat → va_E} {a b : Nat} (x : OLo L f g a b) (y : OA g h b) (z : FN g h b) : OLo L f h a b := ⟨x.1, x.2.1.oab y, x.2.2.trans z⟩
theorem OLo.put {L : List Nat} {f g h : Nat → va_E} {a b k : Nat} {v : Value} (x : OLo L f g a b) (e : h = pU g b k v) (n1 : 11 ≠ k := by decide) (n2 : 12 ≠ k := by decide) : OLo L f h a b := ⟨x.1, x.2.1.put e, x.2.2.trans (FN.pU e n1 n2)⟩
theorem OLo.hold {L M : List Nat} {f g h : Nat → va_E} {a b : Nat} (x : OLo L f g a b) (s : ∀ y ∈ L, y ∈ M) (y : ∀ z ∈ M, h z = g z) (mb : b ∈ M) : OLo L f h a b := ⟨x.1, x.2.1.hold s y, x.2.2.trans (FN.of (y b mb))⟩
theorem OLo.st {L : List Nat} {f g h : Nat → va_E} {a b : Nat} (x : OLo L f g a b) (y : SeT g h b) : OLo L f h a b := ⟨x.1, x.2.1.st y, x.2.2.trans ⟨y.2 11 (by decide) (by decide) (by decide), y.2 12 (by decide) (by decide) (by decide)⟩⟩
theorem OLo.ol {L : List Nat} {f g h : Nat → va_E} {a b : Nat} (x : OLo L f g a b) (y : OLo L g h a b) : OLo L f h a b := ⟨x.1, x.2.1.ol y.2.1, x.2.2.trans y.2.2⟩
theorem fI10_oa {f g : Nat → va_E} {a b : Nat} (h : fI f b 10 = 0) (y : OA f g a) (ne : b ≠ a) : fI g b 10 = 0 := (fI_of (y b ne)).trans h
theorem fI10_pU {f g : Nat → va_E} {b k : Nat} {v : Value} (h : fI f b 10 = 0) (e : g = pU f b k v) (n : 10 ≠ k := by decide) : fI g b 10 = 0 := by rw [e, fI_pU (Or.inr n)]; exact h
theorem fI10_kb {f g : Nat → va_E} {b : Nat} (h : fI f b 10 = 0) (y : KB f g b 4) : fI g b 10 = 0 := (fI_W (y 10 (by decide))).trans h
set_option maxHeartbeats 4000000 in
set_option maxRecDepth 100000 in
theorem c_X5_readPlace_o {Z : Zt} (zo : Zok Z) (l : Launch) (D : va_G) (cy : Cy) (L0 : List Nat) (f0 : Nat → va_E) (a0 : Nat) (a1 : Nat) (m_a0 : a0 ∈ L0) (o_a0 : Ob f0 a0 4) (m_a1 : a1 ∈ L0) (o_a1 : Ob f0 a1 0) (hg : GI cy L0 f0) (Tt : Int → Int) (nn : Int) (tp : Nat) (rt : RT Tt nn f0 a0 tp) (ee : Int) (rs : RS Tt nn f0 a0 ee) (e0 : 0 ≤ ee) (e1 : ee ≤ nn) : Ci Z l yX5_readPlace (Cond.code yX5_readPlace cX5_readPlace 2 (some .boolean) :: TB) ({ frames := 7, cells := 0, slots := 0, locals := 151 } : Room) 0 0 D (tq cy) [.ref a0, .ref a1] L0 f0 (fun (r : Int) (L1 : List Nat) (f1 : Nat → va_E) => L0 = L1 ∧ GI cy L0 f1 ∧ Ex cy f0 f1 ∧ ((r = 1 ∧ plF Tt nn ee = 0 ∧ fI f1 a1 0 = vN Tt nn (tQn Tt nn 1 ee) ∧ fI f1 a1 1 = vN Tt nn (tQn Tt nn 3 ee) ∧ fI f1 a1 2 = vN Tt nn (tQn Tt nn 5 ee) ∧ OBo f0 f1 a0 a1 ∧ K5 f0 f1 a0 ∧ RT Tt nn f1 a0 tp ∧ RS Tt nn f1 a0 (tQn Tt nn 6 ee)) ∨ (r = 0 ∧ OBo f0 f1 a0 a1 ∧ plF Tt nn ee ≠ 0 ∧ fI f1 a0 5 = plF Tt nn ee))) := by
  refine Ci.enter (cc := cX5_readPlace) (n := 2) rfl (plainFor_of_name (by decide)) (Nat.le_of_ble_eq_true rfl) ?_
  intro p e s m below meth c ls A hx hb hr hts hown hlocks hnm hml hK hA hAe hw hZ hl
  have hown : s.vm.findClass RX5 = some m.cls := hown
  have hl : lv_has ls 2 [(0, .ref a0), (1, .ref a1)] := hl
  have hN : ZN s := (zo.2.2.2.2 _ _ _ hZ).2
  have hE : Ex cy f0 f0 := Ex.refl cy f0
  have nb0 := rt.2.2.1
  have nb1 := rt.2.2.2.1
  have rs1 := rs.1
  have rs2 := rs.2.1
  have rs3 := rs.2.2
  have pb := tP_b (T := Tt) e1
  have qb := tQ_b (T := Tt) e1
  have ne01 : a0 ≠ a1 := fun z => by rw [z] at o_a0; exact absurd (o_a0.uniq o_a1) (by decide)
  have ne10 := ne01.symm
  have tb1 := tQn_b (T := Tt) e0 e1 1
  have tb2 := tQn_b (T := Tt) e0 e1 2
  have tb3 := tQn_b (T := Tt) e0 e1 3
  have tb4 := tQn_b (T := Tt) e0 e1 4
  have tb5 := tQn_b (T := Tt) e0 e1 5
  have tb6 := tQn_b (T := Tt) e0 e1 6
  have ob := (OBo.mk (f := f0) ne10)
  have k5 := K5.refl f0 a0
  refine lv_aload_n hx hb dX5_readPlace_0 rfl (lv_at hl 0 rfl) ?_
  obtain ⟨t_1, v_t_1, h_t_1⟩ : ∃ q v : Nat, ∀ (A : Nat → Prop) (U : State) (H : Heap), Z A U H → vk_R RX5 72 "book" q U ∧ Tx [98, 111, 111, 107] q v A U H := ztx_1 zo
  obtain ⟨b_t_1, eb_t_1⟩ : ∃ b : List Int32, b = [98, 111, 111, 107] := ⟨_, rfl⟩
  have nb_t_1 : Asc b_t_1 := by rw [eb_t_1]; exact ⟨by decide, by decide +kernel⟩
  have tx_t_1 : ∀ (A : Nat → Prop) (U : State) (H : Heap), Z A U H → Tx b_t_1 t_1 v_t_1 A U H := fun A U H h => by rw [eb_t_1]; exact (h_t_1 A U H h).2
  refine va_ldcS hx hb hown (h_t_1 _ _ _ hZ).1 dX5_readPlace_1 ?_
  have ebw3 : b_t_1 = wBook := eb_t_1
  refine q_call_i hA hK hw (va_runV (As := [.ref t_1]) (rest := []) ⟨hx, hb, hml, hown, hts⟩ (c_X5_require_q zo l D cy L0 f0 a0 t_1 m_a0 o_a0 b_t_1 v_t_1 nb_t_1 tx_t_1 hg Tt nn tp rt ee rs (by omega) (by omega) _) (cwV 1 hts (gT (inV (mr7 _ (List.mem_of_getElem? (i := 17) rfl)) (mr7 _ (List.mem_of_getElem? (i := 18) rfl)) (mr7 _ (List.mem_of_getElem? (i := 19) rfl)) (mr5 _ (List.mem_of_getElem? (i := 18) rfl)) (mr7 _ (List.mem_of_getElem? (i := 20) rfl)))) rfl rfl rfl (by decide +kernel) ⟨Nat.le_of_ble_eq_true rfl, Nat.le_of_ble_eq_true rfl⟩) (Wd.preV zo hA hZ hw hK m_a0 o_a0 rfl) rfl rfl hl.1 rfl (lv_room (Nat.le_of_ble_eq_true rfl)) dX5_readPlace_3 ⟨Nat.le_of_ble_eq_true rfl, Nat.le_of_ble_eq_true rfl⟩) (fun x_2 L1 f_3 H locs lx_2 ux_2 ex_2 hw => ?_)
  obtain ⟨rfl, hg, hX, ex_2⟩ := ex_2
  have hE := hE.trans hX
  have o_a0 := hX.1.1 _ _ o_a0
  have o_a1 := hX.1.1 _ _ o_a1
  have t3 := ex_2
  rw [ebw3] at t3
  refine q_if_ne (tgt := 11) hx hb dX5_readPlace_6 (by decide) ⟨lx_2, ux_2⟩ (fun c6 => ?_) (fun c6 => ?_)
  · obtain ⟨_, w3, qo, qk, rt, rs⟩ := t3.resolve_right (by omega)
    have ob := ob.oa qo
    have k5 := k5.trans qk
    refine lv_aload_n hx hb dX5_readPlace_11 rfl (lv_at hl 1 rfl) ?_
    refine lv_aload_n hx hb dX5_readPlace_12 rfl (lv_at hl 0 rfl) ?_
    refine q_iconst hx hb dX5_readPlace_13 ?_
    refine q_bipush hx hb dX5_readPlace_14 rfl ?_
    refine q_call_i hA hK hw (va_runV (As := [.int (iI 0), .int (iI 7)]) (rest := [.ref a1]) ⟨hx, hb, hml, hown, hts⟩ (c_X5_takeNumber_q zo l D cy L0 f_3 a0 0 (by decide) (by decide) 7 (by decide) (by decide) m_a0 o_a0 hg Tt nn tp rt (tQn Tt nn 1 ee) rs (by omega) (by omega) _) (cwV 2 hts (gT (inV (mr10 _ (List.mem_of_getElem? (i := 10) rfl)) (mr10 _ (List.mem_of_getElem? (i := 11) rfl)) (mr10 _ (List.mem_of_getElem? (i := 12) rfl)) (mr5 _ (List.mem_of_getElem? (i := 18) rfl)) (mr10 _ (List.mem_of_getElem? (i := 13) rfl)))) rfl rfl rfl (by decide +kernel) ⟨Nat.le_of_ble_eq_true rfl, Nat.le_of_ble_eq_true rfl⟩) (Wd.preV zo hA hZ hw hK m_a0 o_a0 rfl) rfl rfl hl.1 rfl (lv_room (Nat.le_of_ble_eq_true rfl)) dX5_readPlace_16 ⟨Nat.le_of_ble_eq_true rfl, Nat.le_of_ble_eq_true rfl⟩) (fun x_4 L1 f_5 H locs lx_4 ux_4 ex_4 hw => ?_)
    obtain ⟨rfl, hg, hX, ex_4⟩ := ex_4
    have hE := hE.trans hX
    have o_a0 := hX.1.1 _ _ o_a0
    have o_a1 := hX.1.1 _ _ o_a1
    have t16 := ex_4
    refine q_puti (ci := 0) (C := RX0) (T := TX0) (N := 15) hx hb hts (fun w h => List.mem_cons_of_mem _ (mfX00 w h)) hown hK hw m_a1 o_a1 rfl 0 (by decide) (hts _ (List.mem_cons_of_mem _ (mr7 _ (List.mem_of_getElem? (i := 14) rfl)))) (fun _ h => h) tyX0 tyX0_ok nmX0 rfl (ty := .int) (by decide +kernel) rfl rfl dX5_readPlace_19 (fun H locs hw => ?_)
    have oo := o_a1
    obtain ⟨f_6, ef_6⟩ : ∃ g : Nat → va_E, g = pU f_5 a1 0 (.int (iI x_4)) := ⟨_, rfl⟩
    have hX : Ex cy f_5 f_6 := by rw [ef_6]; exact Ex_pU oo rfl rfl (by decide)
    have hg : GI cy L0 f_6 := by rw [ef_6]; exact hg.putI oo rfl ⟨lx_4, ux_4⟩ trivial
    rw [← ef_6] at hw
    have hE := hE.trans hX
    have o_a0 := hX.1.1 _ _ o_a0
    have o_a1 := hX.1.1 _ _ o_a1
    have vf_6 : fI f_6 a1 0 = x_4 := by rw [ef_6]; exact fI_pU_self oo rfl ⟨lx_4, ux_4⟩
    have eg19 := ef_6
    have oo19 := oo
    have vg19 := vf_6
    refine lv_aload_n hx hb dX5_readPlace_22 rfl (lv_at hl 1 rfl) ?_
    refine q_geti (ci := 0) (C := RX0) (T := TX0) (N := 15) hx hb hts (fun w h => List.mem_cons_of_mem _ (mfX00 w h)) hown hK hw m_a1 o_a1 rfl 0 (by decide) (hts _ (List.mem_cons_of_mem _ (mr7 _ (List.mem_of_getElem? (i := 14) rfl)))) (fun _ h => h) rfl dX5_readPlace_23 (fun x_7 lx_7 ux_7 ex_7 => ?_)
    refine q_iconst hx hb dX5_readPlace_26 ?_
    refine q_icmp_eq (tgt := 39) hx hb dX5_readPlace_27 (by decide) ⟨lx_7, ux_7⟩ ⟨by decide, by decide⟩ (fun c27 => ?_) (fun c27 => ?_)
    · obtain ⟨w16, q2, qo, q5⟩ := t16.resolve_left (by omega)
      have ob := (ob.oa qo).put eg19
      have q5 : fI f_6 a0 5 = nS Tt nn (tQn Tt nn 1 ee) 0 7 := Eq.trans (by rw [eg19]; exact fI_pU (Or.inl ne01)) q5
      refine q_iconst hx hb dX5_readPlace_39 ?_
      exact q_ret_z hx hb hr hlocks hK hAe hw (by omega) (Nat.le_of_ble_eq_true rfl) (Nat.le_of_ble_eq_true rfl) dX5_readPlace_40 (by first | exact ⟨rfl, hg, hE, Or.inr ⟨by omega, ob, flt q5 (plF_1 w3 w16) (by omega)⟩⟩ | exact ⟨rfl, hg, hE, Or.inr ⟨by omega, ob, flt q5 (plF_2 w3 w16 w33) (by omega)⟩⟩)
    · obtain ⟨w16, q2, q3, q4, qo, qk, rt, rs⟩ := t16.resolve_right (by omega)
      have ob := (ob.oa qo).put eg19
      have k5 := (k5.trans qk).other eg19 ne01
      have rt := rt.other oo19 eg19 ne01
      have rs := rs.other eg19 ne01
      have rm : fI f_6 a1 0 = vN Tt nn (tQn Tt nn 1 ee) := by omega
      refine lv_aload_n hx hb dX5_readPlace_30 rfl (lv_at hl 0 rfl) ?_
      obtain ⟨t_8, v_t_8, h_t_8⟩ : ∃ q v : Nat, ∀ (A : Nat → Prop) (U : State) (H : Heap), Z A U H → vk_R RX5 84 "at" q U ∧ Tx [97, 116] q v A U H := ztx_2 zo
      obtain ⟨b_t_8, eb_t_8⟩ : ∃ b : List Int32, b = [97, 116] := ⟨_, rfl⟩
      have nb_t_8 : Asc b_t_8 := by rw [eb_t_8]; exact ⟨by decide, by decide +kernel⟩
      have tx_t_8 : ∀ (A : Nat → Prop) (U : State) (H : Heap), Z A U H → Tx b_t_8 t_8 v_t_8 A U H := fun A U H h => by rw [eb_t_8]; exact (h_t_8 A U H h).2
      refine va_ldcS hx hb hown (h_t_8 _ _ _ hZ).1 dX5_readPlace_31 ?_
      have ebw33 : b_t_8 = wAt := eb_t_8
      refine q_call_i hA hK hw (va_runV (As := [.ref t_8]) (rest := []) ⟨hx, hb, hml, hown, hts⟩ (c_X5_require_q zo l D cy L0 f_6 a0 t_8 m_a0 o_a0 b_t_8 v_t_8 nb_t_8 tx_t_8 hg Tt nn tp rt (tQn Tt nn 2 ee) rs (by omega) (by omega) _) (cwV 1 hts (gT (inV (mr7 _ (List.mem_of_getElem? (i := 17) rfl)) (mr7 _ (List.mem_of_getElem? (i := 18) rfl)) (mr7 _ (List.mem_of_getElem? (i := 19) rfl)) (mr5 _ (List.mem_of_getElem? (i := 18) rfl)) (mr7 _ (List.mem_of_getElem? (i := 20) rfl)))) rfl rfl rfl (by decide +kernel) ⟨Nat.le_of_ble_eq_true rfl, Nat.le_of_ble_eq_true rfl⟩) (Wd.preV zo hA hZ hw hK m_a0 o_a0 rfl) rfl rfl hl.1 rfl (lv_room (Nat.le_of_ble_eq_true rfl)) dX5_readPlace_33 ⟨Nat.le_of_ble_eq_true rfl, Nat.le_of_ble_eq_true rfl⟩) (fun x_9 L1 f_10 H locs lx_9 ux_9 ex_9 hw => ?_)
      obtain ⟨rfl, hg, hX, ex_9⟩ := ex_9
      have hE := hE.trans hX
      have o_a0 := hX.1.1 _ _ o_a0
      have o_a1 := hX.1.1 _ _ o_a1
      have t33 := ex_9
      rw [ebw33] at t33
      refine q_if_ne (tgt := 41) hx hb dX5_readPlace_36 (by decide) ⟨lx_9, ux_9⟩ (fun c36 => ?_) (fun c36 => ?_)
      · obtain ⟨_, w33, qo, qk, rt, rs⟩ := t33.resolve_right (by omega)
        have ob := ob.oa qo
        have k5 := k5.trans qk
        have rm := (fI_oa qo ne10 0).trans rm
        refine lv_aload_n hx hb dX5_readPlace_41 rfl (lv_at hl 1 rfl) ?_
        refine lv_aload_n hx hb dX5_readPlace_42 rfl (lv_at hl 0 rfl) ?_
        refine q_iconst hx hb dX5_readPlace_43 ?_
        refine q_sipush hx hb dX5_readPlace_44 rfl ?_
        refine q_call_i hA hK hw (va_runV (As := [.int (iI 0), .int (iI 1439)]) (rest := [.ref a1]) ⟨hx, hb, hml, hown, hts⟩ (c_X5_takeNumber_q zo l D cy L0 f_10 a0 0 (by decide) (by decide) 1439 (by decide) (by decide) m_a0 o_a0 hg Tt nn tp rt (tQn Tt nn 3 ee) rs (by omega) (by omega) _) (cwV 2 hts (gT (inV (mr10 _ (List.mem_of_getElem? (i := 10) rfl)) (mr10 _ (List.mem_of_getElem? (i := 11) rfl)) (mr10 _ (List.mem_of_getElem? (i := 12) rfl)) (mr5 _ (List.mem_of_getElem? (i := 18) rfl)) (mr10 _ (List.mem_of_getElem? (i := 13) rfl)))) rfl rfl rfl (by decide +kernel) ⟨Nat.le_of_ble_eq_true rfl, Nat.le_of_ble_eq_true rfl⟩) (Wd.preV zo hA hZ hw hK m_a0 o_a0 rfl) rfl rfl hl.1 rfl (lv_room (Nat.le_of_ble_eq_true rfl)) dX5_readPlace_47 ⟨Nat.le_of_ble_eq_true rfl, Nat.le_of_ble_eq_true rfl⟩) (fun x_11 L1 f_12 H locs lx_11 ux_11 ex_11 hw => ?_)
        obtain ⟨rfl, hg, hX, ex_11⟩ := ex_11
        have hE := hE.trans hX
        have o_a0 := hX.1.1 _ _ o_a0
        have o_a1 := hX.1.1 _ _ o_a1
        have t47 := ex_11
        refine q_puti (ci := 0) (C := RX0) (T := TX0) (N := 15) hx hb hts (fun w h => List.mem_cons_of_mem _ (mfX00 w h)) hown hK hw m_a1 o_a1 rfl 1 (by decide) (hts _ (List.mem_cons_of_mem _ (mr7 _ (List.mem_of_getElem? (i := 15) rfl)))) (fun _ h => h) tyX0 tyX0_ok nmX0 rfl (ty := .int) (by decide +kernel) rfl rfl dX5_readPlace_50 (fun H locs hw => ?_)
        have oo := o_a1
        obtain ⟨f_13, ef_13⟩ : ∃ g : Nat → va_E, g = pU f_12 a1 1 (.int (iI x_11)) := ⟨_, rfl⟩
        have hX : Ex cy f_12 f_13 := by rw [ef_13]; exact Ex_pU oo rfl rfl (by decide)
        have hg : GI cy L0 f_13 := by rw [ef_13]; exact hg.putI oo rfl ⟨lx_11, ux_11⟩ trivial
        rw [← ef_13] at hw
        have hE := hE.trans hX
        have o_a0 := hX.1.1 _ _ o_a0
        have o_a1 := hX.1.1 _ _ o_a1
        have vf_13 : fI f_13 a1 1 = x_11 := by rw [ef_13]; exact fI_pU_self oo rfl ⟨lx_11, ux_11⟩
        have eg50 := ef_13
        have oo50 := oo
        have vg50 := vf_13
        refine lv_aload_n hx hb dX5_readPlace_53 rfl (lv_at hl 1 rfl) ?_
        refine q_geti (ci := 0) (C := RX0) (T := TX0) (N := 15) hx hb hts (fun w h => List.mem_cons_of_mem _ (mfX00 w h)) hown hK hw m_a1 o_a1 rfl 1 (by decide) (hts _ (List.mem_cons_of_mem _ (mr7 _ (List.mem_of_getElem? (i := 15) rfl)))) (fun _ h => h) rfl dX5_readPlace_54 (fun x_14 lx_14 ux_14 ex_14 => ?_)
        refine q_iconst hx hb dX5_readPlace_57 ?_
        refine q_icmp_eq (tgt := 70) hx hb dX5_readPlace_58 (by decide) ⟨lx_14, ux_14⟩ ⟨by decide, by decide⟩ (fun c58 => ?_) (fun c58 => ?_)
        · obtain ⟨w47, q2, qo, q5⟩ := t47.resolve_left (by omega)
          have ob := (ob.oa qo).put eg50
          have q5 : fI f_13 a0 5 = nS Tt nn (tQn Tt nn 3 ee) 0 1439 := Eq.trans (by rw [eg50]; exact fI_pU (Or.inl ne01)) q5
          refine q_iconst hx hb dX5_readPlace_70 ?_
          exact q_ret_z hx hb hr hlocks hK hAe hw (by omega) (Nat.le_of_ble_eq_true rfl) (Nat.le_of_ble_eq_true rfl) dX5_readPlace_71 (by first | exact ⟨rfl, hg, hE, Or.inr ⟨by omega, ob, flt q5 (plF_3 w3 w16 w33 w47) (by omega)⟩⟩ | exact ⟨rfl, hg, hE, Or.inr ⟨by omega, ob, flt q5 (plF_4 w3 w16 w33 w47 w64) (by omega)⟩⟩)
        · obtain ⟨w47, q2, q3, q4, qo, qk, rt, rs⟩ := t47.resolve_right (by omega)
          have ob := (ob.oa qo).put eg50
          have k5 := (k5.trans qk).other eg50 ne01
          have rt := rt.other oo50 eg50 ne01
          have rs := rs.other eg50 ne01
          have rm : fI f_13 a1 0 = vN Tt nn (tQn Tt nn 1 ee) := Eq.trans (by rw [eg50]; exact fI_pU (Or.inr (by decide))) ((fI_oa qo ne10 0).trans rm)
          have mi : fI f_13 a1 1 = vN Tt nn (tQn Tt nn 3 ee) := by omega
          refine lv_aload_n hx hb dX5_readPlace_61 rfl (lv_at hl 0 rfl) ?_
          obtain ⟨t_15, v_t_15, h_t_15⟩ : ∃ q v : Nat, ∀ (A : Nat → Prop) (U : State) (H : Heap), Z A U H → vk_R RX5 89 "for" q U ∧ Tx [102, 111, 114] q v A U H := ztx_3 zo
          obtain ⟨b_t_15, eb_t_15⟩ : ∃ b : List Int32, b = [102, 111, 114] := ⟨_, rfl⟩
          have nb_t_15 : Asc b_t_15 := by rw [eb_t_15]; exact ⟨by decide, by decide +kernel⟩
          have tx_t_15 : ∀ (A : Nat → Prop) (U : State) (H : Heap), Z A U H → Tx b_t_15 t_15 v_t_15 A U H := fun A U H h => by rw [eb_t_15]; exact (h_t_15 A U H h).2
          refine va_ldcS hx hb hown (h_t_15 _ _ _ hZ).1 dX5_readPlace_62 ?_
          have ebw64 : b_t_15 = wFor := eb_t_15
          refine q_call_i hA hK hw (va_runV (As := [.ref t_15]) (rest := []) ⟨hx, hb, hml, hown, hts⟩ (c_X5_require_q zo l D cy L0 f_13 a0 t_15 m_a0 o_a0 b_t_15 v_t_15 nb_t_15 tx_t_15 hg Tt nn tp rt (tQn Tt nn 4 ee) rs (by omega) (by omega) _) (cwV 1 hts (gT (inV (mr7 _ (List.mem_of_getElem? (i := 17) rfl)) (mr7 _ (List.mem_of_getElem? (i := 18) rfl)) (mr7 _ (List.mem_of_getElem? (i := 19) rfl)) (mr5 _ (List.mem_of_getElem? (i := 18) rfl)) (mr7 _ (List.mem_of_getElem? (i := 20) rfl)))) rfl rfl rfl (by decide +kernel) ⟨Nat.le_of_ble_eq_true rfl, Nat.le_of_ble_eq_true rfl⟩) (Wd.preV zo hA hZ hw hK m_a0 o_a0 rfl) rfl rfl hl.1 rfl (lv_room (Nat.le_of_ble_eq_true rfl)) dX5_readPlace_64 ⟨Nat.le_of_ble_eq_true rfl, Nat.le_of_ble_eq_true rfl⟩) (fun x_16 L1 f_17 H locs lx_16 ux_16 ex_16 hw => ?_)
          obtain ⟨rfl, hg, hX, ex_16⟩ := ex_16
          have hE := hE.trans hX
          have o_a0 := hX.1.1 _ _ o_a0
          have o_a1 := hX.1.1 _ _ o_a1
          have t64 := ex_16
          rw [ebw64] at t64
          refine q_if_ne (tgt := 72) hx hb dX5_readPlace_67 (by decide) ⟨lx_16, ux_16⟩ (fun c67 => ?_) (fun c67 => ?_)
          · obtain ⟨_, w64, qo, qk, rt, rs⟩ := t64.resolve_right (by omega)
            have ob := ob.oa qo
            have k5 := k5.trans qk
            have rm := (fI_oa qo ne10 0).trans rm
            have mi := (fI_oa qo ne10 1).trans mi
            refine lv_aload_n hx hb dX5_readPlace_72 rfl (lv_at hl 1 rfl) ?_
            refine lv_aload_n hx hb dX5_readPlace_73 rfl (lv_at hl 0 rfl) ?_
            refine q_iconst hx hb dX5_readPlace_74 ?_
            refine q_sipush hx hb dX5_readPlace_75 rfl ?_
            refine q_call_i hA hK hw (va_runV (As := [.int (iI 1), .int (iI 4320)]) (rest := [.ref a1]) ⟨hx, hb, hml, hown, hts⟩ (c_X5_takeNumber_q zo l D cy L0 f_17 a0 1 (by decide) (by decide) 4320 (by decide) (by decide) m_a0 o_a0 hg Tt nn tp rt (tQn Tt nn 5 ee) rs (by omega) (by omega) _) (cwV 2 hts (gT (inV (mr10 _ (List.mem_of_getElem? (i := 10) rfl)) (mr10 _ (List.mem_of_getElem? (i := 11) rfl)) (mr10 _ (List.mem_of_getElem? (i := 12) rfl)) (mr5 _ (List.mem_of_getElem? (i := 18) rfl)) (mr10 _ (List.mem_of_getElem? (i := 13) rfl)))) rfl rfl rfl (by decide +kernel) ⟨Nat.le_of_ble_eq_true rfl, Nat.le_of_ble_eq_true rfl⟩) (Wd.preV zo hA hZ hw hK m_a0 o_a0 rfl) rfl rfl hl.1 rfl (lv_room (Nat.le_of_ble_eq_true rfl)) dX5_readPlace_78 ⟨Nat.le_of_ble_eq_true rfl, Nat.le_of_ble_eq_true rfl⟩) (fun x_18 L1 f_19 H locs lx_18 ux_18 ex_18 hw => ?_)
            obtain ⟨rfl, hg, hX, ex_18⟩ := ex_18
            have hE := hE.trans hX
            have o_a0 := hX.1.1 _ _ o_a0
            have o_a1 := hX.1.1 _ _ o_a1
            have t78 := ex_18
            refine q_puti (ci := 0) (C := RX0) (T := TX0) (N := 15) hx hb hts (fun w h => List.mem_cons_of_mem _ (mfX00 w h)) hown hK hw m_a1 o_a1 rfl 2 (by decide) (hts _ (List.mem_cons_of_mem _ (mr7 _ (List.mem_of_getElem? (i := 16) rfl)))) (fun _ h => h) tyX0 tyX0_ok nmX0 rfl (ty := .int) (by decide +kernel) rfl rfl dX5_readPlace_81 (fun H locs hw => ?_)
            have oo := o_a1
            obtain ⟨f_20, ef_20⟩ : ∃ g : Nat → va_E, g = pU f_19 a1 2 (.int (iI x_18)) := ⟨_, rfl⟩
            have hX : Ex cy f_19 f_20 := by rw [ef_20]; exact Ex_pU oo rfl rfl (by decide)
            have hg : GI cy L0 f_20 := by rw [ef_20]; exact hg.putI oo rfl ⟨lx_18, ux_18⟩ trivial
            rw [← ef_20] at hw
            have hE := hE.trans hX
            have o_a0 := hX.1.1 _ _ o_a0
            have o_a1 := hX.1.1 _ _ o_a1
            have vf_20 : fI f_20 a1 2 = x_18 := by rw [ef_20]; exact fI_pU_self oo rfl ⟨lx_18, ux_18⟩
            have eg81 := ef_20
            have oo81 := oo
            have vg81 := vf_20
            refine lv_aload_n hx hb dX5_readPlace_84 rfl (lv_at hl 1 rfl) ?_
            refine q_geti (ci := 0) (C := RX0) (T := TX0) (N := 15) hx hb hts (fun w h => List.mem_cons_of_mem _ (mfX00 w h)) hown hK hw m_a1 o_a1 rfl 2 (by decide) (hts _ (List.mem_cons_of_mem _ (mr7 _ (List.mem_of_getElem? (i := 16) rfl)))) (fun _ h => h) rfl dX5_readPlace_85 (fun x_21 lx_21 ux_21 ex_21 => ?_)
            refine q_iconst hx hb dX5_readPlace_88 ?_
            refine q_icmp_eq (tgt := 96) hx hb dX5_readPlace_89 (by decide) ⟨lx_21, ux_21⟩ ⟨by decide, by decide⟩ (fun c89 => ?_) (fun c89 => ?_)
            · obtain ⟨w78, q2, qo, q5⟩ := t78.resolve_left (by omega)
              have ob := (ob.oa qo).put eg81
              have q5 : fI f_20 a0 5 = nS Tt nn (tQn Tt nn 5 ee) 1 4320 := Eq.trans (by rw [eg81]; exact fI_pU (Or.inl ne01)) q5
              refine q_iconst hx hb dX5_readPlace_96 ?_
              exact q_ret_z hx hb hr hlocks hK hAe hw (by omega) (Nat.le_of_ble_eq_true rfl) (Nat.le_of_ble_eq_true rfl) dX5_readPlace_97 (by first | exact ⟨rfl, hg, hE, Or.inl ⟨by omega, (plF_5 w3 w16 w33 w47 w64).trans w78, rm, mi, ln, ob, k5, rt, rs⟩⟩ | exact ⟨rfl, hg, hE, Or.inr ⟨by omega, ob, flt q5 (plF_5 w3 w16 w33 w47 w64) (by omega)⟩⟩)
            · obtain ⟨w78, q2, q3, q4, qo, qk, rt, rs⟩ := t78.resolve_right (by omega)
              have ob := (ob.oa qo).put eg81
              have k5 := (k5.trans qk).other eg81 ne01
              have rt := rt.other oo81 eg81 ne01
              have rs := rs.other eg81 ne01
              have rm : fI f_20 a1 0 = vN Tt nn (tQn Tt nn 1 ee) := Eq.trans (by rw [eg81]; exact fI_pU (Or.inr (by decide))) ((fI_oa qo ne10 0).trans rm)
              have mi : fI f_20 a1 1 = vN Tt nn (tQn Tt nn 3 ee) := Eq.trans (by rw [eg81]; exact fI_pU (Or.inr (by decide))) ((fI_oa qo ne10 1).trans mi)
              have ln : fI f_20 a1 2 = vN Tt nn (tQn Tt nn 5 ee) := by omega
              refine q_iconst hx hb dX5_readPlace_92 ?_
              refine lv_goto (tgt := 97) hx hb dX5_readPlace_93 (by decide) ?_
              exact q_ret_z hx hb hr hlocks hK hAe hw (by omega) (Nat.le_of_ble_eq_true rfl) (Nat.le_of_ble_eq_true rfl) dX5_readPlace_97 (by first | exact ⟨rfl, hg, hE, Or.inl ⟨by omega, (plF_5 w3 w16 w33 w47 w64).trans w78, rm, mi, ln, ob, k5, rt, rs⟩⟩ | exact ⟨rfl, hg, hE, Or.inr ⟨by omega, ob, flt q5 (plF_5 w3 w16 w33 w47 w64) (by omega)⟩⟩)
          · obtain ⟨_, w64, qo, q5⟩ := t64.resolve_left (by omega)
            have ob := ob.oa qo
            refine q_iconst hx hb dX5_readPlace_70 ?_
            exact q_ret_z hx hb hr hlocks hK hAe hw (by omega) (Nat.le_of_ble_eq_true rfl) (Nat.le_of_ble_eq_true rfl) dX5_readPlace_71 (by first | exact ⟨rfl, hg, hE, Or.inr ⟨by omega, ob, flt q5 (plF_3 w3 w16 w33 w47) (by omega)⟩⟩ | exact ⟨rfl, hg, hE, Or.inr ⟨by omega, ob, flt q5 (plF_4 w3 w16 w33 w47 w64) (by omega)⟩⟩)
      · obtain ⟨_, w33, qo, q5⟩ := t33.resolve_left (by omega)
        have ob := ob.oa qo
        refine q_iconst hx hb dX5_readPlace_39 ?_
        exact q_ret_z hx hb hr hlocks hK hAe hw (by omega) (Nat.le_of_ble_eq_true rfl) (Nat.le_of_ble_eq_true rfl) dX5_readPlace_40 (by first | exact ⟨rfl, hg, hE, Or.inr ⟨by omega, ob, flt q5 (plF_1 w3 w16) (by omega)⟩⟩ | exact ⟨rfl, hg, hE, Or.inr ⟨by omega, ob, flt q5 (plF_2 w3 w16 w33) (by omega)⟩⟩)
  · obtain ⟨_, w3, qo, q5⟩ := t3.resolve_left (by omega)
    have ob := ob.oa qo
    refine q_iconst hx hb dX5_readPlace_9 ?_
    exact q_ret_z hx hb hr hlocks hK hAe hw (by omega) (Nat.le_of_ble_eq_true rfl) (Nat.le_of_ble_eq_true rfl) dX5_readPlace_10 (by first | exact ⟨rfl, hg, hE, Or.inr ⟨by omega, ob, flt q5 (plF_0 w3) (by omega)⟩⟩)
set_option maxHeartbeats 4000000 in
set_option maxRecDepth 100000 in
theorem c_X5_readUntil_o {Z : Zt} (zo : Zok Z) (l : Launch) (D : va_G) (cy : Cy) (L0 : List Nat) (f0 : Nat → va_E) (a0 : Nat) (a1 : Nat) (x2 : Int) (lx2 : -2147483648 ≤ x2) (ux2 : x2 ≤ 2147483647) (m_a0 : a0 ∈ L0) (o_a0 : Ob f0 a0 4) (m_a1 : a1 ∈ L0) (o_a1 : Ob f0 a1 0) (hg : GI cy L0 f0) (Tt : Int → Int) (nn : Int) (tp : Nat) (rt : RT Tt nn f0 a0 tp) (ee : Int) (rs : RS Tt nn f0 a0 ee) (e0 : 0 ≤ ee) (e1 : ee ≤ nn) : Ci Z l yX5_readUntil (Cond.code yX5_readUntil cX5_readUntil 4 (some .boolean) :: TB) ({ frames := 4, cells := 0, slots := 0, locals := 89 } : Room) 0 0 D (tq cy) [.ref a0, .ref a1, .int (iI x2)] L0 f0 (fun (r : Int) (L1 : List Nat) (f1 : Nat → va_E) => L0 = L1 ∧ GI cy L0 f1 ∧ Ex cy f0 f1 ∧ ((r = 1 ∧ daF Tt nn ee = 0 ∧ x2 ≤ daV Tt nn ee ∧ daV Tt nn ee ≤ 36524 ∧ fI f1 a1 4 = daV Tt nn ee ∧ KB f0 f1 a1 4 ∧ OBo f0 f1 a0 a1 ∧ K5 f0 f1 a0 ∧ RT Tt nn f1 a0 tp ∧ RS Tt nn f1 a0 (tQn Tt nn 3 ee)) ∨ (r = 0 ∧ OBo f0 f1 a0 a1 ∧ ((daF Tt nn ee ≠ 0 ∧ fI f1 a0 5 = daF Tt nn ee) ∨ (daF Tt nn ee = 0 ∧ daV Tt nn ee < x2 ∧ fI f1 a0 5 = 8 * tP Tt nn ee + 3))))) := by
  refine Ci.enter (cc := cX5_readUntil) (n := 4) rfl (plainFor_of_name (by decide)) (Nat.le_of_ble_eq_true rfl) ?_
  intro p e s m below meth c ls A hx hb hr hts hown hlocks hnm hml hK hA hAe hw hZ hl
  have hown : s.vm.findClass RX5 = some m.cls := hown
  have hl : lv_has ls 4 [(0, .ref a0), (1, .ref a1), (2, .int (iI x2))] := hl
  have hN : ZN s := (zo.2.2.2.2 _ _ _ hZ).2
  have hE : Ex cy f0 f0 := Ex.refl cy f0
  have nb0 := rt.2.2.1
  have nb1 := rt.2.2.2.1
  have rs1 := rs.1
  have rs2 := rs.2.1
  have rs3 := rs.2.2
  have pb := tP_b (T := Tt) e1
  have qb := tQ_b (T := Tt) e1
  have ne01 : a0 ≠ a1 := fun z => by rw [z] at o_a0; exact absurd (o_a0.uniq o_a1) (by decide)
  have ne10 := ne01.symm
  refine lv_aload_n hx hb dX5_readUntil_0 rfl (lv_at hl 0 rfl) ?_
  refine q_geti (ci := 4) (C := RX5) (T := TX5) (N := 10) hx hb hts (fun w h => List.mem_cons_of_mem _ (mfX50 w h)) hown hK hw m_a0 o_a0 rfl 3 (by decide) (hts _ (List.mem_cons_of_mem _ (mr6 _ (List.mem_of_getElem? (i := 4) rfl)))) (fun _ h => h) rfl dX5_readUntil_1 (fun x_1 lx_1 ux_1 ex_1 => ?_)
  have bx_1 : 0 ≤ x_1 ∧ x_1 ≤ 168 := by rw [ex_1]; exact hg.1 _ m_a0 4 3 o_a0
  refine lv_istore_n (lv' := [(3, .int (iI x_1)), (0, .ref a0), (1, .ref a1), (2, .int (iI x2))]) hx hb dX5_readUntil_4 rfl hl (by decide) rfl (fun ls hl => ?_)
  refine lv_aload_n hx hb dX5_readUntil_5 rfl (lv_at hl 2 rfl) ?_
  refine lv_aload_n hx hb dX5_readUntil_6 rfl (lv_at hl 1 rfl) ?_
  refine q_call_i hA hK hw (va_runV (As := []) (rest := [.ref a1]) ⟨hx, hb, hml, hown, hts⟩ (c_X5_readDate_p zo l D cy L0 f0 a0 m_a0 o_a0 hg Tt nn tp rt ee rs (by omega) (by omega) _) (cwV 0 hts (gT (inV (mr11 _ (List.mem_of_getElem? (i := 15) rfl)) (mr11 _ (List.mem_of_getElem? (i := 16) rfl)) (mr11 _ (List.mem_of_getElem? (i := 17) rfl)) (mr5 _ (List.mem_of_getElem? (i := 18) rfl)) (mr11 _ (List.mem_of_getElem? (i := 18) rfl)))) rfl rfl rfl (by decide +kernel) ⟨Nat.le_of_ble_eq_true rfl, Nat.le_of_ble_eq_true rfl⟩) (Wd.preV zo hA hZ hw hK m_a0 o_a0 rfl) rfl rfl hl.1 rfl (lv_room (Nat.le_of_ble_eq_true rfl)) dX5_readUntil_7 ⟨Nat.le_of_ble_eq_true rfl, Nat.le_of_ble_eq_true rfl⟩) (fun x_2 L1 f_3 H locs lx_2 ux_2 ex_2 hw => ?_)
  obtain ⟨rfl, hg, hX, ex_2⟩ := ex_2
  have hE := hE.trans hX
  have o_a0 := hX.1.1 _ _ o_a0
  have o_a1 := hX.1.1 _ _ o_a1
  have t7 := ex_2
  refine q_puti (ci := 0) (C := RX0) (T := TX0) (N := 15) hx hb hts (fun w h => List.mem_cons_of_mem _ (mfX00 w h)) hown hK hw m_a1 o_a1 rfl 4 (by decide) (hts _ (List.mem_cons_of_mem _ (mr14 _ (List.mem_of_getElem? (i := 14) rfl)))) (fun _ h => h) tyX0 tyX0_ok nmX0 rfl (ty := .int) (by decide +kernel) rfl rfl dX5_readUntil_10 (fun H locs hw => ?_)
  have oo := o_a1
  obtain ⟨f_4, ef_4⟩ : ∃ g : Nat → va_E, g = pU f_3 a1 4 (.int (iI x_2)) := ⟨_, rfl⟩
  have hX : Ex cy f_3 f_4 := by rw [ef_4]; exact Ex_pU oo rfl rfl (by decide)
  have hg : GI cy L0 f_4 := by rw [ef_4]; exact hg.putI oo rfl ⟨lx_2, ux_2⟩ trivial
  rw [← ef_4] at hw
  have hE := hE.trans hX
  have o_a0 := hX.1.1 _ _ o_a0
  have o_a1 := hX.1.1 _ _ o_a1
  have vf_4 : fI f_4 a1 4 = x_2 := by rw [ef_4]; exact fI_pU_self oo rfl ⟨lx_2, ux_2⟩
  have eg10 := ef_4
  have oo10 := oo
  have vg10 := vf_4
  refine lv_aload_n hx hb dX5_readUntil_13 rfl (lv_at hl 2 rfl) ?_
  refine q_geti (ci := 0) (C := RX0) (T := TX0) (N := 15) hx hb hts (fun w h => List.mem_cons_of_mem _ (mfX00 w h)) hown hK hw m_a1 o_a1 rfl 4 (by decide) (hts _ (List.mem_cons_of_mem _ (mr14 _ (List.mem_of_getElem? (i := 14) rfl)))) (fun _ h => h) rfl dX5_readUntil_14 (fun x_5 lx_5 ux_5 ex_5 => ?_)
  refine q_iconst hx hb dX5_readUntil_17 ?_
  refine q_icmp_ne (tgt := 23) hx hb dX5_readUntil_18 (by decide) ⟨lx_5, ux_5⟩ ⟨by decide, by decide⟩ (fun c18 => ?_) (fun c18 => ?_)
  · obtain ⟨w7, q2, q3, q4, qo, qk, rt, rs⟩ := t7.resolve_right (by omega)
    have ob := (((OBo.mk (f := f0) ne10)).oa qo).put eg10
    have k5 := qk.other eg10 ne01
    have rt := rt.other oo10 eg10 ne01
    have rs := rs.other eg10 ne01
    have kb : KB f0 f_4 a1 4 := KB.of qo ne10 eg10
    refine lv_aload_n hx hb dX5_readUntil_23 rfl (lv_at hl 2 rfl) ?_
    refine q_geti (ci := 0) (C := RX0) (T := TX0) (N := 15) hx hb hts (fun w h => List.mem_cons_of_mem _ (mfX00 w h)) hown hK hw m_a1 o_a1 rfl 4 (by decide) (hts _ (List.mem_cons_of_mem _ (mr14 _ (List.mem_of_getElem? (i := 14) rfl)))) (fun _ h => h) rfl dX5_readUntil_24 (fun x_6 lx_6 ux_6 ex_6 => ?_)
    refine lv_iload_n hx hb dX5_readUntil_27 rfl (lv_at hl 3 rfl) ?_
    refine q_icmp_ge (tgt := 43) hx hb dX5_readUntil_28 (by decide) ⟨lx_6, ux_6⟩ ⟨lx2, ux2⟩ (fun c28 => ?_) (fun c28 => ?_)
    · refine q_iconst hx hb dX5_readUntil_43 ?_
      exact q_ret_z hx hb hr hlocks hK hAe hw (by omega) (Nat.le_of_ble_eq_true rfl) (Nat.le_of_ble_eq_true rfl) dX5_readUntil_44 (by exact ⟨rfl, hg, hE, Or.inl ⟨by omega, w7, by omega, by omega, by omega, kb, ob, k5, rt, rs⟩⟩)
    · refine lv_aload_n hx hb dX5_readUntil_31 rfl (lv_at hl 1 rfl) ?_
      refine q_bipush hx hb dX5_readUntil_32 rfl ?_
      refine lv_iload_n hx hb dX5_readUntil_34 rfl (lv_at hl 0 rfl) ?_
      first | refine q_imul hx hb dX5_readUntil_35 ⟨by omega, by omega⟩ (fun x_7 lx_7 ux_7 ex_7 => ?_) | refine q_imulw hx hb dX5_readUntil_35 (fun x_7 lx_7 ux_7 _ => ?_)
      refine q_iconst hx hb dX5_readUntil_36 ?_
      first | refine q_iadd hx hb dX5_readUntil_37 ⟨by omega, by omega⟩ (fun x_8 lx_8 ux_8 ex_8 => ?_) | refine q_iaddw hx hb dX5_readUntil_37 (fun x_8 lx_8 ux_8 _ => ?_)
      refine q_puti (ci := 4) (C := RX5) (T := TX5) (N := 10) hx hb hts (fun w h => List.mem_cons_of_mem _ (mfX50 w h)) hown hK hw m_a0 o_a0 rfl 5 (by decide) (hts _ (List.mem_cons_of_mem _ (mr6 _ (List.mem_of_getElem? (i := 6) rfl)))) (fun _ h => h) tyX5 tyX5_ok nmX5 rfl (ty := .int) (by decide +kernel) rfl rfl dX5_readUntil_38 (fun H locs hw => ?_)
      have oo := o_a0
      obtain ⟨f_9, ef_9⟩ : ∃ g : Nat → va_E, g = pU f_4 a0 5 (.int (iI x_8)) := ⟨_, rfl⟩
      have hX : Ex cy f_4 f_9 := by rw [ef_9]; exact Ex_pU oo rfl rfl (by decide)
      have hg : GI cy L0 f_9 := by rw [ef_9]; exact hg.putI oo rfl ⟨lx_8, ux_8⟩ trivial
      rw [← ef_9] at hw
      have hE := hE.trans hX
      have o_a0 := hX.1.1 _ _ o_a0
      have o_a1 := hX.1.1 _ _ o_a1
      have vf_9 : fI f_9 a0 5 = x_8 := by rw [ef_9]; exact fI_pU_self oo rfl ⟨lx_8, ux_8⟩
      have ob := ob.putA ef_9
      have v38 := vf_9
      refine q_iconst hx hb dX5_readUntil_41 ?_
      exact q_ret_z hx hb hr hlocks hK hAe hw (by omega) (Nat.le_of_ble_eq_true rfl) (Nat.le_of_ble_eq_true rfl) dX5_readUntil_42 (by exact ⟨rfl, hg, hE, Or.inr ⟨by omega, ob, Or.inr ⟨w7, by omega, by omega⟩⟩⟩)
  · obtain ⟨w7, q2, qo, q5⟩ := t7.resolve_left (by omega)
    have ob := (((OBo.mk (f := f0) ne10)).oa qo).put eg10
    have q5 : fI f_4 a0 5 = daF Tt nn ee := Eq.trans (by rw [eg10]; exact fI_pU (Or.inl ne01)) q5
    refine q_iconst hx hb dX5_readUntil_21 ?_
    exact q_ret_z hx hb hr hlocks hK hAe hw (by omega) (Nat.le_of_ble_eq_true rfl) (Nat.le_of_ble_eq_true rfl) dX5_readUntil_22 (by exact ⟨rfl, hg, hE, Or.inr ⟨by omega, ob, Or.inl ⟨w7, q5⟩⟩⟩)
set_option maxHeartbeats 4000000 in
set_option maxRecDepth 100000 in
theorem c_X0_begin_o {Z : Zt} (zo : Zok Z) (l : Launch) (D : va_G) (cy : Cy) (L0 : List Nat) (f0 : Nat → va_E) (a0 : Nat) (a1 : Nat) (m_a0 : a0 ∈ L0) (o_a0 : Ob f0 a0 0) (m_a1 : a1 ∈ L0) (o_a1 : Rl f0 a1) (hg : GI cy L0 f0) (ne : a1 ≠ a0) : Cv Z l yX0_begin (Cond.code yX0_begin cX0_begin 2 none :: TB) ({ frames := 0, cells := 0, slots := 0, locals := 0 } : Room) 0 0 D (tq cy) [.ref a0, .ref a1] L0 f0 (fun (L1 : List Nat) (f1 : Nat → va_E) => L0 = L1 ∧ GI cy L0 f1 ∧ Ex cy f0 f1 ∧ ((OA f0 f1 a0 ∧ fI f1 a0 0 = fI f0 a0 0 ∧ fI f1 a0 1 = fI f0 a0 1 ∧ fI f1 a0 2 = fI f0 a0 2 ∧ fR f1 a0 3 = some a1 ∧ fI f1 a0 4 = -1 ∧ fI f1 a0 5 = -1 ∧ fI f1 a0 6 = fI f0 a1 2) ∧ FN f0 f1 a0 ∧ fI f1 a0 10 = 0)) := by
  refine Cv.enter (cc := cX0_begin) (n := 2) rfl (plainFor_of_name (by decide)) (Nat.le_of_ble_eq_true rfl) ?_
  intro p e s m below meth c ls A hx hb hr hts hown hlocks hnm hml hK hA hAe hw hZ hl
  have hown : s.vm.findClass RX0 = some m.cls := hown
  have hl : lv_has ls 2 [(0, .ref a0), (1, .ref a1)] := hl
  have hN : ZN s := (zo.2.2.2.2 _ _ _ hZ).2
  have hE : Ex cy f0 f0 := Ex.refl cy f0
  have oa := OA.refl f0 a0
  have fn : FN f0 f0 a0 := ⟨rfl, rfl⟩
  refine lv_aload_n hx hb dX0_begin_0 rfl (lv_at hl 0 rfl) ?_
  refine lv_aload_n hx hb dX0_begin_1 rfl (lv_at hl 1 rfl) ?_
  refine q_putr (ci := 0) (C := RX0) (T := TX0) (N := 15) hx hb hts (fun w h => List.mem_cons_of_mem _ (mfX00 w h)) hown hK hw m_a0 o_a0 rfl 3 (by decide) (hts _ (List.mem_cons_of_mem _ (mr3 _ (List.mem_of_getElem? (i := 4) rfl)))) (fun _ h => h) tyX0 tyX0_ok nmX0 rfl (ty := tyX0 3) (by decide +kernel) rfl rfl rfl dX0_begin_2 (fun H locs hw => ?_)
  have oo := o_a0
  obtain ⟨f_1, ef_1⟩ : ∃ g : Nat → va_E, g = pU f0 a0 3 (.ref a1) := ⟨_, rfl⟩
  have hX : Ex cy f0 f_1 := by rw [ef_1]; exact Ex_pU oo rfl rfl (by decide)
  have hg : GI cy L0 f_1 := by rw [ef_1]; exact hg.putR oo rfl ⟨a1, rfl, m_a1, o_a1⟩
  rw [← ef_1] at hw
  have hE := hE.trans hX
  have o_a0 := hX.1.1 _ _ o_a0
  have o_a1 := Rl.mono hX.1 o_a1
  have t_a0_0_f_1 : fI f_1 a0 0 = fI f0 a0 0 := by rw [ef_1]; exact fI_pU (Or.inr (by decide))
  have t_a0_1_f_1 : fI f_1 a0 1 = fI f0 a0 1 := by rw [ef_1]; exact fI_pU (Or.inr (by decide))
  have t_a0_2_f_1 : fI f_1 a0 2 = fI f0 a0 2 := by rw [ef_1]; exact fI_pU (Or.inr (by decide))
  have t_a0_4_f_1 : fI f_1 a0 4 = fI f0 a0 4 := by rw [ef_1]; exact fI_pU (Or.inr (by decide))
  have t_a0_5_f_1 : fI f_1 a0 5 = fI f0 a0 5 := by rw [ef_1]; exact fI_pU (Or.inr (by decide))
  have t_a0_6_f_1 : fI f_1 a0 6 = fI f0 a0 6 := by rw [ef_1]; exact fI_pU (Or.inr (by decide))
  have w3 : fR f_1 a0 3 = some a1 := by rw [ef_1]; exact fR_pU_self oo rfl
  have wr : fI f_1 a1 2 = fI f0 a1 2 := by rw [ef_1]; exact fI_pU (Or.inl ne)
  have oa := oa.put ef_1
  have fn := fn.trans (FN.pU ef_1 (by decide) (by decide))
  refine lv_aload_n hx hb dX0_begin_5 rfl (lv_at hl 0 rfl) ?_
  refine lv_aload_n hx hb dX0_begin_6 rfl (lv_at hl 1 rfl) ?_
  have K7 : ∀ (x_2 : Int) (lx_2 : -2147483648 ≤ x_2) (ux_2 : x_2 ≤ 2147483647) (ex_2 : x_2 = fI f_1 a1 2) (H : Heap) (locs : List Loc) (hw : Wd D A s.heap L0 f_1 H locs), W p l e ({ frames := 0, cells := 0, slots := 0, locals := 0 } : Room) s m ([.ref a0, .ref a1] : List Value).toArray below meth c H locs (0) (0) (MQ below (Qv D (tq cy) L0 f0 s.heap.size (fun (L1 : List Nat) (f1 : Nat → va_E) => L0 = L1 ∧ GI cy L0 f1 ∧ Ex cy f0 f1 ∧ ((OA f0 f1 a0 ∧ fI f1 a0 0 = fI f0 a0 0 ∧ fI f1 a0 1 = fI f0 a0 1 ∧ fI f1 a0 2 = fI f0 a0 2 ∧ fR f1 a0 3 = some a1 ∧ fI f1 a0 4 = -1 ∧ fI f1 a0 5 = -1 ∧ fI f1 a0 6 = fI f0 a1 2) ∧ FN f0 f1 a0 ∧ fI f1 a0 10 = 0))) ([.ref a0, .ref a1] : List Value).toArray s 0 0 A) (F0 m 10 ls (.int (iI x_2) :: [.ref a0])) := by
    intro x_2 lx_2 ux_2 ex_2 H locs hw
    refine q_puti (ci := 0) (C := RX0) (T := TX0) (N := 15) hx hb hts (fun w h => List.mem_cons_of_mem _ (mfX00 w h)) hown hK hw m_a0 o_a0 rfl 6 (by decide) (hts _ (List.mem_cons_of_mem _ (mr14 _ (List.mem_of_getElem? (i := 6) rfl)))) (fun _ h => h) tyX0 tyX0_ok nmX0 rfl (ty := .int) (by decide +kernel) rfl rfl dX0_begin_10 (fun H locs hw => ?_)
    have oo := o_a0
    obtain ⟨f_3, ef_3⟩ : ∃ g : Nat → va_E, g = pU f_1 a0 6 (.int (iI x_2)) := ⟨_, rfl⟩
    have hX : Ex cy f_1 f_3 := by rw [ef_3]; exact Ex_pU oo rfl rfl (by decide)
    have hg : GI cy L0 f_3 := by rw [ef_3]; exact hg.putI oo rfl ⟨lx_2, ux_2⟩ trivial
    rw [← ef_3] at hw
    have hE := hE.trans hX
    have o_a0 := hX.1.1 _ _ o_a0
    have o_a1 := Rl.mono hX.1 o_a1
    have t_a0_0_f_3 : fI f_3 a0 0 = fI f_1 a0 0 := by rw [ef_3]; exact fI_pU (Or.inr (by decide))
    have t_a0_1_f_3 : fI f_3 a0 1 = fI f_1 a0 1 := by rw [ef_3]; exact fI_pU (Or.inr (by decide))
    have t_a0_2_f_3 : fI f_3 a0 2 = fI f_1 a0 2 := by rw [ef_3]; exact fI_pU (Or.inr (by decide))
    have t_a0_4_f_3 : fI f_3 a0 4 = fI f_1 a0 4 := by rw [ef_3]; exact fI_pU (Or.inr (by decide))
    have t_a0_5_f_3 : fI f_3 a0 5 = fI f_1 a0 5 := by rw [ef_3]; exact fI_pU (Or.inr (by decide))
    have vf_3 : fI f_3 a0 6 = x_2 := by rw [ef_3]; exact fI_pU_self oo rfl ⟨lx_2, ux_2⟩
    have w3 : fR f_3 a0 3 = some a1 := by rw [ef_3, fR_pU (Or.inr (by decide))]; exact w3
    have oa := oa.put ef_3
    have fn := fn.trans (FN.pU ef_3 (by decide) (by decide))
    refine lv_aload_n hx hb dX0_begin_13 rfl (lv_at hl 0 rfl) ?_
    refine q_iconst hx hb dX0_begin_14 ?_
    refine q_puti (ci := 0) (C := RX0) (T := TX0) (N := 15) hx hb hts (fun w h => List.mem_cons_of_mem _ (mfX00 w h)) hown hK hw m_a0 o_a0 rfl 4 (by decide) (hts _ (List.mem_cons_of_mem _ (mr14 _ (List.mem_of_getElem? (i := 7) rfl)))) (fun _ h => h) tyX0 tyX0_ok nmX0 rfl (ty := .int) (by decide +kernel) rfl rfl dX0_begin_15 (fun H locs hw => ?_)
    have oo := o_a0
    obtain ⟨f_4, ef_4⟩ : ∃ g : Nat → va_E, g = pU f_3 a0 4 (.int (iI ((-1)))) := ⟨_, rfl⟩
    have hX : Ex cy f_3 f_4 := by rw [ef_4]; exact Ex_pU oo rfl rfl (by decide)
    have hg : GI cy L0 f_4 := by rw [ef_4]; exact hg.putI oo rfl ⟨by decide, by decide⟩ trivial
    rw [← ef_4] at hw
    have hE := hE.trans hX
    have o_a0 := hX.1.1 _ _ o_a0
    have o_a1 := Rl.mono hX.1 o_a1
    have t_a0_0_f_4 : fI f_4 a0 0 = fI f_3 a0 0 := by rw [ef_4]; exact fI_pU (Or.inr (by decide))
    have t_a0_1_f_4 : fI f_4 a0 1 = fI f_3 a0 1 := by rw [ef_4]; exact fI_pU (Or.inr (by decide))
    have t_a0_2_f_4 : fI f_4 a0 2 = fI f_3 a0 2 := by rw [ef_4]; exact fI_pU (Or.inr (by decide))
    have t_a0_5_f_4 : fI f_4 a0 5 = fI f_3 a0 5 := by rw [ef_4]; exact fI_pU (Or.inr (by decide))
    have t_a0_6_f_4 : fI f_4 a0 6 = fI f_3 a0 6 := by rw [ef_4]; exact fI_pU (Or.inr (by decide))
    have vf_4 : fI f_4 a0 4 = ((-1)) := by rw [ef_4]; exact fI_pU_self oo rfl ⟨by decide, by decide⟩
    have w3 : fR f_4 a0 3 = some a1 := by rw [ef_4, fR_pU (Or.inr (by decide))]; exact w3
    have oa := oa.put ef_4
    have fn := fn.trans (FN.pU ef_4 (by decide) (by decide))
    refine lv_aload_n hx hb dX0_begin_18 rfl (lv_at hl 0 rfl) ?_
    refine q_iconst hx hb dX0_begin_19 ?_
    refine q_puti (ci := 0) (C := RX0) (T := TX0) (N := 15) hx hb hts (fun w h => List.mem_cons_of_mem _ (mfX00 w h)) hown hK hw m_a0 o_a0 rfl 5 (by decide) (hts _ (List.mem_cons_of_mem _ (mr14 _ (List.mem_of_getElem? (i := 8) rfl)))) (fun _ h => h) tyX0 tyX0_ok nmX0 rfl (ty := .int) (by decide +kernel) rfl rfl dX0_begin_20 (fun H locs hw => ?_)
    have oo := o_a0
    obtain ⟨f_5, ef_5⟩ : ∃ g : Nat → va_E, g = pU f_4 a0 5 (.int (iI ((-1)))) := ⟨_, rfl⟩
    have hX : Ex cy f_4 f_5 := by rw [ef_5]; exact Ex_pU oo rfl rfl (by decide)
    have hg : GI cy L0 f_5 := by rw [ef_5]; exact hg.putI oo rfl ⟨by decide, by decide⟩ trivial
    rw [← ef_5] at hw
    have hE := hE.trans hX
    have o_a0 := hX.1.1 _ _ o_a0
    have o_a1 := Rl.mono hX.1 o_a1
    have t_a0_0_f_5 : fI f_5 a0 0 = fI f_4 a0 0 := by rw [ef_5]; exact fI_pU (Or.inr (by decide))
    have t_a0_1_f_5 : fI f_5 a0 1 = fI f_4 a0 1 := by rw [ef_5]; exact fI_pU (Or.inr (by decide))
    have t_a0_2_f_5 : fI f_5 a0 2 = fI f_4 a0 2 := by rw [ef_5]; exact fI_pU (Or.inr (by decide))
    have t_a0_4_f_5 : fI f_5 a0 4 = fI f_4 a0 4 := by rw [ef_5]; exact fI_pU (Or.inr (by decide))
    have t_a0_6_f_5 : fI f_5 a0 6 = fI f_4 a0 6 := by rw [ef_5]; exact fI_pU (Or.inr (by decide))
    have vf_5 : fI f_5 a0 5 = ((-1)) := by rw [ef_5]; exact fI_pU_self oo rfl ⟨by decide, by decide⟩
    have w3 : fR f_5 a0 3 = some a1 := by rw [ef_5, fR_pU (Or.inr (by decide))]; exact w3
    have oa := oa.put ef_5
    have fn := fn.trans (FN.pU ef_5 (by decide) (by decide))
    refine lv_aload_n hx hb dX0_begin_23 rfl (lv_at hl 0 rfl) ?_
    refine q_iconst hx hb dX0_begin_24 ?_
    refine q_puti (ci := 0) (C := RX0) (T := TX0) (N := 15) hx hb hts (fun w h => List.mem_cons_of_mem _ (mfX00 w h)) hown hK hw m_a0 o_a0 rfl 10 (by decide) (hts _ (List.mem_cons_of_mem _ (mr14 _ (List.mem_of_getElem? (i := 9) rfl)))) (fun _ h => h) tyX0 tyX0_ok nmX0 rfl (ty := .int) (by decide +kernel) rfl rfl dX0_begin_25 (fun H locs hw => ?_)
    have oo := o_a0
    obtain ⟨f_6, ef_6⟩ : ∃ g : Nat → va_E, g = pU f_5 a0 10 (.int (iI 0)) := ⟨_, rfl⟩
    have hX : Ex cy f_5 f_6 := by rw [ef_6]; exact Ex_pU oo rfl rfl (by decide)
    have hg : GI cy L0 f_6 := by rw [ef_6]; exact hg.putI oo rfl ⟨by decide, by decide⟩ (by show 0 ≤ 0 ∧ 0 ≤ 16; omega)
    rw [← ef_6] at hw
    have hE := hE.trans hX
    have o_a0 := hX.1.1 _ _ o_a0
    have o_a1 := Rl.mono hX.1 o_a1
    have t_a0_0_f_6 : fI f_6 a0 0 = fI f_5 a0 0 := by rw [ef_6]; exact fI_pU (Or.inr (by decide))
    have t_a0_1_f_6 : fI f_6 a0 1 = fI f_5 a0 1 := by rw [ef_6]; exact fI_pU (Or.inr (by decide))
    have t_a0_2_f_6 : fI f_6 a0 2 = fI f_5 a0 2 := by rw [ef_6]; exact fI_pU (Or.inr (by decide))
    have t_a0_4_f_6 : fI f_6 a0 4 = fI f_5 a0 4 := by rw [ef_6]; exact fI_pU (Or.inr (by decide))
    have t_a0_5_f_6 : fI f_6 a0 5 = fI f_5 a0 5 := by rw [ef_6]; exact fI_pU (Or.inr (by decide))
    have t_a0_6_f_6 : fI f_6 a0 6 = fI f_5 a0 6 := by rw [ef_6]; exact fI_pU (Or.inr (by decide))
    have vf_6 : fI f_6 a0 10 = 0 := by rw [ef_6]; exact fI_pU_self oo rfl ⟨by decide, by decide⟩
    have w3 : fR f_6 a0 3 = some a1 := by rw [ef_6, fR_pU (Or.inr (by decide))]; exact w3
    have oa := oa.put ef_6
    have fn := fn.trans (FN.pU ef_6 (by decide) (by decide))
    have c10 := vf_6
    exact q_ret_v hx hb hr hlocks hK hAe hw (Nat.le_of_ble_eq_true rfl) (Nat.le_of_ble_eq_true rfl) dX0_begin_28 (by exact ⟨rfl, hg, hE, ⟨oa, by omega, by omega, by omega, w3, by omega, by omega, by omega⟩, fn, c10⟩)
  rcases o_a1 with o9 | o9 | o9 | o9
  · exact q_geti (ci := 1) (C := RX2) (T := TX2) (N := 4) hx hb hts (fun w h => List.mem_cons_of_mem _ (mfX20 w h)) hown hK hw m_a1 o9 rfl 2 (by decide) (hts _ (List.mem_cons_of_mem _ (mr14 _ (List.mem_of_getElem? (i := 5) rfl)))) (fun _ h => h) rfl dX0_begin_7 (fun x_2 lx_2 ux_2 ex_2 => K7 x_2 lx_2 ux_2 ex_2 _ _ hw)
  · exact q_geti (ci := 2) (C := RX3) (T := TX3) (N := 7) hx hb hts (fun w h => List.mem_cons_of_mem _ (mfX30 w h)) hown hK hw m_a1 o9 rfl 2 (by decide) (hts _ (List.mem_cons_of_mem _ (mr14 _ (List.mem_of_getElem? (i := 5) rfl)))) (fun _ h => h) rfl dX0_begin_7 (fun x_2 lx_2 ux_2 ex_2 => K7 x_2 lx_2 ux_2 ex_2 _ _ hw)
  · exact q_geti (ci := 3) (C := RX4) (T := TX4) (N := 3) hx hb hts (fun w h => List.mem_cons_of_mem _ (mfX40 w h)) hown hK hw m_a1 o9 rfl 2 (by decide) (hts _ (List.mem_cons_of_mem _ (mr14 _ (List.mem_of_getElem? (i := 5) rfl)))) (fun _ h => h) rfl dX0_begin_7 (fun x_2 lx_2 ux_2 ex_2 => K7 x_2 lx_2 ux_2 ex_2 _ _ hw)
  · exact q_geti (ci := 6) (C := RX8) (T := TX8) (N := 6) hx hb hts (fun w h => List.mem_cons_of_mem _ (mfX80 w h)) hown hK hw m_a1 o9 rfl 2 (by decide) (hts _ (List.mem_cons_of_mem _ (mr14 _ (List.mem_of_getElem? (i := 5) rfl)))) (fun _ h => h) rfl dX0_begin_7 (fun x_2 lx_2 ux_2 ex_2 => K7 x_2 lx_2 ux_2 ex_2 _ _ hw)
set_option maxHeartbeats 4000000 in
set_option maxRecDepth 100000 in
theorem c_X5_readSpan_o {Z : Zt} (zo : Zok Z) (l : Launch) (D : va_G) (cy : Cy) (L0 : List Nat) (f0 : Nat → va_E) (a0 : Nat) (a1 : Nat) (m_a0 : a0 ∈ L0) (o_a0 : Ob f0 a0 4) (m_a1 : a1 ∈ L0) (o_a1 : Ob f0 a1 0) (hg : GI cy L0 f0) (Tt : Int → Int) (nn : Int) (tp : Nat) (rt : RT Tt nn f0 a0 tp) (ee : Int) (rs : RS Tt nn f0 a0 ee) (e0 : 0 ≤ ee) (e1 : ee ≤ nn) (Fq : Int) (k0 : Int) (n0 : Int) (v0 : Int) (w0 : Int) (kx : K69 f0 a0 Fq k0 n0 v0 w0) (okp : okP k0 n0 v0 w0) : Ci Z l yX5_readSpan (Cond.code yX5_readSpan cX5_readSpan 3 (some .boolean) :: TB) ({ frames := 7, cells := 1, slots := 7, locals := 151 } : Room) 1 7 D (tq cy) [.ref a0, .ref a1] L0 f0 (fun (r : Int) (L1 : List Nat) (f1 : Nat → va_E) => (∀ x ∈ L0, x ∈ L1) ∧ GI cy L1 f1 ∧ Al cy L0 f0 f1 ∧ ((r = 1 ∧ spF Tt nn ee = 0 ∧ fI f1 a1 10 = 0 ∧ BG f0 f1 a1 k0 n0 (daV Tt nn (tQn Tt nn 1 ee)) (rfV k0 v0 w0) (rfW k0 w0) (spU Tt nn ee) (spT Tt nn ee) ∧ OLo L0 f0 f1 a0 a1 ∧ fI f1 a0 5 = Fq ∧ RT Tt nn f1 a0 tp ∧ RS Tt nn f1 a0 (spE Tt nn ee) ∧ SB9 (daV Tt nn (tQn Tt nn 1 ee)) (spU Tt nn ee) (spT Tt nn ee)) ∨ (r = 0 ∧ spF Tt nn ee ≠ 0 ∧ OLo L0 f0 f1 a0 a1 ∧ fI f1 a0 5 = spF Tt nn ee))) := by
  refine Ci.enter (cc := cX5_readSpan) (n := 3) rfl (plainFor_of_name (by decide)) (Nat.le_of_ble_eq_true rfl) ?_
  intro p e s m below meth c ls A hx hb hr hts hown hlocks hnm hml hK hA hAe hw hZ hl
  have hown : s.vm.findClass RX5 = some m.cls := hown
  have hl : lv_has ls 3 [(0, .ref a0), (1, .ref a1)] := hl
  have hN : ZN s := (zo.2.2.2.2 _ _ _ hZ).2
  have hs : ∀ x ∈ L0, x ∈ L0 := fun _ h => h
  have hE : Al cy L0 f0 f0 := Al.refl cy L0 f0
  have nb0 := rt.2.2.1
  have nb1 := rt.2.2.2.1
  have rs1 := rs.1
  have rs2 := rs.2.1
  have rs3 := rs.2.2
  have pb := tP_b (T := Tt) e1
  have qb := tQ_b (T := Tt) e1
  have ne01 : a0 ≠ a1 := fun z => by rw [z] at o_a0; exact absurd (o_a0.uniq o_a1) (by decide)
  have ne10 := ne01.symm
  have tb1 := tQn_b (T := Tt) e0 e1 1
  have tb2 := tQn_b (T := Tt) e0 e1 2
  have tb3 := tQn_b (T := Tt) e0 e1 3
  have tb4 := tQn_b (T := Tt) e0 e1 4
  have tb5 := tQn_b (T := Tt) e0 e1 5
  have tb6 := tQn_b (T := Tt) e0 e1 6
  have tb7 := tQn_b (T := Tt) e0 e1 7
  have tb8 := tQn_b (T := Tt) e0 e1 8
  have ol := (OLo.mk (L := L0) (f := f0) ne10)
  have ea1 : f0 a1 = f0 a1 := rfl
  have hgA := hg
  have ma0 := m_a0
  have ma1 := m_a1
  have mtp := text_in hg m_a0 o_a0 rt
  have oa1 := o_a1
  have oa9 := o_a0
  refine lv_aload_n hx hb dX5_readSpan_0 rfl (lv_at hl 0 rfl) ?_
  obtain ⟨t_1, v_t_1, h_t_1⟩ : ∃ q v : Nat, ∀ (A : Nat → Prop) (U : State) (H : Heap), Z A U H → vk_R RX5 127 "from" q U ∧ Tx [102, 114, 111, 109] q v A U H := ztx_14 zo
  obtain ⟨b_t_1, eb_t_1⟩ : ∃ b : List Int32, b = [102, 114, 111, 109] := ⟨_, rfl⟩
  have nb_t_1 : Asc b_t_1 := by rw [eb_t_1]; exact ⟨by decide, by decide +kernel⟩
  have tx_t_1 : ∀ (A : Nat → Prop) (U : State) (H : Heap), Z A U H → Tx b_t_1 t_1 v_t_1 A U H := fun A U H h => by rw [eb_t_1]; exact (h_t_1 A U H h).2
  refine va_ldcS hx hb hown (h_t_1 _ _ _ hZ).1 dX5_readSpan_1 ?_
  have ebw3 : b_t_1 = wFrom := eb_t_1
  refine q_call_i hA hK hw (va_runV (As := [.ref t_1]) (rest := []) ⟨hx, hb, hml, hown, hts⟩ (c_X5_require_q zo l D cy L0 f0 a0 t_1 m_a0 o_a0 b_t_1 v_t_1 nb_t_1 tx_t_1 hg Tt nn tp rt ee rs (by omega) (by omega) _) (cwV 1 hts (gT (inV (mr7 _ (List.mem_of_getElem? (i := 17) rfl)) (mr7 _ (List.mem_of_getElem? (i := 18) rfl)) (mr7 _ (List.mem_of_getElem? (i := 19) rfl)) (mr5 _ (List.mem_of_getElem? (i := 18) rfl)) (mr7 _ (List.mem_of_getElem? (i := 20) rfl)))) rfl rfl rfl (by decide +kernel) ⟨Nat.le_of_ble_eq_true rfl, Nat.le_of_ble_eq_true rfl⟩) (Wd.preV zo hA hZ hw hK m_a0 o_a0 rfl) rfl rfl hl.1 rfl (lv_room (Nat.le_of_ble_eq_true rfl)) dX5_readSpan_3 ⟨Nat.le_of_ble_eq_true rfl, Nat.le_of_ble_eq_true rfl⟩) (fun x_2 L1 f_3 H locs lx_2 ux_2 ex_2 hw => ?_)
  obtain ⟨rfl, hg, hX, ex_2⟩ := ex_2
  have hE := hE.trans hs (hX.ey.al _)
  have o_a0 := hX.1.1 _ _ o_a0
  have o_a1 := hX.1.1 _ _ o_a1
  have t3 := ex_2
  rw [ebw3] at t3
  refine q_if_ne (tgt := 11) hx hb dX5_readSpan_6 (by decide) ⟨lx_2, ux_2⟩ (fun c6 => ?_) (fun c6 => ?_)
  · obtain ⟨_, w3, qo, qk, rt, rs⟩ := t3.resolve_right (by omega)
    have ol := ol.oa qo
    have kx : K69 f_3 a0 Fq k0 n0 v0 w0 := kx.k5 qk
    have rs1 := rs.1
    have rs2 := rs.2.1
    have rs3 := rs.2.2
    have ea1 : f_3 a1 = f0 a1 := (qo a1 ne10).trans ea1
    refine lv_aload_n hx hb dX5_readSpan_11 rfl (lv_at hl 0 rfl) ?_
    refine q_call_i hA hK hw (va_runV (As := []) (rest := []) ⟨hx, hb, hml, hown, hts⟩ (c_X5_readDate_p zo l D cy L0 f_3 a0 m_a0 o_a0 hg Tt nn tp rt (tQn Tt nn 1 ee) rs (by omega) (by omega) _) (cwV 0 hts (gT (inV (mr11 _ (List.mem_of_getElem? (i := 15) rfl)) (mr11 _ (List.mem_of_getElem? (i := 16) rfl)) (mr11 _ (List.mem_of_getElem? (i := 17) rfl)) (mr5 _ (List.mem_of_getElem? (i := 18) rfl)) (mr11 _ (List.mem_of_getElem? (i := 18) rfl)))) rfl rfl rfl (by decide +kernel) ⟨Nat.le_of_ble_eq_true rfl, Nat.le_of_ble_eq_true rfl⟩) (Wd.preV zo hA hZ hw hK m_a0 o_a0 rfl) rfl rfl hl.1 rfl (lv_room (Nat.le_of_ble_eq_true rfl)) dX5_readSpan_12 ⟨Nat.le_of_ble_eq_true rfl, Nat.le_of_ble_eq_true rfl⟩) (fun x_4 L1 f_5 H locs lx_4 ux_4 ex_4 hw => ?_)
    obtain ⟨rfl, hg, hX, ex_4⟩ := ex_4
    have hE := hE.trans hs (hX.ey.al _)
    have o_a0 := hX.1.1 _ _ o_a0
    have o_a1 := hX.1.1 _ _ o_a1
    have t12 := ex_4
    refine lv_istore_n (lv' := [(2, .int (iI x_4)), (0, .ref a0), (1, .ref a1)]) hx hb dX5_readSpan_15 rfl hl (by decide) rfl (fun ls hl => ?_)
    refine lv_iload_n hx hb dX5_readSpan_16 rfl (lv_at hl 0 rfl) ?_
    refine q_iconst hx hb dX5_readSpan_17 ?_
    refine q_icmp_ne (tgt := 23) hx hb dX5_readSpan_18 (by decide) ⟨lx_4, ux_4⟩ ⟨by decide, by decide⟩ (fun c18 => ?_) (fun c18 => ?_)
    · obtain ⟨w12, q12, l12, u12, qo, qk, rt, rs⟩ := t12.resolve_right (by omega)
      have ol := ol.oa qo
      have kx : K69 f_5 a0 Fq k0 n0 v0 w0 := kx.k5 qk
      have rs1 := rs.1
      have rs2 := rs.2.1
      have rs3 := rs.2.2
      have ea1 : f_5 a1 = f0 a1 := (qo a1 ne10).trans ea1
      refine lv_aload_n hx hb dX5_readSpan_23 rfl (lv_at hl 2 rfl) ?_
      refine lv_aload_n hx hb dX5_readSpan_24 rfl (lv_at hl 1 rfl) ?_
      refine lv_iload_n hx hb dX5_readSpan_25 rfl (lv_at hl 0 rfl) ?_
      refine q_call_r hA hK hw (va_runV (As := [.int (iI x_4)]) (rest := [.ref a1]) ⟨hx, hb, hml, hown, hts⟩ (c_X5_makeRule_p zo l D cy L0 f_5 a0 x_4 lx_4 ux_4 m_a0 o_a0 hg Fq k0 n0 v0 w0 kx okp (by omega) (by omega) _) (cwV 1 hts (gT (inV (mr12 _ (List.mem_of_getElem? (i := 5) rfl)) (mr12 _ (List.mem_of_getElem? (i := 6) rfl)) (mr12 _ (List.mem_of_getElem? (i := 7) rfl)) (mr5 _ (List.mem_of_getElem? (i := 18) rfl)) (mr12 _ (List.mem_of_getElem? (i := 8) rfl)))) rfl rfl rfl (by decide +kernel) ⟨Nat.le_of_ble_eq_true rfl, Nat.le_of_ble_eq_true rfl⟩) (Wd.preV zo hA hZ hw hK m_a0 o_a0 rfl) rfl rfl hl.1 rfl (lv_room (Nat.le_of_ble_eq_true rfl)) dX5_readSpan_26 ⟨Nat.le_of_ble_eq_true rfl, Nat.le_of_ble_eq_true rfl⟩) (fun x_6 L_8 f_7 H locs ex_6 hw => ?_)
      obtain ⟨hs1, hg, hX, ex_6⟩ := ex_6
      have hE := hE.trans hs (hX)
      have o_a0 := hX.1 _ m_a0 _ o_a0
      have o_a1 := hX.1 _ m_a1 _ o_a1
      have m_a0 := hs1 _ m_a0
      have m_a1 := hs1 _ m_a1
      have hs : ∀ x ∈ L0, x ∈ L_8 := fun x h => hs1 x (hs x h)
      obtain ⟨m_x_6, o_x_6, ex_6⟩ := ex_6
      obtain ⟨hd, nr, ruk⟩ := ex_6
      rw [q12] at ruk
      have ol := ol.hold (fun _ h => h) hd ma1
      have kx : K69 f_7 a0 Fq k0 n0 v0 w0 := kx.of (hd a0 ma0)
      have rt := rt.of (hd a0 ma0) (hd tp mtp.1)
      have rs := rs.of (hd a0 ma0)
      have ea1 := (hd a1 ma1).trans ea1
      have nr1 := (fun (z : x_6 = a1) => nr (z ▸ ma1))
      have rs1 := rs.1
      have rs2 := rs.2.1
      have rs3 := rs.2.2
      refine q_call_v hA hK hw (va_runV (As := [.ref x_6]) (rest := []) ⟨hx, hb, hml, hown, hts⟩ (c_X0_begin_o zo l D cy L_8 f_7 a1 x_6 m_a1 o_a1 m_x_6 o_x_6 hg (fun z => nr (z ▸ ma1)) _) (cwV 1 hts (gT (inV (mr14 _ (List.mem_of_getElem? (i := 1) rfl)) (mr14 _ (List.mem_of_getElem? (i := 2) rfl)) (mr14 _ (List.mem_of_getElem? (i := 3) rfl)) (mr2 _ (List.mem_of_getElem? (i := 9) rfl)) (mr14 _ (List.mem_of_getElem? (i := 4) rfl)))) rfl rfl rfl (by decide +kernel) ⟨Nat.le_of_ble_eq_true rfl, Nat.le_of_ble_eq_true rfl⟩) (Wd.preV zo hA hZ hw hK m_a1 o_a1 rfl) rfl rfl hl.1 rfl (lv_room (Nat.le_of_ble_eq_true rfl)) dX5_readSpan_29 ⟨Nat.le_of_ble_eq_true rfl, Nat.le_of_ble_eq_true rfl⟩) (fun L1 f_10 H locs ex_9 hw => ?_)
      obtain ⟨rfl, hg, hX, ex_9⟩ := ex_9
      have hE := hE.trans hs (hX.ey.al _)
      have o_a0 := hX.1.1 _ _ o_a0
      have o_a1 := hX.1.1 _ _ o_a1
      obtain ⟨e29, fn29, c10⟩ := ex_9
      have bg : BG f0 f_10 a1 k0 n0 (daV Tt nn (tQn Tt nn 1 ee)) (rfV k0 v0 w0) (rfW k0 w0) (-1) (-1) := BG.start ea1 e29 nr1 ruk
      have ol := ol.oab e29.1 fn29
      have kx : K69 f_10 a0 Fq k0 n0 v0 w0 := kx.of (e29.1 a0 ne01)
      have rt := rt.of (e29.1 a0 ne01) (e29.1 tp (fun z => by have q := mtp.2; rw [z] at q; exact oa1.notI q))
      have rs := rs.of (e29.1 a0 ne01)
      have rs1 := rs.1
      have rs2 := rs.2.1
      have rs3 := rs.2.2
      refine lv_aload_n hx hb dX5_readSpan_32 rfl (lv_at hl 1 rfl) ?_
      obtain ⟨t_11, v_t_11, h_t_11⟩ : ∃ q v : Nat, ∀ (A : Nat → Prop) (U : State) (H : Heap), Z A U H → vk_R RX5 140 "times" q U ∧ Tx [116, 105, 109, 101, 115] q v A U H := ztx_15 zo
      obtain ⟨b_t_11, eb_t_11⟩ : ∃ b : List Int32, b = [116, 105, 109, 101, 115] := ⟨_, rfl⟩
      have nb_t_11 : Asc b_t_11 := by rw [eb_t_11]; exact ⟨by decide, by decide +kernel⟩
      have tx_t_11 : ∀ (A : Nat → Prop) (U : State) (H : Heap), Z A U H → Tx b_t_11 t_11 v_t_11 A U H := fun A U H h => by rw [eb_t_11]; exact (h_t_11 A U H h).2
      refine va_ldcS hx hb hown (h_t_11 _ _ _ hZ).1 dX5_readSpan_33 ?_
      have ebw35 : b_t_11 = wTimes := eb_t_11
      have oa4 := o_a0
      refine q_call_i hA hK hw (va_runV (As := [.ref t_11]) (rest := []) ⟨hx, hb, hml, hown, hts⟩ (c_X5_take_q zo l D cy L_8 f_10 a0 t_11 m_a0 o_a0 b_t_11 v_t_11 nb_t_11 tx_t_11 hg Tt nn tp rt (tQn Tt nn 4 ee) rs (by omega) (by omega) _) (cwV 1 hts (gT (inV (mr7 _ (List.mem_of_getElem? (i := 21) rfl)) (mr7 _ (List.mem_of_getElem? (i := 22) rfl)) (mr7 _ (List.mem_of_getElem? (i := 23) rfl)) (mr5 _ (List.mem_of_getElem? (i := 18) rfl)) (mr8 _ (List.mem_of_getElem? (i := 0) rfl)))) rfl rfl rfl (by decide +kernel) ⟨Nat.le_of_ble_eq_true rfl, Nat.le_of_ble_eq_true rfl⟩) (Wd.preV zo hA hZ hw hK m_a0 o_a0 rfl) rfl rfl hl.1 rfl (lv_room (Nat.le_of_ble_eq_true rfl)) dX5_readSpan_35 ⟨Nat.le_of_ble_eq_true rfl, Nat.le_of_ble_eq_true rfl⟩) (fun x_12 L1 f_13 H locs lx_12 ux_12 ex_12 hw => ?_)
      obtain ⟨rfl, hg, hX, ex_12⟩ := ex_12
      have hE := hE.trans hs (hX.ey.al _)
      have o_a0 := hX.1.1 _ _ o_a0
      have o_a1 := hX.1.1 _ _ o_a1
      have t35 := ex_12
      rw [ebw35] at t35
      refine q_if_eq (tgt := 67) hx hb dX5_readSpan_38 (by decide) ⟨lx_12, ux_12⟩ (fun c38 => ?_) (fun c38 => ?_)
      · obtain ⟨_, w35, qz⟩ := t35.resolve_left (by omega)
        have rt : RT Tt nn f_13 a0 tp := by rw [qz]; exact rt
        have rs : RS Tt nn f_13 a0 (tQn Tt nn 4 ee) := by rw [qz]; exact rs
        have kx : K69 f_13 a0 Fq k0 n0 v0 w0 := by rw [qz]; exact kx
        have ol : OLo L0 f0 f_13 a0 a1 := by rw [qz]; exact ol
        have rs1 := rs.1
        have rs2 := rs.2.1
        have rs3 := rs.2.2
        have bg : BG f0 f_13 a1 k0 n0 (daV Tt nn (tQn Tt nn 1 ee)) (rfV k0 v0 w0) (rfW k0 w0) (-1) (-1) := by rw [qz]; exact bg
        have c10 : fI f_13 a1 10 = 0 := by rw [qz]; exact c10
        refine lv_aload_n hx hb dX5_readSpan_67 rfl (lv_at hl 1 rfl) ?_
        obtain ⟨t_14, v_t_14, h_t_14⟩ : ∃ q v : Nat, ∀ (A : Nat → Prop) (U : State) (H : Heap), Z A U H → vk_R RX5 144 "until" q U ∧ Tx [117, 110, 116, 105, 108] q v A U H := ztx_16 zo
        obtain ⟨b_t_14, eb_t_14⟩ : ∃ b : List Int32, b = [117, 110, 116, 105, 108] := ⟨_, rfl⟩
        have nb_t_14 : Asc b_t_14 := by rw [eb_t_14]; exact ⟨by decide, by decide +kernel⟩
        have tx_t_14 : ∀ (A : Nat → Prop) (U : State) (H : Heap), Z A U H → Tx b_t_14 t_14 v_t_14 A U H := fun A U H h => by rw [eb_t_14]; exact (h_t_14 A U H h).2
        refine va_ldcS hx hb hown (h_t_14 _ _ _ hZ).1 dX5_readSpan_68 ?_
        have ebw70 : b_t_14 = wUntil := eb_t_14
        have oa4 := o_a0
        refine q_call_i hA hK hw (va_runV (As := [.ref t_14]) (rest := []) ⟨hx, hb, hml, hown, hts⟩ (c_X5_take_q zo l D cy L_8 f_13 a0 t_14 m_a0 o_a0 b_t_14 v_t_14 nb_t_14 tx_t_14 hg Tt nn tp rt (tQn Tt nn 4 ee) rs (by omega) (by omega) _) (cwV 1 hts (gT (inV (mr7 _ (List.mem_of_getElem? (i := 21) rfl)) (mr7 _ (List.mem_of_getElem? (i := 22) rfl)) (mr7 _ (List.mem_of_getElem? (i := 23) rfl)) (mr5 _ (List.mem_of_getElem? (i := 18) rfl)) (mr8 _ (List.mem_of_getElem? (i := 0) rfl)))) rfl rfl rfl (by decide +kernel) ⟨Nat.le_of_ble_eq_true rfl, Nat.le_of_ble_eq_true rfl⟩) (Wd.preV zo hA hZ hw hK m_a0 o_a0 rfl) rfl rfl hl.1 rfl (lv_room (Nat.le_of_ble_eq_true rfl)) dX5_readSpan_70 ⟨Nat.le_of_ble_eq_true rfl, Nat.le_of_ble_eq_true rfl⟩) (fun x_15 L1 f_16 H locs lx_15 ux_15 ex_15 hw => ?_)
        obtain ⟨rfl, hg, hX, ex_15⟩ := ex_15
        have hE := hE.trans hs (hX.ey.al _)
        have o_a0 := hX.1.1 _ _ o_a0
        have o_a1 := hX.1.1 _ _ o_a1
        have t70 := ex_15
        rw [ebw70] at t70
        refine q_if_eq (tgt := 85) hx hb dX5_readSpan_73 (by decide) ⟨lx_15, ux_15⟩ (fun c73 => ?_) (fun c73 => ?_)
        · obtain ⟨_, w70, qz⟩ := t70.resolve_left (by omega)
          have rt : RT Tt nn f_16 a0 tp := by rw [qz]; exact rt
          have rs : RS Tt nn f_16 a0 (tQn Tt nn 4 ee) := by rw [qz]; exact rs
          have kx : K69 f_16 a0 Fq k0 n0 v0 w0 := by rw [qz]; exact kx
          have ol : OLo L0 f0 f_16 a0 a1 := by rw [qz]; exact ol
          have rs1 := rs.1
          have rs2 := rs.2.1
          have rs3 := rs.2.2
          have bg : BG f0 f_16 a1 k0 n0 (daV Tt nn (tQn Tt nn 1 ee)) (rfV k0 v0 w0) (rfW k0 w0) (-1) (-1) := by rw [qz]; exact bg
          have c10 : fI f_16 a1 10 = 0 := by rw [qz]; exact c10
          refine q_iconst hx hb dX5_readSpan_85 ?_
          refine lv_goto (tgt := 90) hx hb dX5_readSpan_86 (by decide) ?_
          exact q_ret_z hx hb hr hlocks hK hAe hw (by omega) (Nat.le_of_ble_eq_true rfl) (Nat.le_of_ble_eq_true rfl) dX5_readSpan_90 (by first | (have z := sp_no w3 w12 w35 w70; exact ⟨hs, hg, hE, Or.inl ⟨by omega, z.1, c10, bg.to z.2.1 z.2.2.1, ol, kx.1, rt, rs.to z.2.2.2, by unfold SB9; omega⟩⟩) | (have z := sp_until w3 w12 w35 w70; exact ⟨hs, hg, hE, Or.inl ⟨by omega, z.2.2.1 w79 (by omega), c10, bg.to z.2.2.2.1 z.2.2.2.2.1, ol, f5, rt, rs.to z.2.2.2.2.2, by unfold SB9; omega⟩⟩) | (have z := sp_until w3 w12 w35 w70; rcases q5 with ⟨y1, y2⟩ | ⟨y1, y2, y3⟩; (have y := z.1 y1; exact ⟨hs, hg, hE, Or.inr ⟨by omega, by omega, ol, by omega⟩⟩); (have y := z.2.1 y1 (by omega); exact ⟨hs, hg, hE, Or.inr ⟨by omega, by omega, ol, by omega⟩⟩)))
        · obtain ⟨_, w70, qo, qk, rt, rs⟩ := t70.resolve_right (by omega)
          have ol := ol.oa qo
          have kx : K69 f_16 a0 Fq k0 n0 v0 w0 := kx.k5 qk
          have rs1 := rs.1
          have rs2 := rs.2.1
          have rs3 := rs.2.2
          have bg := bg.oa qo oa4 ne10
          have c10 := fI10_oa c10 qo ne10
          refine lv_aload_n hx hb dX5_readSpan_76 rfl (lv_at hl 1 rfl) ?_
          refine lv_aload_n hx hb dX5_readSpan_77 rfl (lv_at hl 2 rfl) ?_
          refine lv_iload_n hx hb dX5_readSpan_78 rfl (lv_at hl 0 rfl) ?_
          have oa4 := o_a0
          refine q_call_i hA hK hw (va_runV (As := [.ref a1, .int (iI x_4)]) (rest := []) ⟨hx, hb, hml, hown, hts⟩ (c_X5_readUntil_o zo l D cy L_8 f_16 a0 a1 x_4 lx_4 ux_4 m_a0 o_a0 m_a1 o_a1 hg Tt nn tp rt (tQn Tt nn 5 ee) rs (by omega) (by omega) _) (cwV 2 hts (gT (inV (mr14 _ (List.mem_of_getElem? (i := 10) rfl)) (mr14 _ (List.mem_of_getElem? (i := 11) rfl)) (mr14 _ (List.mem_of_getElem? (i := 12) rfl)) (mr5 _ (List.mem_of_getElem? (i := 18) rfl)) (mr14 _ (List.mem_of_getElem? (i := 13) rfl)))) rfl rfl rfl (by decide +kernel) ⟨Nat.le_of_ble_eq_true rfl, Nat.le_of_ble_eq_true rfl⟩) (Wd.preV zo hA hZ hw hK m_a0 o_a0 rfl) rfl rfl hl.1 rfl (lv_room (Nat.le_of_ble_eq_true rfl)) dX5_readSpan_79 ⟨Nat.le_of_ble_eq_true rfl, Nat.le_of_ble_eq_true rfl⟩) (fun x_17 L1 f_18 H locs lx_17 ux_17 ex_17 hw => ?_)
          obtain ⟨rfl, hg, hX, ex_17⟩ := ex_17
          have hE := hE.trans hs (hX.ey.al _)
          have o_a0 := hX.1.1 _ _ o_a0
          have o_a1 := hX.1.1 _ _ o_a1
          have t79 := ex_17
          refine q_if_eq (tgt := 89) hx hb dX5_readSpan_82 (by decide) ⟨lx_17, ux_17⟩ (fun c82 => ?_) (fun c82 => ?_)
          · obtain ⟨_, qob, q5⟩ := t79.resolve_left (by omega)
            have ol := ol.ob qob
            refine q_iconst hx hb dX5_readSpan_89 ?_
            exact q_ret_z hx hb hr hlocks hK hAe hw (by omega) (Nat.le_of_ble_eq_true rfl) (Nat.le_of_ble_eq_true rfl) dX5_readSpan_90 (by first | (have z := sp_no w3 w12 w35 w70; exact ⟨hs, hg, hE, Or.inl ⟨by omega, z.1, c10, bg.to z.2.1 z.2.2.1, ol, kx.1, rt, rs.to z.2.2.2, by unfold SB9; omega⟩⟩) | (have z := sp_until w3 w12 w35 w70; exact ⟨hs, hg, hE, Or.inl ⟨by omega, z.2.2.1 w79 (by omega), c10, bg.to z.2.2.2.1 z.2.2.2.2.1, ol, f5, rt, rs.to z.2.2.2.2.2, by unfold SB9; omega⟩⟩) | (have z := sp_until w3 w12 w35 w70; rcases q5 with ⟨y1, y2⟩ | ⟨y1, y2, y3⟩; (have y := z.1 y1; exact ⟨hs, hg, hE, Or.inr ⟨by omega, by omega, ol, by omega⟩⟩); (have y := z.2.1 y1 (by omega); exact ⟨hs, hg, hE, Or.inr ⟨by omega, by omega, ol, by omega⟩⟩)))
          · obtain ⟨_, w79, q79, l79, v79, kb, qob, qk, rt, rs⟩ := t79.resolve_right (by omega)
            have ol := ol.ob qob
            have f5 := qk.1.trans kx.1
            have bg := bg.u kb v79 qob.2.1 oa4
            have c10 := fI10_kb c10 kb
            refine q_iconst hx hb dX5_readSpan_85 ?_
            refine lv_goto (tgt := 90) hx hb dX5_readSpan_86 (by decide) ?_
            exact q_ret_z hx hb hr hlocks hK hAe hw (by omega) (Nat.le_of_ble_eq_true rfl) (Nat.le_of_ble_eq_true rfl) dX5_readSpan_90 (by first | (have z := sp_no w3 w12 w35 w70; exact ⟨hs, hg, hE, Or.inl ⟨by omega, z.1, c10, bg.to z.2.1 z.2.2.1, ol, kx.1, rt, rs.to z.2.2.2, by unfold SB9; omega⟩⟩) | (have z := sp_until w3 w12 w35 w70; exact ⟨hs, hg, hE, Or.inl ⟨by omega, z.2.2.1 w79 (by omega), c10, bg.to z.2.2.2.1 z.2.2.2.2.1, ol, f5, rt, rs.to z.2.2.2.2.2, by unfold SB9; omega⟩⟩) | (have z := sp_until w3 w12 w35 w70; rcases q5 with ⟨y1, y2⟩ | ⟨y1, y2, y3⟩; (have y := z.1 y1; exact ⟨hs, hg, hE, Or.inr ⟨by omega, by omega, ol, by omega⟩⟩); (have y := z.2.1 y1 (by omega); exact ⟨hs, hg, hE, Or.inr ⟨by omega, by omega, ol, by omega⟩⟩)))
      · obtain ⟨_, w35, qo, qk, rt, rs⟩ := t35.resolve_right (by omega)
        have ol := ol.oa qo
        have kx : K69 f_13 a0 Fq k0 n0 v0 w0 := kx.k5 qk
        have rs1 := rs.1
        have rs2 := rs.2.1
        have rs3 := rs.2.2
        have bg := bg.oa qo oa4 ne10
        have c10 := fI10_oa c10 qo ne10
        refine lv_aload_n hx hb dX5_readSpan_41 rfl (lv_at hl 2 rfl) ?_
        refine lv_aload_n hx hb dX5_readSpan_42 rfl (lv_at hl 1 rfl) ?_
        refine q_iconst hx hb dX5_readSpan_43 ?_
        have oa4 := o_a0
        refine q_sipush hx hb dX5_readSpan_44 rfl ?_
        refine q_call_i hA hK hw (va_runV (As := [.int (iI 1), .int (iI 999)]) (rest := [.ref a1]) ⟨hx, hb, hml, hown, hts⟩ (c_X5_takeNumber_q zo l D cy L_8 f_13 a0 1 (by decide) (by decide) 999 (by decide) (by decide) m_a0 o_a0 hg Tt nn tp rt (tQn Tt nn 5 ee) rs (by omega) (by omega) _) (cwV 2 hts (gT (inV (mr10 _ (List.mem_of_getElem? (i := 10) rfl)) (mr10 _ (List.mem_of_getElem? (i := 11) rfl)) (mr10 _ (List.mem_of_getElem? (i := 12) rfl)) (mr5 _ (List.mem_of_getElem? (i := 18) rfl)) (mr10 _ (List.mem_of_getElem? (i := 13) rfl)))) rfl rfl rfl (by decide +kernel) ⟨Nat.le_of_ble_eq_true rfl, Nat.le_of_ble_eq_true rfl⟩) (Wd.preV zo hA hZ hw hK m_a0 o_a0 rfl) rfl rfl hl.1 rfl (lv_room (Nat.le_of_ble_eq_true rfl)) dX5_readSpan_47 ⟨Nat.le_of_ble_eq_true rfl, Nat.le_of_ble_eq_true rfl⟩) (fun x_19 L1 f_20 H locs lx_19 ux_19 ex_19 hw => ?_)
        obtain ⟨rfl, hg, hX, ex_19⟩ := ex_19
        have hE := hE.trans hs (hX.ey.al _)
        have o_a0 := hX.1.1 _ _ o_a0
        have o_a1 := hX.1.1 _ _ o_a1
        have t47 := ex_19
        refine q_puti (ci := 0) (C := RX0) (T := TX0) (N := 15) hx hb hts (fun w h => List.mem_cons_of_mem _ (mfX00 w h)) hown hK hw m_a1 o_a1 rfl 5 (by decide) (hts _ (List.mem_cons_of_mem _ (mr11 _ (List.mem_of_getElem? (i := 14) rfl)))) (fun _ h => h) tyX0 tyX0_ok nmX0 rfl (ty := .int) (by decide +kernel) rfl rfl dX5_readSpan_50 (fun H locs hw => ?_)
        have oo := o_a1
        obtain ⟨f_21, ef_21⟩ : ∃ g : Nat → va_E, g = pU f_20 a1 5 (.int (iI x_19)) := ⟨_, rfl⟩
        have hX : Ex cy f_20 f_21 := by rw [ef_21]; exact Ex_pU oo rfl rfl (by decide)
        have hg : GI cy L_8 f_21 := by rw [ef_21]; exact hg.putI oo rfl ⟨lx_19, ux_19⟩ trivial
        rw [← ef_21] at hw
        have hE := hE.trans hs (hX.ey.al _)
        have o_a0 := hX.1.1 _ _ o_a0
        have o_a1 := hX.1.1 _ _ o_a1
        have vf_21 : fI f_21 a1 5 = x_19 := by rw [ef_21]; exact fI_pU_self oo rfl ⟨lx_19, ux_19⟩
        have eg50 := ef_21
        have oo50 := oo
        have vg50 := vf_21
        refine lv_aload_n hx hb dX5_readSpan_53 rfl (lv_at hl 2 rfl) ?_
        refine q_geti (ci := 0) (C := RX0) (T := TX0) (N := 15) hx hb hts (fun w h => List.mem_cons_of_mem _ (mfX00 w h)) hown hK hw m_a1 o_a1 rfl 5 (by decide) (hts _ (List.mem_cons_of_mem _ (mr11 _ (List.mem_of_getElem? (i := 14) rfl)))) (fun _ h => h) rfl dX5_readSpan_54 (fun x_22 lx_22 ux_22 ex_22 => ?_)
        refine q_iconst hx hb dX5_readSpan_57 ?_
        refine q_icmp_eq (tgt := 65) hx hb dX5_readSpan_58 (by decide) ⟨lx_22, ux_22⟩ ⟨by decide, by decide⟩ (fun c58 => ?_) (fun c58 => ?_)
        · obtain ⟨w47, q47, qo, q5⟩ := t47.resolve_left (by omega)
          have ol := (ol.oa qo).put eg50
          have q5 : fI f_21 a0 5 = nS Tt nn (tQn Tt nn 5 ee) 1 999 := Eq.trans (by rw [eg50]; exact fI_pU (Or.inl ne01)) q5
          refine q_iconst hx hb dX5_readSpan_65 ?_
          exact q_ret_z hx hb hr hlocks hK hAe hw (by omega) (Nat.le_of_ble_eq_true rfl) (Nat.le_of_ble_eq_true rfl) dX5_readSpan_66 (by (have z := sp_times w3 w12 w35; first | exact ⟨hs, hg, hE, Or.inl ⟨by omega, z.1.trans w47, c10, bg.to z.2.1 z.2.2.1, ol, f5, rt, rs.to z.2.2.2, by unfold SB9; omega⟩⟩ | exact ⟨hs, hg, hE, Or.inr ⟨by omega, by omega, ol, by omega⟩⟩))
        · obtain ⟨w47, q47, l47, u47, qo, qk, rt, rs⟩ := t47.resolve_right (by omega)
          have ol := (ol.oa qo).put eg50
          have f5 : fI f_21 a0 5 = Fq := Eq.trans (by rw [eg50]; exact fI_pU (Or.inl ne01)) (qk.1.trans kx.1)
          have bg := (bg.oa qo oa4 ne10).p5 oo50 ⟨by omega, by omega⟩ eg50 q47
          have rt := rt.other oo50 eg50 ne01
          have rs := rs.other eg50 ne01
          have c10 := fI10_pU (fI10_oa c10 qo ne10) eg50
          refine q_iconst hx hb dX5_readSpan_61 ?_
          refine lv_goto (tgt := 66) hx hb dX5_readSpan_62 (by decide) ?_
          exact q_ret_z hx hb hr hlocks hK hAe hw (by omega) (Nat.le_of_ble_eq_true rfl) (Nat.le_of_ble_eq_true rfl) dX5_readSpan_66 (by (have z := sp_times w3 w12 w35; first | exact ⟨hs, hg, hE, Or.inl ⟨by omega, z.1.trans w47, c10, bg.to z.2.1 z.2.2.1, ol, f5, rt, rs.to z.2.2.2, by unfold SB9; omega⟩⟩ | exact ⟨hs, hg, hE, Or.inr ⟨by omega, by omega, ol, by omega⟩⟩))
    · obtain ⟨w12, q12, qo, q5⟩ := t12.resolve_left (by omega)
      have ol := ol.oa qo
      refine q_iconst hx hb dX5_readSpan_21 ?_
      exact q_ret_z hx hb hr hlocks hK hAe hw (by omega) (Nat.le_of_ble_eq_true rfl) (Nat.le_of_ble_eq_true rfl) dX5_readSpan_22 (by (have z := sp_date w3 w12; exact ⟨hs, hg, hE, Or.inr ⟨by omega, by omega, ol, by omega⟩⟩))
  · obtain ⟨_, w3, qo, q5⟩ := t3.resolve_left (by omega)
    have ol := ol.oa qo
    refine q_iconst hx hb dX5_readSpan_9 ?_
    exact q_ret_z hx hb hr hlocks hK hAe hw (by omega) (Nat.le_of_ble_eq_true rfl) (Nat.le_of_ble_eq_true rfl) dX5_readSpan_10 (by (have z := sp_from w3; exact ⟨hs, hg, hE, Or.inr ⟨by omega, by omega, ol, by omega⟩⟩))
set_option maxHeartbeats 4000000 in
set_option maxRecDepth 100000 in
theorem c_X5_read_o {Z : Zt} (zo : Zok Z) (l : Launch) (D : va_G) (cy : Cy) (L0 : List Nat) (f0 : Nat → va_E) (a0 : Nat) (a1 : Nat) (m_a0 : a0 ∈ L0) (o_a0 : Ob f0 a0 4) (m_a1 : a1 ∈ L0) (o_a1 : Ob f0 a1 0) (hg : GI cy L0 f0) (Tt : Int → Int) (nn : Int) (tp : Nat) (rt : RT Tt nn f0 a0 tp) (z4 : fI f0 a0 4 = 0) (kx : K69 f0 a0 0 0 0 0 0) : Ci Z l yX5_read (Cond.code yX5_read cX5_read 2 (some .int) :: TB) ({ frames := 9, cells := 1, slots := 7, locals := 191 } : Room) 1 7 D (tq cy) [.ref a0, .ref a1] L0 f0 (fun (r : Int) (L1 : List Nat) (f1 : Nat → va_E) => (∀ x ∈ L0, x ∈ L1) ∧ GI cy L1 f1 ∧ Al cy L0 f0 f1 ∧ ((r = 0 ∧ bkF Tt nn = 0 ∧ RB f1 a1 (bkW Tt nn) 0 ∧ OLo L0 f0 f1 a0 a1 ∧ fI f1 a1 10 = 0) ∨ (r ≠ 0 ∧ r = bkF Tt nn ∧ OLo L0 f0 f1 a0 a1))) := by
  refine Ci.enter (cc := cX5_read) (n := 2) rfl (plainFor_of_name (by decide)) (Nat.le_of_ble_eq_true rfl) ?_
  intro p e s m below meth c ls A hx hb hr hts hown hlocks hnm hml hK hA hAe hw hZ hl
  have hown : s.vm.findClass RX5 = some m.cls := hown
  have hl : lv_has ls 2 [(0, .ref a0), (1, .ref a1)] := hl
  have hN : ZN s := (zo.2.2.2.2 _ _ _ hZ).2
  have hs : ∀ x ∈ L0, x ∈ L0 := fun _ h => h
  have hE : Al cy L0 f0 f0 := Al.refl cy L0 f0
  have nb0 := rt.2.2.1
  have nb1 := rt.2.2.2.1
  have ne01 : a0 ≠ a1 := fun z => by rw [z] at o_a0; exact absurd (o_a0.uniq o_a1) (by decide)
  have ne10 := ne01.symm
  have ol := (OLo.mk (L := L0) (f := f0) ne10)
  have oa1 := o_a1
  have b6 : 0 ≤ bE6 Tt nn ∧ bE6 Tt nn ≤ nn := tQn_b (T := Tt) (by omega) (by omega) 6
  have b7 : 0 ≤ bE7 Tt nn ∧ bE7 Tt nn ≤ nn := ruE_b b6.1 b6.2
  have b8 : 0 ≤ bE8 Tt nn ∧ bE8 Tt nn ≤ nn := spE_b b7.1 b7.2
  have p8 := tP_b (T := Tt) b8.2
  have n1b := tQn_b (T := Tt) (n := nn) (e := 0) (by omega) (by omega) 1
  have ty8 := tyA_b Tt nn (tP Tt nn (bE8 Tt nn))
  refine lv_aload_n hx hb dX5_read_0 rfl (lv_at hl 0 rfl) ?_
  refine q_call_v hA hK hw (va_runV (As := []) (rest := []) ⟨hx, hb, hml, hown, hts⟩ (c_X5_step_p zo l D cy L0 f0 a0 m_a0 o_a0 hg Tt nn tp rt (by omega) (by omega) _) (cwV 0 hts (gT (inV (mr7 _ (List.mem_of_getElem? (i := 2) rfl)) (mr7 _ (List.mem_of_getElem? (i := 3) rfl)) (mr7 _ (List.mem_of_getElem? (i := 4) rfl)) (mr5 _ (List.mem_of_getElem? (i := 18) rfl)) (mr7 _ (List.mem_of_getElem? (i := 5) rfl)))) rfl rfl rfl (by decide +kernel) ⟨Nat.le_of_ble_eq_true rfl, Nat.le_of_ble_eq_true rfl⟩) (Wd.preV zo hA hZ hw hK m_a0 o_a0 rfl) rfl rfl hl.1 rfl (lv_room (Nat.le_of_ble_eq_true rfl)) dX5_read_1 ⟨Nat.le_of_ble_eq_true rfl, Nat.le_of_ble_eq_true rfl⟩) (fun L1 f_2 H locs ex_1 hw => ?_)
  obtain ⟨rfl, hg, hX, ex_1⟩ := ex_1
  have hE := hE.trans hs (hX.ey.al _)
  have o_a0 := hX.1.1 _ _ o_a0
  have o_a1 := hX.1.1 _ _ o_a1
  have n9 := ex_1
  rw [z4] at n9
  have ol := ol.oa n9.1
  have kx := kx.k5 n9.2.1
  have rt := n9.2.2.1
  have rs := n9.2.2.2
  refine lv_aload_n hx hb dX5_read_4 rfl (lv_at hl 0 rfl) ?_
  refine lv_aload_n hx hb dX5_read_5 rfl (lv_at hl 1 rfl) ?_
  refine q_call_i hA hK hw (va_runV (As := [.ref a1]) (rest := []) ⟨hx, hb, hml, hown, hts⟩ (c_X5_readPlace_o zo l D cy L0 f_2 a0 a1 m_a0 o_a0 m_a1 o_a1 hg Tt nn tp rt 0 rs (by omega) (by omega) _) (cwV 1 hts (gT (inV (mr7 _ (List.mem_of_getElem? (i := 10) rfl)) (mr7 _ (List.mem_of_getElem? (i := 11) rfl)) (mr7 _ (List.mem_of_getElem? (i := 12) rfl)) (mr5 _ (List.mem_of_getElem? (i := 18) rfl)) (mr7 _ (List.mem_of_getElem? (i := 13) rfl)))) rfl rfl rfl (by decide +kernel) ⟨Nat.le_of_ble_eq_true rfl, Nat.le_of_ble_eq_true rfl⟩) (Wd.preV zo hA hZ hw hK m_a0 o_a0 rfl) rfl rfl hl.1 rfl (lv_room (Nat.le_of_ble_eq_true rfl)) dX5_read_6 ⟨Nat.le_of_ble_eq_true rfl, Nat.le_of_ble_eq_true rfl⟩) (fun x_3 L1 f_4 H locs lx_3 ux_3 ex_3 hw => ?_)
  obtain ⟨rfl, hg, hX, ex_3⟩ := ex_3
  have hE := hE.trans hs (hX.ey.al _)
  have o_a0 := hX.1.1 _ _ o_a0
  have o_a1 := hX.1.1 _ _ o_a1
  have t6 := ex_3
  refine q_if_eq (tgt := 47) hx hb dX5_read_9 (by decide) ⟨lx_3, ux_3⟩ (fun c9 => ?_) (fun c9 => ?_)
  · obtain ⟨_, qob, w6, q5⟩ := t6.resolve_left (by omega)
    have ol := ol.ob qob
    refine lv_aload_n hx hb dX5_read_47 rfl (lv_at hl 0 rfl) ?_
    refine q_geti (ci := 4) (C := RX5) (T := TX5) (N := 10) hx hb hts (fun w h => List.mem_cons_of_mem _ (mfX50 w h)) hown hK hw m_a0 o_a0 rfl 5 (by decide) (hts _ (List.mem_cons_of_mem _ (mr6 _ (List.mem_of_getElem? (i := 6) rfl)))) (fun _ h => h) rfl dX5_read_48 (fun x_5 lx_5 ux_5 ex_5 => ?_)
    exact q_ret_i hx hb hr hlocks hK hAe hw ⟨lx_5, ux_5⟩ (Nat.le_of_ble_eq_true rfl) (Nat.le_of_ble_eq_true rfl) dX5_read_51 (by first | (have z := bk_0 w6; exact ⟨hs, hg, hE, Or.inr ⟨by omega, by omega, ol⟩⟩) | (have z := bk_1 w6 w13; exact ⟨hs, hg, hE, Or.inr ⟨by omega, by omega, ol⟩⟩) | (have z := bk_2 w6 w13 w21; exact ⟨hs, hg, hE, Or.inr ⟨by omega, by omega, ol⟩⟩) | (have z := bk_3 w6 w13 w21 (by omega); exact ⟨hs, hg, hE, Or.inr ⟨by omega, by omega, ol⟩⟩) | (have z := bk_4 w6 w13 w21 (by omega); exact ⟨hs, hg, hE, Or.inl ⟨by omega, z, rb, ol, c10⟩⟩))
  · obtain ⟨_, w6, rm, mi, ln, qob, qk, rt, rs⟩ := t6.resolve_right (by omega)
    have ol := ol.ob qob
    have kx : K69 f_4 a0 0 0 0 0 0 := kx.k5 qk
    refine lv_aload_n hx hb dX5_read_12 rfl (lv_at hl 0 rfl) ?_
    refine q_call_i hA hK hw (va_runV (As := []) (rest := []) ⟨hx, hb, hml, hown, hts⟩ (c_X5_readRule_p zo l D cy L0 f_4 a0 m_a0 o_a0 hg Tt nn tp rt (bE6 Tt nn) rs (by omega) (by omega) 0 kx _) (cwV 0 hts (gT (inV (mr10 _ (List.mem_of_getElem? (i := 14) rfl)) (mr10 _ (List.mem_of_getElem? (i := 15) rfl)) (mr10 _ (List.mem_of_getElem? (i := 16) rfl)) (mr5 _ (List.mem_of_getElem? (i := 18) rfl)) (mr10 _ (List.mem_of_getElem? (i := 17) rfl)))) rfl rfl rfl (by decide +kernel) ⟨Nat.le_of_ble_eq_true rfl, Nat.le_of_ble_eq_true rfl⟩) (Wd.preV zo hA hZ hw hK m_a0 o_a0 rfl) rfl rfl hl.1 rfl (lv_room (Nat.le_of_ble_eq_true rfl)) dX5_read_13 ⟨Nat.le_of_ble_eq_true rfl, Nat.le_of_ble_eq_true rfl⟩) (fun x_6 L1 f_7 H locs lx_6 ux_6 ex_6 hw => ?_)
    obtain ⟨rfl, hg, hX, ex_6⟩ := ex_6
    have hE := hE.trans hs (hX.ey.al _)
    have o_a0 := hX.1.1 _ _ o_a0
    have o_a1 := hX.1.1 _ _ o_a1
    have t13 := ex_6
    refine q_if_eq (tgt := 47) hx hb dX5_read_16 (by decide) ⟨lx_6, ux_6⟩ (fun c16 => ?_) (fun c16 => ?_)
    · obtain ⟨_, w13, qo, q5⟩ := t13.resolve_left (by omega)
      have ol := ol.oa qo
      refine lv_aload_n hx hb dX5_read_47 rfl (lv_at hl 0 rfl) ?_
      refine q_geti (ci := 4) (C := RX5) (T := TX5) (N := 10) hx hb hts (fun w h => List.mem_cons_of_mem _ (mfX50 w h)) hown hK hw m_a0 o_a0 rfl 5 (by decide) (hts _ (List.mem_cons_of_mem _ (mr6 _ (List.mem_of_getElem? (i := 6) rfl)))) (fun _ h => h) rfl dX5_read_48 (fun x_8 lx_8 ux_8 ex_8 => ?_)
      exact q_ret_i hx hb hr hlocks hK hAe hw ⟨lx_8, ux_8⟩ (Nat.le_of_ble_eq_true rfl) (Nat.le_of_ble_eq_true rfl) dX5_read_51 (by first | (have z := bk_0 w6; exact ⟨hs, hg, hE, Or.inr ⟨by omega, by omega, ol⟩⟩) | (have z := bk_1 w6 w13; exact ⟨hs, hg, hE, Or.inr ⟨by omega, by omega, ol⟩⟩) | (have z := bk_2 w6 w13 w21; exact ⟨hs, hg, hE, Or.inr ⟨by omega, by omega, ol⟩⟩) | (have z := bk_3 w6 w13 w21 (by omega); exact ⟨hs, hg, hE, Or.inr ⟨by omega, by omega, ol⟩⟩) | (have z := bk_4 w6 w13 w21 (by omega); exact ⟨hs, hg, hE, Or.inl ⟨by omega, z, rb, ol, c10⟩⟩))
    · obtain ⟨_, w13, qo, kx, rt, rs⟩ := t13.resolve_right (by omega)
      have ol := ol.oa qo
      have rm := (fI_oa qo ne10 0).trans rm
      have mi := (fI_oa qo ne10 1).trans mi
      have ln := (fI_oa qo ne10 2).trans ln
      have okp := ru_ok b6.1 b6.2 w13
      refine lv_aload_n hx hb dX5_read_19 rfl (lv_at hl 0 rfl) ?_
      refine lv_aload_n hx hb dX5_read_20 rfl (lv_at hl 1 rfl) ?_
      refine q_call_i hA hK hw (va_runV (As := [.ref a1]) (rest := []) ⟨hx, hb, hml, hown, hts⟩ (c_X5_readSpan_o zo l D cy L0 f_7 a0 a1 m_a0 o_a0 m_a1 o_a1 hg Tt nn tp rt (bE7 Tt nn) rs (by omega) (by omega) 0 (ruK Tt nn (bE6 Tt nn)) (ruN Tt nn (bE6 Tt nn)) (ruV Tt nn (bE6 Tt nn)) (ruW Tt nn (bE6 Tt nn)) kx okp _) (cwV 1 hts (gT (inV (mr11 _ (List.mem_of_getElem? (i := 10) rfl)) (mr11 _ (List.mem_of_getElem? (i := 11) rfl)) (mr11 _ (List.mem_of_getElem? (i := 12) rfl)) (mr5 _ (List.mem_of_getElem? (i := 18) rfl)) (mr11 _ (List.mem_of_getElem? (i := 13) rfl)))) rfl rfl rfl (by decide +kernel) ⟨Nat.le_of_ble_eq_true rfl, Nat.le_of_ble_eq_true rfl⟩) (Wd.preV zo hA hZ hw hK m_a0 o_a0 rfl) rfl rfl hl.1 rfl (lv_room (Nat.le_of_ble_eq_true rfl)) dX5_read_21 ⟨Nat.le_of_ble_eq_true rfl, Nat.le_of_ble_eq_true rfl⟩) (fun x_9 L_11 f_10 H locs lx_9 ux_9 ex_9 hw => ?_)
      obtain ⟨hs1, hg, hX, ex_9⟩ := ex_9
      have hE := hE.trans hs (hX)
      have o_a0 := hX.1 _ m_a0 _ o_a0
      have o_a1 := hX.1 _ m_a1 _ o_a1
      have m_a0 := hs1 _ m_a0
      have m_a1 := hs1 _ m_a1
      have hs : ∀ x ∈ L0, x ∈ L_11 := fun x h => hs1 x (hs x h)
      have t21 := ex_9
      refine q_if_eq (tgt := 47) hx hb dX5_read_24 (by decide) ⟨lx_9, ux_9⟩ (fun c24 => ?_) (fun c24 => ?_)
      · obtain ⟨_, w21, qol, q5⟩ := t21.resolve_left (by omega)
        have ol := ol.ol qol
        refine lv_aload_n hx hb dX5_read_47 rfl (lv_at hl 0 rfl) ?_
        refine q_geti (ci := 4) (C := RX5) (T := TX5) (N := 10) hx hb hts (fun w h => List.mem_cons_of_mem _ (mfX50 w h)) hown hK hw m_a0 o_a0 rfl 5 (by decide) (hts _ (List.mem_cons_of_mem _ (mr6 _ (List.mem_of_getElem? (i := 6) rfl)))) (fun _ h => h) rfl dX5_read_48 (fun x_12 lx_12 ux_12 ex_12 => ?_)
        exact q_ret_i hx hb hr hlocks hK hAe hw ⟨lx_12, ux_12⟩ (Nat.le_of_ble_eq_true rfl) (Nat.le_of_ble_eq_true rfl) dX5_read_51 (by first | (have z := bk_0 w6; exact ⟨hs, hg, hE, Or.inr ⟨by omega, by omega, ol⟩⟩) | (have z := bk_1 w6 w13; exact ⟨hs, hg, hE, Or.inr ⟨by omega, by omega, ol⟩⟩) | (have z := bk_2 w6 w13 w21; exact ⟨hs, hg, hE, Or.inr ⟨by omega, by omega, ol⟩⟩) | (have z := bk_3 w6 w13 w21 (by omega); exact ⟨hs, hg, hE, Or.inr ⟨by omega, by omega, ol⟩⟩) | (have z := bk_4 w6 w13 w21 (by omega); exact ⟨hs, hg, hE, Or.inl ⟨by omega, z, rb, ol, c10⟩⟩))
      · obtain ⟨_, w21, c10, bg, qol, f5, rt, rs, sb⟩ := t21.resolve_right (by omega)
        have ol := ol.ol qol
        have rm9 := pl_room nb0 w6
        have rs1 : fI f_10 a0 2 = tyA Tt nn (tP Tt nn (bE8 Tt nn)) := rs.1
        have rs2 : fI f_10 a0 3 = tP Tt nn (bE8 Tt nn) := rs.2.1
        refine lv_aload_n hx hb dX5_read_27 rfl (lv_at hl 0 rfl) ?_
        refine q_geti (ci := 4) (C := RX5) (T := TX5) (N := 10) hx hb hts (fun w h => List.mem_cons_of_mem _ (mfX50 w h)) hown hK hw m_a0 o_a0 rfl 2 (by decide) (hts _ (List.mem_cons_of_mem _ (mr6 _ (List.mem_of_getElem? (i := 3) rfl)))) (fun _ h => h) rfl dX5_read_28 (fun x_13 lx_13 ux_13 ex_13 => ?_)
        refine q_if_ne (tgt := 41) hx hb dX5_read_31 (by decide) ⟨lx_13, ux_13⟩ (fun c31 => ?_) (fun c31 => ?_)
        · refine lv_aload_n hx hb dX5_read_41 rfl (lv_at hl 0 rfl) ?_
          refine q_iconst hx hb dX5_read_42 ?_
          refine q_call_i hA hK hw (va_runV (As := [.int (iI 1)]) (rest := []) ⟨hx, hb, hml, hown, hts⟩ (c_X5_refuse_p zo l D cy L_11 f_10 a0 1 (by decide) (by decide) m_a0 o_a0 hg (by omega) (by omega) (by omega) (by omega) _) (cwV 1 hts (gT (inV (mr10 _ (List.mem_of_getElem? (i := 6) rfl)) (mr10 _ (List.mem_of_getElem? (i := 7) rfl)) (mr10 _ (List.mem_of_getElem? (i := 8) rfl)) (mr5 _ (List.mem_of_getElem? (i := 18) rfl)) (mr10 _ (List.mem_of_getElem? (i := 9) rfl)))) rfl rfl rfl (by decide +kernel) ⟨Nat.le_of_ble_eq_true rfl, Nat.le_of_ble_eq_true rfl⟩) (Wd.preV zo hA hZ hw hK m_a0 o_a0 rfl) rfl rfl hl.1 rfl (lv_room (Nat.le_of_ble_eq_true rfl)) dX5_read_43 ⟨Nat.le_of_ble_eq_true rfl, Nat.le_of_ble_eq_true rfl⟩) (fun x_14 L1 f_15 H locs lx_14 ux_14 ex_14 hw => ?_)
          obtain ⟨rfl, hg, hX, ex_14⟩ := ex_14
          have hE := hE.trans hs (hX.ey.al _)
          have o_a0 := hX.1.1 _ _ o_a0
          have o_a1 := hX.1.1 _ _ o_a1
          have t43 := ex_14
          have ol := ol.oa t43.2.1
          refine lv_pop hx hb dX5_read_46 rfl ?_
          refine lv_aload_n hx hb dX5_read_47 rfl (lv_at hl 0 rfl) ?_
          refine q_geti (ci := 4) (C := RX5) (T := TX5) (N := 10) hx hb hts (fun w h => List.mem_cons_of_mem _ (mfX50 w h)) hown hK hw m_a0 o_a0 rfl 5 (by decide) (hts _ (List.mem_cons_of_mem _ (mr6 _ (List.mem_of_getElem? (i := 6) rfl)))) (fun _ h => h) rfl dX5_read_48 (fun x_16 lx_16 ux_16 ex_16 => ?_)
          exact q_ret_i hx hb hr hlocks hK hAe hw ⟨lx_16, ux_16⟩ (Nat.le_of_ble_eq_true rfl) (Nat.le_of_ble_eq_true rfl) dX5_read_51 (by first | (have z := bk_0 w6; exact ⟨hs, hg, hE, Or.inr ⟨by omega, by omega, ol⟩⟩) | (have z := bk_1 w6 w13; exact ⟨hs, hg, hE, Or.inr ⟨by omega, by omega, ol⟩⟩) | (have z := bk_2 w6 w13 w21; exact ⟨hs, hg, hE, Or.inr ⟨by omega, by omega, ol⟩⟩) | (have z := bk_3 w6 w13 w21 (by omega); exact ⟨hs, hg, hE, Or.inr ⟨by omega, by omega, ol⟩⟩) | (have z := bk_4 w6 w13 w21 (by omega); exact ⟨hs, hg, hE, Or.inl ⟨by omega, z, rb, ol, c10⟩⟩))
        · have rw9 := bk_RW rm mi ln rm9 bg sb
          refine lv_aload_n hx hb dX5_read_34 rfl (lv_at hl 1 rfl) ?_
          refine q_call_v hA hK hw (va_runV (As := []) (rest := []) ⟨hx, hb, hml, hown, hts⟩ (c_X0_settle_g zo l D cy L_11 f_10 a1 m_a1 o_a1 hg (bkW Tt nn) 0 rw9 _) (cwV 0 hts (gT (inV (mr14 _ (List.mem_of_getElem? (i := 15) rfl)) (mr14 _ (List.mem_of_getElem? (i := 16) rfl)) (mr14 _ (List.mem_of_getElem? (i := 17) rfl)) (mr2 _ (List.mem_of_getElem? (i := 9) rfl)) (mr14 _ (List.mem_of_getElem? (i := 18) rfl)))) rfl rfl rfl (by decide +kernel) ⟨Nat.le_of_ble_eq_true rfl, Nat.le_of_ble_eq_true rfl⟩) (Wd.preV zo hA hZ hw hK m_a1 o_a1 rfl) rfl rfl hl.1 rfl (lv_room (Nat.le_of_ble_eq_true rfl)) dX5_read_35 ⟨Nat.le_of_ble_eq_true rfl, Nat.le_of_ble_eq_true rfl⟩) (fun L1 f_18 H locs ex_17 hw => ?_)
          obtain ⟨rfl, hg, hX, ex_17⟩ := ex_17
          have hE := hE.trans hs (hX.ey.al _)
          have o_a0 := hX.1.1 _ _ o_a0
          have o_a1 := hX.1.1 _ _ o_a1
          obtain ⟨st, rb⟩ := ex_17
          have ol := OLo.st ol st
          have f5 : fI f_18 a0 5 = 0 := (fI_of (st.1 a0 ne01)).trans f5
          have c10 := (st.int (by decide) (by decide) (by decide)).trans c10
          refine lv_goto (tgt := 47) hx hb dX5_read_38 (by decide) ?_
          refine lv_aload_n hx hb dX5_read_47 rfl (lv_at hl 0 rfl) ?_
          refine q_geti (ci := 4) (C := RX5) (T := TX5) (N := 10) hx hb hts (fun w h => List.mem_cons_of_mem _ (mfX50 w h)) hown hK hw m_a0 o_a0 rfl 5 (by decide) (hts _ (List.mem_cons_of_mem _ (mr6 _ (List.mem_of_getElem? (i := 6) rfl)))) (fun _ h => h) rfl dX5_read_48 (fun x_19 lx_19 ux_19 ex_19 => ?_)
          exact q_ret_i hx hb hr hlocks hK hAe hw ⟨lx_19, ux_19⟩ (Nat.le_of_ble_eq_true rfl) (Nat.le_of_ble_eq_true rfl) dX5_read_51 (by first | (have z := bk_0 w6; exact ⟨hs, hg, hE, Or.inr ⟨by omega, by omega, ol⟩⟩) | (have z := bk_1 w6 w13; exact ⟨hs, hg, hE, Or.inr ⟨by omega, by omega, ol⟩⟩) | (have z := bk_2 w6 w13 w21; exact ⟨hs, hg, hE, Or.inr ⟨by omega, by omega, ol⟩⟩) | (have z := bk_3 w6 w13 w21 (by omega); exact ⟨hs, hg, hE, Or.inr ⟨by omega, by omega, ol⟩⟩) | (have z := bk_4 w6 w13 w21 (by omega); exact ⟨hs, hg, hE, Or.inl ⟨by omega, z, rb, ol, c10⟩⟩))
set_option maxHeartbeats 4000000 in
set_option maxRecDepth 100000 in
theorem c_X9_book_o {Z : Zt} (zo : Zok Z) (l : Launch) (D : va_G) (cy : Cy) (L0 : List Nat) (f0 : Nat → va_E) (a0 : Nat) (m_a0 : a0 ∈ L0) (o_a0 : Ob f0 a0 7) (hg : GI cy L0 f0) (rq : Int → Nat) (g : Int → Int) (mm : Int) (sx : SX f0 a0 rq g mm) (tp : Nat) (et : fR f0 a0 0 = some tp) (Tt : Int → Int) (hT : ∀ i : Int, 0 ≤ i → i < 168 → aI f0 tp i = Tt i) : Ci Z l yX9_book (Cond.code yX9_book cX9_book 4 (some .int) :: TB) ({ frames := 10, cells := 2, slots := 17, locals := 212 } : Room) 2 17 D (tq cy) [.ref a0] L0 f0 (fun (r : Int) (L1 : List Nat) (f1 : Nat → va_E) => (∀ x ∈ L0, x ∈ L1) ∧ GI cy L1 f1 ∧ Al cy L0 f0 f1 ∧ ((r = -1 ∧ (160 < fI f0 a0 1 ∨ 12 ≤ mm) ∧ (∀ y ∈ L0, y ≠ a0 → f1 y = f0 y) ∧ (∀ k : Nat, k ≠ 1 → fV f1 a0 k = fV f0 a0 k) ∧ fI f1 a0 1 = 0) ∨ (fI f0 a0 1 ≤ 160 ∧ mm < 12 ∧ bkF Tt (fI f0 a0 1) ≠ 0 ∧ r = -2 - bkF Tt (fI f0 a0 1) ∧ (∀ y ∈ L0, y ≠ a0 → y ≠ rq mm → f1 y = f0 y) ∧ (∀ k : Nat, k ≠ 1 → fV f1 a0 k = fV f0 a0 k) ∧ fI f1 a0 1 = 0 ∧ FN f0 f1 (rq mm)) ∨ (fI f0 a0 1 ≤ 160 ∧ mm < 12 ∧ bkF Tt (fI f0 a0 1) = 0 ∧ r = mm ∧ ∃ (sh : Nat) (f9 : Nat → va_E), fR f0 a0 2 = some sh ∧ ((∀ y ∈ L0, y ≠ a0 → y ≠ rq mm → f9 y = f0 y) ∧ (∀ k : Nat, k ≠ 1 → fV f9 a0 k = fV f0 a0 k) ∧ fI f9 a0 1 = 0 ∧ FN f0 f9 (rq mm) ∧ fI f9 (rq mm) 10 = 0) ∧ RB f9 (rq mm) (bkW Tt (fI f0 a0 1)) 0 ∧ RK f9 f1 sh ∧ fI f1 sh 1 = mm + 1))) := by
  refine Ci.enter (cc := cX9_book) (n := 4) rfl (plainFor_of_name (by decide)) (Nat.le_of_ble_eq_true rfl) ?_
  intro p e s m below meth c ls A hx hb hr hts hown hlocks hnm hml hK hA hAe hw hZ hl
  have hown : s.vm.findClass RX9 = some m.cls := hown
  have hl : lv_has ls 4 [(0, .ref a0)] := hl
  have hN : ZN s := (zo.2.2.2.2 _ _ _ hZ).2
  have hs : ∀ x ∈ L0, x ∈ L0 := fun _ h => h
  have hE : Al cy L0 f0 f0 := Al.refl cy L0 f0
  have hg0 := hg
  have ma0 := m_a0
  have oa7 := o_a0
  have mtp := tape_in hg m_a0 o_a0 et
  have bn : 0 ≤ fI f0 a0 1 ∧ fI f0 a0 1 ≤ 168 := hg.1 _ m_a0 7 1 o_a0
  refine lv_aload_n hx hb dX9_book_0 rfl (lv_at hl 0 rfl) ?_
  refine q_geti (ci := 7) (C := RX9) (T := TX9) (N := 4) hx hb hts (fun w h => List.mem_cons_of_mem _ (mfX90 w h)) hown hK hw m_a0 o_a0 rfl 1 (by decide) (hts _ (List.mem_cons_of_mem _ (mr1 _ (List.mem_of_getElem? (i := 16) rfl)))) (fun _ h => h) rfl dX9_book_1 (fun x_1 lx_1 ux_1 ex_1 => ?_)
  have bx_1 : 0 ≤ x_1 ∧ x_1 ≤ 168 := by rw [ex_1]; exact hg.1 _ m_a0 7 1 o_a0
  refine lv_istore_n (lv' := [(1, .int (iI x_1)), (0, .ref a0)]) hx hb dX9_book_4 rfl hl (by decide) rfl (fun ls hl => ?_)
  refine lv_aload_n hx hb dX9_book_5 rfl (lv_at hl 1 rfl) ?_
  refine q_iconst hx hb dX9_book_6 ?_
  refine q_puti (ci := 7) (C := RX9) (T := TX9) (N := 4) hx hb hts (fun w h => List.mem_cons_of_mem _ (mfX90 w h)) hown hK hw m_a0 o_a0 rfl 1 (by decide) (hts _ (List.mem_cons_of_mem _ (mr1 _ (List.mem_of_getElem? (i := 16) rfl)))) (fun _ h => h) tyX9 tyX9_ok nmX9 rfl (ty := .int) (by decide +kernel) rfl rfl dX9_book_7 (fun H locs hw => ?_)
  have oo := o_a0
  obtain ⟨f_2, ef_2⟩ : ∃ g : Nat → va_E, g = pU f0 a0 1 (.int (iI 0)) := ⟨_, rfl⟩
  have hX : Ey cy f0 f_2 := by rw [ef_2]; exact Ey_pU oo rfl
  have hg : GI cy L0 f_2 := by rw [ef_2]; exact hg.putI oo rfl ⟨by decide, by decide⟩ (by show 0 ≤ 0 ∧ 0 ≤ 168; omega)
  rw [← ef_2] at hw
  have hE := hE.trans hs (hX.al _)
  have o_a0 := hX.1.1 _ _ o_a0
  have vf_2 : fI f_2 a0 1 = 0 := by rw [ef_2]; exact fI_pU_self oo rfl ⟨by decide, by decide⟩
  obtain ⟨f7, ef7⟩ : ∃ z : Nat → va_E, z = f_2 := ⟨_, rfl⟩
  have hold : ∀ x ∈ L0, f_2 x = f7 x := fun x _ => by rw [ef7]
  have h7 : ∀ y ∈ L0, y ≠ a0 → f7 y = f0 y := fun y _ n => by rw [ef7, ef_2]; exact pU_ne n
  have k7 : ∀ k : Nat, k ≠ 1 → fV f7 a0 k = fV f0 a0 k := fun k h => by rw [ef7, ef_2]; exact fV_pU (Or.inr h)
  have z7 : fI f7 a0 1 = 0 := by rw [ef7]; exact vf_2
  have sx7 : SX f7 a0 rq g mm := sx.offA hg0 ma0 oa7 h7 (k7 2 (by decide))
  have bu := bkF_u (T := Tt) (n := fI f0 a0 1) (by omega)
  refine lv_iload_n hx hb dX9_book_10 rfl (lv_at hl 0 rfl) ?_
  refine q_sipush hx hb dX9_book_11 rfl ?_
  refine q_icmp_gt (tgt := 27) hx hb dX9_book_14 (by decide) ⟨lx_1, ux_1⟩ ⟨by decide, by decide⟩ (fun c14 => ?_) (fun c14 => ?_)
  · refine q_iconst hx hb dX9_book_27 ?_
    exact q_ret_i hx hb hr hlocks hK hAe hw ⟨by decide, by decide⟩ (Nat.le_of_ble_eq_true rfl) (Nat.le_of_ble_eq_true rfl) dX9_book_28 (by exact ⟨hs, hg, hE, Or.inl ⟨by omega, by omega, by rw [← ef7]; exact h7, by rw [← ef7]; exact k7, by rw [← ef7]; exact z7⟩⟩)
  · refine lv_aload_n hx hb dX9_book_17 rfl (lv_at hl 1 rfl) ?_
    obtain ⟨r_3, er_3, m_r_3, o_r_3⟩ := (show ∃ r, fR f_2 a0 2 = some r ∧ r ∈ L0 ∧ Ob f_2 r 5 from hg.2.1 _ m_a0 7 2 o_a0)
    refine q_getr (ci := 7) (C := RX9) (T := TX9) (N := 4) hx hb hts (fun w h => List.mem_cons_of_mem _ (mfX90 w h)) hown hK hw m_a0 o_a0 rfl 2 (by decide) (hts _ (List.mem_cons_of_mem _ (mr1 _ (List.mem_of_getElem? (i := 20) rfl)))) (fun _ h => h) rfl er_3 dX9_book_18 ?_
    have s18 := (show SX f_2 a0 rq g mm by rw [← ef7]; exact sx7).at er_3
    refine q_call_i hA hK hw (va_runV (As := []) (rest := []) ⟨hx, hb, hml, hown, hts⟩ (c_X7_isFull_f zo l D cy L0 f_2 r_3 m_r_3 o_r_3 hg _) (cwV 0 hts (gT (inV (mr5 _ (List.mem_of_getElem? (i := 19) rfl)) (mr5 _ (List.mem_of_getElem? (i := 20) rfl)) (mr5 _ (List.mem_of_getElem? (i := 21) rfl)) (mr1 _ (List.mem_of_getElem? (i := 19) rfl)) (mr5 _ (List.mem_of_getElem? (i := 22) rfl)))) rfl rfl rfl (by decide +kernel) ⟨Nat.le_of_ble_eq_true rfl, Nat.le_of_ble_eq_true rfl⟩) (Wd.preV zo hA hZ hw hK m_r_3 o_r_3 rfl) rfl rfl hl.1 rfl (lv_room (Nat.le_of_ble_eq_true rfl)) dX9_book_21 ⟨Nat.le_of_ble_eq_true rfl, Nat.le_of_ble_eq_true rfl⟩) (fun x_4 L1 f1 H locs lx_4 ux_4 ex_4 hw => ?_)
    obtain ⟨rfl, rfl, ex_4⟩ := ex_4
    refine q_if_eq (tgt := 29) hx hb dX9_book_24 (by decide) ⟨lx_4, ux_4⟩ (fun c24 => ?_) (fun c24 => ?_)
    · refine q_new (ci := 4) (C := RX5) (T := TX5) (N := 10) (fs := [.null, .int 0, .int 0, .int 0, .int 0, .int 0, .int 0, .int 0, .int 0, .int 0]) hx hb hts (fun w h => List.mem_cons_of_mem _ (mfX50 w h)) tyX5 tyX5_ok hown (hts _ (List.mem_cons_of_mem _ (mr5 _ (List.mem_of_getElem? (i := 16) rfl)))) (hts _ (List.mem_cons_of_mem _ (mr5 _ (List.mem_of_getElem? (i := 17) rfl)))) (hts _ (List.mem_cons_of_mem _ (mr5 _ (List.mem_of_getElem? (i := 18) rfl)))) hK hw hA rfl (by decide) (Nat.le_of_ble_eq_true rfl) (Nat.le_of_ble_eq_true rfl) dX9_book_29 (fun q_5 H n_q_5 hw => ?_)
      obtain ⟨f_6, ef_6⟩ : ∃ g : Nat → va_E, g = va_up f_2 q_5 (.inr (4, [.null, .int 0, .int 0, .int 0, .int 0, .int 0, .int 0, .int 0, .int 0, .int 0])) := ⟨_, rfl⟩
      rw [← ef_6] at hw
      have hX : Al cy L0 f_2 f_6 := by rw [ef_6]; exact Al.push n_q_5
      have hg : GI cy L0 f_6 := by rw [ef_6]; exact hg.push n_q_5
      have hM : ∀ x ∈ L0, x ∈ L0 ++ [q_5] := fun x h => List.mem_append_left _ h
      have hs0 := hs
      have hold : ∀ x ∈ L0, f_6 x = f7 x := fun x h => Eq.trans (by rw [ef_6]; exact va_up_ne _ _ (fun z => n_q_5 (z ▸ hs0 x h))) (hold x h)
      have hE := hE.trans hs (hX)
      have o_a0 := hX.1 _ m_a0 _ o_a0
      have mg_a0 := m_a0
      have m_a0 := hM _ m_a0
      have hs : ∀ x ∈ L0, x ∈ L0 ++ [q_5] := fun x h => hM x (hs x h)
      have m_q_5 : q_5 ∈ L0 ++ [q_5] := List.mem_append_right _ (List.mem_singleton.mpr rfl)
      have o_q_5 : Ob f_6 q_5 4 := by rw [ef_6]; exact ⟨_, va_up_self _ _ _, rfl⟩
      refine lv_dup hx hb dX9_book_32 rfl ?_
      refine lv_aload_n hx hb dX9_book_33 rfl (lv_at hl 1 rfl) ?_
      obtain ⟨r_7, er_7, mg_r_7, o_r_7⟩ := (show ∃ r, fR f_6 a0 0 = some r ∧ r ∈ L0 ∧ ArI f_6 r cy.1 168 from hg.2.1 _ mg_a0 7 0 o_a0)
      have m_r_7 := hM _ mg_r_7
      refine q_getr (ci := 7) (C := RX9) (T := TX9) (N := 4) hx hb hts (fun w h => List.mem_cons_of_mem _ (mfX90 w h)) hown hK hw m_a0 o_a0 rfl 0 (by decide) (hts _ (List.mem_cons_of_mem _ (mr1 _ (List.mem_of_getElem? (i := 15) rfl)))) (fun _ h => h) rfl er_7 dX9_book_34 ?_
      have e34 : r_7 = tp := Option.some.inj (er_7.symm.trans ((fR_of (hold a0 ma0)).trans ((fR_W (k7 0 (by decide))).trans et)))
      refine lv_iload_n hx hb dX9_book_37 rfl (lv_at hl 0 rfl) ?_
      refine q_call_v hA hK hw (va_runI (As := [.ref r_7, .int (iI x_1)]) (rest := [.ref q_5]) ⟨hx, hb, hml, hown, hts⟩ (c_X5_init_p zo l D cy (L0 ++ [q_5]) f_6 q_5 r_7 x_1 lx_1 ux_1 m_q_5 o_q_5 m_r_7 o_r_7 (L0) hM hg mg_r_7 (by omega) (by omega) _) (cwI 2 hts (gT (inC (mr6 _ (List.mem_of_getElem? (i := 1) rfl)))) rfl rfl rfl (hts _ (List.mem_cons_of_mem _ (mr5 _ (List.mem_of_getElem? (i := 18) rfl)))) (hts _ (List.mem_cons_of_mem _ (mr5 _ (List.mem_of_getElem? (i := 23) rfl)))) (hts _ (List.mem_cons_of_mem _ (mr6 _ (List.mem_of_getElem? (i := 0) rfl)))) rfl (by decide +kernel) ⟨Nat.le_of_ble_eq_true rfl, Nat.le_of_ble_eq_true rfl⟩) (Wd.preS zo hA hZ hw hK) rfl rfl hl.1 rfl (lv_room (Nat.le_of_ble_eq_true rfl)) dX9_book_38 ⟨Nat.le_of_ble_eq_true rfl, Nat.le_of_ble_eq_true rfl⟩) (fun L1 f_9 H locs ex_8 hw => ?_)
      obtain ⟨rfl, hg, hX, ex_8⟩ := ex_8
      have hE := hE.trans hs (hX.ey.al _)
      have o_a0 := hX.1.1 _ _ o_a0
      have o_q_5 := hX.1.1 _ _ o_q_5
      have o_r_7 := hX.1.2.1 _ _ _ o_r_7
      have hold : ∀ x ∈ L0, f_9 x = f7 x := fun x h => (ex_8.1 x (hs x h) (fun z => n_q_5 (z ▸ hs0 x h))).trans (hold x h)
      have nq0 : q_5 ∉ L0 := fun h => n_q_5 (hs0 _ h)
      have ex_8 := ex_8.2
      have einit := ex_8
      have hg := hg.addOb o_q_5 (fcond_4 ex_8.1) (rcond_4 ⟨ex_8.2.1, List.mem_append_left _ mg_r_7, o_r_7⟩)
      have rq9 : RT Tt (fI f0 a0 1) f_9 q_5 tp := rtq einit.2.1 e34 einit.2.2.1 (by omega) (by omega) (by omega) hT (hold tp mtp.1) (h7 tp mtp.1 (fun z => by have q := mtp.2; rw [z] at q; exact oa7.notI q)) (fun z => nq0 (by rw [z]; exact mtp.1))
      have nq9 := nq0
      have hold9 := hold
      refine lv_astore_n (lv' := [(2, .ref q_5), (1, .int (iI x_1)), (0, .ref a0)]) hx hb dX9_book_41 rfl hl (by decide) rfl (fun ls hl => ?_)
      refine lv_aload_n hx hb dX9_book_42 rfl (lv_at hl 0 rfl) ?_
      refine lv_aload_n hx hb dX9_book_43 rfl (lv_at hl 2 rfl) ?_
      obtain ⟨r_10, er_10, m_r_10, o_r_10⟩ := (show ∃ r, fR f_9 a0 2 = some r ∧ r ∈ (L0 ++ [q_5]) ∧ Ob f_9 r 5 from hg.2.1 _ m_a0 7 2 o_a0)
      refine q_getr (ci := 7) (C := RX9) (T := TX9) (N := 4) hx hb hts (fun w h => List.mem_cons_of_mem _ (mfX90 w h)) hown hK hw m_a0 o_a0 rfl 2 (by decide) (hts _ (List.mem_cons_of_mem _ (mr1 _ (List.mem_of_getElem? (i := 20) rfl)))) (fun _ h => h) rfl er_10 dX9_book_44 ?_
      have sx9 : SX f_9 a0 rq g mm := sx.offA hg0 ma0 oa7 (fun y m n => (hold y m).trans (h7 y m n)) ((show fV f_9 a0 2 = fV f7 a0 2 by unfold fV; rw [hold a0 ma0]).trans (k7 2 (by decide)))
      have s44 := sx9.at er_10
      refine q_call_r hA hK hw (va_runV (As := []) (rest := [.ref q_5]) ⟨hx, hb, hml, hown, hts⟩ (c_X7_spare_f zo l D cy (L0 ++ [q_5]) f_9 r_10 m_r_10 o_r_10 hg (by omega) _) (cwV 0 hts (gT (inV (mr6 _ (List.mem_of_getElem? (i := 17) rfl)) (mr6 _ (List.mem_of_getElem? (i := 18) rfl)) (mr6 _ (List.mem_of_getElem? (i := 19) rfl)) (mr1 _ (List.mem_of_getElem? (i := 19) rfl)) (mr6 _ (List.mem_of_getElem? (i := 20) rfl)))) rfl rfl rfl (by decide +kernel) ⟨Nat.le_of_ble_eq_true rfl, Nat.le_of_ble_eq_true rfl⟩) (Wd.preV zo hA hZ hw hK m_r_10 o_r_10 rfl) rfl rfl hl.1 rfl (lv_room (Nat.le_of_ble_eq_true rfl)) dX9_book_47 ⟨Nat.le_of_ble_eq_true rfl, Nat.le_of_ble_eq_true rfl⟩) (fun x_11 L1 f1 H locs ex_11 hw => ?_)
      obtain ⟨rfl, rfl, ex_11⟩ := ex_11
      obtain ⟨m_x_11, o_x_11, ex_11⟩ := ex_11
      have gy := (s44.1.row ex_11 (by omega) (by omega)).trans (by rw [s44.2.1])
      have nsp : a0 ≠ x_11 := fun z => by have q := o_x_11; rw [← z] at q; exact absurd (q.uniq o_a0) (by decide)
      have msp := rows_in hg0 ma0 oa7 sx.choose_spec.1 sx.choose_spec.2.1 mm (by omega) (by omega)
      rw [← gy] at msp
      refine q_call_i hA hK hw (va_runV (As := [.ref x_11]) (rest := []) ⟨hx, hb, hml, hown, hts⟩ (c_X5_read_o zo l D cy (L0 ++ [q_5]) f_9 q_5 x_11 m_q_5 o_q_5 m_x_11 o_x_11 hg Tt (fI f0 a0 1) tp rq9 einit.2.2.2.1 einit.2.2.2.2 _) (cwV 1 hts (gT (inV (mr6 _ (List.mem_of_getElem? (i := 22) rfl)) (mr6 _ (List.mem_of_getElem? (i := 23) rfl)) (mr7 _ (List.mem_of_getElem? (i := 0) rfl)) (mr5 _ (List.mem_of_getElem? (i := 18) rfl)) (mr7 _ (List.mem_of_getElem? (i := 1) rfl)))) rfl rfl rfl (by decide +kernel) ⟨Nat.le_of_ble_eq_true rfl, Nat.le_of_ble_eq_true rfl⟩) (Wd.preV zo hA hZ hw hK m_q_5 o_q_5 rfl) rfl rfl hl.1 rfl (lv_room (Nat.le_of_ble_eq_true rfl)) dX9_book_50 ⟨Nat.le_of_ble_eq_true rfl, Nat.le_of_ble_eq_true rfl⟩) (fun x_12 L_14 f_13 H locs lx_12 ux_12 ex_12 hw => ?_)
      obtain ⟨hs1, hg, hX, ex_12⟩ := ex_12
      have hE := hE.trans hs (hX)
      have o_q_5 := hX.1 _ m_q_5 _ o_q_5
      have o_a0 := hX.1 _ m_a0 _ o_a0
      have m_q_5 := hs1 _ m_q_5
      have m_a0 := hs1 _ m_a0
      have hs : ∀ x ∈ L0, x ∈ L_14 := fun x h => hs1 x (hs x h)
      have t50 := ex_12
      refine lv_istore_n (lv' := [(3, .int (iI x_12)), (2, .ref q_5), (1, .int (iI x_1)), (0, .ref a0)]) hx hb dX9_book_53 rfl hl (by decide) rfl (fun ls hl => ?_)
      refine lv_iload_n hx hb dX9_book_54 rfl (lv_at hl 0 rfl) ?_
      refine q_if_eq (tgt := 63) hx hb dX9_book_55 (by decide) ⟨lx_12, ux_12⟩ (fun c55 => ?_) (fun c55 => ?_)
      · obtain ⟨_, w50, rb, ol, c10⟩ := t50.resolve_right (by omega)
        have fr : ∀ y ∈ L0, y ≠ a0 → y ≠ rq mm → f_13 y = f0 y := fun y m n1 n2 => (ol.2.1 y (List.mem_append_left _ m) (fun z => nq9 (z ▸ m)) (fun z => n2 (z.trans gy))).trans ((hold9 y m).trans (h7 y m n1))
        have ea9 := (ol.2.1 a0 (List.mem_append_left _ ma0) (fun z => nq9 (z ▸ ma0)) nsp).trans (hold9 a0 ma0)
        have ka : ∀ k : Nat, k ≠ 1 → fV f_13 a0 k = fV f0 a0 k := fun k h => (show fV f_13 a0 k = fV f7 a0 k by unfold fV; rw [ea9]).trans (k7 k h)
        have za : fI f_13 a0 1 = 0 := (fI_of ea9).trans z7
        have fnq : FN f0 f_13 (rq mm) := by rw [← gy]; exact (FN.of ((hold9 _ msp).trans (h7 _ msp (fun z => nsp z.symm)))).trans ol.2.2
        rw [gy] at c10
        refine lv_aload_n hx hb dX9_book_63 rfl (lv_at hl 3 rfl) ?_
        obtain ⟨r_15, er_15, m_r_15, o_r_15⟩ := (show ∃ r, fR f_13 a0 2 = some r ∧ r ∈ L_14 ∧ Ob f_13 r 5 from hg.2.1 _ m_a0 7 2 o_a0)
        refine q_getr (ci := 7) (C := RX9) (T := TX9) (N := 4) hx hb hts (fun w h => List.mem_cons_of_mem _ (mfX90 w h)) hown hK hw m_a0 o_a0 rfl 2 (by decide) (hts _ (List.mem_cons_of_mem _ (mr1 _ (List.mem_of_getElem? (i := 20) rfl)))) (fun _ h => h) rfl er_15 dX9_book_64 ?_
        have e640 : fR f0 a0 2 = some r_15 := (fR_W (ka 2 (by decide))).symm.trans er_15
        have s64 := sx.at e640
        have m64 := shelf_in hg0 ma0 oa7 e640
        have z64 : fI f_13 r_15 1 = mm := (fI_of (fr r_15 m64.1 (fun z => by have q := m64.2; rw [z] at q; exact absurd (q.uniq oa7) (by decide)) (fun z => by have q := s64.1.1.2.2.1 mm (by omega) (by omega); rw [← z] at q; exact absurd (q.uniq m64.2) (by decide)))).trans s64.2.1
        obtain ⟨f9, ef9⟩ : ∃ z : Nat → va_E, z = f_13 := ⟨_, rfl⟩
        refine q_call_i hA hK hw (va_runV (As := []) (rest := []) ⟨hx, hb, hml, hown, hts⟩ (c_X7_keepSpare_f zo l D cy L_14 f_13 r_15 m_r_15 o_r_15 hg (by omega) _) (cwV 0 hts (gT (inV (mr18 _ (List.mem_of_getElem? (i := 16) rfl)) (mr18 _ (List.mem_of_getElem? (i := 17) rfl)) (mr18 _ (List.mem_of_getElem? (i := 18) rfl)) (mr1 _ (List.mem_of_getElem? (i := 19) rfl)) (mr18 _ (List.mem_of_getElem? (i := 19) rfl)))) rfl rfl rfl (by decide +kernel) ⟨Nat.le_of_ble_eq_true rfl, Nat.le_of_ble_eq_true rfl⟩) (Wd.preV zo hA hZ hw hK m_r_15 o_r_15 rfl) rfl rfl hl.1 rfl (lv_room (Nat.le_of_ble_eq_true rfl)) dX9_book_67 ⟨Nat.le_of_ble_eq_true rfl, Nat.le_of_ble_eq_true rfl⟩) (fun x_16 L1 f_17 H locs lx_16 ux_16 ex_16 hw => ?_)
        obtain ⟨rfl, hg, hX, ex_16⟩ := ex_16
        have hE := hE.trans hs (hX.ey.al _)
        have o_q_5 := hX.1.1 _ _ o_q_5
        have o_a0 := hX.1.1 _ _ o_a0
        have t67 := ex_16
        exact q_ret_i hx hb hr hlocks hK hAe hw ⟨lx_16, ux_16⟩ (Nat.le_of_ble_eq_true rfl) (Nat.le_of_ble_eq_true rfl) dX9_book_70 (by exact ⟨hs, hg, hE, Or.inr (Or.inr ⟨by omega, by omega, w50, by omega, _, f9, e640, ⟨by rw [ef9]; exact fr, by rw [ef9]; exact ka, by rw [ef9]; exact za, by rw [ef9]; exact fnq, by rw [ef9]; exact c10⟩, by rw [ef9, ← gy]; exact rb, by rw [ef9]; exact t67.2.2, by omega⟩)⟩)
      · obtain ⟨_, w50, ol⟩ := t50.resolve_left (by omega)
        have fr : ∀ y ∈ L0, y ≠ a0 → y ≠ rq mm → f_13 y = f0 y := fun y m n1 n2 => (ol.2.1 y (List.mem_append_left _ m) (fun z => nq9 (z ▸ m)) (fun z => n2 (z.trans gy))).trans ((hold9 y m).trans (h7 y m n1))
        have ea9 := (ol.2.1 a0 (List.mem_append_left _ ma0) (fun z => nq9 (z ▸ ma0)) nsp).trans (hold9 a0 ma0)
        have ka : ∀ k : Nat, k ≠ 1 → fV f_13 a0 k = fV f0 a0 k := fun k h => (show fV f_13 a0 k = fV f7 a0 k by unfold fV; rw [ea9]).trans (k7 k h)
        have za : fI f_13 a0 1 = 0 := (fI_of ea9).trans z7
        have fnq : FN f0 f_13 (rq mm) := by rw [← gy]; exact (FN.of ((hold9 _ msp).trans (h7 _ msp (fun z => nsp z.symm)))).trans ol.2.2
        refine q_bipush hx hb dX9_book_58 rfl ?_
        refine lv_iload_n hx hb dX9_book_60 rfl (lv_at hl 0 rfl) ?_
        first | refine q_isub hx hb dX9_book_61 ⟨by omega, by omega⟩ (fun x_18 lx_18 ux_18 ex_18 => ?_) | refine q_isubw hx hb dX9_book_61 (fun x_18 lx_18 ux_18 _ => ?_)
        exact q_ret_i hx hb hr hlocks hK hAe hw ⟨lx_18, ux_18⟩ (Nat.le_of_ble_eq_true rfl) (Nat.le_of_ble_eq_true rfl) dX9_book_62 (by exact ⟨hs, hg, hE, Or.inr (Or.inl ⟨by omega, by omega, by omega, by omega, fr, ka, za, fnq⟩)⟩)
    · refine q_iconst hx hb dX9_book_27 ?_
      exact q_ret_i hx hb hr hlocks hK hAe hw ⟨by decide, by decide⟩ (Nat.le_of_ble_eq_true rfl) (Nat.le_of_ble_eq_true rfl) dX9_book_28 (by exact ⟨hs, hg, hE, Or.inl ⟨by omega, by omega, by rw [← ef7]; exact h7, by rw [← ef7]; exact k7, by rw [← ef7]; exact z7⟩⟩)
