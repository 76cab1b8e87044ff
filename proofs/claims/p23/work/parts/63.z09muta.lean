set_option maxHeartbeats 4000000 in
set_option maxRecDepth 100000 in
theorem c_X0_settle_g {Z : Zt} (zo : Zok Z) (l : Launch) (D : va_G) (cy : Cy) (L0 : List Nat) (f0 : Nat → va_E) (a0 : Nat) (m_a0 : a0 ∈ L0) (o_a0 : Ob f0 a0 0) (hg : GI cy L0 f0) (h0 : Int → Int) (q0 : Int) (rw0 : RW f0 a0 h0 q0) : Cv Z l yX0_settle (Cond.code yX0_settle cX0_settle 2 none :: TB) ({ frames := 4, cells := 0, slots := 0, locals := 92 } : Room) 0 0 D (tq cy) [.ref a0] L0 f0 (fun (L1 : List Nat) (f1 : Nat → va_E) => L0 = L1 ∧ GI cy L0 f1 ∧ Ex cy f0 f1 ∧ (SeT f0 f1 a0 ∧ RB f1 a0 h0 q0)) := by
  obtain ⟨⟨w0, w1, w2, w4, w5, w6⟩, ⟨r0, er, rk⟩, gb⟩ := id rw0
  refine Cv.post (c_X0_settle_f zo l D cy L0 f0 a0 m_a0 o_a0 hg r0 er _ _ _ _ _ rk (by rw [w4]; exact gb.2.2.1) (by rw [w5, w4]; exact gb.2.2.2.1) (by rw [w6]; exact gb.2.2.2.2.1) (by rw [w6]; exact gb.2.2.2.2.2)) ?_
  rintro L1 f1 ⟨e1, e2, e3, st, bd, tt⟩
  rw [w4, w5, w6] at bd tt
  exact ⟨e1, e2, e3, st, rw0.settled st o_a0 bd tt⟩
set_option maxHeartbeats 4000000 in
set_option maxRecDepth 100000 in
theorem c_X7_remove_f {Z : Zt} (zo : Zok Z) (l : Launch) (D : va_G) (cy : Cy) (L0 : List Nat) (f0 : Nat → va_E) (a0 : Nat) (x1 : Int) (lx1 : -2147483648 ≤ x1) (ux1 : x1 ≤ 2147483647) (m_a0 : a0 ∈ L0) (o_a0 : Ob f0 a0 5) (hg : GI cy L0 f0) (rq : Int → Nat) (ar : Nat) (ea : fR f0 a0 0 = some ar) (rr : RR f0 ar rq) (h1 : 0 ≤ x1) (h2 : x1 < fI f0 a0 1) : Cv Z l yX7_remove (Cond.code yX7_remove cX7_remove 4 none :: TB) ({ frames := 0, cells := 0, slots := 0, locals := 0 } : Room) 0 0 D (tq cy) [.ref a0, .int (iI x1)] L0 f0 (fun (L1 : List Nat) (f1 : Nat → va_E) => L0 = L1 ∧ GI cy L0 f1 ∧ Ex cy f0 f1 ∧ (fI f1 a0 1 = fI f0 a0 1 - 1 ∧ RM f0 f1 a0 ar ∧ RR f1 ar (rmv rq x1 (fI f0 a0 1 - 1)))) := by
  refine Cv.enter (cc := cX7_remove) (n := 4) rfl (plainFor_of_name (by decide)) (Nat.le_of_ble_eq_true rfl) ?_
  intro p e s m below meth c ls A hx hb hr hts hown hlocks hnm hml hK hA hAe hw hZ hl
  have hown : s.vm.findClass RX7 = some m.cls := hown
  have hl : lv_has ls 4 [(0, .ref a0), (1, .int (iI x1))] := hl
  have hN : ZN s := (zo.2.2.2.2 _ _ _ hZ).2
  have hE : Ex cy f0 f0 := Ex.refl cy f0
  have bs : 0 ≤ fI f0 a0 1 ∧ fI f0 a0 1 ≤ 12 := hg.1 _ m_a0 5 1 o_a0
  have hM := RM.refl f0 a0 ar
  refine lv_aload_n hx hb dX7_remove_0 rfl (lv_at hl 0 rfl) ?_
  obtain ⟨r_1, er_1, m_r_1, o_r_1⟩ := (show ∃ r, fR f0 a0 0 = some r ∧ r ∈ L0 ∧ ArR f0 r cy.2.2.2.1 12 from hg.2.1 _ m_a0 5 0 o_a0)
  refine q_getr (ci := 5) (C := RX7) (T := TX7) (N := 2) hx hb hts (fun w h => List.mem_cons_of_mem _ (mfX70 w h)) hown hK hw m_a0 o_a0 rfl 0 (by decide) (hts _ (List.mem_cons_of_mem _ (mr2 _ (List.mem_of_getElem? (i := 3) rfl)))) (fun _ h => h) rfl er_1 dX7_remove_1 ?_
  have za1 : r_1 = ar := Option.some.inj (er_1.symm.trans (hM.ea ea))
  refine lv_iload_n hx hb dX7_remove_4 rfl (lv_at hl 1 rfl) ?_
  obtain ⟨r_2, er_2, m_r_2, o_r_2⟩ := hg.2.2.1 _ m_r_1 x1 o_r_1 (by omega) (by omega)
  refine q_aald hx hb hK hw m_r_1 3 o_r_1 rfl ⟨lx1, ux1⟩ (by omega) (by omega) er_2 dX7_remove_5 ?_
  show W _ _ _ _ _ _ _ _ _ _ _ _ _ _ _ (F0 m 6 ls (.ref r_2 :: []))
  have g5 := rr.get za1 er_2 (by omega) (by omega)
  refine lv_astore_n (lv' := [(2, .ref r_2), (0, .ref a0), (1, .int (iI x1))]) hx hb dX7_remove_6 rfl hl (by decide) rfl (fun ls hl => ?_)
  refine lv_aload_n hx hb dX7_remove_7 rfl (lv_at hl 1 rfl) ?_
  refine lv_dup hx hb dX7_remove_8 rfl ?_
  refine q_geti (ci := 5) (C := RX7) (T := TX7) (N := 2) hx hb hts (fun w h => List.mem_cons_of_mem _ (mfX70 w h)) hown hK hw m_a0 o_a0 rfl 1 (by decide) (hts _ (List.mem_cons_of_mem _ (mr2 _ (List.mem_of_getElem? (i := 4) rfl)))) (fun _ h => h) rfl dX7_remove_9 (fun x_3 lx_3 ux_3 ex_3 => ?_)
  have bx_3 : 0 ≤ x_3 ∧ x_3 ≤ 12 := by rw [ex_3]; exact hg.1 _ m_a0 5 1 o_a0
  refine q_iconst hx hb dX7_remove_12 ?_
  first | refine q_isub hx hb dX7_remove_13 ⟨by omega, by omega⟩ (fun x_4 lx_4 ux_4 ex_4 => ?_) | refine q_isubw hx hb dX7_remove_13 (fun x_4 lx_4 ux_4 _ => ?_)
  refine q_puti (ci := 5) (C := RX7) (T := TX7) (N := 2) hx hb hts (fun w h => List.mem_cons_of_mem _ (mfX70 w h)) hown hK hw m_a0 o_a0 rfl 1 (by decide) (hts _ (List.mem_cons_of_mem _ (mr2 _ (List.mem_of_getElem? (i := 4) rfl)))) (fun _ h => h) tyX7 tyX7_ok nmX7 rfl (ty := .int) (by decide +kernel) rfl rfl dX7_remove_14 (fun H locs hw => ?_)
  have oo := o_a0
  obtain ⟨f_5, ef_5⟩ : ∃ g : Nat → va_E, g = pU f0 a0 1 (.int (iI x_4)) := ⟨_, rfl⟩
  have hX : Ex cy f0 f_5 := by rw [ef_5]; exact Ex_pU oo rfl rfl (by decide)
  have hg : GI cy L0 f_5 := by rw [ef_5]; exact hg.putI oo rfl ⟨lx_4, ux_4⟩ (by show 0 ≤ x_4 ∧ x_4 ≤ 12; omega)
  rw [← ef_5] at hw
  have hE := hE.trans hX
  have o_r_2 := hX.1.1 _ _ o_r_2
  have o_a0 := hX.1.1 _ _ o_a0
  have vf_5 : fI f_5 a0 1 = x_4 := by rw [ef_5]; exact fI_pU_self oo rfl ⟨lx_4, ux_4⟩
  have hM := hM.put1 oo ef_5
  have rr := rr.pU oo ef_5
  refine lv_iload_n hx hb dX7_remove_17 rfl (lv_at hl 2 rfl) ?_
  refine lv_istore_n (lv' := [(3, .int (iI x1)), (2, .ref r_2), (0, .ref a0), (1, .int (iI x1))]) hx hb dX7_remove_18 rfl hl (by decide) rfl (fun ls hl => ?_)
  have J19 : ∀ (n19 : Nat) (y3_19 : Int) (ly3_19 : -2147483648 ≤ y3_19) (uy3_19 : y3_19 ≤ 2147483647) (L : List Nat) (fw19 : Nat → va_E) (hg : GI cy L0 fw19) (hE : Ex cy f0 fw19) (o_a0 : Ob fw19 a0 5) (o_r_2 : Ob fw19 r_2 0) (i1 : x1 ≤ y3_19) (i2 : fI fw19 a0 1 = fI f0 a0 1 - 1) (i3 : y3_19 ≤ fI fw19 a0 1) (hM : RM f0 fw19 a0 ar) (rr : RR fw19 ar (rmF rq x1 y3_19)) (hn19 : ((2147483647 : Int) - y3_19).toNat < n19) (H : Heap) (locs : List Loc) (ls : Array Slot) (hw : Wd D A s.heap L0 fw19 H locs) (hl : lv_has ls 4 [(0, .ref a0), (2, .ref r_2), (3, .int (iI y3_19))]), W p l e ({ frames := 0, cells := 0, slots := 0, locals := 0 } : Room) s m ([.ref a0, .int (iI x1)] : List Value).toArray below meth c H locs (0) (0) (MQ below (Qv D (tq cy) L0 f0 s.heap.size (fun (L1 : List Nat) (f1 : Nat → va_E) => L0 = L1 ∧ GI cy L0 f1 ∧ Ex cy f0 f1 ∧ (fI f1 a0 1 = fI f0 a0 1 - 1 ∧ RM f0 f1 a0 ar ∧ RR f1 ar (rmv rq x1 (fI f0 a0 1 - 1))))) ([.ref a0, .int (iI x1)] : List Value).toArray s 0 0 A) (F0 m 19 ls []) := by
    intro n19
    induction n19 with
    | zero => intro y3_19 ly3_19 uy3_19 L fw19 hg hE o_a0 o_r_2 i1 i2 i3 hM rr hn19; exact absurd hn19 (Nat.not_lt_zero _)
    | succ n19 ih19 =>
      intro y3_19 ly3_19 uy3_19 L fw19 hg hE o_a0 o_r_2 i1 i2 i3 hM rr hn19 H locs ls hw hl
      refine lv_iload_n hx hb dX7_remove_19 rfl (lv_at hl 2 rfl) ?_
      refine lv_aload_n hx hb dX7_remove_20 rfl (lv_at hl 0 rfl) ?_
      refine q_geti (ci := 5) (C := RX7) (T := TX7) (N := 2) hx hb hts (fun w h => List.mem_cons_of_mem _ (mfX70 w h)) hown hK hw m_a0 o_a0 rfl 1 (by decide) (hts _ (List.mem_cons_of_mem _ (mr2 _ (List.mem_of_getElem? (i := 4) rfl)))) (fun _ h => h) rfl dX7_remove_21 (fun x_6 lx_6 ux_6 ex_6 => ?_)
      have bx_6 : 0 ≤ x_6 ∧ x_6 ≤ 12 := by rw [ex_6]; exact hg.1 _ m_a0 5 1 o_a0
      refine q_icmp_ge (tgt := 47) hx hb dX7_remove_24 (by decide) ⟨ly3_19, uy3_19⟩ ⟨lx_6, ux_6⟩ (fun c24 => ?_) (fun c24 => ?_)
      · refine lv_aload_n hx hb dX7_remove_47 rfl (lv_at hl 0 rfl) ?_
        obtain ⟨r_7, er_7, m_r_7, o_r_7⟩ := (show ∃ r, fR fw19 a0 0 = some r ∧ r ∈ L0 ∧ ArR fw19 r cy.2.2.2.1 12 from hg.2.1 _ m_a0 5 0 o_a0)
        refine q_getr (ci := 5) (C := RX7) (T := TX7) (N := 2) hx hb hts (fun w h => List.mem_cons_of_mem _ (mfX70 w h)) hown hK hw m_a0 o_a0 rfl 0 (by decide) (hts _ (List.mem_cons_of_mem _ (mr2 _ (List.mem_of_getElem? (i := 3) rfl)))) (fun _ h => h) rfl er_7 dX7_remove_48 ?_
        have za48 : r_7 = ar := Option.some.inj (er_7.symm.trans (hM.ea ea))
        refine lv_aload_n hx hb dX7_remove_51 rfl (lv_at hl 0 rfl) ?_
        refine q_geti (ci := 5) (C := RX7) (T := TX7) (N := 2) hx hb hts (fun w h => List.mem_cons_of_mem _ (mfX70 w h)) hown hK hw m_a0 o_a0 rfl 1 (by decide) (hts _ (List.mem_cons_of_mem _ (mr2 _ (List.mem_of_getElem? (i := 4) rfl)))) (fun _ h => h) rfl dX7_remove_52 (fun x_8 lx_8 ux_8 ex_8 => ?_)
        have bx_8 : 0 ≤ x_8 ∧ x_8 ≤ 12 := by rw [ex_8]; exact hg.1 _ m_a0 5 1 o_a0
        refine lv_aload_n hx hb dX7_remove_55 rfl (lv_at hl 1 rfl) ?_
        refine q_aast hx hb hK hw m_r_7 3 o_r_7 rfl m_r_2 o_r_2 rfl ⟨lx_8, ux_8⟩ (by omega) (by omega) dX7_remove_56 (fun H locs hw => ?_)
        have oo := o_r_7
        have ov := o_r_2
        obtain ⟨f_9, ef_9⟩ : ∃ g : Nat → va_E, g = rU fw19 r_7 x_8 (some r_2) := ⟨_, rfl⟩
        have hX : Ex cy fw19 f_9 := by rw [ef_9]; exact Ex_rU oo
        have hg : GI cy L0 f_9 := by rw [ef_9]; exact hg.putB oo (by omega) m_r_2 ov
        rw [← ef_9] at hw
        have hE := hE.trans hX
        have o_a0 := hX.1.1 _ _ o_a0
        have o_r_2 := hX.1.1 _ _ o_r_2
        have t_a0_1_f_9 : fI f_9 a0 1 = fI fw19 a0 1 := by rw [ef_9]; exact fI_rU oo
        have rr' := rm_fin rr oo za48 ef_9 g5 (by omega) (by omega) (by omega)
        have hM := hM.set oo za48 ef_9
        exact q_ret_v hx hb hr hlocks hK hAe hw (Nat.le_of_ble_eq_true rfl) (Nat.le_of_ble_eq_true rfl) dX7_remove_57 (by exact ⟨rfl, hg, hE, by omega, hM, rr_n rr' (by omega)⟩)
      · refine lv_aload_n hx hb dX7_remove_27 rfl (lv_at hl 0 rfl) ?_
        obtain ⟨r_10, er_10, m_r_10, o_r_10⟩ := (show ∃ r, fR fw19 a0 0 = some r ∧ r ∈ L0 ∧ ArR fw19 r cy.2.2.2.1 12 from hg.2.1 _ m_a0 5 0 o_a0)
        refine q_getr (ci := 5) (C := RX7) (T := TX7) (N := 2) hx hb hts (fun w h => List.mem_cons_of_mem _ (mfX70 w h)) hown hK hw m_a0 o_a0 rfl 0 (by decide) (hts _ (List.mem_cons_of_mem _ (mr2 _ (List.mem_of_getElem? (i := 3) rfl)))) (fun _ h => h) rfl er_10 dX7_remove_28 ?_
        have za28 : r_10 = ar := Option.some.inj (er_10.symm.trans (hM.ea ea))
        refine lv_iload_n hx hb dX7_remove_31 rfl (lv_at hl 2 rfl) ?_
        refine lv_aload_n hx hb dX7_remove_32 rfl (lv_at hl 0 rfl) ?_
        refine q_getr (ci := 5) (C := RX7) (T := TX7) (N := 2) hx hb hts (fun w h => List.mem_cons_of_mem _ (mfX70 w h)) hown hK hw m_a0 o_a0 rfl 0 (by decide) (hts _ (List.mem_cons_of_mem _ (mr2 _ (List.mem_of_getElem? (i := 3) rfl)))) (fun _ h => h) rfl er_10 dX7_remove_33 ?_
        have za33 : r_10 = ar := Option.some.inj (er_10.symm.trans (hM.ea ea))
        refine lv_iload_n hx hb dX7_remove_36 rfl (lv_at hl 2 rfl) ?_
        refine q_iconst hx hb dX7_remove_37 ?_
        first | refine q_iadd hx hb dX7_remove_38 ⟨by omega, by omega⟩ (fun x_11 lx_11 ux_11 ex_11 => ?_) | refine q_iaddw hx hb dX7_remove_38 (fun x_11 lx_11 ux_11 _ => ?_)
        obtain ⟨r_12, er_12, m_r_12, o_r_12⟩ := hg.2.2.1 _ m_r_10 x_11 o_r_10 (by omega) (by omega)
        refine q_aald hx hb hK hw m_r_10 3 o_r_10 rfl ⟨lx_11, ux_11⟩ (by omega) (by omega) er_12 dX7_remove_39 ?_
        show W _ _ _ _ _ _ _ _ _ _ _ _ _ _ _ (F0 m 40 ls (.ref r_12 :: [.int (iI y3_19), .ref r_10]))
        have g39 := rm_get rr za33 er_12 (by omega) (by omega) (by omega)
        refine q_aast hx hb hK hw m_r_10 3 o_r_10 rfl m_r_12 o_r_12 rfl ⟨ly3_19, uy3_19⟩ (by omega) (by omega) dX7_remove_40 (fun H locs hw => ?_)
        have oo := o_r_10
        have ov := o_r_12
        obtain ⟨f_13, ef_13⟩ : ∃ g : Nat → va_E, g = rU fw19 r_10 y3_19 (some r_12) := ⟨_, rfl⟩
        have hX : Ex cy fw19 f_13 := by rw [ef_13]; exact Ex_rU oo
        have hg : GI cy L0 f_13 := by rw [ef_13]; exact hg.putB oo (by omega) m_r_12 ov
        rw [← ef_13] at hw
        have hE := hE.trans hX
        have o_a0 := hX.1.1 _ _ o_a0
        have o_r_2 := hX.1.1 _ _ o_r_2
        have t_a0_1_f_13 : fI f_13 a0 1 = fI fw19 a0 1 := by rw [ef_13]; exact fI_rU oo
        have rr' := rm_step (k' := y3_19 + 1) rr oo za28 ef_13 (g39.trans (by congr 1 <;> omega)) (by omega) (by omega) rfl
        have hM := hM.set oo za28 ef_13
        obtain ⟨x_14, lx_14, ux_14, hx_14, ex_14⟩ := q_inc y3_19 (1)
        try (replace ex_14 : x_14 = y3_19 + (1) := by omega)
        refine lv_iinc (v := iI x_14) (lv' := [(3, .int (iI x_14)), (0, .ref a0), (2, .ref r_2)]) hx hb dX7_remove_41 hl (k := 2) rfl hx_14 (by decide) rfl (fun ls hl => ?_)
        refine lv_goto (tgt := 19) hx hb dX7_remove_44 (by decide) ?_
        exact ih19 x_14 lx_14 ux_14 L0 f_13 hg hE o_a0 o_r_2 (by omega) (by omega) (by omega) (by exact hM) (by first | exact rm_start rr (Int.le_refl _) | exact rm_arg rr' (by omega) | fail "none") (by omega) _ _ _ hw (lv_sub hl [1, 2, 0] rfl)
  exact J19 ((((2147483647 : Int) - x1).toNat) + 1) x1 lx1 ux1 L0 f_5 hg hE o_a0 o_r_2 (by omega) (by omega) (by omega) (by exact hM) (by first | exact rm_start rr (Int.le_refl _) | exact rm_arg rr' (by omega) | fail "none") (by omega) _ _ _ hw (lv_sub hl [2, 1, 0] rfl)
set_option maxHeartbeats 4000000 in
set_option maxRecDepth 100000 in
theorem c_X7_keepSpare_f {Z : Zt} (zo : Zok Z) (l : Launch) (D : va_G) (cy : Cy) (L0 : List Nat) (f0 : Nat → va_E) (a0 : Nat) (m_a0 : a0 ∈ L0) (o_a0 : Ob f0 a0 5) (hg : GI cy L0 f0) (h2 : fI f0 a0 1 < 12) : Ci Z l yX7_keepSpare (Cond.code yX7_keepSpare cX7_keepSpare 1 (some .int) :: TB) ({ frames := 1, cells := 0, slots := 0, locals := 21 } : Room) 0 0 D (tq cy) [.ref a0] L0 f0 (fun (r : Int) (L1 : List Nat) (f1 : Nat → va_E) => L0 = L1 ∧ GI cy L0 f1 ∧ Ex cy f0 f1 ∧ (fI f1 a0 1 = fI f0 a0 1 + 1 ∧ r = fI f0 a0 1 ∧ RK f0 f1 a0)) := by
  refine Ci.enter (cc := cX7_keepSpare) (n := 1) rfl (plainFor_of_name (by decide)) (Nat.le_of_ble_eq_true rfl) ?_
  intro p e s m below meth c ls A hx hb hr hts hown hlocks hnm hml hK hA hAe hw hZ hl
  have hown : s.vm.findClass RX7 = some m.cls := hown
  have hl : lv_has ls 1 [(0, .ref a0)] := hl
  have hN : ZN s := (zo.2.2.2.2 _ _ _ hZ).2
  have hE : Ex cy f0 f0 := Ex.refl cy f0
  have bs : 0 ≤ fI f0 a0 1 ∧ fI f0 a0 1 ≤ 12 := hg.1 _ m_a0 5 1 o_a0
  refine lv_aload_n hx hb dX7_keepSpare_0 rfl (lv_at hl 0 rfl) ?_
  refine lv_aload_n hx hb dX7_keepSpare_1 rfl (lv_at hl 0 rfl) ?_
  refine q_geti (ci := 5) (C := RX7) (T := TX7) (N := 2) hx hb hts (fun w h => List.mem_cons_of_mem _ (mfX70 w h)) hown hK hw m_a0 o_a0 rfl 1 (by decide) (hts _ (List.mem_cons_of_mem _ (mr2 _ (List.mem_of_getElem? (i := 4) rfl)))) (fun _ h => h) rfl dX7_keepSpare_2 (fun x_1 lx_1 ux_1 ex_1 => ?_)
  have bx_1 : 0 ≤ x_1 ∧ x_1 ≤ 12 := by rw [ex_1]; exact hg.1 _ m_a0 5 1 o_a0
  refine q_iconst hx hb dX7_keepSpare_5 ?_
  first | refine q_iadd hx hb dX7_keepSpare_6 ⟨by omega, by omega⟩ (fun x_2 lx_2 ux_2 ex_2 => ?_) | refine q_iaddw hx hb dX7_keepSpare_6 (fun x_2 lx_2 ux_2 _ => ?_)
  refine lv_aload_n hx hb dX7_keepSpare_7 rfl (lv_at hl 0 rfl) ?_
  obtain ⟨r_3, er_3, m_r_3, o_r_3⟩ := (show ∃ r, fR f0 a0 0 = some r ∧ r ∈ L0 ∧ ArR f0 r cy.2.2.2.1 12 from hg.2.1 _ m_a0 5 0 o_a0)
  refine q_getr (ci := 5) (C := RX7) (T := TX7) (N := 2) hx hb hts (fun w h => List.mem_cons_of_mem _ (mfX70 w h)) hown hK hw m_a0 o_a0 rfl 0 (by decide) (hts _ (List.mem_cons_of_mem _ (mr2 _ (List.mem_of_getElem? (i := 3) rfl)))) (fun _ h => h) rfl er_3 dX7_keepSpare_8 ?_
  refine q_alenR hx hb hK hw m_r_3 3 o_r_3 rfl dX7_keepSpare_11 ?_
  refine q_min hx hb (hml.trans hl.1.symm) hown (hts _ (List.mem_cons_of_mem _ (mr6 _ (List.mem_of_getElem? (i := 21) rfl)))) (hts _ (List.mem_cons_of_mem _ (mr6 _ (List.mem_of_getElem? (i := 13) rfl)))) (hts _ (List.mem_cons_of_mem _ (mr6 _ (List.mem_of_getElem? (i := 14) rfl)))) (hts _ (List.mem_cons_of_mem _ (mr6 _ (List.mem_of_getElem? (i := 15) rfl)))) (Nat.le_of_ble_eq_true rfl) (Nat.le_of_ble_eq_true rfl) (Nat.le_of_ble_eq_true rfl) (Nat.le_of_ble_eq_true rfl) ⟨lx_2, ux_2⟩ ⟨by decide, by decide⟩ dX7_keepSpare_12 (fun x_4 lx_4 ux_4 ex_4 => ?_)
  refine q_puti (ci := 5) (C := RX7) (T := TX7) (N := 2) hx hb hts (fun w h => List.mem_cons_of_mem _ (mfX70 w h)) hown hK hw m_a0 o_a0 rfl 1 (by decide) (hts _ (List.mem_cons_of_mem _ (mr2 _ (List.mem_of_getElem? (i := 4) rfl)))) (fun _ h => h) tyX7 tyX7_ok nmX7 rfl (ty := .int) (by decide +kernel) rfl rfl dX7_keepSpare_15 (fun H locs hw => ?_)
  have oo := o_a0
  obtain ⟨f_5, ef_5⟩ : ∃ g : Nat → va_E, g = pU f0 a0 1 (.int (iI x_4)) := ⟨_, rfl⟩
  have hX : Ex cy f0 f_5 := by rw [ef_5]; exact Ex_pU oo rfl rfl (by decide)
  have hg : GI cy L0 f_5 := by rw [ef_5]; exact hg.putI oo rfl ⟨lx_4, ux_4⟩ (by show 0 ≤ x_4 ∧ x_4 ≤ 12; omega)
  rw [← ef_5] at hw
  have hE := hE.trans hX
  have o_a0 := hX.1.1 _ _ o_a0
  have vf_5 : fI f_5 a0 1 = x_4 := by rw [ef_5]; exact fI_pU_self oo rfl ⟨lx_4, ux_4⟩
  have hk := RK.put oo ef_5
  refine lv_aload_n hx hb dX7_keepSpare_18 rfl (lv_at hl 0 rfl) ?_
  refine q_geti (ci := 5) (C := RX7) (T := TX7) (N := 2) hx hb hts (fun w h => List.mem_cons_of_mem _ (mfX70 w h)) hown hK hw m_a0 o_a0 rfl 1 (by decide) (hts _ (List.mem_cons_of_mem _ (mr2 _ (List.mem_of_getElem? (i := 4) rfl)))) (fun _ h => h) rfl dX7_keepSpare_19 (fun x_6 lx_6 ux_6 ex_6 => ?_)
  have bx_6 : 0 ≤ x_6 ∧ x_6 ≤ 12 := by rw [ex_6]; exact hg.1 _ m_a0 5 1 o_a0
  refine q_iconst hx hb dX7_keepSpare_22 ?_
  first | refine q_isub hx hb dX7_keepSpare_23 ⟨by omega, by omega⟩ (fun x_7 lx_7 ux_7 ex_7 => ?_) | refine q_isubw hx hb dX7_keepSpare_23 (fun x_7 lx_7 ux_7 _ => ?_)
  exact q_ret_i hx hb hr hlocks hK hAe hw ⟨lx_7, ux_7⟩ (Nat.le_of_ble_eq_true rfl) (Nat.le_of_ble_eq_true rfl) dX7_keepSpare_24 (by exact ⟨rfl, hg, hE, by omega, by omega, hk⟩)