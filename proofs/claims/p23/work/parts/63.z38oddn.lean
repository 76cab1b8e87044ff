/-! ===== the law's onAt: with the odds ===== -/
set_option maxHeartbeats 4000000 in
set_option maxRecDepth 100000 in
theorem c_L_onAt_h {Z : Zt} (zo : Zok Z) (zc : ∀ (A : Nat → Prop) (U : State) (H : Heap), Z A U H → ZE U) (l : Launch) (hlt : l.stackTraces = false) (D : va_G) (cy : Cy) (cL : ClassId) (X : List Nat) (o : Nat) (f0 : Nat → va_E) (a0 : Nat) (x1 : Int) (lx1 : -2147483648 ≤ x1) (ux1 : x1 ≤ 2147483647) (x2 : Int) (lx2 : -2147483648 ≤ x2) (ux2 : x2 ≤ 2147483647) (x3 : Int) (lx3 : -2147483648 ≤ x3) (ux3 : x3 ≤ 2147483647) (x4 : Int) (lx4 : -2147483648 ≤ x4) (ux4 : x4 ≤ 2147483647) (x5 : Int) (lx5 : -2147483648 ≤ x5) (ux5 : x5 ≤ 2147483647) (m_a0 : a0 ∈ X) (o_a0 : Ob f0 a0 7) (hg : GI cy X f0) (ho : ArL f0 o cL) :
    Ci Z l yL_onAt (Cond.codeWith yL_onAt cL_onAt 8 (some .int) [(0, 16, 19, 13)] :: TB) ({ frames := 7, cells := 1, slots := 6, locals := 175 } : Room) 1 6 D (tl cy cL) [.ref a0, .int (iI x1), .int (iI x2), .int (iI x3), .int (iI x4), .int (iI x5), .ref o] (X ++ [o]) f0 (fun (_ : Int) (L1 : List Nat) (f1 : Nat → va_E) => L1 = X ++ [o] ∧ GI cy X f1 ∧ Ob f1 a0 7 ∧ ArL f1 o cL ∧ ∃ u : Nat → va_E, GI cy X u ∧ Eh cy f0 u ∧ ∀ y ∈ X, f1 y = u y) := by
  refine Ci.enterW (cc := cL_onAt) (n := 8) rfl (by decide) (Nat.le_of_ble_eq_true rfl) ?_
  intro p e s m below meth c ls A hx hb hr hts hown hlocks hnm hml htab hK hA hAe hw hZ hl
  have hown : s.vm.findClass RL = some m.cls := hown
  have hl : lv_has ls 8 [(0, .ref a0), (1, .int (iI x1)), (2, .int (iI x2)), (3, .int (iI x3)), (4, .int (iI x4)), (5, .int (iI x5)), (6, .ref o)] := hl
  have hKq : va_K D vwCl (tq cy) s := hK.sub [0, 1, 2, 3, 4] rfl
  have hwX := hw.left
  have hwO := hw.right
  have apO := hw.apart
  have hoX : ∀ x ∈ X, x ∉ [o] := fun x hx ho => apO x ho hx
  have hmo : o ∈ [o] := List.mem_singleton.mpr rfl
  -- the end, over a world of both
  have hend : ∀ (u : Nat → va_E) (H1 : Heap) (locs1 : List Loc), GI cy X u → Eh cy f0 u → Wd D A s.heap X u H1 locs1 → Wd D A s.heap [o] f0 H1 locs1 → Wd D A s.heap (X ++ [o]) (gl [o] f0 u) H1 locs1 ∧ GI cy X (gl [o] f0 u) ∧ Ob (gl [o] f0 u) a0 7 ∧ ArL (gl [o] f0 u) o cL ∧ ∃ u1 : Nat → va_E, GI cy X u1 ∧ Eh cy f0 u1 ∧ ∀ y ∈ X, gl [o] f0 u y = u1 y := by
    intro u H1 locs1 g1 g2 w1 w2
    have e1 : ∀ x ∈ X, gl [o] f0 u x = u x := fun x hx => gl_out (hoX x hx)
    refine ⟨w1.glue w2 apO, g1.off e1, Ob_of (e1 a0 m_a0) (g2.1.1.1 _ _ o_a0), ?_, u, g1, g2, e1⟩
    obtain ⟨g, hg⟩ := ho
    exact ⟨g, (gl_in hmo).trans hg⟩
  refine lv_aload hx hb dL_onAt_0 (lv_at hl 6 rfl) ?_
  refine q_iconst hx hb dL_onAt_2 ?_
  refine lv_aload_n hx hb dL_onAt_3 rfl (lv_at hl 0 rfl) ?_
  refine lv_iload_n hx hb dL_onAt_4 rfl (lv_at hl 1 rfl) ?_
  refine lv_iload_n hx hb dL_onAt_5 rfl (lv_at hl 2 rfl) ?_
  refine lv_iload_n hx hb dL_onAt_6 rfl (lv_at hl 3 rfl) ?_
  refine lv_iload hx hb dL_onAt_7 (lv_at hl 4 rfl) ?_
  refine lv_iload hx hb dL_onAt_9 (lv_at hl 5 rfl) ?_
  have hF := hwX.free hA
  have hr1 := vx_runV (l := l) (e := e) (R := ({ frames := 7, cells := 1, slots := 6, locals := 175 } : Room)) (below := below) (meth := meth) (cells := 0) (slots := 0) (locs := []) (As := [.int (iI x1), .int (iI x2), .int (iI x3), .int (iI x4), .int (iI x5)]) (rest := [.int (iI 0), .ref o]) (g := F0 m 11 ls [.int (iI x5), .int (iI x4), .int (iI x3), .int (iI x2), .int (iI x1), .ref a0, .int (iI 0), .ref o]) ⟨hx, hb, hml, hown, hts⟩ (c_X9_onAt_h zo l D cy X f0 a0 x1 lx1 ux1 x2 lx2 ux2 x3 lx3 ux3 x4 lx4 ux4 x5 lx5 ux5 m_a0 o_a0 hg hlt zc _) (cwV 5 hts (gT (inV (mr33 _ (List.mem_of_getElem? (i := 21) rfl)) (mr33 _ (List.mem_of_getElem? (i := 22) rfl)) (mr33 _ (List.mem_of_getElem? (i := 23) rfl)) (mr1 _ (List.mem_of_getElem? (i := 2) rfl)) (mr34 _ (List.mem_of_getElem? (i := 0) rfl)))) rfl rfl rfl (by decide +kernel) ⟨Nat.le_of_ble_eq_true rfl, Nat.le_of_ble_eq_true rfl⟩) (Wd.preV zo hA hZ hwX hKq m_a0 o_a0 rfl) rfl rfl hl.1 rfl (lv_room (Nat.le_of_ble_eq_true rfl)) dL_onAt_11 ⟨Nat.le_of_ble_eq_true rfl, Nat.le_of_ble_eq_true rfl⟩
  refine vx_calli (A0 := A) hr1 hwX.2.2 (fun q _ h => hF q h) hF (fun q _ h => hF q h) (fun E ce q9 u t H1 locs1 ht hvm hp hB hz hk hS hcell hv hcl => ?_) (fun r u t H1 locs1 ht hvm hp hB hz hk hS => ?_)
  · obtain ⟨hE, g1, g2, g3⟩ := hB
    obtain ⟨h1, h2, h3⟩ := hp
    rw [ht] at g1
    subst hE
    have w1 : Wd D A s.heap u.1 u.2 H1 locs1 := ⟨g1, g3.weaken (fun k q _ h => hF q.1 h), hS⟩
    obtain ⟨w2, -⟩ := hwO.keep (Fr.of hz hk g3) hS apO
    rw [← h1] at w1
    obtain ⟨e1, e2, e3, e4, e6⟩ := hend u.2 H1 locs1 h2 h3 w1 w2
    refine vx_catch (E := nse) (name := nse) hown [] { startPc := 0, endPc := 16, handlerPc := 19, catchType := 13 } [] htab (fun z h => absurd h List.not_mem_nil) rfl (by decide) (hts _ (List.mem_cons_of_mem _ (mr33 _ (List.mem_of_getElem? (i := 20) rfl)))) (va_Nw.use rfl (zc _ _ _ hZ _ vx9_cast)) hcell hv hcl ?_
    refine lv_astore (lv' := [(7, .ref q9), (0, .ref a0), (1, .int (iI x1)), (2, .int (iI x2)), (3, .int (iI x3)), (4, .int (iI x4)), (5, .int (iI x5)), (6, .ref o)]) hx hb dL_onAt_19 hl (by decide) rfl (fun ls hl => ?_)
    refine q_iconst hx hb dL_onAt_21 ?_
    exact q_ret_i hx hb hr hlocks hK hAe e1 ⟨by decide, by decide⟩ (Nat.le_of_ble_eq_true rfl) (Nat.le_of_ble_eq_true rfl) dL_onAt_22 ⟨rfl, e2, e3, e4, e6⟩
  · obtain ⟨x, rfl, rx, hp⟩ := hp
    obtain ⟨h1, h2, h3, -⟩ := hp
    obtain ⟨g1, g2, g3⟩ := hB
    rw [ht] at g1
    have w1 : Wd D A s.heap u.1 u.2 H1 locs1 := ⟨g1, g3.weaken (fun k q _ h => hF q.1 h), hS⟩
    obtain ⟨w2, -⟩ := hwO.keep (Fr.of hz hk g3) hS apO
    rw [← h1] at w1
    obtain ⟨e1, e2, e3, e4, e6⟩ := hend u.2 H1 locs1 h2 h3 w1 w2
    refine q_i2l hx hb dL_onAt_14 rx ?_
    obtain ⟨g, hgo⟩ := e4
    have hmo2 : o ∈ X ++ [o] := List.mem_append_right _ hmo
    obtain ⟨q0, hq⟩ := e1.at hmo2
    have hq' := hq
    rw [hgo] at hq
    refine va_last hx hb hK e1.1 e1.2.1 e1.2.2 q0 5 hq rfl (by exact iI_in (i := 0) (n := 1) ⟨by decide, by decide⟩ (by decide) (by decide)) dL_onAt_15 (fun H2 locs2 k1 k2 k3 => ?_)
    rw [e1.put hmo2 hq'] at k1 k2
    refine lv_goto (tgt := 23) hx hb dL_onAt_16 (by decide) ?_
    refine q_iconst hx hb dL_onAt_23 ?_
    have e5 : ∀ y ∈ X, va_up (gl [o] f0 u.2) o (.inl (cL, 1, .inr (.inl (vp_updL g (iI 0).toNatClampNeg (lJ x))))) y = gl [o] f0 u.2 y := fun y hy => va_up_ne _ _ (fun z => hoX y hy (by rw [z]; exact hmo))
    exact q_ret_i hx hb hr hlocks hK hAe ⟨k1, k2, k3⟩ ⟨by decide, by decide⟩ (Nat.le_of_ble_eq_true rfl) (Nat.le_of_ble_eq_true rfl) dL_onAt_24 ⟨rfl, e2.off e5, Ob_of (e5 a0 m_a0) e3, ⟨_, va_up_self _ _ _⟩, e6.elim (fun u1 z => ⟨u1, z.1, z.2.1, fun y hy => (e5 y hy).trans (z.2.2 y hy)⟩)⟩
