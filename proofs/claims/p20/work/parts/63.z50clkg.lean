set_option maxHeartbeats 4000000 in
set_option maxRecDepth 100000 in
theorem c_X9_roomClash_o {Z : Zt} (zo : Zok Z) (l : Launch) (D : va_G) (cy : Cy) (L0 : List Nat) (f0 : Nat → va_E) (a0 : Nat) (x1 : Int) (lx1 : -2147483648 ≤ x1) (ux1 : x1 ≤ 2147483647) (x2 : Int) (lx2 : -2147483648 ≤ x2) (ux2 : x2 ≤ 2147483647) (x3 : Int) (lx3 : -2147483648 ≤ x3) (ux3 : x3 ≤ 2147483647) (m_a0 : a0 ∈ L0) (o_a0 : Ob f0 a0 7) (hg : GI cy L0 f0) (rq : Int → Nat) (g : Int → Int) (mm : Int) (sx : SX f0 a0 rq g mm) (Os : Int → Int → Int) (ocs : OCs f0 rq g mm Os) (mb : ∀ i : Int, 0 ≤ i → i < mm → 0 ≤ g (44 * i + 1) ∧ g (44 * i + 1) ≤ 1439) (ml : ∀ i : Int, 0 ≤ i → i < mm → 1 ≤ g (44 * i + 2) ∧ g (44 * i + 2) ≤ 4320) : Ci Z l yX9_roomClash (Cond.code yX9_roomClash cX9_roomClash 10 (some .int) :: TB) ({ frames := 7, cells := 0, slots := 0, locals := 172 } : Room) 0 0 D (tq cy) [.ref a0, .int (iI x1), .int (iI x2), .int (iI x3)] L0 f0 (fun (r : Int) (L1 : List Nat) (f1 : Nat → va_E) => L0 = L1 ∧ GI cy L0 f1 ∧ Eh cy f0 f1 ∧ ((r = -1 ∧ ¬ ((0 ≤ x1 ∧ x1 ≤ 7) ∧ (0 ≤ x2 ∧ x2 ≤ 52595999) ∧ (0 ≤ x3 ∧ x3 ≤ 2))) ∨ (((0 ≤ x1 ∧ x1 ≤ 7) ∧ (0 ≤ x2 ∧ x2 ≤ 52595999) ∧ (0 ≤ x3 ∧ x3 ≤ 2)) ∧ ∃ a b c : Int, RCI (RD g Os x1 x2) (PSx mm mm 0) 2147483647 a b c ∧ ((a = 2147483647 ∧ r = b) ∨ (x3 = 1 ∧ r = b) ∨ (a ≠ 2147483647 ∧ x3 = 0 ∧ r = a) ∨ (a ≠ 2147483647 ∧ x3 ≠ 0 ∧ x3 ≠ 1 ∧ r = c))))) := by
  refine Ci.enter (cc := cX9_roomClash) (n := 10) rfl (plainFor_of_name (by decide)) (Nat.le_of_ble_eq_true rfl) ?_
  intro p e s m below meth c ls A hx hb hr hts hown hlocks hnm hml hK hA hAe hw hZ hl
  have hown : s.vm.findClass RX9 = some m.cls := hown
  have hl : lv_has ls 10 [(0, .ref a0), (1, .int (iI x1)), (2, .int (iI x2)), (3, .int (iI x3))] := hl
  have hN : ZN s := (zo.2.2.2.2 _ _ _ hZ).2
  have hE : Eh cy f0 f0 := Eh.refl cy f0
  have oa7 := o_a0
  have mm0 : 0 ≤ mm := by obtain ⟨_, _, _, h9, _⟩ := sx; exact h9
  have pos : ∀ t e : Int, OcR g Os x1 mm t e → t < e := OcR.lt ml
  refine lv_iload_n hx hb dX9_roomClash_0 rfl (lv_at hl 1 rfl) ?_
  refine q_call_i hA hK hw (va_runS (As := [.int (iI x1)]) (rest := []) ⟨hx, hb, hml, hown, hts⟩ (c_X9_isRoom zo l D cy L0 f0 x1 lx1 ux1 _) (va_cwS 1 hts (gT (inS (mr32 _ (List.mem_of_getElem? (i := 10) rfl)) (mr32 _ (List.mem_of_getElem? (i := 11) rfl)) (mr1 _ (List.mem_of_getElem? (i := 2) rfl)) (mr32 _ (List.mem_of_getElem? (i := 12) rfl)))) rfl rfl rfl (by decide +kernel) ⟨Nat.le_of_ble_eq_true rfl, Nat.le_of_ble_eq_true rfl⟩) (Wd.preS zo hA hZ hw hK) rfl rfl hl.1 rfl (lv_room (Nat.le_of_ble_eq_true rfl)) dX9_roomClash_1 ⟨Nat.le_of_ble_eq_true rfl, Nat.le_of_ble_eq_true rfl⟩) (fun x_1 L1 f1 H locs lx_1 ux_1 ex_1 hw => ?_)
  obtain ⟨rfl, rfl, ex_1⟩ := ex_1
  refine q_if_eq (tgt := 23) hx hb dX9_roomClash_4 (by decide) ⟨lx_1, ux_1⟩ (fun c4 => ?_) (fun c4 => ?_)
  · refine q_iconst hx hb dX9_roomClash_23 ?_
    exact q_ret_i hx hb hr hlocks hK hAe hw ⟨by decide, by decide⟩ (Nat.le_of_ble_eq_true rfl) (Nat.le_of_ble_eq_true rfl) dX9_roomClash_24 (by exact ⟨rfl, hg, hE, Or.inl ⟨by omega, by omega⟩⟩)
  · refine lv_iload_n hx hb dX9_roomClash_7 rfl (lv_at hl 2 rfl) ?_
    refine q_call_i hA hK hw (va_runS (As := [.int (iI x2)]) (rest := []) ⟨hx, hb, hml, hown, hts⟩ (c_X9_isTime zo l D cy L0 f0 x2 lx2 ux2 _) (va_cwS 1 hts (gT (inS (mr27 _ (List.mem_of_getElem? (i := 19) rfl)) (mr27 _ (List.mem_of_getElem? (i := 20) rfl)) (mr1 _ (List.mem_of_getElem? (i := 2) rfl)) (mr27 _ (List.mem_of_getElem? (i := 21) rfl)))) rfl rfl rfl (by decide +kernel) ⟨Nat.le_of_ble_eq_true rfl, Nat.le_of_ble_eq_true rfl⟩) (Wd.preS zo hA hZ hw hK) rfl rfl hl.1 rfl (lv_room (Nat.le_of_ble_eq_true rfl)) dX9_roomClash_8 ⟨Nat.le_of_ble_eq_true rfl, Nat.le_of_ble_eq_true rfl⟩) (fun x_2 L1 f1 H locs lx_2 ux_2 ex_2 hw => ?_)
    obtain ⟨rfl, rfl, ex_2⟩ := ex_2
    refine q_if_eq (tgt := 23) hx hb dX9_roomClash_11 (by decide) ⟨lx_2, ux_2⟩ (fun c11 => ?_) (fun c11 => ?_)
    · refine q_iconst hx hb dX9_roomClash_23 ?_
      exact q_ret_i hx hb hr hlocks hK hAe hw ⟨by decide, by decide⟩ (Nat.le_of_ble_eq_true rfl) (Nat.le_of_ble_eq_true rfl) dX9_roomClash_24 (by exact ⟨rfl, hg, hE, Or.inl ⟨by omega, by omega⟩⟩)
    · refine lv_iload_n hx hb dX9_roomClash_14 rfl (lv_at hl 3 rfl) ?_
      refine q_if_lt (tgt := 23) hx hb dX9_roomClash_15 (by decide) ⟨lx3, ux3⟩ (fun c15 => ?_) (fun c15 => ?_)
      · refine q_iconst hx hb dX9_roomClash_23 ?_
        exact q_ret_i hx hb hr hlocks hK hAe hw ⟨by decide, by decide⟩ (Nat.le_of_ble_eq_true rfl) (Nat.le_of_ble_eq_true rfl) dX9_roomClash_24 (by exact ⟨rfl, hg, hE, Or.inl ⟨by omega, by omega⟩⟩)
      · refine lv_iload_n hx hb dX9_roomClash_18 rfl (lv_at hl 3 rfl) ?_
        refine q_iconst hx hb dX9_roomClash_19 ?_
        refine q_icmp_le (tgt := 25) hx hb dX9_roomClash_20 (by decide) ⟨lx3, ux3⟩ ⟨by decide, by decide⟩ (fun c20 => ?_) (fun c20 => ?_)
        · refine q_ldc (n := 2147483647) hx hb hown (hts _ (List.mem_cons_of_mem _ (mr34 _ (List.mem_of_getElem? (i := 13) rfl)))) rfl dX9_roomClash_25 ?_
          refine lv_istore (lv' := [(4, .int (iI 2147483647)), (0, .ref a0), (1, .int (iI x1)), (2, .int (iI x2)), (3, .int (iI x3))]) hx hb dX9_roomClash_27 hl (by decide) rfl (fun ls hl => ?_)
          refine q_iconst hx hb dX9_roomClash_29 ?_
          refine lv_istore (lv' := [(5, .int (iI ((-1)))), (4, .int (iI 2147483647)), (0, .ref a0), (1, .int (iI x1)), (2, .int (iI x2)), (3, .int (iI x3))]) hx hb dX9_roomClash_30 hl (by decide) rfl (fun ls hl => ?_)
          refine q_iconst hx hb dX9_roomClash_32 ?_
          refine lv_istore (lv' := [(6, .int (iI ((-1)))), (5, .int (iI ((-1)))), (4, .int (iI 2147483647)), (0, .ref a0), (1, .int (iI x1)), (2, .int (iI x2)), (3, .int (iI x3))]) hx hb dX9_roomClash_33 hl (by decide) rfl (fun ls hl => ?_)
          refine q_iconst hx hb dX9_roomClash_35 ?_
          refine lv_istore (lv' := [(7, .int (iI 0)), (6, .int (iI ((-1)))), (5, .int (iI ((-1)))), (4, .int (iI 2147483647)), (0, .ref a0), (1, .int (iI x1)), (2, .int (iI x2)), (3, .int (iI x3))]) hx hb dX9_roomClash_36 hl (by decide) rfl (fun ls hl => ?_)
          have J38 : ∀ (n38 : Nat) (y4_38 : Int) (ly4_38 : -2147483648 ≤ y4_38) (uy4_38 : y4_38 ≤ 2147483647) (y5_38 : Int) (ly5_38 : -2147483648 ≤ y5_38) (uy5_38 : y5_38 ≤ 2147483647) (y6_38 : Int) (ly6_38 : -2147483648 ≤ y6_38) (uy6_38 : y6_38 ≤ 2147483647) (y7_38 : Int) (ly7_38 : -2147483648 ≤ y7_38) (uy7_38 : y7_38 ≤ 2147483647) (L : List Nat) (fw38 : Nat → va_E) (hg : GI cy L0 fw38) (hE : Eh cy f0 fw38) (o_a0 : Ob fw38 a0 7) (i1 : 0 ≤ y7_38) (i2 : y7_38 ≤ mm) (rc : RCI (RD g Os x1 x2) (PSx mm y7_38 (y7_38 + 1)) 2147483647 y4_38 y5_38 y6_38) (hn38 : ((2147483647 : Int) - y7_38).toNat < n38) (H : Heap) (locs : List Loc) (ls : Array Slot) (hw : Wd D A s.heap L0 fw38 H locs) (hl : lv_has ls 10 [(0, .ref a0), (1, .int (iI x1)), (2, .int (iI x2)), (3, .int (iI x3)), (4, .int (iI y4_38)), (5, .int (iI y5_38)), (6, .int (iI y6_38)), (7, .int (iI y7_38))]), W p l e ({ frames := 7, cells := 0, slots := 0, locals := 172 } : Room) s m ([.ref a0, .int (iI x1), .int (iI x2), .int (iI x3)] : List Value).toArray below meth c H locs (0 + 0 + 0) (0 + 0 + 0) (MQ below (Qi D (tq cy) L0 f0 s.heap.size (fun (r : Int) (L1 : List Nat) (f1 : Nat → va_E) => L0 = L1 ∧ GI cy L0 f1 ∧ Eh cy f0 f1 ∧ ((r = -1 ∧ ¬ ((0 ≤ x1 ∧ x1 ≤ 7) ∧ (0 ≤ x2 ∧ x2 ≤ 52595999) ∧ (0 ≤ x3 ∧ x3 ≤ 2))) ∨ (((0 ≤ x1 ∧ x1 ≤ 7) ∧ (0 ≤ x2 ∧ x2 ≤ 52595999) ∧ (0 ≤ x3 ∧ x3 ≤ 2)) ∧ ∃ a b c : Int, RCI (RD g Os x1 x2) (PSx mm mm 0) 2147483647 a b c ∧ ((a = 2147483647 ∧ r = b) ∨ (x3 = 1 ∧ r = b) ∨ (a ≠ 2147483647 ∧ x3 = 0 ∧ r = a) ∨ (a ≠ 2147483647 ∧ x3 ≠ 0 ∧ x3 ≠ 1 ∧ r = c)))))) ([.ref a0, .int (iI x1), .int (iI x2), .int (iI x3)] : List Value).toArray s 0 0 A) (F0 m 38 ls []) := by
            intro n38
            induction n38 with
            | zero => intro y4_38 ly4_38 uy4_38 y5_38 ly5_38 uy5_38 y6_38 ly6_38 uy6_38 y7_38 ly7_38 uy7_38 L fw38 hg hE o_a0 i1 i2 rc hn38; exact absurd hn38 (Nat.not_lt_zero _)
            | succ n38 ih38 =>
              intro y4_38 ly4_38 uy4_38 y5_38 ly5_38 uy5_38 y6_38 ly6_38 uy6_38 y7_38 ly7_38 uy7_38 L fw38 hg hE o_a0 i1 i2 rc hn38 H locs ls hw hl
              have sxf := sx.eh hE oa7
              have ocf := ocs.eh hE
              refine lv_iload hx hb dX9_roomClash_38 (lv_at hl 7 rfl) ?_
              refine lv_aload_n hx hb dX9_roomClash_40 rfl (lv_at hl 0 rfl) ?_
              obtain ⟨r_3, er_3, m_r_3, o_r_3⟩ := (show ∃ r, fR fw38 a0 2 = some r ∧ r ∈ L0 ∧ Ob fw38 r 5 from hg.2.1 _ m_a0 7 2 o_a0)
              refine q_getr (ci := 7) (C := RX9) (T := TX9) (N := 4) hx hb hts (fun w h => List.mem_cons_of_mem _ (mfX90 w h)) hown hK hw m_a0 o_a0 rfl 2 (by decide) (hts _ (List.mem_cons_of_mem _ (mr1 _ (List.mem_of_getElem? (i := 20) rfl)))) (fun _ h => h) rfl er_3 dX9_roomClash_41 ?_
              have s1 := sxf.at er_3
              refine q_getiN (ci := 5) (C := RX7) (T := TX7) (N := 2) hx hb hts (fun w h => List.mem_cons_of_mem _ (mfX70 w h)) hown hK hw m_r_3 o_r_3 rfl 1 (by decide) (va_Nw.use rfl (hN _ (List.mem_of_getElem? (i := 0) rfl))) (fun _ h => h) rfl dX9_roomClash_44 (fun x_4 lx_4 ux_4 ex_4 => ?_)
              have bx_4 : 0 ≤ x_4 ∧ x_4 ≤ 12 := by rw [ex_4]; exact hg.1 _ m_r_3 5 1 o_r_3
              refine q_icmp_ge (tgt := 177) hx hb dX9_roomClash_47 (by decide) ⟨ly7_38, uy7_38⟩ ⟨lx_4, ux_4⟩ (fun c47 => ?_) (fun c47 => ?_)
              · refine lv_iload hx hb dX9_roomClash_177 (lv_at hl 4 rfl) ?_
                refine q_ldc (n := 2147483647) hx hb hown (hts _ (List.mem_cons_of_mem _ (mr34 _ (List.mem_of_getElem? (i := 13) rfl)))) rfl dX9_roomClash_179 ?_
                refine q_icmp_eq (tgt := 189) hx hb dX9_roomClash_181 (by decide) ⟨ly4_38, uy4_38⟩ ⟨by decide, by decide⟩ (fun c181 => ?_) (fun c181 => ?_)
                · refine lv_iload hx hb dX9_roomClash_189 (lv_at hl 5 rfl) ?_
                  exact q_ret_i hx hb hr hlocks hK hAe hw ⟨ly5_38, uy5_38⟩ (Nat.le_of_ble_eq_true rfl) (Nat.le_of_ble_eq_true rfl) dX9_roomClash_191 (by exact ⟨rfl, hg, hE, Or.inr ⟨⟨⟨by omega, by omega⟩, ⟨by omega, by omega⟩, ⟨by omega, by omega⟩⟩, _, _, _, rc.cg (fun a b ⟨a0, ab, bm, z⟩ => ⟨a0, ab, bm, by omega⟩) (fun a b x ⟨a0, ab, bm, z⟩ _ => ⟨a0, ab, bm, by omega⟩), by omega⟩⟩)
                · refine lv_iload_n hx hb dX9_roomClash_184 rfl (lv_at hl 3 rfl) ?_
                  refine q_iconst hx hb dX9_roomClash_185 ?_
                  refine q_icmp_ne (tgt := 192) hx hb dX9_roomClash_186 (by decide) ⟨lx3, ux3⟩ ⟨by decide, by decide⟩ (fun c186 => ?_) (fun c186 => ?_)
                  · refine lv_iload_n hx hb dX9_roomClash_192 rfl (lv_at hl 3 rfl) ?_
                    refine q_if_ne (tgt := 201) hx hb dX9_roomClash_193 (by decide) ⟨lx3, ux3⟩ (fun c193 => ?_) (fun c193 => ?_)
                    · refine lv_iload hx hb dX9_roomClash_201 (lv_at hl 6 rfl) ?_
                      exact q_ret_i hx hb hr hlocks hK hAe hw ⟨ly6_38, uy6_38⟩ (Nat.le_of_ble_eq_true rfl) (Nat.le_of_ble_eq_true rfl) dX9_roomClash_203 (by exact ⟨rfl, hg, hE, Or.inr ⟨⟨⟨by omega, by omega⟩, ⟨by omega, by omega⟩, ⟨by omega, by omega⟩⟩, _, _, _, rc.cg (fun a b ⟨a0, ab, bm, z⟩ => ⟨a0, ab, bm, by omega⟩) (fun a b x ⟨a0, ab, bm, z⟩ _ => ⟨a0, ab, bm, by omega⟩), by omega⟩⟩)
                    · refine lv_iload hx hb dX9_roomClash_196 (lv_at hl 4 rfl) ?_
                      refine lv_goto (tgt := 203) hx hb dX9_roomClash_198 (by decide) ?_
                      exact q_ret_i hx hb hr hlocks hK hAe hw ⟨ly4_38, uy4_38⟩ (Nat.le_of_ble_eq_true rfl) (Nat.le_of_ble_eq_true rfl) dX9_roomClash_203 (by exact ⟨rfl, hg, hE, Or.inr ⟨⟨⟨by omega, by omega⟩, ⟨by omega, by omega⟩, ⟨by omega, by omega⟩⟩, _, _, _, rc.cg (fun a b ⟨a0, ab, bm, z⟩ => ⟨a0, ab, bm, by omega⟩) (fun a b x ⟨a0, ab, bm, z⟩ _ => ⟨a0, ab, bm, by omega⟩), by omega⟩⟩)
                  · refine lv_iload hx hb dX9_roomClash_189 (lv_at hl 5 rfl) ?_
                    exact q_ret_i hx hb hr hlocks hK hAe hw ⟨ly5_38, uy5_38⟩ (Nat.le_of_ble_eq_true rfl) (Nat.le_of_ble_eq_true rfl) dX9_roomClash_191 (by exact ⟨rfl, hg, hE, Or.inr ⟨⟨⟨by omega, by omega⟩, ⟨by omega, by omega⟩, ⟨by omega, by omega⟩⟩, _, _, _, rc.cg (fun a b ⟨a0, ab, bm, z⟩ => ⟨a0, ab, bm, by omega⟩) (fun a b x ⟨a0, ab, bm, z⟩ _ => ⟨a0, ab, bm, by omega⟩), by omega⟩⟩)
              · refine lv_iload hx hb dX9_roomClash_50 (lv_at hl 7 rfl) ?_
                refine q_iconst hx hb dX9_roomClash_52 ?_
                first | refine q_iadd hx hb dX9_roomClash_53 ⟨by omega, by omega⟩ (fun x_5 lx_5 ux_5 ex_5 => ?_) | refine q_iaddw hx hb dX9_roomClash_53 (fun x_5 lx_5 ux_5 _ => ?_)
                refine lv_istore (lv' := [(8, .int (iI x_5)), (0, .ref a0), (1, .int (iI x1)), (2, .int (iI x2)), (3, .int (iI x3)), (4, .int (iI y4_38)), (5, .int (iI y5_38)), (6, .int (iI y6_38)), (7, .int (iI y7_38))]) hx hb dX9_roomClash_54 hl (by decide) rfl (fun ls hl => ?_)
                have J56 : ∀ (n56 : Nat) (y4_56 : Int) (ly4_56 : -2147483648 ≤ y4_56) (uy4_56 : y4_56 ≤ 2147483647) (y5_56 : Int) (ly5_56 : -2147483648 ≤ y5_56) (uy5_56 : y5_56 ≤ 2147483647) (y6_56 : Int) (ly6_56 : -2147483648 ≤ y6_56) (uy6_56 : y6_56 ≤ 2147483647) (y8_56 : Int) (ly8_56 : -2147483648 ≤ y8_56) (uy8_56 : y8_56 ≤ 2147483647) (L : List Nat) (fw56 : Nat → va_E) (hg : GI cy L0 fw56) (hE : Eh cy f0 fw56) (o_a0 : Ob fw56 a0 7) (j1 : y7_38 < y8_56) (j2 : y8_56 ≤ mm) (rd : RCI (RD g Os x1 x2) (PSx mm y7_38 y8_56) 2147483647 y4_56 y5_56 y6_56) (hn56 : ((2147483647 : Int) - y8_56).toNat < n56) (H : Heap) (locs : List Loc) (ls : Array Slot) (hw : Wd D A s.heap L0 fw56 H locs) (hl : lv_has ls 10 [(0, .ref a0), (1, .int (iI x1)), (2, .int (iI x2)), (3, .int (iI x3)), (4, .int (iI y4_56)), (5, .int (iI y5_56)), (6, .int (iI y6_56)), (7, .int (iI y7_38)), (8, .int (iI y8_56))]), W p l e ({ frames := 7, cells := 0, slots := 0, locals := 172 } : Room) s m ([.ref a0, .int (iI x1), .int (iI x2), .int (iI x3)] : List Value).toArray below meth c H locs (0 + 0 + 0) (0 + 0 + 0) (MQ below (Qi D (tq cy) L0 f0 s.heap.size (fun (r : Int) (L1 : List Nat) (f1 : Nat → va_E) => L0 = L1 ∧ GI cy L0 f1 ∧ Eh cy f0 f1 ∧ ((r = -1 ∧ ¬ ((0 ≤ x1 ∧ x1 ≤ 7) ∧ (0 ≤ x2 ∧ x2 ≤ 52595999) ∧ (0 ≤ x3 ∧ x3 ≤ 2))) ∨ (((0 ≤ x1 ∧ x1 ≤ 7) ∧ (0 ≤ x2 ∧ x2 ≤ 52595999) ∧ (0 ≤ x3 ∧ x3 ≤ 2)) ∧ ∃ a b c : Int, RCI (RD g Os x1 x2) (PSx mm mm 0) 2147483647 a b c ∧ ((a = 2147483647 ∧ r = b) ∨ (x3 = 1 ∧ r = b) ∨ (a ≠ 2147483647 ∧ x3 = 0 ∧ r = a) ∨ (a ≠ 2147483647 ∧ x3 ≠ 0 ∧ x3 ≠ 1 ∧ r = c)))))) ([.ref a0, .int (iI x1), .int (iI x2), .int (iI x3)] : List Value).toArray s 0 0 A) (F0 m 56 ls []) := by
                  intro n56
                  induction n56 with
                  | zero => intro y4_56 ly4_56 uy4_56 y5_56 ly5_56 uy5_56 y6_56 ly6_56 uy6_56 y8_56 ly8_56 uy8_56 L fw56 hg hE o_a0 j1 j2 rd hn56; exact absurd hn56 (Nat.not_lt_zero _)
                  | succ n56 ih56 =>
                    intro y4_56 ly4_56 uy4_56 y5_56 ly5_56 uy5_56 y6_56 ly6_56 uy6_56 y8_56 ly8_56 uy8_56 L fw56 hg hE o_a0 j1 j2 rd hn56 H locs ls hw hl
                    have sxf := sx.eh hE oa7
                    have ocf := ocs.eh hE
                    refine lv_iload hx hb dX9_roomClash_56 (lv_at hl 8 rfl) ?_
                    refine lv_aload_n hx hb dX9_roomClash_58 rfl (lv_at hl 0 rfl) ?_
                    obtain ⟨r_6, er_6, m_r_6, o_r_6⟩ := (show ∃ r, fR fw56 a0 2 = some r ∧ r ∈ L0 ∧ Ob fw56 r 5 from hg.2.1 _ m_a0 7 2 o_a0)
                    refine q_getr (ci := 7) (C := RX9) (T := TX9) (N := 4) hx hb hts (fun w h => List.mem_cons_of_mem _ (mfX90 w h)) hown hK hw m_a0 o_a0 rfl 2 (by decide) (hts _ (List.mem_cons_of_mem _ (mr1 _ (List.mem_of_getElem? (i := 20) rfl)))) (fun _ h => h) rfl er_6 dX9_roomClash_59 ?_
                    have s1 := sxf.at er_6
                    refine q_getiN (ci := 5) (C := RX7) (T := TX7) (N := 2) hx hb hts (fun w h => List.mem_cons_of_mem _ (mfX70 w h)) hown hK hw m_r_6 o_r_6 rfl 1 (by decide) (va_Nw.use rfl (hN _ (List.mem_of_getElem? (i := 0) rfl))) (fun _ h => h) rfl dX9_roomClash_62 (fun x_7 lx_7 ux_7 ex_7 => ?_)
                    have bx_7 : 0 ≤ x_7 ∧ x_7 ≤ 12 := by rw [ex_7]; exact hg.1 _ m_r_6 5 1 o_r_6
                    refine q_icmp_ge (tgt := 171) hx hb dX9_roomClash_65 (by decide) ⟨ly8_56, uy8_56⟩ ⟨lx_7, ux_7⟩ (fun c65 => ?_) (fun c65 => ?_)
                    · obtain ⟨x_8, lx_8, ux_8, hx_8, ex_8⟩ := q_inc y7_38 (1)
                      try (replace ex_8 : x_8 = y7_38 + (1) := by omega)
                      refine lv_iinc (v := iI x_8) (lv' := [(7, .int (iI x_8)), (0, .ref a0), (1, .int (iI x1)), (2, .int (iI x2)), (3, .int (iI x3)), (4, .int (iI y4_56)), (5, .int (iI y5_56)), (6, .int (iI y6_56)), (8, .int (iI y8_56))]) hx hb dX9_roomClash_171 hl (k := 7) rfl hx_8 (by decide) rfl (fun ls hl => ?_)
                      refine lv_goto (tgt := 38) hx hb dX9_roomClash_174 (by decide) ?_
                      exact ih38 y4_56 ly4_56 uy4_56 y5_56 ly5_56 uy5_56 y6_56 ly6_56 uy6_56 x_8 lx_8 ux_8 L0 fw56 hg hE o_a0 (by omega) (by omega) (by first | exact RCI.start (by omega) (by omega) rfl rfl rfl | exact rd.row (by omega) (by omega) (by omega) | fail "none") (by omega) _ _ _ hw (lv_sub hl [1, 2, 3, 4, 5, 6, 7, 0] rfl)
                    · refine lv_aload_n hx hb dX9_roomClash_68 rfl (lv_at hl 0 rfl) ?_
                      refine q_getr (ci := 7) (C := RX9) (T := TX9) (N := 4) hx hb hts (fun w h => List.mem_cons_of_mem _ (mfX90 w h)) hown hK hw m_a0 o_a0 rfl 2 (by decide) (hts _ (List.mem_cons_of_mem _ (mr1 _ (List.mem_of_getElem? (i := 20) rfl)))) (fun _ h => h) rfl er_6 dX9_roomClash_69 ?_
                      have s1 := sxf.at er_6
                      refine lv_iload hx hb dX9_roomClash_72 (lv_at hl 7 rfl) ?_
                      refine lv_iload_n hx hb dX9_roomClash_74 rfl (lv_at hl 1 rfl) ?_
                      refine q_call_i hA hK hw (va_runV (As := [.int (iI y7_38), .int (iI x1)]) (rest := []) ⟨hx, hb, hml, hown, hts⟩ (c_X7_isOf_q zo l D cy L0 fw56 r_6 y7_38 ly7_38 uy7_38 x1 lx1 ux1 m_r_6 o_r_6 hg rq g mm s1.1 (by omega) (by omega) (by omega) _) (cwV 2 hts (gT (inV (mr32 _ (List.mem_of_getElem? (i := 13) rfl)) (mr32 _ (List.mem_of_getElem? (i := 14) rfl)) (mr32 _ (List.mem_of_getElem? (i := 15) rfl)) (mr1 _ (List.mem_of_getElem? (i := 19) rfl)) (mr32 _ (List.mem_of_getElem? (i := 16) rfl)))) rfl rfl rfl (by decide +kernel) ⟨Nat.le_of_ble_eq_true rfl, Nat.le_of_ble_eq_true rfl⟩) (Wd.preV zo hA hZ hw hK m_r_6 o_r_6 rfl) rfl rfl hl.1 rfl (lv_room (Nat.le_of_ble_eq_true rfl)) dX9_roomClash_75 ⟨Nat.le_of_ble_eq_true rfl, Nat.le_of_ble_eq_true rfl⟩) (fun x_9 L1 f1 H locs lx_9 ux_9 ex_9 hw => ?_)
                      obtain ⟨rfl, rfl, ex_9⟩ := ex_9
                      have h75 := ex_9
                      have J165 : ∀ (z4_165 : Int) (lz4_165 : -2147483648 ≤ z4_165) (uz4_165 : z4_165 ≤ 2147483647) (z5_165 : Int) (lz5_165 : -2147483648 ≤ z5_165) (uz5_165 : z5_165 ≤ 2147483647) (z6_165 : Int) (lz6_165 : -2147483648 ≤ z6_165) (uz6_165 : z6_165 ≤ 2147483647) (L : List Nat) (fw165 : Nat → va_E) (hg : GI cy L0 fw165) (hE : Eh cy f0 fw165) (o_a0 : Ob fw165 a0 7) (j3 : y7_38 < y8_56) (j4 : y8_56 < mm) (re : RCI (RD g Os x1 x2) (PSx mm y7_38 (y8_56 + 1)) 2147483647 z4_165 z5_165 z6_165) (H : Heap) (locs : List Loc) (ls : Array Slot) (hw : Wd D A s.heap L0 fw165 H locs) (hl : lv_has ls 10 [(0, .ref a0), (1, .int (iI x1)), (2, .int (iI x2)), (3, .int (iI x3)), (4, .int (iI z4_165)), (5, .int (iI z5_165)), (6, .int (iI z6_165)), (7, .int (iI y7_38)), (8, .int (iI y8_56))]), W p l e ({ frames := 7, cells := 0, slots := 0, locals := 172 } : Room) s m ([.ref a0, .int (iI x1), .int (iI x2), .int (iI x3)] : List Value).toArray below meth c H locs (0 + 0 + 0 + 0) (0 + 0 + 0 + 0) (MQ below (Qi D (tq cy) L0 f0 s.heap.size (fun (r : Int) (L1 : List Nat) (f1 : Nat → va_E) => L0 = L1 ∧ GI cy L0 f1 ∧ Eh cy f0 f1 ∧ ((r = -1 ∧ ¬ ((0 ≤ x1 ∧ x1 ≤ 7) ∧ (0 ≤ x2 ∧ x2 ≤ 52595999) ∧ (0 ≤ x3 ∧ x3 ≤ 2))) ∨ (((0 ≤ x1 ∧ x1 ≤ 7) ∧ (0 ≤ x2 ∧ x2 ≤ 52595999) ∧ (0 ≤ x3 ∧ x3 ≤ 2)) ∧ ∃ a b c : Int, RCI (RD g Os x1 x2) (PSx mm mm 0) 2147483647 a b c ∧ ((a = 2147483647 ∧ r = b) ∨ (x3 = 1 ∧ r = b) ∨ (a ≠ 2147483647 ∧ x3 = 0 ∧ r = a) ∨ (a ≠ 2147483647 ∧ x3 ≠ 0 ∧ x3 ≠ 1 ∧ r = c)))))) ([.ref a0, .int (iI x1), .int (iI x2), .int (iI x3)] : List Value).toArray s 0 0 A) (F0 m 165 ls []) := by
                        intro z4_165 lz4_165 uz4_165 z5_165 lz5_165 uz5_165 z6_165 lz6_165 uz6_165 L fw165 hg hE o_a0 j3 j4 re H locs ls hw hl
                        obtain ⟨x_10, lx_10, ux_10, hx_10, ex_10⟩ := q_inc y8_56 (1)
                        try (replace ex_10 : x_10 = y8_56 + (1) := by omega)
                        refine lv_iinc (v := iI x_10) (lv' := [(8, .int (iI x_10)), (0, .ref a0), (1, .int (iI x1)), (2, .int (iI x2)), (3, .int (iI x3)), (4, .int (iI z4_165)), (5, .int (iI z5_165)), (6, .int (iI z6_165)), (7, .int (iI y7_38))]) hx hb dX9_roomClash_165 hl (k := 8) rfl hx_10 (by decide) rfl (fun ls hl => ?_)
                        refine lv_goto (tgt := 56) hx hb dX9_roomClash_168 (by decide) ?_
                        exact ih56 z4_165 lz4_165 uz4_165 z5_165 lz5_165 uz5_165 z6_165 lz6_165 uz6_165 x_10 lx_10 ux_10 L0 fw165 hg hE o_a0 (by omega) (by omega) (by first | exact rc.to rfl (by omega) | exact re.to rfl (by omega) | fail "none") (by omega) _ _ _ hw (lv_sub hl [1, 2, 3, 4, 5, 6, 7, 8, 0] rfl)
                      refine q_if_eq (tgt := 165) hx hb dX9_roomClash_78 (by decide) ⟨lx_9, ux_9⟩ (fun c78 => ?_) (fun c78 => ?_)
                      · exact J165 y4_56 ly4_56 uy4_56 y5_56 ly5_56 uy5_56 y6_56 ly6_56 uy6_56 L0 fw56 hg hE o_a0 (by omega) (by omega) (by first | exact rd.skip (by omega) rfl | exact rd.no (fun x z => by have := w3 x z.2.2; omega) rfl | exact rd.yes (by omega) (by omega) (by omega) ⟨by omega, by omega, w2.resolve_left (by omega)⟩ (w3 _ (w2.resolve_left (by omega))).2.1 (w3 _ (w2.resolve_left (by omega))).2.2 (fun x z => (w3 x z.2.2).1) (Or.inr (by omega)) (fun _ => by decide) rfl (by omega) (by omega) | fail "none") _ _ _ hw (lv_sub hl [0, 1, 2, 3, 4, 5, 6, 7, 8] rfl)
                      · refine lv_aload_n hx hb dX9_roomClash_81 rfl (lv_at hl 0 rfl) ?_
                        refine q_getr (ci := 7) (C := RX9) (T := TX9) (N := 4) hx hb hts (fun w h => List.mem_cons_of_mem _ (mfX90 w h)) hown hK hw m_a0 o_a0 rfl 2 (by decide) (hts _ (List.mem_cons_of_mem _ (mr1 _ (List.mem_of_getElem? (i := 20) rfl)))) (fun _ h => h) rfl er_6 dX9_roomClash_82 ?_
                        have s1 := sxf.at er_6
                        refine lv_iload hx hb dX9_roomClash_85 (lv_at hl 8 rfl) ?_
                        refine lv_iload_n hx hb dX9_roomClash_87 rfl (lv_at hl 1 rfl) ?_
                        refine q_call_i hA hK hw (va_runV (As := [.int (iI y8_56), .int (iI x1)]) (rest := []) ⟨hx, hb, hml, hown, hts⟩ (c_X7_isOf_q zo l D cy L0 fw56 r_6 y8_56 ly8_56 uy8_56 x1 lx1 ux1 m_r_6 o_r_6 hg rq g mm s1.1 (by omega) (by omega) (by omega) _) (cwV 2 hts (gT (inV (mr32 _ (List.mem_of_getElem? (i := 13) rfl)) (mr32 _ (List.mem_of_getElem? (i := 14) rfl)) (mr32 _ (List.mem_of_getElem? (i := 15) rfl)) (mr1 _ (List.mem_of_getElem? (i := 19) rfl)) (mr32 _ (List.mem_of_getElem? (i := 16) rfl)))) rfl rfl rfl (by decide +kernel) ⟨Nat.le_of_ble_eq_true rfl, Nat.le_of_ble_eq_true rfl⟩) (Wd.preV zo hA hZ hw hK m_r_6 o_r_6 rfl) rfl rfl hl.1 rfl (lv_room (Nat.le_of_ble_eq_true rfl)) dX9_roomClash_88 ⟨Nat.le_of_ble_eq_true rfl, Nat.le_of_ble_eq_true rfl⟩) (fun x_11 L1 f1 H locs lx_11 ux_11 ex_11 hw => ?_)
                        obtain ⟨rfl, rfl, ex_11⟩ := ex_11
                        have h88 := ex_11
                        refine q_if_eq (tgt := 165) hx hb dX9_roomClash_91 (by decide) ⟨lx_11, ux_11⟩ (fun c91 => ?_) (fun c91 => ?_)
                        · exact J165 y4_56 ly4_56 uy4_56 y5_56 ly5_56 uy5_56 y6_56 ly6_56 uy6_56 L0 fw56 hg hE o_a0 (by omega) (by omega) (by first | exact rd.skip (by omega) rfl | exact rd.no (fun x z => by have := w3 x z.2.2; omega) rfl | exact rd.yes (by omega) (by omega) (by omega) ⟨by omega, by omega, w2.resolve_left (by omega)⟩ (w3 _ (w2.resolve_left (by omega))).2.1 (w3 _ (w2.resolve_left (by omega))).2.2 (fun x z => (w3 x z.2.2).1) (Or.inr (by omega)) (fun _ => by decide) rfl (by omega) (by omega) | fail "none") _ _ _ hw (lv_sub hl [0, 1, 2, 3, 4, 5, 6, 7, 8] rfl)
                        · refine lv_aload_n hx hb dX9_roomClash_94 rfl (lv_at hl 0 rfl) ?_
                          refine q_getr (ci := 7) (C := RX9) (T := TX9) (N := 4) hx hb hts (fun w h => List.mem_cons_of_mem _ (mfX90 w h)) hown hK hw m_a0 o_a0 rfl 2 (by decide) (hts _ (List.mem_cons_of_mem _ (mr1 _ (List.mem_of_getElem? (i := 20) rfl)))) (fun _ h => h) rfl er_6 dX9_roomClash_95 ?_
                          have s1 := sxf.at er_6
                          refine lv_iload hx hb dX9_roomClash_98 (lv_at hl 7 rfl) ?_
                          refine q_call_r hA hK hw (va_runV (As := [.int (iI y7_38)]) (rest := []) ⟨hx, hb, hml, hown, hts⟩ (c_X7_at_f zo l D cy L0 fw56 r_6 y7_38 ly7_38 uy7_38 m_r_6 o_r_6 hg (by omega) (by omega) _) (cwV 1 hts (gT (inV (mr24 _ (List.mem_of_getElem? (i := 8) rfl)) (mr24 _ (List.mem_of_getElem? (i := 9) rfl)) (mr24 _ (List.mem_of_getElem? (i := 10) rfl)) (mr1 _ (List.mem_of_getElem? (i := 19) rfl)) (mr24 _ (List.mem_of_getElem? (i := 11) rfl)))) rfl rfl rfl (by decide +kernel) ⟨Nat.le_of_ble_eq_true rfl, Nat.le_of_ble_eq_true rfl⟩) (Wd.preV zo hA hZ hw hK m_r_6 o_r_6 rfl) rfl rfl hl.1 rfl (lv_room (Nat.le_of_ble_eq_true rfl)) dX9_roomClash_100 ⟨Nat.le_of_ble_eq_true rfl, Nat.le_of_ble_eq_true rfl⟩) (fun x_12 L1 f1 H locs ex_12 hw => ?_)
                          obtain ⟨rfl, rfl, ex_12⟩ := ex_12
                          obtain ⟨m_x_12, o_x_12, ex_12⟩ := ex_12
                          have gxx := s1.1.row ex_12 (by omega) (by omega)
                          have rbx := s1.1.rb ex_12 (by omega) (by omega) (by omega)
                          have boa : BO fw56 x_12 g (44 * y7_38) (Os y7_38) := ⟨rbx, by rw [gxx]; exact (ocf y7_38 ⟨by omega, by omega⟩).1, (ocf y7_38 ⟨by omega, by omega⟩).2.2.1, (mb y7_38 (by omega) (by omega)).1, (mb y7_38 (by omega) (by omega)).2, (ml y7_38 (by omega) (by omega)).1, (ml y7_38 (by omega) (by omega)).2⟩
                          refine lv_aload_n hx hb dX9_roomClash_103 rfl (lv_at hl 0 rfl) ?_
                          refine q_getr (ci := 7) (C := RX9) (T := TX9) (N := 4) hx hb hts (fun w h => List.mem_cons_of_mem _ (mfX90 w h)) hown hK hw m_a0 o_a0 rfl 2 (by decide) (hts _ (List.mem_cons_of_mem _ (mr1 _ (List.mem_of_getElem? (i := 20) rfl)))) (fun _ h => h) rfl er_6 dX9_roomClash_104 ?_
                          have s1 := sxf.at er_6
                          refine lv_iload hx hb dX9_roomClash_107 (lv_at hl 8 rfl) ?_
                          refine q_call_r hA hK hw (va_runV (As := [.int (iI y8_56)]) (rest := [.ref x_12]) ⟨hx, hb, hml, hown, hts⟩ (c_X7_at_f zo l D cy L0 fw56 r_6 y8_56 ly8_56 uy8_56 m_r_6 o_r_6 hg (by omega) (by omega) _) (cwV 1 hts (gT (inV (mr24 _ (List.mem_of_getElem? (i := 8) rfl)) (mr24 _ (List.mem_of_getElem? (i := 9) rfl)) (mr24 _ (List.mem_of_getElem? (i := 10) rfl)) (mr1 _ (List.mem_of_getElem? (i := 19) rfl)) (mr24 _ (List.mem_of_getElem? (i := 11) rfl)))) rfl rfl rfl (by decide +kernel) ⟨Nat.le_of_ble_eq_true rfl, Nat.le_of_ble_eq_true rfl⟩) (Wd.preV zo hA hZ hw hK m_r_6 o_r_6 rfl) rfl rfl hl.1 rfl (lv_room (Nat.le_of_ble_eq_true rfl)) dX9_roomClash_109 ⟨Nat.le_of_ble_eq_true rfl, Nat.le_of_ble_eq_true rfl⟩) (fun x_13 L1 f1 H locs ex_13 hw => ?_)
                          obtain ⟨rfl, rfl, ex_13⟩ := ex_13
                          obtain ⟨m_x_13, o_x_13, ex_13⟩ := ex_13
                          have gxx := s1.1.row ex_13 (by omega) (by omega)
                          have rbx := s1.1.rb ex_13 (by omega) (by omega) (by omega)
                          have bob : BO fw56 x_13 g (44 * y8_56) (Os y8_56) := ⟨rbx, by rw [gxx]; exact (ocf y8_56 ⟨by omega, by omega⟩).1, (ocf y8_56 ⟨by omega, by omega⟩).2.2.1, (mb y8_56 (by omega) (by omega)).1, (mb y8_56 (by omega) (by omega)).2, (ml y8_56 (by omega) (by omega)).1, (ml y8_56 (by omega) (by omega)).2⟩
                          refine lv_iload_n hx hb dX9_roomClash_112 rfl (lv_at hl 2 rfl) ?_
                          refine lv_iload hx hb dX9_roomClash_113 (lv_at hl 4 rfl) ?_
                          refine q_call_i hA hK hw (va_runS (As := [.ref x_12, .ref x_13, .int (iI x2), .int (iI y4_56)]) (rest := []) ⟨hx, hb, hml, hown, hts⟩ (c_X9_movedClash_o zo l D cy L0 fw56 x_12 x_13 x2 lx2 ux2 y4_56 ly4_56 uy4_56 m_x_12 o_x_12 m_x_13 o_x_13 hg g (44 * y7_38) boa.1 (Os y7_38) boa.2.1 boa.2.2.1 boa.2.2.2.1 boa.2.2.2.2.1 (44 * y8_56) bob.1 (Os y8_56) bob.2.1 bob.2.2.1 bob.2.2.2.1 bob.2.2.2.2.1 boa.2.2.2.2.2.1 boa.2.2.2.2.2.2 bob.2.2.2.2.2.1 bob.2.2.2.2.2.2 (by omega) (by omega) _) (va_cwS 4 hts (gT (inS (mr35 _ (List.mem_of_getElem? (i := 2) rfl)) (mr35 _ (List.mem_of_getElem? (i := 3) rfl)) (mr1 _ (List.mem_of_getElem? (i := 2) rfl)) (mr35 _ (List.mem_of_getElem? (i := 4) rfl)))) rfl rfl rfl (by decide +kernel) ⟨Nat.le_of_ble_eq_true rfl, Nat.le_of_ble_eq_true rfl⟩) (Wd.preS zo hA hZ hw hK) rfl rfl hl.1 rfl (lv_room (Nat.le_of_ble_eq_true rfl)) dX9_roomClash_115 ⟨Nat.le_of_ble_eq_true rfl, Nat.le_of_ble_eq_true rfl⟩) (fun x_14 L1 f_15 H locs lx_14 ux_14 ex_14 hw => ?_)
                          obtain ⟨rfl, hg, hX, ex_14⟩ := ex_14
                          have hE := hE.trans hX
                          have o_a0 := hX.1.1.1 _ _ o_a0
                          have h115 := ex_14
                          have sx1 := sx.eh hE oa7
                          have oc1_ := ocs.eh hE
                          refine lv_istore (lv' := [(9, .int (iI x_14)), (0, .ref a0), (1, .int (iI x1)), (2, .int (iI x2)), (3, .int (iI x3)), (4, .int (iI y4_56)), (5, .int (iI y5_56)), (6, .int (iI y6_56)), (7, .int (iI y7_38)), (8, .int (iI y8_56))]) hx hb dX9_roomClash_118 hl (by decide) rfl (fun ls hl => ?_)
                          refine lv_aload_n hx hb dX9_roomClash_120 rfl (lv_at hl 1 rfl) ?_
                          obtain ⟨r_16, er_16, m_r_16, o_r_16⟩ := (show ∃ r, fR f_15 a0 2 = some r ∧ r ∈ L0 ∧ Ob f_15 r 5 from hg.2.1 _ m_a0 7 2 o_a0)
                          refine q_getr (ci := 7) (C := RX9) (T := TX9) (N := 4) hx hb hts (fun w h => List.mem_cons_of_mem _ (mfX90 w h)) hown hK hw m_a0 o_a0 rfl 2 (by decide) (hts _ (List.mem_cons_of_mem _ (mr1 _ (List.mem_of_getElem? (i := 20) rfl)))) (fun _ h => h) rfl er_16 dX9_roomClash_121 ?_
                          have s1 := sx1.at er_16
                          refine lv_iload hx hb dX9_roomClash_124 (lv_at hl 8 rfl) ?_
                          refine q_call_r hA hK hw (va_runV (As := [.int (iI y7_38)]) (rest := []) ⟨hx, hb, hml, hown, hts⟩ (c_X7_at_f zo l D cy L0 f_15 r_16 y7_38 ly7_38 uy7_38 m_r_16 o_r_16 hg (by omega) (by omega) _) (cwV 1 hts (gT (inV (mr24 _ (List.mem_of_getElem? (i := 8) rfl)) (mr24 _ (List.mem_of_getElem? (i := 9) rfl)) (mr24 _ (List.mem_of_getElem? (i := 10) rfl)) (mr1 _ (List.mem_of_getElem? (i := 19) rfl)) (mr24 _ (List.mem_of_getElem? (i := 11) rfl)))) rfl rfl rfl (by decide +kernel) ⟨Nat.le_of_ble_eq_true rfl, Nat.le_of_ble_eq_true rfl⟩) (Wd.preV zo hA hZ hw hK m_r_16 o_r_16 rfl) rfl rfl hl.1 rfl (lv_room (Nat.le_of_ble_eq_true rfl)) dX9_roomClash_126 ⟨Nat.le_of_ble_eq_true rfl, Nat.le_of_ble_eq_true rfl⟩) (fun x_17 L1 f1 H locs ex_17 hw => ?_)
                          obtain ⟨rfl, rfl, ex_17⟩ := ex_17
                          obtain ⟨m_x_17, o_x_17, ex_17⟩ := ex_17
                          have gxx := s1.1.row ex_17 (by omega) (by omega)
                          have rbx := s1.1.rb ex_17 (by omega) (by omega) (by omega)
                          have boc : BO f_15 x_17 g (44 * y7_38) (Os y7_38) := ⟨rbx, by rw [gxx]; exact (oc1_ y7_38 ⟨by omega, by omega⟩).1, (oc1_ y7_38 ⟨by omega, by omega⟩).2.2.1, (mb y7_38 (by omega) (by omega)).1, (mb y7_38 (by omega) (by omega)).2, (ml y7_38 (by omega) (by omega)).1, (ml y7_38 (by omega) (by omega)).2⟩
                          refine lv_aload_n hx hb dX9_roomClash_129 rfl (lv_at hl 1 rfl) ?_
                          refine q_getr (ci := 7) (C := RX9) (T := TX9) (N := 4) hx hb hts (fun w h => List.mem_cons_of_mem _ (mfX90 w h)) hown hK hw m_a0 o_a0 rfl 2 (by decide) (hts _ (List.mem_cons_of_mem _ (mr1 _ (List.mem_of_getElem? (i := 20) rfl)))) (fun _ h => h) rfl er_16 dX9_roomClash_130 ?_
                          have s1 := sx1.at er_16
                          refine lv_iload hx hb dX9_roomClash_133 (lv_at hl 9 rfl) ?_
                          refine q_call_r hA hK hw (va_runV (As := [.int (iI y8_56)]) (rest := [.ref x_17]) ⟨hx, hb, hml, hown, hts⟩ (c_X7_at_f zo l D cy L0 f_15 r_16 y8_56 ly8_56 uy8_56 m_r_16 o_r_16 hg (by omega) (by omega) _) (cwV 1 hts (gT (inV (mr24 _ (List.mem_of_getElem? (i := 8) rfl)) (mr24 _ (List.mem_of_getElem? (i := 9) rfl)) (mr24 _ (List.mem_of_getElem? (i := 10) rfl)) (mr1 _ (List.mem_of_getElem? (i := 19) rfl)) (mr24 _ (List.mem_of_getElem? (i := 11) rfl)))) rfl rfl rfl (by decide +kernel) ⟨Nat.le_of_ble_eq_true rfl, Nat.le_of_ble_eq_true rfl⟩) (Wd.preV zo hA hZ hw hK m_r_16 o_r_16 rfl) rfl rfl hl.1 rfl (lv_room (Nat.le_of_ble_eq_true rfl)) dX9_roomClash_135 ⟨Nat.le_of_ble_eq_true rfl, Nat.le_of_ble_eq_true rfl⟩) (fun x_18 L1 f1 H locs ex_18 hw => ?_)
                          obtain ⟨rfl, rfl, ex_18⟩ := ex_18
                          obtain ⟨m_x_18, o_x_18, ex_18⟩ := ex_18
                          have gxx := s1.1.row ex_18 (by omega) (by omega)
                          have rbx := s1.1.rb ex_18 (by omega) (by omega) (by omega)
                          have bod : BO f_15 x_18 g (44 * y8_56) (Os y8_56) := ⟨rbx, by rw [gxx]; exact (oc1_ y8_56 ⟨by omega, by omega⟩).1, (oc1_ y8_56 ⟨by omega, by omega⟩).2.2.1, (mb y8_56 (by omega) (by omega)).1, (mb y8_56 (by omega) (by omega)).2, (ml y8_56 (by omega) (by omega)).1, (ml y8_56 (by omega) (by omega)).2⟩
                          refine lv_iload_n hx hb dX9_roomClash_138 rfl (lv_at hl 3 rfl) ?_
                          refine lv_iload hx hb dX9_roomClash_139 (lv_at hl 0 rfl) ?_
                          refine q_call_i hA hK hw (va_runS (As := [.ref x_17, .ref x_18, .int (iI x2), .int (iI x_14)]) (rest := []) ⟨hx, hb, hml, hown, hts⟩ (c_X9_ruledClash_o zo l D cy L0 f_15 x_17 x_18 x2 lx2 ux2 x_14 lx_14 ux_14 m_x_17 o_x_17 m_x_18 o_x_18 hg g (44 * y7_38) (Os y7_38) boc (44 * y8_56) (Os y8_56) bod boc.1.lw bod.1.lw (by omega) (by omega) _) (va_cwS 4 hts (gT (inS (mr35 _ (List.mem_of_getElem? (i := 15) rfl)) (mr35 _ (List.mem_of_getElem? (i := 16) rfl)) (mr1 _ (List.mem_of_getElem? (i := 2) rfl)) (mr35 _ (List.mem_of_getElem? (i := 17) rfl)))) rfl rfl rfl (by decide +kernel) ⟨Nat.le_of_ble_eq_true rfl, Nat.le_of_ble_eq_true rfl⟩) (Wd.preS zo hA hZ hw hK) rfl rfl hl.1 rfl (lv_room (Nat.le_of_ble_eq_true rfl)) dX9_roomClash_141 ⟨Nat.le_of_ble_eq_true rfl, Nat.le_of_ble_eq_true rfl⟩) (fun x_19 L1 f_20 H locs lx_19 ux_19 ex_19 hw => ?_)
                          obtain ⟨rfl, hg, hX, ex_19⟩ := ex_19
                          have hE := hE.trans hX
                          have o_a0 := hX.1.1.1 _ _ o_a0
                          obtain ⟨w1, w2, w3⟩ := bw_all boa bob h115 ex_19
                          clear ex_19
                          refine lv_istore (lv' := [(9, .int (iI x_19)), (0, .ref a0), (1, .int (iI x1)), (2, .int (iI x2)), (3, .int (iI x3)), (4, .int (iI y4_56)), (5, .int (iI y5_56)), (6, .int (iI y6_56)), (7, .int (iI y7_38)), (8, .int (iI y8_56))]) hx hb dX9_roomClash_144 hl (by decide) rfl (fun ls hl => ?_)
                          refine lv_iload hx hb dX9_roomClash_146 (lv_at hl 0 rfl) ?_
                          refine lv_iload hx hb dX9_roomClash_148 (lv_at hl 5 rfl) ?_
                          refine q_icmp_ge (tgt := 165) hx hb dX9_roomClash_150 (by decide) ⟨lx_19, ux_19⟩ ⟨ly4_56, uy4_56⟩ (fun c150 => ?_) (fun c150 => ?_)
                          · exact J165 y4_56 ly4_56 uy4_56 y5_56 ly5_56 uy5_56 y6_56 ly6_56 uy6_56 L0 f_20 hg hE o_a0 (by omega) (by omega) (by first | exact rd.skip (by omega) rfl | exact rd.no (fun x z => by have := w3 x z.2.2; omega) rfl | exact rd.yes (by omega) (by omega) (by omega) ⟨by omega, by omega, w2.resolve_left (by omega)⟩ (w3 _ (w2.resolve_left (by omega))).2.1 (w3 _ (w2.resolve_left (by omega))).2.2 (fun x z => (w3 x z.2.2).1) (Or.inr (by omega)) (fun _ => by decide) rfl (by omega) (by omega) | fail "none") _ _ _ hw (lv_sub hl [1, 2, 3, 4, 5, 6, 7, 8, 9] rfl)
                          · refine lv_iload hx hb dX9_roomClash_153 (lv_at hl 0 rfl) ?_
                            refine lv_istore (lv' := [(4, .int (iI x_19)), (9, .int (iI x_19)), (0, .ref a0), (1, .int (iI x1)), (2, .int (iI x2)), (3, .int (iI x3)), (5, .int (iI y5_56)), (6, .int (iI y6_56)), (7, .int (iI y7_38)), (8, .int (iI y8_56))]) hx hb dX9_roomClash_155 hl (by decide) rfl (fun ls hl => ?_)
                            refine lv_iload hx hb dX9_roomClash_157 (lv_at hl 8 rfl) ?_
                            refine lv_istore (lv' := [(5, .int (iI y7_38)), (4, .int (iI x_19)), (9, .int (iI x_19)), (0, .ref a0), (1, .int (iI x1)), (2, .int (iI x2)), (3, .int (iI x3)), (6, .int (iI y6_56)), (7, .int (iI y7_38)), (8, .int (iI y8_56))]) hx hb dX9_roomClash_159 hl (by decide) rfl (fun ls hl => ?_)
                            refine lv_iload hx hb dX9_roomClash_161 (lv_at hl 9 rfl) ?_
                            refine lv_istore (lv' := [(6, .int (iI y8_56)), (5, .int (iI y7_38)), (4, .int (iI x_19)), (9, .int (iI x_19)), (0, .ref a0), (1, .int (iI x1)), (2, .int (iI x2)), (3, .int (iI x3)), (7, .int (iI y7_38)), (8, .int (iI y8_56))]) hx hb dX9_roomClash_163 hl (by decide) rfl (fun ls hl => ?_)
                            exact J165 x_19 lx_19 ux_19 y7_38 ly7_38 uy7_38 y8_56 ly8_56 uy8_56 L0 f_20 hg hE o_a0 (by omega) (by omega) (by first | exact rd.skip (by omega) rfl | exact rd.no (fun x z => by have := w3 x z.2.2; omega) rfl | exact rd.yes (by omega) (by omega) (by omega) ⟨by omega, by omega, w2.resolve_left (by omega)⟩ (w3 _ (w2.resolve_left (by omega))).2.1 (w3 _ (w2.resolve_left (by omega))).2.2 (fun x z => (w3 x z.2.2).1) (Or.inr (by omega)) (fun _ => by decide) rfl (by omega) (by omega) | fail "none") _ _ _ hw (lv_sub hl [4, 5, 6, 7, 2, 1, 0, 8, 9] rfl)
                exact J56 ((((2147483647 : Int) - x_5).toNat) + 1) y4_38 ly4_38 uy4_38 y5_38 ly5_38 uy5_38 y6_38 ly6_38 uy6_38 x_5 lx_5 ux_5 L0 fw38 hg hE o_a0 (by omega) (by omega) (by first | exact rc.to rfl (by omega) | exact re.to rfl (by omega) | fail "none") (by omega) _ _ _ hw (lv_sub hl [1, 2, 3, 4, 5, 6, 7, 8, 0] rfl)
          exact J38 ((((2147483647 : Int) - 0).toNat) + 1) 2147483647 (by decide) (by decide) ((-1)) (by decide) (by decide) ((-1)) (by decide) (by decide) 0 (by decide) (by decide) L0 f0 hg hE o_a0 (by omega) (by omega) (by first | exact RCI.start (by omega) (by omega) rfl rfl rfl | exact rd.row (by omega) (by omega) (by omega) | fail "none") (by omega) _ _ _ hw (lv_sub hl [4, 5, 6, 7, 3, 2, 1, 0] rfl)
        · refine q_iconst hx hb dX9_roomClash_23 ?_
          exact q_ret_i hx hb hr hlocks hK hAe hw ⟨by decide, by decide⟩ (Nat.le_of_ble_eq_true rfl) (Nat.le_of_ble_eq_true rfl) dX9_roomClash_24 (by exact ⟨rfl, hg, hE, Or.inl ⟨by omega, by omega⟩⟩)
