set_option maxHeartbeats 4000000 in
set_option maxRecDepth 100000 in
theorem c_X10_book {Z : Zt} (zo : Zok Z) (l : Launch) (D : va_G) (cy : Cy) (L0 : List Nat) (f0 : Nat → va_E) (a0 : Nat) (ad : Nat → Nat) (hs : MS cy L0 f0 a0 ad) (hv : MV f0 a0 ad) (t1 : 0 ≤ fI f0 a0 9) (t2 : fI f0 a0 9 ≤ 168) (p1 : 0 ≤ fI f0 a0 15) (p2 : fI f0 a0 15 ≤ 168) (hd : DT f0 ad 36525) : Ci Z l yX10_book (Cond.code yX10_book cX10_book 2 (some .int) :: TB) ({ frames := 10, cells := 0, slots := 0, locals := 210 } : Room) 0 0 D (tq cy) [.ref a0] L0 f0 (fun (r : Int) (L1 : List Nat) (f1 : Nat → va_E) => L0 = L1 ∧ MS cy L0 f1 a0 ad ∧ Kp a0 ad [4, 21] [5, 9, 10, 14, 15, 16, 17, 18, 19, 20, 22] f0 f1 ∧ (MV f1 a0 ad ∧ fI f1 a0 9 = 0 ∧ 0 ≤ fI f1 a0 15 ∧ fI f1 a0 15 ≤ 168)) := by
  refine Ci.enter (cc := cX10_book) (n := 2) rfl (plainFor_of_name (by decide)) (Nat.le_of_ble_eq_true rfl) ?_
  intro p e s m below meth c ls A hx hb hr hts hown hlocks hnm hml hK hA hAe hw hZ hl
  have hown : s.vm.findClass RX10 = some m.cls := hown
  have hl : lv_has ls 2 [(0, .ref a0)] := hl
  have hN : ZN s := (zo.2.2.2.2 _ _ _ hZ).2
  have hE : Kp a0 ad [4, 21] [5, 9, 10, 14, 15, 16, 17, 18, 19, 20, 22] f0 f0 := Kp.refl _ _ _ _ _
  have m5 := hv.1
  have m6 := hv.2.1
  have h4 : ∀ x : Int, 0 ≤ x → x < 44 * fI f0 a0 5 → aI f0 (ad 4) x = aI f0 (ad 4) x := fun _ _ _ => rfl
  have J143 : ∀ (L : List Nat) (fw143 : Nat → va_E) (hs : MS cy L0 fw143 a0 ad) (hE : Kp a0 ad [4, 21] [5, 9, 10, 14, 15, 16, 17, 18, 19, 20, 22] f0 fw143) (h4 : ∀ x : Int, 0 ≤ x → x < 44 * fI f0 a0 5 → aI fw143 (ad 4) x = aI f0 (ad 4) x) (j1 : 0 ≤ fI fw143 a0 16) (j2 : fI fw143 a0 16 ≤ 168) (j3 : 0 ≤ fI fw143 a0 15) (j4 : fI fw143 a0 15 ≤ 168) (j5 : fI fw143 a0 14 ≤ 168) (k1 : 0 ≤ fI fw143 a0 20) (u5 : fI fw143 a0 5 = fI f0 a0 5) (u9 : fI fw143 a0 9 = 0) (n11 : fI f0 a0 5 ≤ 11) (ka0 : fI fw143 a0 20 = 0 → (0 ≤ aI fw143 (ad 21) 1 ∧ aI fw143 (ad 21) 1 ≤ 1439)) (ka1 : fI fw143 a0 20 = 0 → (1 ≤ aI fw143 (ad 21) 2 ∧ aI fw143 (ad 21) 2 ≤ 4320)) (ka2 : fI fw143 a0 20 = 0 → ((aI fw143 (ad 21) 3 = 0 ∨ 1 ≤ aI fw143 (ad 21) 4) ∧ 0 ≤ aI fw143 (ad 21) 4 ∧ aI fw143 (ad 21) 4 ≤ 999)) (ka3 : fI fw143 a0 20 = 0 → (0 ≤ aI fw143 (ad 21) 5 ∧ aI fw143 (ad 21) 5 ≤ 36524)) (ka4 : fI fw143 a0 20 = 0 → (-1 ≤ aI fw143 (ad 21) 8 ∧ aI fw143 (ad 21) 8 ≤ 36524)) (H : Heap) (locs : List Loc) (ls : Array Slot) (hw : Wd D A s.heap L0 fw143 H locs) (hl : lv_has ls 2 [(0, .ref a0)]), W p l e ({ frames := 10, cells := 0, slots := 0, locals := 210 } : Room) s m ([.ref a0] : List Value).toArray below meth c H locs (0) (0) (MQ below (Qi D (tq cy) L0 f0 s.heap.size (fun (r : Int) (L1 : List Nat) (f1 : Nat → va_E) => L0 = L1 ∧ MS cy L0 f1 a0 ad ∧ Kp a0 ad [4, 21] [5, 9, 10, 14, 15, 16, 17, 18, 19, 20, 22] f0 f1 ∧ (MV f1 a0 ad ∧ fI f1 a0 9 = 0 ∧ 0 ≤ fI f1 a0 15 ∧ fI f1 a0 15 ≤ 168))) ([.ref a0] : List Value).toArray s 0 0 A) (F0 m 143 ls []) := by
    intro L fw143 hs hE h4 j1 j2 j3 j4 j5 k1 u5 u9 n11 ka0 ka1 ka2 ka3 ka4 H locs ls hw hl
    refine lv_aload_n hx hb dX10_book_143 rfl (lv_at hl 0 rfl) ?_
    refine q_geti (ci := 8) (C := RX10) (T := TX10) (N := 26) hx hb hts (fun w h => List.mem_cons_of_mem _ (mfX100 w h)) hown hK hw hs.1 hs.2.1 rfl 20 (by decide) (hts _ (List.mem_cons_of_mem _ (mr19 _ (List.mem_of_getElem? (i := 2) rfl)))) (fun _ h => h) rfl dX10_book_144 (fun x_1 lx_1 ux_1 ex_1 => ?_)
    refine q_if_le (tgt := 158) hx hb dX10_book_147 (by decide) ⟨lx_1, ux_1⟩ (fun c147 => ?_) (fun c147 => ?_)
    · refine lv_aload_n hx hb dX10_book_158 rfl (lv_at hl 0 rfl) ?_
      refine q_getr (ci := 8) (C := RX10) (T := TX10) (N := 26) hx hb hts (fun w h => List.mem_cons_of_mem _ (mfX100 w h)) hown hK hw hs.1 hs.2.1 rfl 21 (by decide) (hts _ (List.mem_cons_of_mem _ (mr3 _ (List.mem_of_getElem? (i := 22) rfl)))) (fun _ h => h) rfl (hs.2.2.1 21 rfl).1 dX10_book_159 ?_
      refine q_bipush hx hb dX10_book_162 rfl ?_
      refine lv_aload_n hx hb dX10_book_164 rfl (lv_at hl 0 rfl) ?_
      refine q_getr (ci := 8) (C := RX10) (T := TX10) (N := 26) hx hb hts (fun w h => List.mem_cons_of_mem _ (mfX100 w h)) hown hK hw hs.1 hs.2.1 rfl 21 (by decide) (hts _ (List.mem_cons_of_mem _ (mr3 _ (List.mem_of_getElem? (i := 22) rfl)))) (fun _ h => h) rfl (hs.2.2.1 21 rfl).1 dX10_book_165 ?_
      refine q_iconst hx hb dX10_book_168 ?_
      refine q_iald hx hb hK hw (hs.2.2.1 21 rfl).2.1 1 (hs.2.2.1 21 rfl).2.2 rfl ⟨by decide, by decide⟩ (by omega) (by show _ < ((44 : Nat) : Int); omega) dX10_book_169 (fun x_2 lx_2 ux_2 ex_2 => ?_)
      refine q_iast hx hb hK hw (hs.2.2.1 21 rfl).2.1 1 (hs.2.2.1 21 rfl).2.2 rfl ⟨by decide, by decide⟩ (by omega) (by show _ < ((44 : Nat) : Int); omega) dX10_book_170 (fun H locs hw => ?_)
      obtain ⟨f_3, ef_3⟩ : ∃ g : Nat → va_E, g = aU fw143 (ad 21) 10 (iI x_2) := ⟨_, rfl⟩
      have t5_f_3 : fI f_3 a0 5 = fI fw143 a0 5 := by rw [ef_3]; exact hs.fI_aU rfl _ _
      have t9_f_3 : fI f_3 a0 9 = fI fw143 a0 9 := by rw [ef_3]; exact hs.fI_aU rfl _ _
      have t14_f_3 : fI f_3 a0 14 = fI fw143 a0 14 := by rw [ef_3]; exact hs.fI_aU rfl _ _
      have t15_f_3 : fI f_3 a0 15 = fI fw143 a0 15 := by rw [ef_3]; exact hs.fI_aU rfl _ _
      have t16_f_3 : fI f_3 a0 16 = fI fw143 a0 16 := by rw [ef_3]; exact hs.fI_aU rfl _ _
      have t17_f_3 : fI f_3 a0 17 = fI fw143 a0 17 := by rw [ef_3]; exact hs.fI_aU rfl _ _
      have t20_f_3 : fI f_3 a0 20 = fI fw143 a0 20 := by rw [ef_3]; exact hs.fI_aU rfl _ _
      have t22_f_3 : fI f_3 a0 22 = fI fw143 a0 22 := by rw [ef_3]; exact hs.fI_aU rfl _ _
      have hE := hE.trans (show Kp a0 ad [4, 21] [5, 9, 10, 14, 15, 16, 17, 18, 19, 20, 22] fw143 f_3 by rw [ef_3]; exact Kp_aU hs rfl (by decide))
      have hs_ := hs
      have hs : MS cy L0 f_3 a0 ad := by rw [ef_3]; exact MS_aU hs rfl
      rw [← ef_3] at hw
      have c21_1_f_3 : aI f_3 (ad 21) 1 = aI fw143 (ad 21) 1 := by rw [ef_3]; exact hs_.aI_nj rfl (by decide) (by decide) (by decide)
      have c21_2_f_3 : aI f_3 (ad 21) 2 = aI fw143 (ad 21) 2 := by rw [ef_3]; exact hs_.aI_nj rfl (by decide) (by decide) (by decide)
      have c21_3_f_3 : aI f_3 (ad 21) 3 = aI fw143 (ad 21) 3 := by rw [ef_3]; exact hs_.aI_nj rfl (by decide) (by decide) (by decide)
      have c21_4_f_3 : aI f_3 (ad 21) 4 = aI fw143 (ad 21) 4 := by rw [ef_3]; exact hs_.aI_nj rfl (by decide) (by decide) (by decide)
      have c21_5_f_3 : aI f_3 (ad 21) 5 = aI fw143 (ad 21) 5 := by rw [ef_3]; exact hs_.aI_nj rfl (by decide) (by decide) (by decide)
      have c21_8_f_3 : aI f_3 (ad 21) 8 = aI fw143 (ad 21) 8 := by rw [ef_3]; exact hs_.aI_nj rfl (by decide) (by decide) (by decide)
      have c21_10_f_3 : aI f_3 (ad 21) 10 = x_2 := by rw [ef_3]; exact hs_.aI_self rfl ⟨lx_2, ux_2⟩
      have c21_11_f_3 : aI f_3 (ad 21) 11 = aI fw143 (ad 21) 11 := by rw [ef_3]; exact hs_.aI_nj rfl (by decide) (by decide) (by decide)
      have h4 : ∀ x : Int, 0 ≤ x → x < 44 * fI f0 a0 5 → aI f_3 (ad 4) x = aI f0 (ad 4) x := fun x q0 q1 => Eq.trans (by rw [ef_3]; exact hs_.aI_ne rfl rfl (by decide) _) (h4 x q0 q1)
      refine lv_aload_n hx hb dX10_book_171 rfl (lv_at hl 0 rfl) ?_
      refine q_getr (ci := 8) (C := RX10) (T := TX10) (N := 26) hx hb hts (fun w h => List.mem_cons_of_mem _ (mfX100 w h)) hown hK hw hs.1 hs.2.1 rfl 21 (by decide) (hts _ (List.mem_cons_of_mem _ (mr3 _ (List.mem_of_getElem? (i := 22) rfl)))) (fun _ h => h) rfl (hs.2.2.1 21 rfl).1 dX10_book_172 ?_
      refine q_bipush hx hb dX10_book_175 rfl ?_
      refine q_iconst hx hb dX10_book_177 ?_
      refine q_iast hx hb hK hw (hs.2.2.1 21 rfl).2.1 1 (hs.2.2.1 21 rfl).2.2 rfl ⟨by decide, by decide⟩ (by omega) (by show _ < ((44 : Nat) : Int); omega) dX10_book_178 (fun H locs hw => ?_)
      obtain ⟨f_4, ef_4⟩ : ∃ g : Nat → va_E, g = aU f_3 (ad 21) 11 (iI 0) := ⟨_, rfl⟩
      have t5_f_4 : fI f_4 a0 5 = fI f_3 a0 5 := by rw [ef_4]; exact hs.fI_aU rfl _ _
      have t9_f_4 : fI f_4 a0 9 = fI f_3 a0 9 := by rw [ef_4]; exact hs.fI_aU rfl _ _
      have t14_f_4 : fI f_4 a0 14 = fI f_3 a0 14 := by rw [ef_4]; exact hs.fI_aU rfl _ _
      have t15_f_4 : fI f_4 a0 15 = fI f_3 a0 15 := by rw [ef_4]; exact hs.fI_aU rfl _ _
      have t16_f_4 : fI f_4 a0 16 = fI f_3 a0 16 := by rw [ef_4]; exact hs.fI_aU rfl _ _
      have t17_f_4 : fI f_4 a0 17 = fI f_3 a0 17 := by rw [ef_4]; exact hs.fI_aU rfl _ _
      have t20_f_4 : fI f_4 a0 20 = fI f_3 a0 20 := by rw [ef_4]; exact hs.fI_aU rfl _ _
      have t22_f_4 : fI f_4 a0 22 = fI f_3 a0 22 := by rw [ef_4]; exact hs.fI_aU rfl _ _
      have hE := hE.trans (show Kp a0 ad [4, 21] [5, 9, 10, 14, 15, 16, 17, 18, 19, 20, 22] f_3 f_4 by rw [ef_4]; exact Kp_aU hs rfl (by decide))
      have hs_ := hs
      have hs : MS cy L0 f_4 a0 ad := by rw [ef_4]; exact MS_aU hs rfl
      rw [← ef_4] at hw
      have c21_1_f_4 : aI f_4 (ad 21) 1 = aI f_3 (ad 21) 1 := by rw [ef_4]; exact hs_.aI_nj rfl (by decide) (by decide) (by decide)
      have c21_2_f_4 : aI f_4 (ad 21) 2 = aI f_3 (ad 21) 2 := by rw [ef_4]; exact hs_.aI_nj rfl (by decide) (by decide) (by decide)
      have c21_3_f_4 : aI f_4 (ad 21) 3 = aI f_3 (ad 21) 3 := by rw [ef_4]; exact hs_.aI_nj rfl (by decide) (by decide) (by decide)
      have c21_4_f_4 : aI f_4 (ad 21) 4 = aI f_3 (ad 21) 4 := by rw [ef_4]; exact hs_.aI_nj rfl (by decide) (by decide) (by decide)
      have c21_5_f_4 : aI f_4 (ad 21) 5 = aI f_3 (ad 21) 5 := by rw [ef_4]; exact hs_.aI_nj rfl (by decide) (by decide) (by decide)
      have c21_8_f_4 : aI f_4 (ad 21) 8 = aI f_3 (ad 21) 8 := by rw [ef_4]; exact hs_.aI_nj rfl (by decide) (by decide) (by decide)
      have c21_10_f_4 : aI f_4 (ad 21) 10 = aI f_3 (ad 21) 10 := by rw [ef_4]; exact hs_.aI_nj rfl (by decide) (by decide) (by decide)
      have c21_11_f_4 : aI f_4 (ad 21) 11 = 0 := by rw [ef_4]; exact hs_.aI_self rfl ⟨by decide, by decide⟩
      have h4 : ∀ x : Int, 0 ≤ x → x < 44 * fI f0 a0 5 → aI f_4 (ad 4) x = aI f0 (ad 4) x := fun x q0 q1 => Eq.trans (by rw [ef_4]; exact hs_.aI_ne rfl rfl (by decide) _) (h4 x q0 q1)
      refine q_iconst hx hb dX10_book_179 ?_
      refine lv_istore_n (lv' := [(1, .int (iI 0)), (0, .ref a0)]) hx hb dX10_book_180 rfl hl (by decide) rfl (fun ls hl => ?_)
      have J181 : ∀ (n181 : Nat) (y1_181 : Int) (ly1_181 : -2147483648 ≤ y1_181) (uy1_181 : y1_181 ≤ 2147483647) (L : List Nat) (fw181 : Nat → va_E) (hs : MS cy L0 fw181 a0 ad) (hE : Kp a0 ad [4, 21] [5, 9, 10, 14, 15, 16, 17, 18, 19, 20, 22] f0 fw181) (h4 : ∀ x : Int, 0 ≤ x → x < 44 * fI f0 a0 5 → aI fw181 (ad 4) x = aI f0 (ad 4) x) (i1 : 0 ≤ y1_181) (i2 : y1_181 ≤ 44) (u5 : fI fw181 a0 5 = fI f0 a0 5) (u9 : fI fw181 a0 9 = 0) (j3 : 0 ≤ fI fw181 a0 15) (j4 : fI fw181 a0 15 ≤ 168) (z1 : 0 ≤ aI fw181 (ad 21) 1) (z2 : aI fw181 (ad 21) 1 ≤ 1439) (z3 : 1 ≤ aI fw181 (ad 21) 2) (z4 : aI fw181 (ad 21) 2 ≤ 4320) (z5 : aI fw181 (ad 21) 3 = 0 ∨ 1 ≤ aI fw181 (ad 21) 4) (z6 : 0 ≤ aI fw181 (ad 21) 4) (z7 : aI fw181 (ad 21) 4 ≤ 999) (z8 : 0 ≤ aI fw181 (ad 21) 5) (z9 : aI fw181 (ad 21) 5 ≤ 36524) (za : -1 ≤ aI fw181 (ad 21) 8) (zb : aI fw181 (ad 21) 8 ≤ 36524) (zc : 0 ≤ aI fw181 (ad 21) 10) (zd : aI fw181 (ad 21) 10 ≤ 36524) (ze : aI fw181 (ad 21) 11 = 0) (cp : ∀ j : Int, 0 ≤ j → j < y1_181 → aI fw181 (ad 4) (44 * fI f0 a0 5 + j) = aI fw181 (ad 21) j) (hn181 : ((2147483647 : Int) - y1_181).toNat < n181) (H : Heap) (locs : List Loc) (ls : Array Slot) (hw : Wd D A s.heap L0 fw181 H locs) (hl : lv_has ls 2 [(0, .ref a0), (1, .int (iI y1_181))]), W p l e ({ frames := 10, cells := 0, slots := 0, locals := 210 } : Room) s m ([.ref a0] : List Value).toArray below meth c H locs (0) (0) (MQ below (Qi D (tq cy) L0 f0 s.heap.size (fun (r : Int) (L1 : List Nat) (f1 : Nat → va_E) => L0 = L1 ∧ MS cy L0 f1 a0 ad ∧ Kp a0 ad [4, 21] [5, 9, 10, 14, 15, 16, 17, 18, 19, 20, 22] f0 f1 ∧ (MV f1 a0 ad ∧ fI f1 a0 9 = 0 ∧ 0 ≤ fI f1 a0 15 ∧ fI f1 a0 15 ≤ 168))) ([.ref a0] : List Value).toArray s 0 0 A) (F0 m 181 ls []) := by
        intro n181
        induction n181 with
        | zero => intro y1_181 ly1_181 uy1_181 L fw181 hs hE h4 i1 i2 u5 u9 j3 j4 z1 z2 z3 z4 z5 z6 z7 z8 z9 za zb zc zd ze cp hn181; exact absurd hn181 (Nat.not_lt_zero _)
        | succ n181 ih181 =>
          intro y1_181 ly1_181 uy1_181 L fw181 hs hE h4 i1 i2 u5 u9 j3 j4 z1 z2 z3 z4 z5 z6 z7 z8 z9 za zb zc zd ze cp hn181 H locs ls hw hl
          refine lv_iload_n hx hb dX10_book_181 rfl (lv_at hl 1 rfl) ?_
          refine q_bipush hx hb dX10_book_182 rfl ?_
          refine q_icmp_ge (tgt := 213) hx hb dX10_book_184 (by decide) ⟨ly1_181, uy1_181⟩ ⟨by decide, by decide⟩ (fun c184 => ?_) (fun c184 => ?_)
          · refine lv_aload_n hx hb dX10_book_213 rfl (lv_at hl 0 rfl) ?_
            refine lv_dup hx hb dX10_book_214 rfl ?_
            refine q_geti (ci := 8) (C := RX10) (T := TX10) (N := 26) hx hb hts (fun w h => List.mem_cons_of_mem _ (mfX100 w h)) hown hK hw hs.1 hs.2.1 rfl 5 (by decide) (hts _ (List.mem_cons_of_mem _ (mr19 _ (List.mem_of_getElem? (i := 1) rfl)))) (fun _ h => h) rfl dX10_book_215 (fun x_5 lx_5 ux_5 ex_5 => ?_)
            refine q_iconst hx hb dX10_book_218 ?_
            first | refine q_iadd hx hb dX10_book_219 ⟨by omega, by omega⟩ (fun x_6 lx_6 ux_6 ex_6 => ?_) | refine q_iaddw hx hb dX10_book_219 (fun x_6 lx_6 ux_6 ex_6 => ?_)
            refine q_puti (ci := 8) (C := RX10) (T := TX10) (N := 26) hx hb hts (fun w h => List.mem_cons_of_mem _ (mfX100 w h)) hown hK hw hs.1 hs.2.1 rfl 5 (by decide) (hts _ (List.mem_cons_of_mem _ (mr19 _ (List.mem_of_getElem? (i := 1) rfl)))) (fun _ h => h) tyX10 tyX10_ok nmX10 rfl (ty := .int) (by decide +kernel) rfl rfl dX10_book_220 (fun H locs hw => ?_)
            obtain ⟨f_7, ef_7⟩ : ∃ g : Nat → va_E, g = pU fw181 a0 5 (.int (iI x_6)) := ⟨_, rfl⟩
            have v5_f_7 : fI f_7 a0 5 = x_6 := by rw [ef_7]; exact fI_pU_self hs.2.1 rfl ⟨lx_6, ux_6⟩
            have t9_f_7 : fI f_7 a0 9 = fI fw181 a0 9 := by rw [ef_7]; exact fI_pU (Or.inr (by decide))
            have t14_f_7 : fI f_7 a0 14 = fI fw181 a0 14 := by rw [ef_7]; exact fI_pU (Or.inr (by decide))
            have t15_f_7 : fI f_7 a0 15 = fI fw181 a0 15 := by rw [ef_7]; exact fI_pU (Or.inr (by decide))
            have t16_f_7 : fI f_7 a0 16 = fI fw181 a0 16 := by rw [ef_7]; exact fI_pU (Or.inr (by decide))
            have t17_f_7 : fI f_7 a0 17 = fI fw181 a0 17 := by rw [ef_7]; exact fI_pU (Or.inr (by decide))
            have t20_f_7 : fI f_7 a0 20 = fI fw181 a0 20 := by rw [ef_7]; exact fI_pU (Or.inr (by decide))
            have t22_f_7 : fI f_7 a0 22 = fI fw181 a0 22 := by rw [ef_7]; exact fI_pU (Or.inr (by decide))
            have hE := hE.trans (show Kp a0 ad [4, 21] [5, 9, 10, 14, 15, 16, 17, 18, 19, 20, 22] fw181 f_7 by rw [ef_7]; exact Kp_pU hs (by decide))
            have hs_ := hs
            have hs : MS cy L0 f_7 a0 ad := by rw [ef_7]; exact MS_pU hs rfl
            rw [← ef_7] at hw
            have c21_1_f_7 : aI f_7 (ad 21) 1 = aI fw181 (ad 21) 1 := by rw [ef_7]; exact hs_.aI_pU _ _
            have c21_2_f_7 : aI f_7 (ad 21) 2 = aI fw181 (ad 21) 2 := by rw [ef_7]; exact hs_.aI_pU _ _
            have c21_3_f_7 : aI f_7 (ad 21) 3 = aI fw181 (ad 21) 3 := by rw [ef_7]; exact hs_.aI_pU _ _
            have c21_4_f_7 : aI f_7 (ad 21) 4 = aI fw181 (ad 21) 4 := by rw [ef_7]; exact hs_.aI_pU _ _
            have c21_5_f_7 : aI f_7 (ad 21) 5 = aI fw181 (ad 21) 5 := by rw [ef_7]; exact hs_.aI_pU _ _
            have c21_8_f_7 : aI f_7 (ad 21) 8 = aI fw181 (ad 21) 8 := by rw [ef_7]; exact hs_.aI_pU _ _
            have c21_10_f_7 : aI f_7 (ad 21) 10 = aI fw181 (ad 21) 10 := by rw [ef_7]; exact hs_.aI_pU _ _
            have c21_11_f_7 : aI f_7 (ad 21) 11 = aI fw181 (ad 21) 11 := by rw [ef_7]; exact hs_.aI_pU _ _
            have h4 : ∀ x : Int, 0 ≤ x → x < 44 * fI f0 a0 5 → aI f_7 (ad 4) x = aI f0 (ad 4) x := fun x q0 q1 => Eq.trans (by rw [ef_7]; exact hs_.aI_pU _ _) (h4 x q0 q1)
            have cp2 : ∀ j : Int, 0 ≤ j → j < 44 → aI f_7 (ad 4) (44 * fI f0 a0 5 + j) = aI fw181 (ad 21) j := fun j q0 q1 => Eq.trans (by rw [ef_7]; exact hs_.aI_pU _ _) (cp j q0 (by omega))
            have hro : RO (aI f_7 (ad 4)) (44 * fI f0 a0 5) := RO.of cp2 z1 z2 z3 z4 z5 z6 z7 z8 z9 za zb zc zd ze
            refine lv_aload_n hx hb dX10_book_223 rfl (lv_at hl 0 rfl) ?_
            refine q_geti (ci := 8) (C := RX10) (T := TX10) (N := 26) hx hb hts (fun w h => List.mem_cons_of_mem _ (mfX100 w h)) hown hK hw hs.1 hs.2.1 rfl 5 (by decide) (hts _ (List.mem_cons_of_mem _ (mr19 _ (List.mem_of_getElem? (i := 1) rfl)))) (fun _ h => h) rfl dX10_book_224 (fun x_8 lx_8 ux_8 ex_8 => ?_)
            refine q_iconst hx hb dX10_book_227 ?_
            first | refine q_isub hx hb dX10_book_228 ⟨by omega, by omega⟩ (fun x_9 lx_9 ux_9 ex_9 => ?_) | refine q_isubw hx hb dX10_book_228 (fun x_9 lx_9 ux_9 ex_9 => ?_)
            exact q_ret_i hx hb hr hlocks hK hAe hw ⟨lx_9, ux_9⟩ (Nat.le_of_ble_eq_true rfl) (Nat.le_of_ble_eq_true rfl) dX10_book_229 (by exact ⟨rfl, hs, hE, hv.grow (by omega) (by omega) h4 hro, by omega, by omega, by omega⟩)
          · refine lv_aload_n hx hb dX10_book_187 rfl (lv_at hl 0 rfl) ?_
            refine q_getr (ci := 8) (C := RX10) (T := TX10) (N := 26) hx hb hts (fun w h => List.mem_cons_of_mem _ (mfX100 w h)) hown hK hw hs.1 hs.2.1 rfl 4 (by decide) (hts _ (List.mem_cons_of_mem _ (mr3 _ (List.mem_of_getElem? (i := 14) rfl)))) (fun _ h => h) rfl (hs.2.2.1 4 rfl).1 dX10_book_188 ?_
            refine q_bipush hx hb dX10_book_191 rfl ?_
            refine lv_aload_n hx hb dX10_book_193 rfl (lv_at hl 0 rfl) ?_
            refine q_geti (ci := 8) (C := RX10) (T := TX10) (N := 26) hx hb hts (fun w h => List.mem_cons_of_mem _ (mfX100 w h)) hown hK hw hs.1 hs.2.1 rfl 5 (by decide) (hts _ (List.mem_cons_of_mem _ (mr19 _ (List.mem_of_getElem? (i := 1) rfl)))) (fun _ h => h) rfl dX10_book_194 (fun x_10 lx_10 ux_10 ex_10 => ?_)
            first | refine q_imul hx hb dX10_book_197 ⟨by omega, by omega⟩ (fun x_11 lx_11 ux_11 ex_11 => ?_) | refine q_imulw hx hb dX10_book_197 (fun x_11 lx_11 ux_11 ex_11 => ?_)
            refine lv_iload_n hx hb dX10_book_198 rfl (lv_at hl 1 rfl) ?_
            first | refine q_iadd hx hb dX10_book_199 ⟨by omega, by omega⟩ (fun x_12 lx_12 ux_12 ex_12 => ?_) | refine q_iaddw hx hb dX10_book_199 (fun x_12 lx_12 ux_12 ex_12 => ?_)
            refine lv_aload_n hx hb dX10_book_200 rfl (lv_at hl 0 rfl) ?_
            refine q_getr (ci := 8) (C := RX10) (T := TX10) (N := 26) hx hb hts (fun w h => List.mem_cons_of_mem _ (mfX100 w h)) hown hK hw hs.1 hs.2.1 rfl 21 (by decide) (hts _ (List.mem_cons_of_mem _ (mr3 _ (List.mem_of_getElem? (i := 22) rfl)))) (fun _ h => h) rfl (hs.2.2.1 21 rfl).1 dX10_book_201 ?_
            refine lv_iload_n hx hb dX10_book_204 rfl (lv_at hl 1 rfl) ?_
            refine q_iald hx hb hK hw (hs.2.2.1 21 rfl).2.1 1 (hs.2.2.1 21 rfl).2.2 rfl ⟨ly1_181, uy1_181⟩ (by omega) (by show _ < ((44 : Nat) : Int); omega) dX10_book_205 (fun x_13 lx_13 ux_13 ex_13 => ?_)
            refine q_iast hx hb hK hw (hs.2.2.1 4 rfl).2.1 1 (hs.2.2.1 4 rfl).2.2 rfl ⟨lx_12, ux_12⟩ (by omega) (by show _ < ((528 : Nat) : Int); omega) dX10_book_206 (fun H locs hw => ?_)
            obtain ⟨f_14, ef_14⟩ : ∃ g : Nat → va_E, g = aU fw181 (ad 4) x_12 (iI x_13) := ⟨_, rfl⟩
            have t5_f_14 : fI f_14 a0 5 = fI fw181 a0 5 := by rw [ef_14]; exact hs.fI_aU rfl _ _
            have t9_f_14 : fI f_14 a0 9 = fI fw181 a0 9 := by rw [ef_14]; exact hs.fI_aU rfl _ _
            have t14_f_14 : fI f_14 a0 14 = fI fw181 a0 14 := by rw [ef_14]; exact hs.fI_aU rfl _ _
            have t15_f_14 : fI f_14 a0 15 = fI fw181 a0 15 := by rw [ef_14]; exact hs.fI_aU rfl _ _
            have t16_f_14 : fI f_14 a0 16 = fI fw181 a0 16 := by rw [ef_14]; exact hs.fI_aU rfl _ _
            have t17_f_14 : fI f_14 a0 17 = fI fw181 a0 17 := by rw [ef_14]; exact hs.fI_aU rfl _ _
            have t20_f_14 : fI f_14 a0 20 = fI fw181 a0 20 := by rw [ef_14]; exact hs.fI_aU rfl _ _
            have t22_f_14 : fI f_14 a0 22 = fI fw181 a0 22 := by rw [ef_14]; exact hs.fI_aU rfl _ _
            have hE := hE.trans (show Kp a0 ad [4, 21] [5, 9, 10, 14, 15, 16, 17, 18, 19, 20, 22] fw181 f_14 by rw [ef_14]; exact Kp_aU hs rfl (by decide))
            have hs_ := hs
            have hs : MS cy L0 f_14 a0 ad := by rw [ef_14]; exact MS_aU hs rfl
            rw [← ef_14] at hw
            have c21_1_f_14 : aI f_14 (ad 21) 1 = aI fw181 (ad 21) 1 := by rw [ef_14]; exact hs_.aI_ne rfl rfl (by decide) _
            have c21_2_f_14 : aI f_14 (ad 21) 2 = aI fw181 (ad 21) 2 := by rw [ef_14]; exact hs_.aI_ne rfl rfl (by decide) _
            have c21_3_f_14 : aI f_14 (ad 21) 3 = aI fw181 (ad 21) 3 := by rw [ef_14]; exact hs_.aI_ne rfl rfl (by decide) _
            have c21_4_f_14 : aI f_14 (ad 21) 4 = aI fw181 (ad 21) 4 := by rw [ef_14]; exact hs_.aI_ne rfl rfl (by decide) _
            have c21_5_f_14 : aI f_14 (ad 21) 5 = aI fw181 (ad 21) 5 := by rw [ef_14]; exact hs_.aI_ne rfl rfl (by decide) _
            have c21_8_f_14 : aI f_14 (ad 21) 8 = aI fw181 (ad 21) 8 := by rw [ef_14]; exact hs_.aI_ne rfl rfl (by decide) _
            have c21_10_f_14 : aI f_14 (ad 21) 10 = aI fw181 (ad 21) 10 := by rw [ef_14]; exact hs_.aI_ne rfl rfl (by decide) _
            have c21_11_f_14 : aI f_14 (ad 21) 11 = aI fw181 (ad 21) 11 := by rw [ef_14]; exact hs_.aI_ne rfl rfl (by decide) _
            have h4 : ∀ x : Int, 0 ≤ x → x < 44 * fI f0 a0 5 → aI f_14 (ad 4) x = aI f0 (ad 4) x := fun x q0 q1 => Eq.trans (by rw [ef_14]; exact hs_.aI_nj rfl (by omega) q0 (by omega)) (h4 x q0 q1)
            have cp : ∀ j : Int, 0 ≤ j → j < y1_181 + 1 → aI f_14 (ad 4) (44 * fI f0 a0 5 + j) = aI f_14 (ad 21) j := by
              intro j q0 q1
              have a1 : aI f_14 (ad 21) j = aI fw181 (ad 21) j := by rw [ef_14]; exact hs_.aI_ne rfl rfl (by decide) _
              by_cases ej : 44 * fI f0 a0 5 + j = x_12
              · have a2 : aI f_14 (ad 4) x_12 = x_13 := by rw [ef_14]; exact hs_.aI_self rfl ⟨by omega, by omega⟩
                have a3 : j = y1_181 := by omega
                rw [ej, a2, a1, a3]; assumption
              · have a2 : aI f_14 (ad 4) (44 * fI f0 a0 5 + j) = aI fw181 (ad 4) (44 * fI f0 a0 5 + j) := by rw [ef_14]; exact hs_.aI_nj rfl (by omega) (by omega) ej
                rw [a2, a1]; exact cp j q0 (by omega)
            obtain ⟨x_15, lx_15, ux_15, hx_15, ex_15⟩ := q_inc y1_181 (1)
            try (replace ex_15 : x_15 = y1_181 + (1) := by omega)
            refine lv_iinc (v := iI x_15) (lv' := [(1, .int (iI x_15)), (0, .ref a0)]) hx hb dX10_book_207 hl (k := 1) rfl hx_15 (by decide) rfl (fun ls hl => ?_)
            refine lv_goto (tgt := 181) hx hb dX10_book_210 (by decide) ?_
            exact ih181 x_15 lx_15 ux_15 L0 f_14 hs hE h4 (by omega) (by omega) (by omega) (by omega) (by omega) (by omega) (by omega) (by omega) (by omega) (by omega) (by omega) (by omega) (by omega) (by omega) (by omega) (by omega) (by omega) (by omega) (by omega) (by omega) (by first | exact fun j q0 q1 => cp j q0 (by omega) | (intro j q0 q1; omega)) (by omega) _ _ _ hw (lv_sub hl [1, 0] rfl)
      exact J181 ((((2147483647 : Int) - 0).toNat) + 1) 0 (by decide) (by decide) L0 f_4 hs hE h4 (by omega) (by omega) (by omega) (by omega) (by omega) (by omega) (by omega) (by omega) (by omega) (by omega) (by omega) (by omega) (by omega) (by omega) (by omega) (by omega) (by omega) (by omega) (by omega) (by omega) (by first | exact fun j q0 q1 => cp j q0 (by omega) | (intro j q0 q1; omega)) (by omega) _ _ _ hw (lv_sub hl [1, 0] rfl)
    · refine q_bipush hx hb dX10_book_150 rfl ?_
      refine lv_aload_n hx hb dX10_book_152 rfl (lv_at hl 0 rfl) ?_
      refine q_geti (ci := 8) (C := RX10) (T := TX10) (N := 26) hx hb hts (fun w h => List.mem_cons_of_mem _ (mfX100 w h)) hown hK hw hs.1 hs.2.1 rfl 20 (by decide) (hts _ (List.mem_cons_of_mem _ (mr19 _ (List.mem_of_getElem? (i := 2) rfl)))) (fun _ h => h) rfl dX10_book_153 (fun x_16 lx_16 ux_16 ex_16 => ?_)
      first | refine q_isub hx hb dX10_book_156 ⟨by omega, by omega⟩ (fun x_17 lx_17 ux_17 ex_17 => ?_) | refine q_isubw hx hb dX10_book_156 (fun x_17 lx_17 ux_17 ex_17 => ?_)
      exact q_ret_i hx hb hr hlocks hK hAe hw ⟨lx_17, ux_17⟩ (Nat.le_of_ble_eq_true rfl) (Nat.le_of_ble_eq_true rfl) dX10_book_157 (by exact ⟨rfl, hs, hE, hv.same (by omega) h4, by omega, by omega, by omega⟩)
  have J139 : ∀ (L : List Nat) (fw139 : Nat → va_E) (hs : MS cy L0 fw139 a0 ad) (hE : Kp a0 ad [4, 21] [5, 9, 10, 14, 15, 16, 17, 18, 19, 20, 22] f0 fw139) (h4 : ∀ x : Int, 0 ≤ x → x < 44 * fI f0 a0 5 → aI fw139 (ad 4) x = aI f0 (ad 4) x) (j1 : 0 ≤ fI fw139 a0 16) (j2 : fI fw139 a0 16 ≤ 168) (j3 : 0 ≤ fI fw139 a0 15) (j4 : fI fw139 a0 15 ≤ 168) (j5 : fI fw139 a0 14 ≤ 168) (k1 : 0 ≤ fI fw139 a0 20) (u5 : fI fw139 a0 5 = fI f0 a0 5) (u9 : fI fw139 a0 9 = 0) (n11 : fI f0 a0 5 ≤ 11) (ka0 : fI fw139 a0 20 = 0 → (0 ≤ aI fw139 (ad 21) 1 ∧ aI fw139 (ad 21) 1 ≤ 1439)) (ka1 : fI fw139 a0 20 = 0 → (1 ≤ aI fw139 (ad 21) 2 ∧ aI fw139 (ad 21) 2 ≤ 4320)) (ka2 : fI fw139 a0 20 = 0 → ((aI fw139 (ad 21) 3 = 0 ∨ 1 ≤ aI fw139 (ad 21) 4) ∧ 0 ≤ aI fw139 (ad 21) 4 ∧ aI fw139 (ad 21) 4 ≤ 999)) (ka3 : fI fw139 a0 20 = 0 → (0 ≤ aI fw139 (ad 21) 5 ∧ aI fw139 (ad 21) 5 ≤ 36524)) (H : Heap) (locs : List Loc) (ls : Array Slot) (hw : Wd D A s.heap L0 fw139 H locs) (hl : lv_has ls 2 [(0, .ref a0)]), W p l e ({ frames := 10, cells := 0, slots := 0, locals := 210 } : Room) s m ([.ref a0] : List Value).toArray below meth c H locs (0) (0) (MQ below (Qi D (tq cy) L0 f0 s.heap.size (fun (r : Int) (L1 : List Nat) (f1 : Nat → va_E) => L0 = L1 ∧ MS cy L0 f1 a0 ad ∧ Kp a0 ad [4, 21] [5, 9, 10, 14, 15, 16, 17, 18, 19, 20, 22] f0 f1 ∧ (MV f1 a0 ad ∧ fI f1 a0 9 = 0 ∧ 0 ≤ fI f1 a0 15 ∧ fI f1 a0 15 ≤ 168))) ([.ref a0] : List Value).toArray s 0 0 A) (F0 m 139 ls []) := by
    intro L fw139 hs hE h4 j1 j2 j3 j4 j5 k1 u5 u9 n11 ka0 ka1 ka2 ka3 H locs ls hw hl
    refine lv_aload_n hx hb dX10_book_139 rfl (lv_at hl 0 rfl) ?_
    refine q_call_v hA hK hw (va_runV (As := []) (rest := []) ⟨hx, hb, hml, hown, hts⟩ (c_X10_endTold zo l D cy L0 fw139 a0 ad hs (by omega) (by omega) (by omega) (by omega) (by omega) (by omega) (by first | exact hd | exact hd.kp hE (by decide) (by decide) (by decide) (by decide)) _) (cwV 0 hts (gT (inV (mr22 _ (List.mem_of_getElem? (i := 1) rfl)) (mr22 _ (List.mem_of_getElem? (i := 2) rfl)) (mr22 _ (List.mem_of_getElem? (i := 3) rfl)) (mr1 _ (List.mem_of_getElem? (i := 5) rfl)) (mr22 _ (List.mem_of_getElem? (i := 4) rfl)))) rfl rfl rfl (by decide +kernel) ⟨Nat.le_of_ble_eq_true rfl, Nat.le_of_ble_eq_true rfl⟩) (Wd.preV zo hA hZ hw hK hs.1 hs.2.1 rfl) rfl rfl hl.1 rfl (lv_room (Nat.le_of_ble_eq_true rfl)) dX10_book_140 ⟨Nat.le_of_ble_eq_true rfl, Nat.le_of_ble_eq_true rfl⟩) (fun L1 f_19 H locs ex_18 hw => ?_)
    obtain ⟨rfl, hs, hX, ex_18⟩ := ex_18
    have hE := hE.trans (hX.mono (rs' := [4, 21]) (fs' := [5, 9, 10, 14, 15, 16, 17, 18, 19, 20, 22]) (by decide) (by decide))
    have t5_f_19 : fI f_19 a0 5 = fI fw139 a0 5 := hX.2 5 (by decide)
    have t9_f_19 : fI f_19 a0 9 = fI fw139 a0 9 := hX.2 9 (by decide)
    have t14_f_19 : fI f_19 a0 14 = fI fw139 a0 14 := hX.2 14 (by decide)
    have h4 : ∀ x : Int, 0 ≤ x → x < 44 * fI f0 a0 5 → aI f_19 (ad 4) x = aI f0 (ad 4) x := fun x q0 q1 => (hX.1 4 rfl (by decide) x).trans (h4 x q0 q1)
    exact J143 L0 f_19 hs hE h4 (by omega) (by omega) (by omega) (by omega) (by omega) (by omega) (by omega) (by omega) (by omega) (by omega) (by omega) (by omega) (by omega) (by omega) _ _ _ hw (lv_sub hl [0] rfl)
  have J129 : ∀ (L : List Nat) (fw129 : Nat → va_E) (hs : MS cy L0 fw129 a0 ad) (hE : Kp a0 ad [4, 21] [5, 9, 10, 14, 15, 16, 17, 18, 19, 20, 22] f0 fw129) (h4 : ∀ x : Int, 0 ≤ x → x < 44 * fI f0 a0 5 → aI fw129 (ad 4) x = aI f0 (ad 4) x) (j1 : 0 ≤ fI fw129 a0 16) (j2 : fI fw129 a0 16 ≤ 168) (j3 : 0 ≤ fI fw129 a0 15) (j4 : fI fw129 a0 15 ≤ 168) (j5 : fI fw129 a0 14 ≤ 168) (k1 : 0 ≤ fI fw129 a0 20) (u5 : fI fw129 a0 5 = fI f0 a0 5) (u9 : fI fw129 a0 9 = 0) (n11 : fI f0 a0 5 ≤ 11) (ka0 : fI fw129 a0 20 = 0 → (0 ≤ aI fw129 (ad 21) 1 ∧ aI fw129 (ad 21) 1 ≤ 1439)) (ka1 : fI fw129 a0 20 = 0 → (1 ≤ aI fw129 (ad 21) 2 ∧ aI fw129 (ad 21) 2 ≤ 4320)) (ka2 : fI fw129 a0 20 = 0 → ((aI fw129 (ad 21) 3 = 0 ∨ 1 ≤ aI fw129 (ad 21) 4) ∧ 0 ≤ aI fw129 (ad 21) 4 ∧ aI fw129 (ad 21) 4 ≤ 999)) (H : Heap) (locs : List Loc) (ls : Array Slot) (hw : Wd D A s.heap L0 fw129 H locs) (hl : lv_has ls 2 [(0, .ref a0)]), W p l e ({ frames := 10, cells := 0, slots := 0, locals := 210 } : Room) s m ([.ref a0] : List Value).toArray below meth c H locs (0) (0) (MQ below (Qi D (tq cy) L0 f0 s.heap.size (fun (r : Int) (L1 : List Nat) (f1 : Nat → va_E) => L0 = L1 ∧ MS cy L0 f1 a0 ad ∧ Kp a0 ad [4, 21] [5, 9, 10, 14, 15, 16, 17, 18, 19, 20, 22] f0 f1 ∧ (MV f1 a0 ad ∧ fI f1 a0 9 = 0 ∧ 0 ≤ fI f1 a0 15 ∧ fI f1 a0 15 ≤ 168))) ([.ref a0] : List Value).toArray s 0 0 A) (F0 m 129 ls []) := by
    intro L fw129 hs hE h4 j1 j2 j3 j4 j5 k1 u5 u9 n11 ka0 ka1 ka2 H locs ls hw hl
    refine lv_aload_n hx hb dX10_book_129 rfl (lv_at hl 0 rfl) ?_
    refine q_getr (ci := 8) (C := RX10) (T := TX10) (N := 26) hx hb hts (fun w h => List.mem_cons_of_mem _ (mfX100 w h)) hown hK hw hs.1 hs.2.1 rfl 21 (by decide) (hts _ (List.mem_cons_of_mem _ (mr3 _ (List.mem_of_getElem? (i := 22) rfl)))) (fun _ h => h) rfl (hs.2.2.1 21 rfl).1 dX10_book_130 ?_
    refine q_iconst hx hb dX10_book_133 ?_
    refine lv_aload_n hx hb dX10_book_134 rfl (lv_at hl 0 rfl) ?_
    refine q_call_i hA hK hw (va_runV (As := []) (rest := [.int (iI 5), .ref (ad 21)]) ⟨hx, hb, hml, hown, hts⟩ (c_X10_dateTold zo l D cy L0 fw129 a0 ad hs (by omega) (by omega) (by omega) (by omega) (by omega) (by omega) (by first | exact hd | exact hd.kp hE (by decide) (by decide) (by decide) (by decide)) _) (cwV 0 hts (gT (inV (mr21 _ (List.mem_of_getElem? (i := 16) rfl)) (mr21 _ (List.mem_of_getElem? (i := 17) rfl)) (mr21 _ (List.mem_of_getElem? (i := 18) rfl)) (mr1 _ (List.mem_of_getElem? (i := 5) rfl)) (mr21 _ (List.mem_of_getElem? (i := 19) rfl)))) rfl rfl rfl (by decide +kernel) ⟨Nat.le_of_ble_eq_true rfl, Nat.le_of_ble_eq_true rfl⟩) (Wd.preV zo hA hZ hw hK hs.1 hs.2.1 rfl) rfl rfl hl.1 rfl (lv_room (Nat.le_of_ble_eq_true rfl)) dX10_book_135 ⟨Nat.le_of_ble_eq_true rfl, Nat.le_of_ble_eq_true rfl⟩) (fun x_20 L1 f_21 H locs lx_20 ux_20 ex_20 hw => ?_)
    obtain ⟨rfl, hs, hX, ex_20⟩ := ex_20
    have hE := hE.trans (hX.mono (rs' := [4, 21]) (fs' := [5, 9, 10, 14, 15, 16, 17, 18, 19, 20, 22]) (by decide) (by decide))
    have t5_f_21 : fI f_21 a0 5 = fI fw129 a0 5 := hX.2 5 (by decide)
    have t9_f_21 : fI f_21 a0 9 = fI fw129 a0 9 := hX.2 9 (by decide)
    have t14_f_21 : fI f_21 a0 14 = fI fw129 a0 14 := hX.2 14 (by decide)
    have c21_1_f_21 : aI f_21 (ad 21) 1 = aI fw129 (ad 21) 1 := hX.1 21 rfl (by decide) _
    have c21_2_f_21 : aI f_21 (ad 21) 2 = aI fw129 (ad 21) 2 := hX.1 21 rfl (by decide) _
    have c21_3_f_21 : aI f_21 (ad 21) 3 = aI fw129 (ad 21) 3 := hX.1 21 rfl (by decide) _
    have c21_4_f_21 : aI f_21 (ad 21) 4 = aI fw129 (ad 21) 4 := hX.1 21 rfl (by decide) _
    have c21_5_f_21 : aI f_21 (ad 21) 5 = aI fw129 (ad 21) 5 := hX.1 21 rfl (by decide) _
    have c21_8_f_21 : aI f_21 (ad 21) 8 = aI fw129 (ad 21) 8 := hX.1 21 rfl (by decide) _
    have c21_10_f_21 : aI f_21 (ad 21) 10 = aI fw129 (ad 21) 10 := hX.1 21 rfl (by decide) _
    have c21_11_f_21 : aI f_21 (ad 21) 11 = aI fw129 (ad 21) 11 := hX.1 21 rfl (by decide) _
    have h4 : ∀ x : Int, 0 ≤ x → x < 44 * fI f0 a0 5 → aI f_21 (ad 4) x = aI f0 (ad 4) x := fun x q0 q1 => (hX.1 4 rfl (by decide) x).trans (h4 x q0 q1)
    refine q_iast hx hb hK hw (hs.2.2.1 21 rfl).2.1 1 (hs.2.2.1 21 rfl).2.2 rfl ⟨by decide, by decide⟩ (by omega) (by show _ < ((44 : Nat) : Int); omega) dX10_book_138 (fun H locs hw => ?_)
    obtain ⟨f_22, ef_22⟩ : ∃ g : Nat → va_E, g = aU f_21 (ad 21) 5 (iI x_20) := ⟨_, rfl⟩
    have t5_f_22 : fI f_22 a0 5 = fI f_21 a0 5 := by rw [ef_22]; exact hs.fI_aU rfl _ _
    have t9_f_22 : fI f_22 a0 9 = fI f_21 a0 9 := by rw [ef_22]; exact hs.fI_aU rfl _ _
    have t14_f_22 : fI f_22 a0 14 = fI f_21 a0 14 := by rw [ef_22]; exact hs.fI_aU rfl _ _
    have t15_f_22 : fI f_22 a0 15 = fI f_21 a0 15 := by rw [ef_22]; exact hs.fI_aU rfl _ _
    have t16_f_22 : fI f_22 a0 16 = fI f_21 a0 16 := by rw [ef_22]; exact hs.fI_aU rfl _ _
    have t17_f_22 : fI f_22 a0 17 = fI f_21 a0 17 := by rw [ef_22]; exact hs.fI_aU rfl _ _
    have t20_f_22 : fI f_22 a0 20 = fI f_21 a0 20 := by rw [ef_22]; exact hs.fI_aU rfl _ _
    have t22_f_22 : fI f_22 a0 22 = fI f_21 a0 22 := by rw [ef_22]; exact hs.fI_aU rfl _ _
    have hE := hE.trans (show Kp a0 ad [4, 21] [5, 9, 10, 14, 15, 16, 17, 18, 19, 20, 22] f_21 f_22 by rw [ef_22]; exact Kp_aU hs rfl (by decide))
    have hs_ := hs
    have hs : MS cy L0 f_22 a0 ad := by rw [ef_22]; exact MS_aU hs rfl
    rw [← ef_22] at hw
    have c21_1_f_22 : aI f_22 (ad 21) 1 = aI f_21 (ad 21) 1 := by rw [ef_22]; exact hs_.aI_nj rfl (by decide) (by decide) (by decide)
    have c21_2_f_22 : aI f_22 (ad 21) 2 = aI f_21 (ad 21) 2 := by rw [ef_22]; exact hs_.aI_nj rfl (by decide) (by decide) (by decide)
    have c21_3_f_22 : aI f_22 (ad 21) 3 = aI f_21 (ad 21) 3 := by rw [ef_22]; exact hs_.aI_nj rfl (by decide) (by decide) (by decide)
    have c21_4_f_22 : aI f_22 (ad 21) 4 = aI f_21 (ad 21) 4 := by rw [ef_22]; exact hs_.aI_nj rfl (by decide) (by decide) (by decide)
    have c21_5_f_22 : aI f_22 (ad 21) 5 = x_20 := by rw [ef_22]; exact hs_.aI_self rfl ⟨lx_20, ux_20⟩
    have c21_8_f_22 : aI f_22 (ad 21) 8 = aI f_21 (ad 21) 8 := by rw [ef_22]; exact hs_.aI_nj rfl (by decide) (by decide) (by decide)
    have c21_10_f_22 : aI f_22 (ad 21) 10 = aI f_21 (ad 21) 10 := by rw [ef_22]; exact hs_.aI_nj rfl (by decide) (by decide) (by decide)
    have c21_11_f_22 : aI f_22 (ad 21) 11 = aI f_21 (ad 21) 11 := by rw [ef_22]; exact hs_.aI_nj rfl (by decide) (by decide) (by decide)
    have h4 : ∀ x : Int, 0 ≤ x → x < 44 * fI f0 a0 5 → aI f_22 (ad 4) x = aI f0 (ad 4) x := fun x q0 q1 => Eq.trans (by rw [ef_22]; exact hs_.aI_ne rfl rfl (by decide) _) (h4 x q0 q1)
    exact J139 L0 f_22 hs hE h4 (by omega) (by omega) (by omega) (by omega) (by omega) (by omega) (by omega) (by omega) (by omega) (by omega) (by omega) (by omega) (by omega) _ _ _ hw (lv_sub hl [0] rfl)
  have J123 : ∀ (L : List Nat) (fw123 : Nat → va_E) (hs : MS cy L0 fw123 a0 ad) (hE : Kp a0 ad [4, 21] [5, 9, 10, 14, 15, 16, 17, 18, 19, 20, 22] f0 fw123) (h4 : ∀ x : Int, 0 ≤ x → x < 44 * fI f0 a0 5 → aI fw123 (ad 4) x = aI f0 (ad 4) x) (j1 : 0 ≤ fI fw123 a0 16) (j2 : fI fw123 a0 16 ≤ 168) (j3 : 0 ≤ fI fw123 a0 15) (j4 : fI fw123 a0 15 ≤ 168) (j5 : fI fw123 a0 14 ≤ 168) (k1 : 0 ≤ fI fw123 a0 20) (u5 : fI fw123 a0 5 = fI f0 a0 5) (u9 : fI fw123 a0 9 = 0) (n11 : fI f0 a0 5 ≤ 11) (ka0 : fI fw123 a0 20 = 0 → (0 ≤ aI fw123 (ad 21) 1 ∧ aI fw123 (ad 21) 1 ≤ 1439)) (ka1 : fI fw123 a0 20 = 0 → (1 ≤ aI fw123 (ad 21) 2 ∧ aI fw123 (ad 21) 2 ≤ 4320)) (ka2 : fI fw123 a0 20 = 0 → ((aI fw123 (ad 21) 3 = 0 ∨ 1 ≤ aI fw123 (ad 21) 4) ∧ 0 ≤ aI fw123 (ad 21) 4 ∧ aI fw123 (ad 21) 4 ≤ 999)) (H : Heap) (locs : List Loc) (ls : Array Slot) (hw : Wd D A s.heap L0 fw123 H locs) (hl : lv_has ls 2 [(0, .ref a0)]), W p l e ({ frames := 10, cells := 0, slots := 0, locals := 210 } : Room) s m ([.ref a0] : List Value).toArray below meth c H locs (0) (0) (MQ below (Qi D (tq cy) L0 f0 s.heap.size (fun (r : Int) (L1 : List Nat) (f1 : Nat → va_E) => L0 = L1 ∧ MS cy L0 f1 a0 ad ∧ Kp a0 ad [4, 21] [5, 9, 10, 14, 15, 16, 17, 18, 19, 20, 22] f0 f1 ∧ (MV f1 a0 ad ∧ fI f1 a0 9 = 0 ∧ 0 ≤ fI f1 a0 15 ∧ fI f1 a0 15 ≤ 168))) ([.ref a0] : List Value).toArray s 0 0 A) (F0 m 123 ls []) := by
    intro L fw123 hs hE h4 j1 j2 j3 j4 j5 k1 u5 u9 n11 ka0 ka1 ka2 H locs ls hw hl
    refine lv_aload_n hx hb dX10_book_123 rfl (lv_at hl 0 rfl) ?_
    obtain ⟨t_23, v_t_23, h_t_23⟩ : ∃ q v : Nat, ∀ (A : Nat → Prop) (U : State) (H : Heap), Z A U H → vk_R RX10 215 "from" q U ∧ Tx [102, 114, 111, 109] q v A U H := ztx_40 zo
    obtain ⟨b_t_23, eb_t_23⟩ : ∃ b : List Int32, b = [102, 114, 111, 109] := ⟨_, rfl⟩
    have nb_t_23 : Asc b_t_23 := by rw [eb_t_23]; exact ⟨by decide, by decide +kernel⟩
    have tx_t_23 : ∀ (A : Nat → Prop) (U : State) (H : Heap), Z A U H → Tx b_t_23 t_23 v_t_23 A U H := fun A U H h => by rw [eb_t_23]; exact (h_t_23 A U H h).2
    refine va_ldcS hx hb hown (h_t_23 _ _ _ hZ).1 dX10_book_124 ?_
    refine q_call_v hA hK hw (va_runV (As := [.ref t_23]) (rest := []) ⟨hx, hb, hml, hown, hts⟩ (c_X10_must zo l D cy L0 fw123 a0 t_23 b_t_23 v_t_23 nb_t_23 tx_t_23 ad hs (by omega) (by omega) (by omega) (by omega) (by omega) (by omega) _) (cwV 1 hts (gT (inV (mr19 _ (List.mem_of_getElem? (i := 23) rfl)) (mr20 _ (List.mem_of_getElem? (i := 0) rfl)) (mr20 _ (List.mem_of_getElem? (i := 1) rfl)) (mr1 _ (List.mem_of_getElem? (i := 5) rfl)) (mr20 _ (List.mem_of_getElem? (i := 2) rfl)))) rfl rfl rfl (by decide +kernel) ⟨Nat.le_of_ble_eq_true rfl, Nat.le_of_ble_eq_true rfl⟩) (Wd.preV zo hA hZ hw hK hs.1 hs.2.1 rfl) rfl rfl hl.1 rfl (lv_room (Nat.le_of_ble_eq_true rfl)) dX10_book_126 ⟨Nat.le_of_ble_eq_true rfl, Nat.le_of_ble_eq_true rfl⟩) (fun L1 f_25 H locs ex_24 hw => ?_)
    obtain ⟨rfl, hs, hX, ex_24⟩ := ex_24
    have hE := hE.trans (hX.mono (rs' := [4, 21]) (fs' := [5, 9, 10, 14, 15, 16, 17, 18, 19, 20, 22]) (by decide) (by decide))
    have t5_f_25 : fI f_25 a0 5 = fI fw123 a0 5 := hX.2 5 (by decide)
    have t9_f_25 : fI f_25 a0 9 = fI fw123 a0 9 := hX.2 9 (by decide)
    have t14_f_25 : fI f_25 a0 14 = fI fw123 a0 14 := hX.2 14 (by decide)
    have t22_f_25 : fI f_25 a0 22 = fI fw123 a0 22 := hX.2 22 (by decide)
    have c21_1_f_25 : aI f_25 (ad 21) 1 = aI fw123 (ad 21) 1 := hX.1 21 rfl (by decide) _
    have c21_2_f_25 : aI f_25 (ad 21) 2 = aI fw123 (ad 21) 2 := hX.1 21 rfl (by decide) _
    have c21_3_f_25 : aI f_25 (ad 21) 3 = aI fw123 (ad 21) 3 := hX.1 21 rfl (by decide) _
    have c21_4_f_25 : aI f_25 (ad 21) 4 = aI fw123 (ad 21) 4 := hX.1 21 rfl (by decide) _
    have c21_5_f_25 : aI f_25 (ad 21) 5 = aI fw123 (ad 21) 5 := hX.1 21 rfl (by decide) _
    have c21_8_f_25 : aI f_25 (ad 21) 8 = aI fw123 (ad 21) 8 := hX.1 21 rfl (by decide) _
    have c21_10_f_25 : aI f_25 (ad 21) 10 = aI fw123 (ad 21) 10 := hX.1 21 rfl (by decide) _
    have c21_11_f_25 : aI f_25 (ad 21) 11 = aI fw123 (ad 21) 11 := hX.1 21 rfl (by decide) _
    have h4 : ∀ x : Int, 0 ≤ x → x < 44 * fI f0 a0 5 → aI f_25 (ad 4) x = aI f0 (ad 4) x := fun x q0 q1 => (hX.1 4 rfl (by decide) x).trans (h4 x q0 q1)
    exact J129 L0 f_25 hs hE h4 (by omega) (by omega) (by omega) (by omega) (by omega) (by omega) (by omega) (by omega) (by omega) (by omega) (by omega) (by omega) _ _ _ hw (lv_sub hl [0] rfl)
  have J112 : ∀ (L : List Nat) (fw112 : Nat → va_E) (hs : MS cy L0 fw112 a0 ad) (hE : Kp a0 ad [4, 21] [5, 9, 10, 14, 15, 16, 17, 18, 19, 20, 22] f0 fw112) (h4 : ∀ x : Int, 0 ≤ x → x < 44 * fI f0 a0 5 → aI fw112 (ad 4) x = aI f0 (ad 4) x) (j1 : 0 ≤ fI fw112 a0 16) (j2 : fI fw112 a0 16 ≤ 168) (j3 : 0 ≤ fI fw112 a0 15) (j4 : fI fw112 a0 15 ≤ 168) (j5 : fI fw112 a0 14 ≤ 168) (k1 : 0 ≤ fI fw112 a0 20) (u5 : fI fw112 a0 5 = fI f0 a0 5) (u9 : fI fw112 a0 9 = 0) (n11 : fI f0 a0 5 ≤ 11) (ka0 : fI fw112 a0 20 = 0 → (0 ≤ aI fw112 (ad 21) 1 ∧ aI fw112 (ad 21) 1 ≤ 1439)) (ka1 : fI fw112 a0 20 = 0 → (1 ≤ aI fw112 (ad 21) 2 ∧ aI fw112 (ad 21) 2 ≤ 4320)) (H : Heap) (locs : List Loc) (ls : Array Slot) (hw : Wd D A s.heap L0 fw112 H locs) (hl : lv_has ls 2 [(0, .ref a0)]), W p l e ({ frames := 10, cells := 0, slots := 0, locals := 210 } : Room) s m ([.ref a0] : List Value).toArray below meth c H locs (0) (0) (MQ below (Qi D (tq cy) L0 f0 s.heap.size (fun (r : Int) (L1 : List Nat) (f1 : Nat → va_E) => L0 = L1 ∧ MS cy L0 f1 a0 ad ∧ Kp a0 ad [4, 21] [5, 9, 10, 14, 15, 16, 17, 18, 19, 20, 22] f0 f1 ∧ (MV f1 a0 ad ∧ fI f1 a0 9 = 0 ∧ 0 ≤ fI f1 a0 15 ∧ fI f1 a0 15 ≤ 168))) ([.ref a0] : List Value).toArray s 0 0 A) (F0 m 112 ls []) := by
    intro L fw112 hs hE h4 j1 j2 j3 j4 j5 k1 u5 u9 n11 ka0 ka1 H locs ls hw hl
    refine lv_aload_n hx hb dX10_book_112 rfl (lv_at hl 0 rfl) ?_
    refine q_geti (ci := 8) (C := RX10) (T := TX10) (N := 26) hx hb hts (fun w h => List.mem_cons_of_mem _ (mfX100 w h)) hown hK hw hs.1 hs.2.1 rfl 20 (by decide) (hts _ (List.mem_cons_of_mem _ (mr19 _ (List.mem_of_getElem? (i := 2) rfl)))) (fun _ h => h) rfl dX10_book_113 (fun x_26 lx_26 ux_26 ex_26 => ?_)
    refine q_if_ne (tgt := 123) hx hb dX10_book_116 (by decide) ⟨lx_26, ux_26⟩ (fun c116 => ?_) (fun c116 => ?_)
    · exact J123 L0 fw112 hs hE h4 (by omega) (by omega) (by omega) (by omega) (by omega) (by omega) (by omega) (by omega) (by omega) (by omega) (by omega) (by omega) _ _ _ hw (lv_sub hl [0] rfl)
    · refine lv_aload_n hx hb dX10_book_119 rfl (lv_at hl 0 rfl) ?_
      refine q_call_v hA hK hw (va_runV (As := []) (rest := []) ⟨hx, hb, hml, hown, hts⟩ (c_X10_ruleTold zo l D cy L0 fw112 a0 ad hs (by omega) (by omega) (by omega) (by omega) (by omega) (by omega) _) (cwV 0 hts (gT (inV (mr20 _ (List.mem_of_getElem? (i := 20) rfl)) (mr20 _ (List.mem_of_getElem? (i := 21) rfl)) (mr20 _ (List.mem_of_getElem? (i := 22) rfl)) (mr1 _ (List.mem_of_getElem? (i := 5) rfl)) (mr20 _ (List.mem_of_getElem? (i := 23) rfl)))) rfl rfl rfl (by decide +kernel) ⟨Nat.le_of_ble_eq_true rfl, Nat.le_of_ble_eq_true rfl⟩) (Wd.preV zo hA hZ hw hK hs.1 hs.2.1 rfl) rfl rfl hl.1 rfl (lv_room (Nat.le_of_ble_eq_true rfl)) dX10_book_120 ⟨Nat.le_of_ble_eq_true rfl, Nat.le_of_ble_eq_true rfl⟩) (fun L1 f_28 H locs ex_27 hw => ?_)
      obtain ⟨rfl, hs, hX, ex_27⟩ := ex_27
      have hE := hE.trans (hX.mono (rs' := [4, 21]) (fs' := [5, 9, 10, 14, 15, 16, 17, 18, 19, 20, 22]) (by decide) (by decide))
      have t5_f_28 : fI f_28 a0 5 = fI fw112 a0 5 := hX.2 5 (by decide)
      have t9_f_28 : fI f_28 a0 9 = fI fw112 a0 9 := hX.2 9 (by decide)
      have t14_f_28 : fI f_28 a0 14 = fI fw112 a0 14 := hX.2 14 (by decide)
      have t22_f_28 : fI f_28 a0 22 = fI fw112 a0 22 := hX.2 22 (by decide)
      have h4 : ∀ x : Int, 0 ≤ x → x < 44 * fI f0 a0 5 → aI f_28 (ad 4) x = aI f0 (ad 4) x := fun x q0 q1 => (hX.1 4 rfl (by decide) x).trans (h4 x q0 q1)
      exact J123 L0 f_28 hs hE h4 (by omega) (by omega) (by omega) (by omega) (by omega) (by omega) (by omega) (by omega) (by omega) (by omega) (by omega) (by omega) _ _ _ hw (lv_sub hl [0] rfl)
  have J98 : ∀ (L : List Nat) (fw98 : Nat → va_E) (hs : MS cy L0 fw98 a0 ad) (hE : Kp a0 ad [4, 21] [5, 9, 10, 14, 15, 16, 17, 18, 19, 20, 22] f0 fw98) (h4 : ∀ x : Int, 0 ≤ x → x < 44 * fI f0 a0 5 → aI fw98 (ad 4) x = aI f0 (ad 4) x) (j1 : 0 ≤ fI fw98 a0 16) (j2 : fI fw98 a0 16 ≤ 168) (j3 : 0 ≤ fI fw98 a0 15) (j4 : fI fw98 a0 15 ≤ 168) (j5 : fI fw98 a0 14 ≤ 168) (k1 : 0 ≤ fI fw98 a0 20) (u5 : fI fw98 a0 5 = fI f0 a0 5) (u9 : fI fw98 a0 9 = 0) (n11 : fI f0 a0 5 ≤ 11) (ka0 : fI fw98 a0 20 = 0 → (0 ≤ aI fw98 (ad 21) 1 ∧ aI fw98 (ad 21) 1 ≤ 1439)) (H : Heap) (locs : List Loc) (ls : Array Slot) (hw : Wd D A s.heap L0 fw98 H locs) (hl : lv_has ls 2 [(0, .ref a0)]), W p l e ({ frames := 10, cells := 0, slots := 0, locals := 210 } : Room) s m ([.ref a0] : List Value).toArray below meth c H locs (0) (0) (MQ below (Qi D (tq cy) L0 f0 s.heap.size (fun (r : Int) (L1 : List Nat) (f1 : Nat → va_E) => L0 = L1 ∧ MS cy L0 f1 a0 ad ∧ Kp a0 ad [4, 21] [5, 9, 10, 14, 15, 16, 17, 18, 19, 20, 22] f0 f1 ∧ (MV f1 a0 ad ∧ fI f1 a0 9 = 0 ∧ 0 ≤ fI f1 a0 15 ∧ fI f1 a0 15 ≤ 168))) ([.ref a0] : List Value).toArray s 0 0 A) (F0 m 98 ls []) := by
    intro L fw98 hs hE h4 j1 j2 j3 j4 j5 k1 u5 u9 n11 ka0 H locs ls hw hl
    refine lv_aload_n hx hb dX10_book_98 rfl (lv_at hl 0 rfl) ?_
    refine q_getr (ci := 8) (C := RX10) (T := TX10) (N := 26) hx hb hts (fun w h => List.mem_cons_of_mem _ (mfX100 w h)) hown hK hw hs.1 hs.2.1 rfl 21 (by decide) (hts _ (List.mem_cons_of_mem _ (mr3 _ (List.mem_of_getElem? (i := 22) rfl)))) (fun _ h => h) rfl (hs.2.2.1 21 rfl).1 dX10_book_99 ?_
    refine q_iconst hx hb dX10_book_102 ?_
    refine lv_aload_n hx hb dX10_book_103 rfl (lv_at hl 0 rfl) ?_
    refine q_iconst hx hb dX10_book_104 ?_
    refine q_sipush hx hb dX10_book_105 rfl ?_
    refine q_call_i hA hK hw (va_runV (As := [.int (iI 1), .int (iI 4320)]) (rest := [.int (iI 2), .ref (ad 21)]) ⟨hx, hb, hml, hown, hts⟩ (c_X10_numberTold zo l D cy L0 fw98 a0 1 (by decide) (by decide) 4320 (by decide) (by decide) ad hs (by omega) (by omega) (by omega) (by omega) (by omega) (by omega) _) (cwV 2 hts (gT (inV (mr20 _ (List.mem_of_getElem? (i := 16) rfl)) (mr20 _ (List.mem_of_getElem? (i := 17) rfl)) (mr20 _ (List.mem_of_getElem? (i := 18) rfl)) (mr1 _ (List.mem_of_getElem? (i := 5) rfl)) (mr20 _ (List.mem_of_getElem? (i := 19) rfl)))) rfl rfl rfl (by decide +kernel) ⟨Nat.le_of_ble_eq_true rfl, Nat.le_of_ble_eq_true rfl⟩) (Wd.preV zo hA hZ hw hK hs.1 hs.2.1 rfl) rfl rfl hl.1 rfl (lv_room (Nat.le_of_ble_eq_true rfl)) dX10_book_108 ⟨Nat.le_of_ble_eq_true rfl, Nat.le_of_ble_eq_true rfl⟩) (fun x_29 L1 f_30 H locs lx_29 ux_29 ex_29 hw => ?_)
    obtain ⟨rfl, hs, hX, ex_29⟩ := ex_29
    have hE := hE.trans (hX.mono (rs' := [4, 21]) (fs' := [5, 9, 10, 14, 15, 16, 17, 18, 19, 20, 22]) (by decide) (by decide))
    have t5_f_30 : fI f_30 a0 5 = fI fw98 a0 5 := hX.2 5 (by decide)
    have t9_f_30 : fI f_30 a0 9 = fI fw98 a0 9 := hX.2 9 (by decide)
    have t14_f_30 : fI f_30 a0 14 = fI fw98 a0 14 := hX.2 14 (by decide)
    have t22_f_30 : fI f_30 a0 22 = fI fw98 a0 22 := hX.2 22 (by decide)
    have c21_1_f_30 : aI f_30 (ad 21) 1 = aI fw98 (ad 21) 1 := hX.1 21 rfl (by decide) _
    have c21_2_f_30 : aI f_30 (ad 21) 2 = aI fw98 (ad 21) 2 := hX.1 21 rfl (by decide) _
    have c21_3_f_30 : aI f_30 (ad 21) 3 = aI fw98 (ad 21) 3 := hX.1 21 rfl (by decide) _
    have c21_4_f_30 : aI f_30 (ad 21) 4 = aI fw98 (ad 21) 4 := hX.1 21 rfl (by decide) _
    have c21_5_f_30 : aI f_30 (ad 21) 5 = aI fw98 (ad 21) 5 := hX.1 21 rfl (by decide) _
    have c21_8_f_30 : aI f_30 (ad 21) 8 = aI fw98 (ad 21) 8 := hX.1 21 rfl (by decide) _
    have c21_10_f_30 : aI f_30 (ad 21) 10 = aI fw98 (ad 21) 10 := hX.1 21 rfl (by decide) _
    have c21_11_f_30 : aI f_30 (ad 21) 11 = aI fw98 (ad 21) 11 := hX.1 21 rfl (by decide) _
    have h4 : ∀ x : Int, 0 ≤ x → x < 44 * fI f0 a0 5 → aI f_30 (ad 4) x = aI f0 (ad 4) x := fun x q0 q1 => (hX.1 4 rfl (by decide) x).trans (h4 x q0 q1)
    refine q_iast hx hb hK hw (hs.2.2.1 21 rfl).2.1 1 (hs.2.2.1 21 rfl).2.2 rfl ⟨by decide, by decide⟩ (by omega) (by show _ < ((44 : Nat) : Int); omega) dX10_book_111 (fun H locs hw => ?_)
    obtain ⟨f_31, ef_31⟩ : ∃ g : Nat → va_E, g = aU f_30 (ad 21) 2 (iI x_29) := ⟨_, rfl⟩
    have t5_f_31 : fI f_31 a0 5 = fI f_30 a0 5 := by rw [ef_31]; exact hs.fI_aU rfl _ _
    have t9_f_31 : fI f_31 a0 9 = fI f_30 a0 9 := by rw [ef_31]; exact hs.fI_aU rfl _ _
    have t14_f_31 : fI f_31 a0 14 = fI f_30 a0 14 := by rw [ef_31]; exact hs.fI_aU rfl _ _
    have t15_f_31 : fI f_31 a0 15 = fI f_30 a0 15 := by rw [ef_31]; exact hs.fI_aU rfl _ _
    have t16_f_31 : fI f_31 a0 16 = fI f_30 a0 16 := by rw [ef_31]; exact hs.fI_aU rfl _ _
    have t17_f_31 : fI f_31 a0 17 = fI f_30 a0 17 := by rw [ef_31]; exact hs.fI_aU rfl _ _
    have t20_f_31 : fI f_31 a0 20 = fI f_30 a0 20 := by rw [ef_31]; exact hs.fI_aU rfl _ _
    have t22_f_31 : fI f_31 a0 22 = fI f_30 a0 22 := by rw [ef_31]; exact hs.fI_aU rfl _ _
    have hE := hE.trans (show Kp a0 ad [4, 21] [5, 9, 10, 14, 15, 16, 17, 18, 19, 20, 22] f_30 f_31 by rw [ef_31]; exact Kp_aU hs rfl (by decide))
    have hs_ := hs
    have hs : MS cy L0 f_31 a0 ad := by rw [ef_31]; exact MS_aU hs rfl
    rw [← ef_31] at hw
    have c21_1_f_31 : aI f_31 (ad 21) 1 = aI f_30 (ad 21) 1 := by rw [ef_31]; exact hs_.aI_nj rfl (by decide) (by decide) (by decide)
    have c21_2_f_31 : aI f_31 (ad 21) 2 = x_29 := by rw [ef_31]; exact hs_.aI_self rfl ⟨lx_29, ux_29⟩
    have c21_3_f_31 : aI f_31 (ad 21) 3 = aI f_30 (ad 21) 3 := by rw [ef_31]; exact hs_.aI_nj rfl (by decide) (by decide) (by decide)
    have c21_4_f_31 : aI f_31 (ad 21) 4 = aI f_30 (ad 21) 4 := by rw [ef_31]; exact hs_.aI_nj rfl (by decide) (by decide) (by decide)
    have c21_5_f_31 : aI f_31 (ad 21) 5 = aI f_30 (ad 21) 5 := by rw [ef_31]; exact hs_.aI_nj rfl (by decide) (by decide) (by decide)
    have c21_8_f_31 : aI f_31 (ad 21) 8 = aI f_30 (ad 21) 8 := by rw [ef_31]; exact hs_.aI_nj rfl (by decide) (by decide) (by decide)
    have c21_10_f_31 : aI f_31 (ad 21) 10 = aI f_30 (ad 21) 10 := by rw [ef_31]; exact hs_.aI_nj rfl (by decide) (by decide) (by decide)
    have c21_11_f_31 : aI f_31 (ad 21) 11 = aI f_30 (ad 21) 11 := by rw [ef_31]; exact hs_.aI_nj rfl (by decide) (by decide) (by decide)
    have h4 : ∀ x : Int, 0 ≤ x → x < 44 * fI f0 a0 5 → aI f_31 (ad 4) x = aI f0 (ad 4) x := fun x q0 q1 => Eq.trans (by rw [ef_31]; exact hs_.aI_ne rfl rfl (by decide) _) (h4 x q0 q1)
    exact J112 L0 f_31 hs hE h4 (by omega) (by omega) (by omega) (by omega) (by omega) (by omega) (by omega) (by omega) (by omega) (by omega) (by omega) _ _ _ hw (lv_sub hl [0] rfl)
  have J92 : ∀ (L : List Nat) (fw92 : Nat → va_E) (hs : MS cy L0 fw92 a0 ad) (hE : Kp a0 ad [4, 21] [5, 9, 10, 14, 15, 16, 17, 18, 19, 20, 22] f0 fw92) (h4 : ∀ x : Int, 0 ≤ x → x < 44 * fI f0 a0 5 → aI fw92 (ad 4) x = aI f0 (ad 4) x) (j1 : 0 ≤ fI fw92 a0 16) (j2 : fI fw92 a0 16 ≤ 168) (j3 : 0 ≤ fI fw92 a0 15) (j4 : fI fw92 a0 15 ≤ 168) (j5 : fI fw92 a0 14 ≤ 168) (k1 : 0 ≤ fI fw92 a0 20) (u5 : fI fw92 a0 5 = fI f0 a0 5) (u9 : fI fw92 a0 9 = 0) (n11 : fI f0 a0 5 ≤ 11) (ka0 : fI fw92 a0 20 = 0 → (0 ≤ aI fw92 (ad 21) 1 ∧ aI fw92 (ad 21) 1 ≤ 1439)) (H : Heap) (locs : List Loc) (ls : Array Slot) (hw : Wd D A s.heap L0 fw92 H locs) (hl : lv_has ls 2 [(0, .ref a0)]), W p l e ({ frames := 10, cells := 0, slots := 0, locals := 210 } : Room) s m ([.ref a0] : List Value).toArray below meth c H locs (0) (0) (MQ below (Qi D (tq cy) L0 f0 s.heap.size (fun (r : Int) (L1 : List Nat) (f1 : Nat → va_E) => L0 = L1 ∧ MS cy L0 f1 a0 ad ∧ Kp a0 ad [4, 21] [5, 9, 10, 14, 15, 16, 17, 18, 19, 20, 22] f0 f1 ∧ (MV f1 a0 ad ∧ fI f1 a0 9 = 0 ∧ 0 ≤ fI f1 a0 15 ∧ fI f1 a0 15 ≤ 168))) ([.ref a0] : List Value).toArray s 0 0 A) (F0 m 92 ls []) := by
    intro L fw92 hs hE h4 j1 j2 j3 j4 j5 k1 u5 u9 n11 ka0 H locs ls hw hl
    refine lv_aload_n hx hb dX10_book_92 rfl (lv_at hl 0 rfl) ?_
    obtain ⟨t_32, v_t_32, h_t_32⟩ : ∃ q v : Nat, ∀ (A : Nat → Prop) (U : State) (H : Heap), Z A U H → vk_R RX10 210 "for" q U ∧ Tx [102, 111, 114] q v A U H := ztx_39 zo
    obtain ⟨b_t_32, eb_t_32⟩ : ∃ b : List Int32, b = [102, 111, 114] := ⟨_, rfl⟩
    have nb_t_32 : Asc b_t_32 := by rw [eb_t_32]; exact ⟨by decide, by decide +kernel⟩
    have tx_t_32 : ∀ (A : Nat → Prop) (U : State) (H : Heap), Z A U H → Tx b_t_32 t_32 v_t_32 A U H := fun A U H h => by rw [eb_t_32]; exact (h_t_32 A U H h).2
    refine va_ldcS hx hb hown (h_t_32 _ _ _ hZ).1 dX10_book_93 ?_
    refine q_call_v hA hK hw (va_runV (As := [.ref t_32]) (rest := []) ⟨hx, hb, hml, hown, hts⟩ (c_X10_must zo l D cy L0 fw92 a0 t_32 b_t_32 v_t_32 nb_t_32 tx_t_32 ad hs (by omega) (by omega) (by omega) (by omega) (by omega) (by omega) _) (cwV 1 hts (gT (inV (mr19 _ (List.mem_of_getElem? (i := 23) rfl)) (mr20 _ (List.mem_of_getElem? (i := 0) rfl)) (mr20 _ (List.mem_of_getElem? (i := 1) rfl)) (mr1 _ (List.mem_of_getElem? (i := 5) rfl)) (mr20 _ (List.mem_of_getElem? (i := 2) rfl)))) rfl rfl rfl (by decide +kernel) ⟨Nat.le_of_ble_eq_true rfl, Nat.le_of_ble_eq_true rfl⟩) (Wd.preV zo hA hZ hw hK hs.1 hs.2.1 rfl) rfl rfl hl.1 rfl (lv_room (Nat.le_of_ble_eq_true rfl)) dX10_book_95 ⟨Nat.le_of_ble_eq_true rfl, Nat.le_of_ble_eq_true rfl⟩) (fun L1 f_34 H locs ex_33 hw => ?_)
    obtain ⟨rfl, hs, hX, ex_33⟩ := ex_33
    have hE := hE.trans (hX.mono (rs' := [4, 21]) (fs' := [5, 9, 10, 14, 15, 16, 17, 18, 19, 20, 22]) (by decide) (by decide))
    have t5_f_34 : fI f_34 a0 5 = fI fw92 a0 5 := hX.2 5 (by decide)
    have t9_f_34 : fI f_34 a0 9 = fI fw92 a0 9 := hX.2 9 (by decide)
    have t14_f_34 : fI f_34 a0 14 = fI fw92 a0 14 := hX.2 14 (by decide)
    have t22_f_34 : fI f_34 a0 22 = fI fw92 a0 22 := hX.2 22 (by decide)
    have c21_1_f_34 : aI f_34 (ad 21) 1 = aI fw92 (ad 21) 1 := hX.1 21 rfl (by decide) _
    have c21_2_f_34 : aI f_34 (ad 21) 2 = aI fw92 (ad 21) 2 := hX.1 21 rfl (by decide) _
    have c21_3_f_34 : aI f_34 (ad 21) 3 = aI fw92 (ad 21) 3 := hX.1 21 rfl (by decide) _
    have c21_4_f_34 : aI f_34 (ad 21) 4 = aI fw92 (ad 21) 4 := hX.1 21 rfl (by decide) _
    have c21_5_f_34 : aI f_34 (ad 21) 5 = aI fw92 (ad 21) 5 := hX.1 21 rfl (by decide) _
    have c21_8_f_34 : aI f_34 (ad 21) 8 = aI fw92 (ad 21) 8 := hX.1 21 rfl (by decide) _
    have c21_10_f_34 : aI f_34 (ad 21) 10 = aI fw92 (ad 21) 10 := hX.1 21 rfl (by decide) _
    have c21_11_f_34 : aI f_34 (ad 21) 11 = aI fw92 (ad 21) 11 := hX.1 21 rfl (by decide) _
    have h4 : ∀ x : Int, 0 ≤ x → x < 44 * fI f0 a0 5 → aI f_34 (ad 4) x = aI f0 (ad 4) x := fun x q0 q1 => (hX.1 4 rfl (by decide) x).trans (h4 x q0 q1)
    exact J98 L0 f_34 hs hE h4 (by omega) (by omega) (by omega) (by omega) (by omega) (by omega) (by omega) (by omega) (by omega) (by omega) _ _ _ hw (lv_sub hl [0] rfl)
  have J78 : ∀ (L : List Nat) (fw78 : Nat → va_E) (hs : MS cy L0 fw78 a0 ad) (hE : Kp a0 ad [4, 21] [5, 9, 10, 14, 15, 16, 17, 18, 19, 20, 22] f0 fw78) (h4 : ∀ x : Int, 0 ≤ x → x < 44 * fI f0 a0 5 → aI fw78 (ad 4) x = aI f0 (ad 4) x) (j1 : 0 ≤ fI fw78 a0 16) (j2 : fI fw78 a0 16 ≤ 168) (j3 : 0 ≤ fI fw78 a0 15) (j4 : fI fw78 a0 15 ≤ 168) (j5 : fI fw78 a0 14 ≤ 168) (k1 : 0 ≤ fI fw78 a0 20) (u5 : fI fw78 a0 5 = fI f0 a0 5) (u9 : fI fw78 a0 9 = 0) (n11 : fI f0 a0 5 ≤ 11) (H : Heap) (locs : List Loc) (ls : Array Slot) (hw : Wd D A s.heap L0 fw78 H locs) (hl : lv_has ls 2 [(0, .ref a0)]), W p l e ({ frames := 10, cells := 0, slots := 0, locals := 210 } : Room) s m ([.ref a0] : List Value).toArray below meth c H locs (0) (0) (MQ below (Qi D (tq cy) L0 f0 s.heap.size (fun (r : Int) (L1 : List Nat) (f1 : Nat → va_E) => L0 = L1 ∧ MS cy L0 f1 a0 ad ∧ Kp a0 ad [4, 21] [5, 9, 10, 14, 15, 16, 17, 18, 19, 20, 22] f0 f1 ∧ (MV f1 a0 ad ∧ fI f1 a0 9 = 0 ∧ 0 ≤ fI f1 a0 15 ∧ fI f1 a0 15 ≤ 168))) ([.ref a0] : List Value).toArray s 0 0 A) (F0 m 78 ls []) := by
    intro L fw78 hs hE h4 j1 j2 j3 j4 j5 k1 u5 u9 n11 H locs ls hw hl
    refine lv_aload_n hx hb dX10_book_78 rfl (lv_at hl 0 rfl) ?_
    refine q_getr (ci := 8) (C := RX10) (T := TX10) (N := 26) hx hb hts (fun w h => List.mem_cons_of_mem _ (mfX100 w h)) hown hK hw hs.1 hs.2.1 rfl 21 (by decide) (hts _ (List.mem_cons_of_mem _ (mr3 _ (List.mem_of_getElem? (i := 22) rfl)))) (fun _ h => h) rfl (hs.2.2.1 21 rfl).1 dX10_book_79 ?_
    refine q_iconst hx hb dX10_book_82 ?_
    refine lv_aload_n hx hb dX10_book_83 rfl (lv_at hl 0 rfl) ?_
    refine q_iconst hx hb dX10_book_84 ?_
    refine q_sipush hx hb dX10_book_85 rfl ?_
    refine q_call_i hA hK hw (va_runV (As := [.int (iI 0), .int (iI 1439)]) (rest := [.int (iI 1), .ref (ad 21)]) ⟨hx, hb, hml, hown, hts⟩ (c_X10_numberTold zo l D cy L0 fw78 a0 0 (by decide) (by decide) 1439 (by decide) (by decide) ad hs (by omega) (by omega) (by omega) (by omega) (by omega) (by omega) _) (cwV 2 hts (gT (inV (mr20 _ (List.mem_of_getElem? (i := 16) rfl)) (mr20 _ (List.mem_of_getElem? (i := 17) rfl)) (mr20 _ (List.mem_of_getElem? (i := 18) rfl)) (mr1 _ (List.mem_of_getElem? (i := 5) rfl)) (mr20 _ (List.mem_of_getElem? (i := 19) rfl)))) rfl rfl rfl (by decide +kernel) ⟨Nat.le_of_ble_eq_true rfl, Nat.le_of_ble_eq_true rfl⟩) (Wd.preV zo hA hZ hw hK hs.1 hs.2.1 rfl) rfl rfl hl.1 rfl (lv_room (Nat.le_of_ble_eq_true rfl)) dX10_book_88 ⟨Nat.le_of_ble_eq_true rfl, Nat.le_of_ble_eq_true rfl⟩) (fun x_35 L1 f_36 H locs lx_35 ux_35 ex_35 hw => ?_)
    obtain ⟨rfl, hs, hX, ex_35⟩ := ex_35
    have hE := hE.trans (hX.mono (rs' := [4, 21]) (fs' := [5, 9, 10, 14, 15, 16, 17, 18, 19, 20, 22]) (by decide) (by decide))
    have t5_f_36 : fI f_36 a0 5 = fI fw78 a0 5 := hX.2 5 (by decide)
    have t9_f_36 : fI f_36 a0 9 = fI fw78 a0 9 := hX.2 9 (by decide)
    have t14_f_36 : fI f_36 a0 14 = fI fw78 a0 14 := hX.2 14 (by decide)
    have t22_f_36 : fI f_36 a0 22 = fI fw78 a0 22 := hX.2 22 (by decide)
    have c21_1_f_36 : aI f_36 (ad 21) 1 = aI fw78 (ad 21) 1 := hX.1 21 rfl (by decide) _
    have c21_2_f_36 : aI f_36 (ad 21) 2 = aI fw78 (ad 21) 2 := hX.1 21 rfl (by decide) _
    have c21_3_f_36 : aI f_36 (ad 21) 3 = aI fw78 (ad 21) 3 := hX.1 21 rfl (by decide) _
    have c21_4_f_36 : aI f_36 (ad 21) 4 = aI fw78 (ad 21) 4 := hX.1 21 rfl (by decide) _
    have c21_5_f_36 : aI f_36 (ad 21) 5 = aI fw78 (ad 21) 5 := hX.1 21 rfl (by decide) _
    have c21_8_f_36 : aI f_36 (ad 21) 8 = aI fw78 (ad 21) 8 := hX.1 21 rfl (by decide) _
    have c21_10_f_36 : aI f_36 (ad 21) 10 = aI fw78 (ad 21) 10 := hX.1 21 rfl (by decide) _
    have c21_11_f_36 : aI f_36 (ad 21) 11 = aI fw78 (ad 21) 11 := hX.1 21 rfl (by decide) _
    have h4 : ∀ x : Int, 0 ≤ x → x < 44 * fI f0 a0 5 → aI f_36 (ad 4) x = aI f0 (ad 4) x := fun x q0 q1 => (hX.1 4 rfl (by decide) x).trans (h4 x q0 q1)
    refine q_iast hx hb hK hw (hs.2.2.1 21 rfl).2.1 1 (hs.2.2.1 21 rfl).2.2 rfl ⟨by decide, by decide⟩ (by omega) (by show _ < ((44 : Nat) : Int); omega) dX10_book_91 (fun H locs hw => ?_)
    obtain ⟨f_37, ef_37⟩ : ∃ g : Nat → va_E, g = aU f_36 (ad 21) 1 (iI x_35) := ⟨_, rfl⟩
    have t5_f_37 : fI f_37 a0 5 = fI f_36 a0 5 := by rw [ef_37]; exact hs.fI_aU rfl _ _
    have t9_f_37 : fI f_37 a0 9 = fI f_36 a0 9 := by rw [ef_37]; exact hs.fI_aU rfl _ _
    have t14_f_37 : fI f_37 a0 14 = fI f_36 a0 14 := by rw [ef_37]; exact hs.fI_aU rfl _ _
    have t15_f_37 : fI f_37 a0 15 = fI f_36 a0 15 := by rw [ef_37]; exact hs.fI_aU rfl _ _
    have t16_f_37 : fI f_37 a0 16 = fI f_36 a0 16 := by rw [ef_37]; exact hs.fI_aU rfl _ _
    have t17_f_37 : fI f_37 a0 17 = fI f_36 a0 17 := by rw [ef_37]; exact hs.fI_aU rfl _ _
    have t20_f_37 : fI f_37 a0 20 = fI f_36 a0 20 := by rw [ef_37]; exact hs.fI_aU rfl _ _
    have t22_f_37 : fI f_37 a0 22 = fI f_36 a0 22 := by rw [ef_37]; exact hs.fI_aU rfl _ _
    have hE := hE.trans (show Kp a0 ad [4, 21] [5, 9, 10, 14, 15, 16, 17, 18, 19, 20, 22] f_36 f_37 by rw [ef_37]; exact Kp_aU hs rfl (by decide))
    have hs_ := hs
    have hs : MS cy L0 f_37 a0 ad := by rw [ef_37]; exact MS_aU hs rfl
    rw [← ef_37] at hw
    have c21_1_f_37 : aI f_37 (ad 21) 1 = x_35 := by rw [ef_37]; exact hs_.aI_self rfl ⟨lx_35, ux_35⟩
    have c21_2_f_37 : aI f_37 (ad 21) 2 = aI f_36 (ad 21) 2 := by rw [ef_37]; exact hs_.aI_nj rfl (by decide) (by decide) (by decide)
    have c21_3_f_37 : aI f_37 (ad 21) 3 = aI f_36 (ad 21) 3 := by rw [ef_37]; exact hs_.aI_nj rfl (by decide) (by decide) (by decide)
    have c21_4_f_37 : aI f_37 (ad 21) 4 = aI f_36 (ad 21) 4 := by rw [ef_37]; exact hs_.aI_nj rfl (by decide) (by decide) (by decide)
    have c21_5_f_37 : aI f_37 (ad 21) 5 = aI f_36 (ad 21) 5 := by rw [ef_37]; exact hs_.aI_nj rfl (by decide) (by decide) (by decide)
    have c21_8_f_37 : aI f_37 (ad 21) 8 = aI f_36 (ad 21) 8 := by rw [ef_37]; exact hs_.aI_nj rfl (by decide) (by decide) (by decide)
    have c21_10_f_37 : aI f_37 (ad 21) 10 = aI f_36 (ad 21) 10 := by rw [ef_37]; exact hs_.aI_nj rfl (by decide) (by decide) (by decide)
    have c21_11_f_37 : aI f_37 (ad 21) 11 = aI f_36 (ad 21) 11 := by rw [ef_37]; exact hs_.aI_nj rfl (by decide) (by decide) (by decide)
    have h4 : ∀ x : Int, 0 ≤ x → x < 44 * fI f0 a0 5 → aI f_37 (ad 4) x = aI f0 (ad 4) x := fun x q0 q1 => Eq.trans (by rw [ef_37]; exact hs_.aI_ne rfl rfl (by decide) _) (h4 x q0 q1)
    exact J92 L0 f_37 hs hE h4 (by omega) (by omega) (by omega) (by omega) (by omega) (by omega) (by omega) (by omega) (by omega) (by omega) _ _ _ hw (lv_sub hl [0] rfl)
  have J72 : ∀ (L : List Nat) (fw72 : Nat → va_E) (hs : MS cy L0 fw72 a0 ad) (hE : Kp a0 ad [4, 21] [5, 9, 10, 14, 15, 16, 17, 18, 19, 20, 22] f0 fw72) (h4 : ∀ x : Int, 0 ≤ x → x < 44 * fI f0 a0 5 → aI fw72 (ad 4) x = aI f0 (ad 4) x) (j1 : 0 ≤ fI fw72 a0 16) (j2 : fI fw72 a0 16 ≤ 168) (j3 : 0 ≤ fI fw72 a0 15) (j4 : fI fw72 a0 15 ≤ 168) (j5 : fI fw72 a0 14 ≤ 168) (k1 : 0 ≤ fI fw72 a0 20) (u5 : fI fw72 a0 5 = fI f0 a0 5) (u9 : fI fw72 a0 9 = 0) (n11 : fI f0 a0 5 ≤ 11) (H : Heap) (locs : List Loc) (ls : Array Slot) (hw : Wd D A s.heap L0 fw72 H locs) (hl : lv_has ls 2 [(0, .ref a0)]), W p l e ({ frames := 10, cells := 0, slots := 0, locals := 210 } : Room) s m ([.ref a0] : List Value).toArray below meth c H locs (0) (0) (MQ below (Qi D (tq cy) L0 f0 s.heap.size (fun (r : Int) (L1 : List Nat) (f1 : Nat → va_E) => L0 = L1 ∧ MS cy L0 f1 a0 ad ∧ Kp a0 ad [4, 21] [5, 9, 10, 14, 15, 16, 17, 18, 19, 20, 22] f0 f1 ∧ (MV f1 a0 ad ∧ fI f1 a0 9 = 0 ∧ 0 ≤ fI f1 a0 15 ∧ fI f1 a0 15 ≤ 168))) ([.ref a0] : List Value).toArray s 0 0 A) (F0 m 72 ls []) := by
    intro L fw72 hs hE h4 j1 j2 j3 j4 j5 k1 u5 u9 n11 H locs ls hw hl
    refine lv_aload_n hx hb dX10_book_72 rfl (lv_at hl 0 rfl) ?_
    obtain ⟨t_38, v_t_38, h_t_38⟩ : ∃ q v : Nat, ∀ (A : Nat → Prop) (U : State) (H : Heap), Z A U H → vk_R RX10 208 "at" q U ∧ Tx [97, 116] q v A U H := ztx_38 zo
    obtain ⟨b_t_38, eb_t_38⟩ : ∃ b : List Int32, b = [97, 116] := ⟨_, rfl⟩
    have nb_t_38 : Asc b_t_38 := by rw [eb_t_38]; exact ⟨by decide, by decide +kernel⟩
    have tx_t_38 : ∀ (A : Nat → Prop) (U : State) (H : Heap), Z A U H → Tx b_t_38 t_38 v_t_38 A U H := fun A U H h => by rw [eb_t_38]; exact (h_t_38 A U H h).2
    refine va_ldcS hx hb hown (h_t_38 _ _ _ hZ).1 dX10_book_73 ?_
    refine q_call_v hA hK hw (va_runV (As := [.ref t_38]) (rest := []) ⟨hx, hb, hml, hown, hts⟩ (c_X10_must zo l D cy L0 fw72 a0 t_38 b_t_38 v_t_38 nb_t_38 tx_t_38 ad hs (by omega) (by omega) (by omega) (by omega) (by omega) (by omega) _) (cwV 1 hts (gT (inV (mr19 _ (List.mem_of_getElem? (i := 23) rfl)) (mr20 _ (List.mem_of_getElem? (i := 0) rfl)) (mr20 _ (List.mem_of_getElem? (i := 1) rfl)) (mr1 _ (List.mem_of_getElem? (i := 5) rfl)) (mr20 _ (List.mem_of_getElem? (i := 2) rfl)))) rfl rfl rfl (by decide +kernel) ⟨Nat.le_of_ble_eq_true rfl, Nat.le_of_ble_eq_true rfl⟩) (Wd.preV zo hA hZ hw hK hs.1 hs.2.1 rfl) rfl rfl hl.1 rfl (lv_room (Nat.le_of_ble_eq_true rfl)) dX10_book_75 ⟨Nat.le_of_ble_eq_true rfl, Nat.le_of_ble_eq_true rfl⟩) (fun L1 f_40 H locs ex_39 hw => ?_)
    obtain ⟨rfl, hs, hX, ex_39⟩ := ex_39
    have hE := hE.trans (hX.mono (rs' := [4, 21]) (fs' := [5, 9, 10, 14, 15, 16, 17, 18, 19, 20, 22]) (by decide) (by decide))
    have t5_f_40 : fI f_40 a0 5 = fI fw72 a0 5 := hX.2 5 (by decide)
    have t9_f_40 : fI f_40 a0 9 = fI fw72 a0 9 := hX.2 9 (by decide)
    have t14_f_40 : fI f_40 a0 14 = fI fw72 a0 14 := hX.2 14 (by decide)
    have t22_f_40 : fI f_40 a0 22 = fI fw72 a0 22 := hX.2 22 (by decide)
    have c21_1_f_40 : aI f_40 (ad 21) 1 = aI fw72 (ad 21) 1 := hX.1 21 rfl (by decide) _
    have c21_2_f_40 : aI f_40 (ad 21) 2 = aI fw72 (ad 21) 2 := hX.1 21 rfl (by decide) _
    have c21_3_f_40 : aI f_40 (ad 21) 3 = aI fw72 (ad 21) 3 := hX.1 21 rfl (by decide) _
    have c21_4_f_40 : aI f_40 (ad 21) 4 = aI fw72 (ad 21) 4 := hX.1 21 rfl (by decide) _
    have c21_5_f_40 : aI f_40 (ad 21) 5 = aI fw72 (ad 21) 5 := hX.1 21 rfl (by decide) _
    have c21_8_f_40 : aI f_40 (ad 21) 8 = aI fw72 (ad 21) 8 := hX.1 21 rfl (by decide) _
    have c21_10_f_40 : aI f_40 (ad 21) 10 = aI fw72 (ad 21) 10 := hX.1 21 rfl (by decide) _
    have c21_11_f_40 : aI f_40 (ad 21) 11 = aI fw72 (ad 21) 11 := hX.1 21 rfl (by decide) _
    have h4 : ∀ x : Int, 0 ≤ x → x < 44 * fI f0 a0 5 → aI f_40 (ad 4) x = aI f0 (ad 4) x := fun x q0 q1 => (hX.1 4 rfl (by decide) x).trans (h4 x q0 q1)
    exact J78 L0 f_40 hs hE h4 (by omega) (by omega) (by omega) (by omega) (by omega) (by omega) (by omega) (by omega) (by omega) _ _ _ hw (lv_sub hl [0] rfl)
  have J59 : ∀ (L : List Nat) (fw59 : Nat → va_E) (hs : MS cy L0 fw59 a0 ad) (hE : Kp a0 ad [4, 21] [5, 9, 10, 14, 15, 16, 17, 18, 19, 20, 22] f0 fw59) (h4 : ∀ x : Int, 0 ≤ x → x < 44 * fI f0 a0 5 → aI fw59 (ad 4) x = aI f0 (ad 4) x) (j1 : 0 ≤ fI fw59 a0 16) (j2 : fI fw59 a0 16 ≤ 168) (j3 : 0 ≤ fI fw59 a0 15) (j4 : fI fw59 a0 15 ≤ 168) (j5 : fI fw59 a0 14 ≤ 168) (k1 : 0 ≤ fI fw59 a0 20) (u5 : fI fw59 a0 5 = fI f0 a0 5) (u9 : fI fw59 a0 9 = 0) (n11 : fI f0 a0 5 ≤ 11) (H : Heap) (locs : List Loc) (ls : Array Slot) (hw : Wd D A s.heap L0 fw59 H locs) (hl : lv_has ls 2 [(0, .ref a0)]), W p l e ({ frames := 10, cells := 0, slots := 0, locals := 210 } : Room) s m ([.ref a0] : List Value).toArray below meth c H locs (0) (0) (MQ below (Qi D (tq cy) L0 f0 s.heap.size (fun (r : Int) (L1 : List Nat) (f1 : Nat → va_E) => L0 = L1 ∧ MS cy L0 f1 a0 ad ∧ Kp a0 ad [4, 21] [5, 9, 10, 14, 15, 16, 17, 18, 19, 20, 22] f0 f1 ∧ (MV f1 a0 ad ∧ fI f1 a0 9 = 0 ∧ 0 ≤ fI f1 a0 15 ∧ fI f1 a0 15 ≤ 168))) ([.ref a0] : List Value).toArray s 0 0 A) (F0 m 59 ls []) := by
    intro L fw59 hs hE h4 j1 j2 j3 j4 j5 k1 u5 u9 n11 H locs ls hw hl
    refine lv_aload_n hx hb dX10_book_59 rfl (lv_at hl 0 rfl) ?_
    refine q_getr (ci := 8) (C := RX10) (T := TX10) (N := 26) hx hb hts (fun w h => List.mem_cons_of_mem _ (mfX100 w h)) hown hK hw hs.1 hs.2.1 rfl 21 (by decide) (hts _ (List.mem_cons_of_mem _ (mr3 _ (List.mem_of_getElem? (i := 22) rfl)))) (fun _ h => h) rfl (hs.2.2.1 21 rfl).1 dX10_book_60 ?_
    refine q_iconst hx hb dX10_book_63 ?_
    refine lv_aload_n hx hb dX10_book_64 rfl (lv_at hl 0 rfl) ?_
    refine q_iconst hx hb dX10_book_65 ?_
    refine q_bipush hx hb dX10_book_66 rfl ?_
    refine q_call_i hA hK hw (va_runV (As := [.int (iI 0), .int (iI 7)]) (rest := [.int (iI 0), .ref (ad 21)]) ⟨hx, hb, hml, hown, hts⟩ (c_X10_numberTold zo l D cy L0 fw59 a0 0 (by decide) (by decide) 7 (by decide) (by decide) ad hs (by omega) (by omega) (by omega) (by omega) (by omega) (by omega) _) (cwV 2 hts (gT (inV (mr20 _ (List.mem_of_getElem? (i := 16) rfl)) (mr20 _ (List.mem_of_getElem? (i := 17) rfl)) (mr20 _ (List.mem_of_getElem? (i := 18) rfl)) (mr1 _ (List.mem_of_getElem? (i := 5) rfl)) (mr20 _ (List.mem_of_getElem? (i := 19) rfl)))) rfl rfl rfl (by decide +kernel) ⟨Nat.le_of_ble_eq_true rfl, Nat.le_of_ble_eq_true rfl⟩) (Wd.preV zo hA hZ hw hK hs.1 hs.2.1 rfl) rfl rfl hl.1 rfl (lv_room (Nat.le_of_ble_eq_true rfl)) dX10_book_68 ⟨Nat.le_of_ble_eq_true rfl, Nat.le_of_ble_eq_true rfl⟩) (fun x_41 L1 f_42 H locs lx_41 ux_41 ex_41 hw => ?_)
    obtain ⟨rfl, hs, hX, ex_41⟩ := ex_41
    have hE := hE.trans (hX.mono (rs' := [4, 21]) (fs' := [5, 9, 10, 14, 15, 16, 17, 18, 19, 20, 22]) (by decide) (by decide))
    have t5_f_42 : fI f_42 a0 5 = fI fw59 a0 5 := hX.2 5 (by decide)
    have t9_f_42 : fI f_42 a0 9 = fI fw59 a0 9 := hX.2 9 (by decide)
    have t14_f_42 : fI f_42 a0 14 = fI fw59 a0 14 := hX.2 14 (by decide)
    have t22_f_42 : fI f_42 a0 22 = fI fw59 a0 22 := hX.2 22 (by decide)
    have c21_1_f_42 : aI f_42 (ad 21) 1 = aI fw59 (ad 21) 1 := hX.1 21 rfl (by decide) _
    have c21_2_f_42 : aI f_42 (ad 21) 2 = aI fw59 (ad 21) 2 := hX.1 21 rfl (by decide) _
    have c21_3_f_42 : aI f_42 (ad 21) 3 = aI fw59 (ad 21) 3 := hX.1 21 rfl (by decide) _
    have c21_4_f_42 : aI f_42 (ad 21) 4 = aI fw59 (ad 21) 4 := hX.1 21 rfl (by decide) _
    have c21_5_f_42 : aI f_42 (ad 21) 5 = aI fw59 (ad 21) 5 := hX.1 21 rfl (by decide) _
    have c21_8_f_42 : aI f_42 (ad 21) 8 = aI fw59 (ad 21) 8 := hX.1 21 rfl (by decide) _
    have c21_10_f_42 : aI f_42 (ad 21) 10 = aI fw59 (ad 21) 10 := hX.1 21 rfl (by decide) _
    have c21_11_f_42 : aI f_42 (ad 21) 11 = aI fw59 (ad 21) 11 := hX.1 21 rfl (by decide) _
    have h4 : ∀ x : Int, 0 ≤ x → x < 44 * fI f0 a0 5 → aI f_42 (ad 4) x = aI f0 (ad 4) x := fun x q0 q1 => (hX.1 4 rfl (by decide) x).trans (h4 x q0 q1)
    refine q_iast hx hb hK hw (hs.2.2.1 21 rfl).2.1 1 (hs.2.2.1 21 rfl).2.2 rfl ⟨by decide, by decide⟩ (by omega) (by show _ < ((44 : Nat) : Int); omega) dX10_book_71 (fun H locs hw => ?_)
    obtain ⟨f_43, ef_43⟩ : ∃ g : Nat → va_E, g = aU f_42 (ad 21) 0 (iI x_41) := ⟨_, rfl⟩
    have t5_f_43 : fI f_43 a0 5 = fI f_42 a0 5 := by rw [ef_43]; exact hs.fI_aU rfl _ _
    have t9_f_43 : fI f_43 a0 9 = fI f_42 a0 9 := by rw [ef_43]; exact hs.fI_aU rfl _ _
    have t14_f_43 : fI f_43 a0 14 = fI f_42 a0 14 := by rw [ef_43]; exact hs.fI_aU rfl _ _
    have t15_f_43 : fI f_43 a0 15 = fI f_42 a0 15 := by rw [ef_43]; exact hs.fI_aU rfl _ _
    have t16_f_43 : fI f_43 a0 16 = fI f_42 a0 16 := by rw [ef_43]; exact hs.fI_aU rfl _ _
    have t17_f_43 : fI f_43 a0 17 = fI f_42 a0 17 := by rw [ef_43]; exact hs.fI_aU rfl _ _
    have t20_f_43 : fI f_43 a0 20 = fI f_42 a0 20 := by rw [ef_43]; exact hs.fI_aU rfl _ _
    have t22_f_43 : fI f_43 a0 22 = fI f_42 a0 22 := by rw [ef_43]; exact hs.fI_aU rfl _ _
    have hE := hE.trans (show Kp a0 ad [4, 21] [5, 9, 10, 14, 15, 16, 17, 18, 19, 20, 22] f_42 f_43 by rw [ef_43]; exact Kp_aU hs rfl (by decide))
    have hs_ := hs
    have hs : MS cy L0 f_43 a0 ad := by rw [ef_43]; exact MS_aU hs rfl
    rw [← ef_43] at hw
    have c21_1_f_43 : aI f_43 (ad 21) 1 = aI f_42 (ad 21) 1 := by rw [ef_43]; exact hs_.aI_nj rfl (by decide) (by decide) (by decide)
    have c21_2_f_43 : aI f_43 (ad 21) 2 = aI f_42 (ad 21) 2 := by rw [ef_43]; exact hs_.aI_nj rfl (by decide) (by decide) (by decide)
    have c21_3_f_43 : aI f_43 (ad 21) 3 = aI f_42 (ad 21) 3 := by rw [ef_43]; exact hs_.aI_nj rfl (by decide) (by decide) (by decide)
    have c21_4_f_43 : aI f_43 (ad 21) 4 = aI f_42 (ad 21) 4 := by rw [ef_43]; exact hs_.aI_nj rfl (by decide) (by decide) (by decide)
    have c21_5_f_43 : aI f_43 (ad 21) 5 = aI f_42 (ad 21) 5 := by rw [ef_43]; exact hs_.aI_nj rfl (by decide) (by decide) (by decide)
    have c21_8_f_43 : aI f_43 (ad 21) 8 = aI f_42 (ad 21) 8 := by rw [ef_43]; exact hs_.aI_nj rfl (by decide) (by decide) (by decide)
    have c21_10_f_43 : aI f_43 (ad 21) 10 = aI f_42 (ad 21) 10 := by rw [ef_43]; exact hs_.aI_nj rfl (by decide) (by decide) (by decide)
    have c21_11_f_43 : aI f_43 (ad 21) 11 = aI f_42 (ad 21) 11 := by rw [ef_43]; exact hs_.aI_nj rfl (by decide) (by decide) (by decide)
    have h4 : ∀ x : Int, 0 ≤ x → x < 44 * fI f0 a0 5 → aI f_43 (ad 4) x = aI f0 (ad 4) x := fun x q0 q1 => Eq.trans (by rw [ef_43]; exact hs_.aI_ne rfl rfl (by decide) _) (h4 x q0 q1)
    exact J72 L0 f_43 hs hE h4 (by omega) (by omega) (by omega) (by omega) (by omega) (by omega) (by omega) (by omega) (by omega) _ _ _ hw (lv_sub hl [0] rfl)
  have J53 : ∀ (L : List Nat) (fw53 : Nat → va_E) (hs : MS cy L0 fw53 a0 ad) (hE : Kp a0 ad [4, 21] [5, 9, 10, 14, 15, 16, 17, 18, 19, 20, 22] f0 fw53) (h4 : ∀ x : Int, 0 ≤ x → x < 44 * fI f0 a0 5 → aI fw53 (ad 4) x = aI f0 (ad 4) x) (j1 : 0 ≤ fI fw53 a0 16) (j2 : fI fw53 a0 16 ≤ 168) (j3 : 0 ≤ fI fw53 a0 15) (j4 : fI fw53 a0 15 ≤ 168) (j5 : fI fw53 a0 14 ≤ 168) (k1 : 0 ≤ fI fw53 a0 20) (u5 : fI fw53 a0 5 = fI f0 a0 5) (u9 : fI fw53 a0 9 = 0) (n11 : fI f0 a0 5 ≤ 11) (H : Heap) (locs : List Loc) (ls : Array Slot) (hw : Wd D A s.heap L0 fw53 H locs) (hl : lv_has ls 2 [(0, .ref a0)]), W p l e ({ frames := 10, cells := 0, slots := 0, locals := 210 } : Room) s m ([.ref a0] : List Value).toArray below meth c H locs (0) (0) (MQ below (Qi D (tq cy) L0 f0 s.heap.size (fun (r : Int) (L1 : List Nat) (f1 : Nat → va_E) => L0 = L1 ∧ MS cy L0 f1 a0 ad ∧ Kp a0 ad [4, 21] [5, 9, 10, 14, 15, 16, 17, 18, 19, 20, 22] f0 f1 ∧ (MV f1 a0 ad ∧ fI f1 a0 9 = 0 ∧ 0 ≤ fI f1 a0 15 ∧ fI f1 a0 15 ≤ 168))) ([.ref a0] : List Value).toArray s 0 0 A) (F0 m 53 ls []) := by
    intro L fw53 hs hE h4 j1 j2 j3 j4 j5 k1 u5 u9 n11 H locs ls hw hl
    refine lv_aload_n hx hb dX10_book_53 rfl (lv_at hl 0 rfl) ?_
    obtain ⟨t_44, v_t_44, h_t_44⟩ : ∃ q v : Nat, ∀ (A : Nat → Prop) (U : State) (H : Heap), Z A U H → vk_R RX10 206 "book" q U ∧ Tx [98, 111, 111, 107] q v A U H := ztx_37 zo
    obtain ⟨b_t_44, eb_t_44⟩ : ∃ b : List Int32, b = [98, 111, 111, 107] := ⟨_, rfl⟩
    have nb_t_44 : Asc b_t_44 := by rw [eb_t_44]; exact ⟨by decide, by decide +kernel⟩
    have tx_t_44 : ∀ (A : Nat → Prop) (U : State) (H : Heap), Z A U H → Tx b_t_44 t_44 v_t_44 A U H := fun A U H h => by rw [eb_t_44]; exact (h_t_44 A U H h).2
    refine va_ldcS hx hb hown (h_t_44 _ _ _ hZ).1 dX10_book_54 ?_
    refine q_call_v hA hK hw (va_runV (As := [.ref t_44]) (rest := []) ⟨hx, hb, hml, hown, hts⟩ (c_X10_must zo l D cy L0 fw53 a0 t_44 b_t_44 v_t_44 nb_t_44 tx_t_44 ad hs (by omega) (by omega) (by omega) (by omega) (by omega) (by omega) _) (cwV 1 hts (gT (inV (mr19 _ (List.mem_of_getElem? (i := 23) rfl)) (mr20 _ (List.mem_of_getElem? (i := 0) rfl)) (mr20 _ (List.mem_of_getElem? (i := 1) rfl)) (mr1 _ (List.mem_of_getElem? (i := 5) rfl)) (mr20 _ (List.mem_of_getElem? (i := 2) rfl)))) rfl rfl rfl (by decide +kernel) ⟨Nat.le_of_ble_eq_true rfl, Nat.le_of_ble_eq_true rfl⟩) (Wd.preV zo hA hZ hw hK hs.1 hs.2.1 rfl) rfl rfl hl.1 rfl (lv_room (Nat.le_of_ble_eq_true rfl)) dX10_book_56 ⟨Nat.le_of_ble_eq_true rfl, Nat.le_of_ble_eq_true rfl⟩) (fun L1 f_46 H locs ex_45 hw => ?_)
    obtain ⟨rfl, hs, hX, ex_45⟩ := ex_45
    have hE := hE.trans (hX.mono (rs' := [4, 21]) (fs' := [5, 9, 10, 14, 15, 16, 17, 18, 19, 20, 22]) (by decide) (by decide))
    have t5_f_46 : fI f_46 a0 5 = fI fw53 a0 5 := hX.2 5 (by decide)
    have t9_f_46 : fI f_46 a0 9 = fI fw53 a0 9 := hX.2 9 (by decide)
    have t14_f_46 : fI f_46 a0 14 = fI fw53 a0 14 := hX.2 14 (by decide)
    have t22_f_46 : fI f_46 a0 22 = fI fw53 a0 22 := hX.2 22 (by decide)
    have c21_1_f_46 : aI f_46 (ad 21) 1 = aI fw53 (ad 21) 1 := hX.1 21 rfl (by decide) _
    have c21_2_f_46 : aI f_46 (ad 21) 2 = aI fw53 (ad 21) 2 := hX.1 21 rfl (by decide) _
    have c21_3_f_46 : aI f_46 (ad 21) 3 = aI fw53 (ad 21) 3 := hX.1 21 rfl (by decide) _
    have c21_4_f_46 : aI f_46 (ad 21) 4 = aI fw53 (ad 21) 4 := hX.1 21 rfl (by decide) _
    have c21_5_f_46 : aI f_46 (ad 21) 5 = aI fw53 (ad 21) 5 := hX.1 21 rfl (by decide) _
    have c21_8_f_46 : aI f_46 (ad 21) 8 = aI fw53 (ad 21) 8 := hX.1 21 rfl (by decide) _
    have c21_10_f_46 : aI f_46 (ad 21) 10 = aI fw53 (ad 21) 10 := hX.1 21 rfl (by decide) _
    have c21_11_f_46 : aI f_46 (ad 21) 11 = aI fw53 (ad 21) 11 := hX.1 21 rfl (by decide) _
    have h4 : ∀ x : Int, 0 ≤ x → x < 44 * fI f0 a0 5 → aI f_46 (ad 4) x = aI f0 (ad 4) x := fun x q0 q1 => (hX.1 4 rfl (by decide) x).trans (h4 x q0 q1)
    exact J59 L0 f_46 hs hE h4 (by omega) (by omega) (by omega) (by omega) (by omega) (by omega) (by omega) (by omega) (by omega) _ _ _ hw (lv_sub hl [0] rfl)
  refine lv_aload_n hx hb dX10_book_0 rfl (lv_at hl 0 rfl) ?_
  refine q_iconst hx hb dX10_book_1 ?_
  refine q_puti (ci := 8) (C := RX10) (T := TX10) (N := 26) hx hb hts (fun w h => List.mem_cons_of_mem _ (mfX100 w h)) hown hK hw hs.1 hs.2.1 rfl 10 (by decide) (hts _ (List.mem_cons_of_mem _ (mr4 _ (List.mem_of_getElem? (i := 19) rfl)))) (fun _ h => h) tyX10 tyX10_ok nmX10 rfl (ty := .int) (by decide +kernel) rfl rfl dX10_book_2 (fun H locs hw => ?_)
  obtain ⟨f_47, ef_47⟩ : ∃ g : Nat → va_E, g = pU f0 a0 10 (.int (iI 0)) := ⟨_, rfl⟩
  have v10_f_47 : fI f_47 a0 10 = 0 := by rw [ef_47]; exact fI_pU_self hs.2.1 rfl ⟨by decide, by decide⟩
  have t5_f_47 : fI f_47 a0 5 = fI f0 a0 5 := by rw [ef_47]; exact fI_pU (Or.inr (by decide))
  have t9_f_47 : fI f_47 a0 9 = fI f0 a0 9 := by rw [ef_47]; exact fI_pU (Or.inr (by decide))
  have t14_f_47 : fI f_47 a0 14 = fI f0 a0 14 := by rw [ef_47]; exact fI_pU (Or.inr (by decide))
  have t15_f_47 : fI f_47 a0 15 = fI f0 a0 15 := by rw [ef_47]; exact fI_pU (Or.inr (by decide))
  have t16_f_47 : fI f_47 a0 16 = fI f0 a0 16 := by rw [ef_47]; exact fI_pU (Or.inr (by decide))
  have t17_f_47 : fI f_47 a0 17 = fI f0 a0 17 := by rw [ef_47]; exact fI_pU (Or.inr (by decide))
  have t20_f_47 : fI f_47 a0 20 = fI f0 a0 20 := by rw [ef_47]; exact fI_pU (Or.inr (by decide))
  have t22_f_47 : fI f_47 a0 22 = fI f0 a0 22 := by rw [ef_47]; exact fI_pU (Or.inr (by decide))
  have hE := hE.trans (show Kp a0 ad [4, 21] [5, 9, 10, 14, 15, 16, 17, 18, 19, 20, 22] f0 f_47 by rw [ef_47]; exact Kp_pU hs (by decide))
  have hs_ := hs
  have hs : MS cy L0 f_47 a0 ad := by rw [ef_47]; exact MS_pU hs rfl
  rw [← ef_47] at hw
  have c21_1_f_47 : aI f_47 (ad 21) 1 = aI f0 (ad 21) 1 := by rw [ef_47]; exact hs_.aI_pU _ _
  have c21_2_f_47 : aI f_47 (ad 21) 2 = aI f0 (ad 21) 2 := by rw [ef_47]; exact hs_.aI_pU _ _
  have c21_3_f_47 : aI f_47 (ad 21) 3 = aI f0 (ad 21) 3 := by rw [ef_47]; exact hs_.aI_pU _ _
  have c21_4_f_47 : aI f_47 (ad 21) 4 = aI f0 (ad 21) 4 := by rw [ef_47]; exact hs_.aI_pU _ _
  have c21_5_f_47 : aI f_47 (ad 21) 5 = aI f0 (ad 21) 5 := by rw [ef_47]; exact hs_.aI_pU _ _
  have c21_8_f_47 : aI f_47 (ad 21) 8 = aI f0 (ad 21) 8 := by rw [ef_47]; exact hs_.aI_pU _ _
  have c21_10_f_47 : aI f_47 (ad 21) 10 = aI f0 (ad 21) 10 := by rw [ef_47]; exact hs_.aI_pU _ _
  have c21_11_f_47 : aI f_47 (ad 21) 11 = aI f0 (ad 21) 11 := by rw [ef_47]; exact hs_.aI_pU _ _
  have h4 : ∀ x : Int, 0 ≤ x → x < 44 * fI f0 a0 5 → aI f_47 (ad 4) x = aI f0 (ad 4) x := fun x q0 q1 => Eq.trans (by rw [ef_47]; exact hs_.aI_pU _ _) (h4 x q0 q1)
  refine lv_aload_n hx hb dX10_book_5 rfl (lv_at hl 0 rfl) ?_
  refine lv_aload_n hx hb dX10_book_6 rfl (lv_at hl 0 rfl) ?_
  refine q_geti (ci := 8) (C := RX10) (T := TX10) (N := 26) hx hb hts (fun w h => List.mem_cons_of_mem _ (mfX100 w h)) hown hK hw hs.1 hs.2.1 rfl 9 (by decide) (hts _ (List.mem_cons_of_mem _ (mr4 _ (List.mem_of_getElem? (i := 20) rfl)))) (fun _ h => h) rfl dX10_book_7 (fun x_48 lx_48 ux_48 ex_48 => ?_)
  refine q_puti (ci := 8) (C := RX10) (T := TX10) (N := 26) hx hb hts (fun w h => List.mem_cons_of_mem _ (mfX100 w h)) hown hK hw hs.1 hs.2.1 rfl 14 (by decide) (hts _ (List.mem_cons_of_mem _ (mr19 _ (List.mem_of_getElem? (i := 0) rfl)))) (fun _ h => h) tyX10 tyX10_ok nmX10 rfl (ty := .int) (by decide +kernel) rfl rfl dX10_book_10 (fun H locs hw => ?_)
  obtain ⟨f_49, ef_49⟩ : ∃ g : Nat → va_E, g = pU f_47 a0 14 (.int (iI x_48)) := ⟨_, rfl⟩
  have v14_f_49 : fI f_49 a0 14 = x_48 := by rw [ef_49]; exact fI_pU_self hs.2.1 rfl ⟨lx_48, ux_48⟩
  have t5_f_49 : fI f_49 a0 5 = fI f_47 a0 5 := by rw [ef_49]; exact fI_pU (Or.inr (by decide))
  have t9_f_49 : fI f_49 a0 9 = fI f_47 a0 9 := by rw [ef_49]; exact fI_pU (Or.inr (by decide))
  have t15_f_49 : fI f_49 a0 15 = fI f_47 a0 15 := by rw [ef_49]; exact fI_pU (Or.inr (by decide))
  have t16_f_49 : fI f_49 a0 16 = fI f_47 a0 16 := by rw [ef_49]; exact fI_pU (Or.inr (by decide))
  have t17_f_49 : fI f_49 a0 17 = fI f_47 a0 17 := by rw [ef_49]; exact fI_pU (Or.inr (by decide))
  have t20_f_49 : fI f_49 a0 20 = fI f_47 a0 20 := by rw [ef_49]; exact fI_pU (Or.inr (by decide))
  have t22_f_49 : fI f_49 a0 22 = fI f_47 a0 22 := by rw [ef_49]; exact fI_pU (Or.inr (by decide))
  have hE := hE.trans (show Kp a0 ad [4, 21] [5, 9, 10, 14, 15, 16, 17, 18, 19, 20, 22] f_47 f_49 by rw [ef_49]; exact Kp_pU hs (by decide))
  have hs_ := hs
  have hs : MS cy L0 f_49 a0 ad := by rw [ef_49]; exact MS_pU hs rfl
  rw [← ef_49] at hw
  have c21_1_f_49 : aI f_49 (ad 21) 1 = aI f_47 (ad 21) 1 := by rw [ef_49]; exact hs_.aI_pU _ _
  have c21_2_f_49 : aI f_49 (ad 21) 2 = aI f_47 (ad 21) 2 := by rw [ef_49]; exact hs_.aI_pU _ _
  have c21_3_f_49 : aI f_49 (ad 21) 3 = aI f_47 (ad 21) 3 := by rw [ef_49]; exact hs_.aI_pU _ _
  have c21_4_f_49 : aI f_49 (ad 21) 4 = aI f_47 (ad 21) 4 := by rw [ef_49]; exact hs_.aI_pU _ _
  have c21_5_f_49 : aI f_49 (ad 21) 5 = aI f_47 (ad 21) 5 := by rw [ef_49]; exact hs_.aI_pU _ _
  have c21_8_f_49 : aI f_49 (ad 21) 8 = aI f_47 (ad 21) 8 := by rw [ef_49]; exact hs_.aI_pU _ _
  have c21_10_f_49 : aI f_49 (ad 21) 10 = aI f_47 (ad 21) 10 := by rw [ef_49]; exact hs_.aI_pU _ _
  have c21_11_f_49 : aI f_49 (ad 21) 11 = aI f_47 (ad 21) 11 := by rw [ef_49]; exact hs_.aI_pU _ _
  have h4 : ∀ x : Int, 0 ≤ x → x < 44 * fI f0 a0 5 → aI f_49 (ad 4) x = aI f0 (ad 4) x := fun x q0 q1 => Eq.trans (by rw [ef_49]; exact hs_.aI_pU _ _) (h4 x q0 q1)
  refine lv_aload_n hx hb dX10_book_13 rfl (lv_at hl 0 rfl) ?_
  refine q_iconst hx hb dX10_book_14 ?_
  refine q_puti (ci := 8) (C := RX10) (T := TX10) (N := 26) hx hb hts (fun w h => List.mem_cons_of_mem _ (mfX100 w h)) hown hK hw hs.1 hs.2.1 rfl 9 (by decide) (hts _ (List.mem_cons_of_mem _ (mr4 _ (List.mem_of_getElem? (i := 20) rfl)))) (fun _ h => h) tyX10 tyX10_ok nmX10 rfl (ty := .int) (by decide +kernel) rfl rfl dX10_book_15 (fun H locs hw => ?_)
  obtain ⟨f_50, ef_50⟩ : ∃ g : Nat → va_E, g = pU f_49 a0 9 (.int (iI 0)) := ⟨_, rfl⟩
  have v9_f_50 : fI f_50 a0 9 = 0 := by rw [ef_50]; exact fI_pU_self hs.2.1 rfl ⟨by decide, by decide⟩
  have t5_f_50 : fI f_50 a0 5 = fI f_49 a0 5 := by rw [ef_50]; exact fI_pU (Or.inr (by decide))
  have t14_f_50 : fI f_50 a0 14 = fI f_49 a0 14 := by rw [ef_50]; exact fI_pU (Or.inr (by decide))
  have t15_f_50 : fI f_50 a0 15 = fI f_49 a0 15 := by rw [ef_50]; exact fI_pU (Or.inr (by decide))
  have t16_f_50 : fI f_50 a0 16 = fI f_49 a0 16 := by rw [ef_50]; exact fI_pU (Or.inr (by decide))
  have t17_f_50 : fI f_50 a0 17 = fI f_49 a0 17 := by rw [ef_50]; exact fI_pU (Or.inr (by decide))
  have t20_f_50 : fI f_50 a0 20 = fI f_49 a0 20 := by rw [ef_50]; exact fI_pU (Or.inr (by decide))
  have t22_f_50 : fI f_50 a0 22 = fI f_49 a0 22 := by rw [ef_50]; exact fI_pU (Or.inr (by decide))
  have hE := hE.trans (show Kp a0 ad [4, 21] [5, 9, 10, 14, 15, 16, 17, 18, 19, 20, 22] f_49 f_50 by rw [ef_50]; exact Kp_pU hs (by decide))
  have hs_ := hs
  have hs : MS cy L0 f_50 a0 ad := by rw [ef_50]; exact MS_pU hs rfl
  rw [← ef_50] at hw
  have c21_1_f_50 : aI f_50 (ad 21) 1 = aI f_49 (ad 21) 1 := by rw [ef_50]; exact hs_.aI_pU _ _
  have c21_2_f_50 : aI f_50 (ad 21) 2 = aI f_49 (ad 21) 2 := by rw [ef_50]; exact hs_.aI_pU _ _
  have c21_3_f_50 : aI f_50 (ad 21) 3 = aI f_49 (ad 21) 3 := by rw [ef_50]; exact hs_.aI_pU _ _
  have c21_4_f_50 : aI f_50 (ad 21) 4 = aI f_49 (ad 21) 4 := by rw [ef_50]; exact hs_.aI_pU _ _
  have c21_5_f_50 : aI f_50 (ad 21) 5 = aI f_49 (ad 21) 5 := by rw [ef_50]; exact hs_.aI_pU _ _
  have c21_8_f_50 : aI f_50 (ad 21) 8 = aI f_49 (ad 21) 8 := by rw [ef_50]; exact hs_.aI_pU _ _
  have c21_10_f_50 : aI f_50 (ad 21) 10 = aI f_49 (ad 21) 10 := by rw [ef_50]; exact hs_.aI_pU _ _
  have c21_11_f_50 : aI f_50 (ad 21) 11 = aI f_49 (ad 21) 11 := by rw [ef_50]; exact hs_.aI_pU _ _
  have h4 : ∀ x : Int, 0 ≤ x → x < 44 * fI f0 a0 5 → aI f_50 (ad 4) x = aI f0 (ad 4) x := fun x q0 q1 => Eq.trans (by rw [ef_50]; exact hs_.aI_pU _ _) (h4 x q0 q1)
  refine lv_aload_n hx hb dX10_book_18 rfl (lv_at hl 0 rfl) ?_
  refine q_geti (ci := 8) (C := RX10) (T := TX10) (N := 26) hx hb hts (fun w h => List.mem_cons_of_mem _ (mfX100 w h)) hown hK hw hs.1 hs.2.1 rfl 14 (by decide) (hts _ (List.mem_cons_of_mem _ (mr19 _ (List.mem_of_getElem? (i := 0) rfl)))) (fun _ h => h) rfl dX10_book_19 (fun x_51 lx_51 ux_51 ex_51 => ?_)
  refine q_sipush hx hb dX10_book_22 rfl ?_
  refine q_icmp_gt (tgt := 37) hx hb dX10_book_25 (by decide) ⟨lx_51, ux_51⟩ ⟨by decide, by decide⟩ (fun c25 => ?_) (fun c25 => ?_)
  · refine q_iconst hx hb dX10_book_37 ?_
    exact q_ret_i hx hb hr hlocks hK hAe hw ⟨by decide, by decide⟩ (Nat.le_of_ble_eq_true rfl) (Nat.le_of_ble_eq_true rfl) dX10_book_38 (by exact ⟨rfl, hs, hE, hv.same (by omega) h4, by omega, by omega, by omega⟩)
  · refine lv_aload_n hx hb dX10_book_28 rfl (lv_at hl 0 rfl) ?_
    refine q_geti (ci := 8) (C := RX10) (T := TX10) (N := 26) hx hb hts (fun w h => List.mem_cons_of_mem _ (mfX100 w h)) hown hK hw hs.1 hs.2.1 rfl 5 (by decide) (hts _ (List.mem_cons_of_mem _ (mr19 _ (List.mem_of_getElem? (i := 1) rfl)))) (fun _ h => h) rfl dX10_book_29 (fun x_52 lx_52 ux_52 ex_52 => ?_)
    refine q_bipush hx hb dX10_book_32 rfl ?_
    refine q_icmp_ne (tgt := 39) hx hb dX10_book_34 (by decide) ⟨lx_52, ux_52⟩ ⟨by decide, by decide⟩ (fun c34 => ?_) (fun c34 => ?_)
    · refine lv_aload_n hx hb dX10_book_39 rfl (lv_at hl 0 rfl) ?_
      refine q_iconst hx hb dX10_book_40 ?_
      refine q_puti (ci := 8) (C := RX10) (T := TX10) (N := 26) hx hb hts (fun w h => List.mem_cons_of_mem _ (mfX100 w h)) hown hK hw hs.1 hs.2.1 rfl 20 (by decide) (hts _ (List.mem_cons_of_mem _ (mr19 _ (List.mem_of_getElem? (i := 2) rfl)))) (fun _ h => h) tyX10 tyX10_ok nmX10 rfl (ty := .int) (by decide +kernel) rfl rfl dX10_book_41 (fun H locs hw => ?_)
      obtain ⟨f_53, ef_53⟩ : ∃ g : Nat → va_E, g = pU f_50 a0 20 (.int (iI 0)) := ⟨_, rfl⟩
      have v20_f_53 : fI f_53 a0 20 = 0 := by rw [ef_53]; exact fI_pU_self hs.2.1 rfl ⟨by decide, by decide⟩
      have t5_f_53 : fI f_53 a0 5 = fI f_50 a0 5 := by rw [ef_53]; exact fI_pU (Or.inr (by decide))
      have t9_f_53 : fI f_53 a0 9 = fI f_50 a0 9 := by rw [ef_53]; exact fI_pU (Or.inr (by decide))
      have t14_f_53 : fI f_53 a0 14 = fI f_50 a0 14 := by rw [ef_53]; exact fI_pU (Or.inr (by decide))
      have t15_f_53 : fI f_53 a0 15 = fI f_50 a0 15 := by rw [ef_53]; exact fI_pU (Or.inr (by decide))
      have t16_f_53 : fI f_53 a0 16 = fI f_50 a0 16 := by rw [ef_53]; exact fI_pU (Or.inr (by decide))
      have t17_f_53 : fI f_53 a0 17 = fI f_50 a0 17 := by rw [ef_53]; exact fI_pU (Or.inr (by decide))
      have t22_f_53 : fI f_53 a0 22 = fI f_50 a0 22 := by rw [ef_53]; exact fI_pU (Or.inr (by decide))
      have hE := hE.trans (show Kp a0 ad [4, 21] [5, 9, 10, 14, 15, 16, 17, 18, 19, 20, 22] f_50 f_53 by rw [ef_53]; exact Kp_pU hs (by decide))
      have hs_ := hs
      have hs : MS cy L0 f_53 a0 ad := by rw [ef_53]; exact MS_pU hs rfl
      rw [← ef_53] at hw
      have c21_1_f_53 : aI f_53 (ad 21) 1 = aI f_50 (ad 21) 1 := by rw [ef_53]; exact hs_.aI_pU _ _
      have c21_2_f_53 : aI f_53 (ad 21) 2 = aI f_50 (ad 21) 2 := by rw [ef_53]; exact hs_.aI_pU _ _
      have c21_3_f_53 : aI f_53 (ad 21) 3 = aI f_50 (ad 21) 3 := by rw [ef_53]; exact hs_.aI_pU _ _
      have c21_4_f_53 : aI f_53 (ad 21) 4 = aI f_50 (ad 21) 4 := by rw [ef_53]; exact hs_.aI_pU _ _
      have c21_5_f_53 : aI f_53 (ad 21) 5 = aI f_50 (ad 21) 5 := by rw [ef_53]; exact hs_.aI_pU _ _
      have c21_8_f_53 : aI f_53 (ad 21) 8 = aI f_50 (ad 21) 8 := by rw [ef_53]; exact hs_.aI_pU _ _
      have c21_10_f_53 : aI f_53 (ad 21) 10 = aI f_50 (ad 21) 10 := by rw [ef_53]; exact hs_.aI_pU _ _
      have c21_11_f_53 : aI f_53 (ad 21) 11 = aI f_50 (ad 21) 11 := by rw [ef_53]; exact hs_.aI_pU _ _
      have h4 : ∀ x : Int, 0 ≤ x → x < 44 * fI f0 a0 5 → aI f_53 (ad 4) x = aI f0 (ad 4) x := fun x q0 q1 => Eq.trans (by rw [ef_53]; exact hs_.aI_pU _ _) (h4 x q0 q1)
      refine lv_aload_n hx hb dX10_book_44 rfl (lv_at hl 0 rfl) ?_
      refine q_iconst hx hb dX10_book_45 ?_
      refine q_puti (ci := 8) (C := RX10) (T := TX10) (N := 26) hx hb hts (fun w h => List.mem_cons_of_mem _ (mfX100 w h)) hown hK hw hs.1 hs.2.1 rfl 16 (by decide) (hts _ (List.mem_cons_of_mem _ (mr19 _ (List.mem_of_getElem? (i := 3) rfl)))) (fun _ h => h) tyX10 tyX10_ok nmX10 rfl (ty := .int) (by decide +kernel) rfl rfl dX10_book_46 (fun H locs hw => ?_)
      obtain ⟨f_54, ef_54⟩ : ∃ g : Nat → va_E, g = pU f_53 a0 16 (.int (iI 0)) := ⟨_, rfl⟩
      have v16_f_54 : fI f_54 a0 16 = 0 := by rw [ef_54]; exact fI_pU_self hs.2.1 rfl ⟨by decide, by decide⟩
      have t5_f_54 : fI f_54 a0 5 = fI f_53 a0 5 := by rw [ef_54]; exact fI_pU (Or.inr (by decide))
      have t9_f_54 : fI f_54 a0 9 = fI f_53 a0 9 := by rw [ef_54]; exact fI_pU (Or.inr (by decide))
      have t14_f_54 : fI f_54 a0 14 = fI f_53 a0 14 := by rw [ef_54]; exact fI_pU (Or.inr (by decide))
      have t15_f_54 : fI f_54 a0 15 = fI f_53 a0 15 := by rw [ef_54]; exact fI_pU (Or.inr (by decide))
      have t17_f_54 : fI f_54 a0 17 = fI f_53 a0 17 := by rw [ef_54]; exact fI_pU (Or.inr (by decide))
      have t20_f_54 : fI f_54 a0 20 = fI f_53 a0 20 := by rw [ef_54]; exact fI_pU (Or.inr (by decide))
      have t22_f_54 : fI f_54 a0 22 = fI f_53 a0 22 := by rw [ef_54]; exact fI_pU (Or.inr (by decide))
      have hE := hE.trans (show Kp a0 ad [4, 21] [5, 9, 10, 14, 15, 16, 17, 18, 19, 20, 22] f_53 f_54 by rw [ef_54]; exact Kp_pU hs (by decide))
      have hs_ := hs
      have hs : MS cy L0 f_54 a0 ad := by rw [ef_54]; exact MS_pU hs rfl
      rw [← ef_54] at hw
      have c21_1_f_54 : aI f_54 (ad 21) 1 = aI f_53 (ad 21) 1 := by rw [ef_54]; exact hs_.aI_pU _ _
      have c21_2_f_54 : aI f_54 (ad 21) 2 = aI f_53 (ad 21) 2 := by rw [ef_54]; exact hs_.aI_pU _ _
      have c21_3_f_54 : aI f_54 (ad 21) 3 = aI f_53 (ad 21) 3 := by rw [ef_54]; exact hs_.aI_pU _ _
      have c21_4_f_54 : aI f_54 (ad 21) 4 = aI f_53 (ad 21) 4 := by rw [ef_54]; exact hs_.aI_pU _ _
      have c21_5_f_54 : aI f_54 (ad 21) 5 = aI f_53 (ad 21) 5 := by rw [ef_54]; exact hs_.aI_pU _ _
      have c21_8_f_54 : aI f_54 (ad 21) 8 = aI f_53 (ad 21) 8 := by rw [ef_54]; exact hs_.aI_pU _ _
      have c21_10_f_54 : aI f_54 (ad 21) 10 = aI f_53 (ad 21) 10 := by rw [ef_54]; exact hs_.aI_pU _ _
      have c21_11_f_54 : aI f_54 (ad 21) 11 = aI f_53 (ad 21) 11 := by rw [ef_54]; exact hs_.aI_pU _ _
      have h4 : ∀ x : Int, 0 ≤ x → x < 44 * fI f0 a0 5 → aI f_54 (ad 4) x = aI f0 (ad 4) x := fun x q0 q1 => Eq.trans (by rw [ef_54]; exact hs_.aI_pU _ _) (h4 x q0 q1)
      refine lv_aload_n hx hb dX10_book_49 rfl (lv_at hl 0 rfl) ?_
      refine q_call_v hA hK hw (va_runV (As := []) (rest := []) ⟨hx, hb, hml, hown, hts⟩ (c_X10_next zo l D cy L0 f_54 a0 ad hs (by omega) (by omega) (by omega) (by omega) (by omega) _) (cwV 0 hts (gT (inV (mr19 _ (List.mem_of_getElem? (i := 4) rfl)) (mr19 _ (List.mem_of_getElem? (i := 5) rfl)) (mr19 _ (List.mem_of_getElem? (i := 6) rfl)) (mr1 _ (List.mem_of_getElem? (i := 5) rfl)) (mr19 _ (List.mem_of_getElem? (i := 7) rfl)))) rfl rfl rfl (by decide +kernel) ⟨Nat.le_of_ble_eq_true rfl, Nat.le_of_ble_eq_true rfl⟩) (Wd.preV zo hA hZ hw hK hs.1 hs.2.1 rfl) rfl rfl hl.1 rfl (lv_room (Nat.le_of_ble_eq_true rfl)) dX10_book_50 ⟨Nat.le_of_ble_eq_true rfl, Nat.le_of_ble_eq_true rfl⟩) (fun L1 f_56 H locs ex_55 hw => ?_)
      obtain ⟨rfl, hs, hX, ex_55⟩ := ex_55
      have hE := hE.trans (hX.mono (rs' := [4, 21]) (fs' := [5, 9, 10, 14, 15, 16, 17, 18, 19, 20, 22]) (by decide) (by decide))
      have t5_f_56 : fI f_56 a0 5 = fI f_54 a0 5 := hX.2 5 (by decide)
      have t9_f_56 : fI f_56 a0 9 = fI f_54 a0 9 := hX.2 9 (by decide)
      have t14_f_56 : fI f_56 a0 14 = fI f_54 a0 14 := hX.2 14 (by decide)
      have t20_f_56 : fI f_56 a0 20 = fI f_54 a0 20 := hX.2 20 (by decide)
      have t22_f_56 : fI f_56 a0 22 = fI f_54 a0 22 := hX.2 22 (by decide)
      have c21_1_f_56 : aI f_56 (ad 21) 1 = aI f_54 (ad 21) 1 := hX.1 21 rfl (by decide) _
      have c21_2_f_56 : aI f_56 (ad 21) 2 = aI f_54 (ad 21) 2 := hX.1 21 rfl (by decide) _
      have c21_3_f_56 : aI f_56 (ad 21) 3 = aI f_54 (ad 21) 3 := hX.1 21 rfl (by decide) _
      have c21_4_f_56 : aI f_56 (ad 21) 4 = aI f_54 (ad 21) 4 := hX.1 21 rfl (by decide) _
      have c21_5_f_56 : aI f_56 (ad 21) 5 = aI f_54 (ad 21) 5 := hX.1 21 rfl (by decide) _
      have c21_8_f_56 : aI f_56 (ad 21) 8 = aI f_54 (ad 21) 8 := hX.1 21 rfl (by decide) _
      have c21_10_f_56 : aI f_56 (ad 21) 10 = aI f_54 (ad 21) 10 := hX.1 21 rfl (by decide) _
      have c21_11_f_56 : aI f_56 (ad 21) 11 = aI f_54 (ad 21) 11 := hX.1 21 rfl (by decide) _
      have h4 : ∀ x : Int, 0 ≤ x → x < 44 * fI f0 a0 5 → aI f_56 (ad 4) x = aI f0 (ad 4) x := fun x q0 q1 => (hX.1 4 rfl (by decide) x).trans (h4 x q0 q1)
      exact J53 L0 f_56 hs hE h4 (by omega) (by omega) (by omega) (by omega) (by omega) (by omega) (by omega) (by omega) (by omega) _ _ _ hw (lv_sub hl [0] rfl)
    · refine q_iconst hx hb dX10_book_37 ?_
      exact q_ret_i hx hb hr hlocks hK hAe hw ⟨by decide, by decide⟩ (Nat.le_of_ble_eq_true rfl) (Nat.le_of_ble_eq_true rfl) dX10_book_38 (by exact ⟨rfl, hs, hE, hv.same (by omega) h4, by omega, by omega, by omega⟩)
