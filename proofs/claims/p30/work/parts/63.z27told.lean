/-! ===== told: rooms and images as bits ===== -/
def rbS (g : Int → Int) : Nat → Int
  | 0 => 0
  | n + 1 => (iI (rbS g n) ||| iI ((iI 1 <<< (iI (g (44 * (n : Int))) &&& 31)).toInt)).toInt
theorem rb_step {g : Int → Int} {y1 y2 x4 x5 x6 x7 : Int} (i3 : y1 = rbS g y2.toNat) (e4 : x4 = g (44 * y2)) (e5 : x5 = (iI 1 <<< (iI x4 &&& 31)).toInt) (e6 : x6 = (iI y1 ||| iI x5).toInt) (e7 : x7 = y2 + 1) (h0 : 0 ≤ y2) : x6 = rbS g x7.toNat := by
  have t : x7.toNat = y2.toNat + 1 := by omega
  rw [t]
  show x6 = (iI (rbS g y2.toNat) ||| iI ((iI 1 <<< (iI (g (44 * ((y2.toNat : Nat) : Int))) &&& 31)).toInt)).toInt
  rw [← i3, show ((y2.toNat : Nat) : Int) = y2 by omega, ← e4, ← e5]
  exact e6
def imF (N : Int → Int) : Int := (if N 0 < 0 then 0 else 1) + (if N 1 < 0 then 0 else 2)
def imS (N : Int → Int) : Nat → Int
  | 0 => 0
  | n + 1 => if N (n : Int) < 0 then imS N n else (iI (imS N n) ||| iI ((iI 1 <<< (iI (n : Int) &&& 31)).toInt)).toInt
theorem imS_2 (N : Int → Int) : imS N (2 : Int).toNat = imF N := by
  show (if N ((1 : Nat) : Int) < 0 then (if N ((0 : Nat) : Int) < 0 then 0 else (iI 0 ||| iI ((iI 1 <<< (iI ((0 : Nat) : Int) &&& 31)).toInt)).toInt) else (iI (if N ((0 : Nat) : Int) < 0 then 0 else (iI 0 ||| iI ((iI 1 <<< (iI ((0 : Nat) : Int) &&& 31)).toInt)).toInt) ||| iI ((iI 1 <<< (iI ((1 : Nat) : Int) &&& 31)).toInt)).toInt) = imF N
  unfold imF
  by_cases a : N 0 < 0
  · have a' : N ((0 : Nat) : Int) < 0 := a
    by_cases b : N 1 < 0
    · have b' : N ((1 : Nat) : Int) < 0 := b
      rw [if_pos b', if_pos a', if_pos a, if_pos b]; rfl
    · have b' : ¬ N ((1 : Nat) : Int) < 0 := b
      rw [if_neg b', if_pos a', if_pos a, if_neg b]; decide
  · have a' : ¬ N ((0 : Nat) : Int) < 0 := a
    by_cases b : N 1 < 0
    · have b' : N ((1 : Nat) : Int) < 0 := b
      rw [if_pos b', if_neg a', if_neg a, if_pos b]; decide
    · have b' : ¬ N ((1 : Nat) : Int) < 0 := b
      rw [if_neg b', if_neg a', if_neg a, if_neg b]; decide
theorem im_no {N : Int → Int} {f : Nat → va_E} {r : Nat} {y1 y2 : Int} (i3 : y1 = imS N y2.toNat) (h : (N y2 = -1 ∧ aR f r y2 = none) ∨ (0 ≤ N y2 ∧ aR f r y2 ≠ none)) (e : aR f r y2 = none) (h0 : 0 ≤ y2) : y1 = imS N (y2 + 1).toNat := by
  rcases h with ⟨q, _⟩ | ⟨q, w⟩
  · have t : (y2 + 1).toNat = y2.toNat + 1 := by omega
    have c : N ((y2.toNat : Nat) : Int) < 0 := by rw [show ((y2.toNat : Nat) : Int) = y2 by omega, q]; decide
    rw [t]
    show y1 = if N ((y2.toNat : Nat) : Int) < 0 then imS N y2.toNat else _
    rw [if_pos c]; exact i3
  · exact absurd e w
theorem im_yes {N : Int → Int} {f : Nat → va_E} {r s : Nat} {y1 y2 x5 x6 : Int} (i3 : y1 = imS N y2.toNat) (h : (N y2 = -1 ∧ aR f r y2 = none) ∨ (0 ≤ N y2 ∧ aR f r y2 ≠ none)) (e : aR f r y2 = some s) (e5 : x5 = (iI 1 <<< (iI y2 &&& 31)).toInt) (e6 : x6 = (iI y1 ||| iI x5).toInt) (h0 : 0 ≤ y2) : x6 = imS N (y2 + 1).toNat := by
  rcases h with ⟨q, w⟩ | ⟨q, w⟩
  · rw [w] at e; cases e
  · have t : (y2 + 1).toNat = y2.toNat + 1 := by omega
    have u : ((y2.toNat : Nat) : Int) = y2 := by omega
    have c : ¬ N ((y2.toNat : Nat) : Int) < 0 := by rw [u]; omega
    rw [t]
    show x6 = if N ((y2.toNat : Nat) : Int) < 0 then imS N y2.toNat else (iI (imS N y2.toNat) ||| iI ((iI 1 <<< (iI ((y2.toNat : Nat) : Int) &&& 31)).toInt)).toInt
    rw [if_neg c, ← i3, u, ← e5]; exact e6
theorem im_arg {N : Int → Int} {z x y2 : Int} (k3 : z = imS N (y2 + 1).toNat) (h : x = y2 + 1) : z = imS N x.toNat := by rw [h]; exact k3
theorem im_ref {N : Int → Int} {z x r : Int} (k3 : z = (if N 0 < 0 then 0 else 1)) (h : x = N 1) (c : (x < 0 ∧ r = z + 0) ∨ (0 ≤ x ∧ r = z + 2)) : r = imF N := by
  unfold imF
  rw [← k3]
  rcases c with ⟨c1, c2⟩ | ⟨c1, c2⟩
  · rw [if_pos (show N 1 < 0 by omega)]; exact c2
  · rw [if_neg (show ¬ N 1 < 0 by omega)]; exact c2
theorem CWm.imn {f fm : Nat → va_E} {x mo im tp : Nat} {ad : Nat → Nat} {rq : Int → Nat} {rr : Int → Int → Nat} (c : CWm f x rq rr im tp fm mo ad) {j : Int} (j0 : 0 ≤ j) (j1 : j ≤ 1) : (aI fm (ad 7) j = -1 ∧ aR f im j = none) ∨ (0 ≤ aI fm (ad 7) j ∧ aR f im j ≠ none) := by
  rcases c.2.2.1 j j0 j1 with ⟨q1, q2⟩ | ⟨q1, q2, s, q3, q4⟩
  · exact Or.inl ⟨q1, q2⟩
  · exact Or.inr ⟨q1, by rw [q3]; exact Option.some_ne_none _⟩
theorem CWm.told {f fm : Nat → va_E} {x mo im tp : Nat} {ad : Nat → Nat} {rq : Int → Nat} {rr : Int → Int → Nat} {r r' c c' : Int} (cw : CWm f x rq rr im tp fm mo ad)
    (e : (c = 0 ∧ r = fI fm mo 5) ∨ (c = 1 ∧ r = fI f x 1) ∨ (c = 2 ∧ r = rbS (aI fm (ad 4)) (fI fm mo 5).toNat) ∨ (c = 3 ∧ r = imF (aI fm (ad 7))) ∨ ((c < 0 ∨ 3 < c) ∧ r = -1))
    (q : (c' = 0 ∧ r' = fI fm mo 5) ∨ (c' = 1 ∧ r' = fI fm mo 9) ∨ (c' = 2 ∧ r' = rbS (aI fm (ad 4)) (fI fm mo 5).toNat) ∨ (c' = 3 ∧ r' = imF (aI fm (ad 7))) ∨ ((c' < 0 ∨ 3 < c') ∧ r' = -1)) (ec : c = c') : r = r' := by
  subst ec
  have hn : fI f x 1 = fI fm mo 9 := cw.2.2.2.2.2.2
  rw [hn] at e
  generalize rbS (aI fm (ad 4)) (fI fm mo 5).toNat = u at e q
  generalize imF (aI fm (ad 7)) = v at e q
  omega
set_option maxHeartbeats 4000000 in
set_option maxRecDepth 100000 in
theorem c_X7_roomBits_f {Z : Zt} (zo : Zok Z) (l : Launch) (D : va_G) (cy : Cy) (L0 : List Nat) (f0 : Nat → va_E) (a0 : Nat) (m_a0 : a0 ∈ L0) (o_a0 : Ob f0 a0 5) (hg : GI cy L0 f0) (rq : Int → Nat) (g : Int → Int) (mm : Int) (sr : SR f0 a0 rq g mm) (m0 : 0 ≤ mm) (m1 : mm ≤ 12) : Ci Z l yX7_roomBits (Cond.code yX7_roomBits cX7_roomBits 3 (some .int) :: TB) ({ frames := 0, cells := 0, slots := 0, locals := 0 } : Room) 0 0 D (tq cy) [.ref a0] L0 f0 (fun (r : Int) (L1 : List Nat) (f1 : Nat → va_E) => L0 = L1 ∧ f0 = f1 ∧ (r = rbS g mm.toNat)) := by
  refine Ci.enter (cc := cX7_roomBits) (n := 3) rfl (plainFor_of_name (by decide)) (Nat.le_of_ble_eq_true rfl) ?_
  intro p e s m below meth c ls A hx hb hr hts hown hlocks hnm hml hK hA hAe hw hZ hl
  have hown : s.vm.findClass RX7 = some m.cls := hown
  have hl : lv_has ls 3 [(0, .ref a0)] := hl
  have hN : ZN s := (zo.2.2.2.2 _ _ _ hZ).2
  have sm := sr.2.1
  refine q_iconst hx hb dX7_roomBits_0 ?_
  refine lv_istore_n (lv' := [(1, .int (iI 0)), (0, .ref a0)]) hx hb dX7_roomBits_1 rfl hl (by decide) rfl (fun ls hl => ?_)
  refine q_iconst hx hb dX7_roomBits_2 ?_
  refine lv_istore_n (lv' := [(2, .int (iI 0)), (1, .int (iI 0)), (0, .ref a0)]) hx hb dX7_roomBits_3 rfl hl (by decide) rfl (fun ls hl => ?_)
  have J4 : ∀ (n4 : Nat) (y1_4 : Int) (ly1_4 : -2147483648 ≤ y1_4) (uy1_4 : y1_4 ≤ 2147483647) (y2_4 : Int) (ly2_4 : -2147483648 ≤ y2_4) (uy2_4 : y2_4 ≤ 2147483647) (i1 : 0 ≤ y2_4) (i2 : y2_4 ≤ mm) (i3 : y1_4 = rbS g (y2_4).toNat) (hn4 : ((2147483647 : Int) - y2_4).toNat < n4) (H : Heap) (locs : List Loc) (ls : Array Slot) (hw : Wd D A s.heap L0 f0 H locs) (hl : lv_has ls 3 [(0, .ref a0), (1, .int (iI y1_4)), (2, .int (iI y2_4))]), W p l e ({ frames := 0, cells := 0, slots := 0, locals := 0 } : Room) s m ([.ref a0] : List Value).toArray below meth c H locs (0) (0) (MQ below (Qi D (tq cy) L0 f0 s.heap.size (fun (r : Int) (L1 : List Nat) (f1 : Nat → va_E) => L0 = L1 ∧ f0 = f1 ∧ (r = rbS g mm.toNat))) ([.ref a0] : List Value).toArray s 0 0 A) (F0 m 4 ls []) := by
    intro n4
    induction n4 with
    | zero => intro y1_4 ly1_4 uy1_4 y2_4 ly2_4 uy2_4 i1 i2 i3 hn4; exact absurd hn4 (Nat.not_lt_zero _)
    | succ n4 ih4 =>
      intro y1_4 ly1_4 uy1_4 y2_4 ly2_4 uy2_4 i1 i2 i3 hn4 H locs ls hw hl
      refine lv_iload_n hx hb dX7_roomBits_4 rfl (lv_at hl 2 rfl) ?_
      refine lv_aload_n hx hb dX7_roomBits_5 rfl (lv_at hl 0 rfl) ?_
      refine q_geti (ci := 5) (C := RX7) (T := TX7) (N := 2) hx hb hts (fun w h => List.mem_cons_of_mem _ (mfX70 w h)) hown hK hw m_a0 o_a0 rfl 1 (by decide) (hts _ (List.mem_cons_of_mem _ (mr2 _ (List.mem_of_getElem? (i := 4) rfl)))) (fun _ h => h) rfl dX7_roomBits_6 (fun x_1 lx_1 ux_1 ex_1 => ?_)
      have bx_1 : 0 ≤ x_1 ∧ x_1 ≤ 12 := by rw [ex_1]; exact hg.1 _ m_a0 5 1 o_a0
      refine q_icmp_ge (tgt := 32) hx hb dX7_roomBits_9 (by decide) ⟨ly2_4, uy2_4⟩ ⟨lx_1, ux_1⟩ (fun c9 => ?_) (fun c9 => ?_)
      · refine lv_iload_n hx hb dX7_roomBits_32 rfl (lv_at hl 1 rfl) ?_
        exact q_ret_i hx hb hr hlocks hK hAe hw ⟨ly1_4, uy1_4⟩ (Nat.le_of_ble_eq_true rfl) (Nat.le_of_ble_eq_true rfl) dX7_roomBits_33 ⟨rfl, rfl, by rw [i3, show y2_4 = mm by omega]⟩
      · refine lv_iload_n hx hb dX7_roomBits_12 rfl (lv_at hl 1 rfl) ?_
        refine q_iconst hx hb dX7_roomBits_13 ?_
        refine lv_aload_n hx hb dX7_roomBits_14 rfl (lv_at hl 0 rfl) ?_
        obtain ⟨r_2, er_2, m_r_2, o_r_2⟩ := (show ∃ r, fR f0 a0 0 = some r ∧ r ∈ L0 ∧ ArR f0 r cy.2.2.2.1 12 from hg.2.1 _ m_a0 5 0 o_a0)
        refine q_getr (ci := 5) (C := RX7) (T := TX7) (N := 2) hx hb hts (fun w h => List.mem_cons_of_mem _ (mfX70 w h)) hown hK hw m_a0 o_a0 rfl 0 (by decide) (hts _ (List.mem_cons_of_mem _ (mr2 _ (List.mem_of_getElem? (i := 3) rfl)))) (fun _ h => h) rfl er_2 dX7_roomBits_15 ?_
        have h15 := er_2
        refine lv_iload_n hx hb dX7_roomBits_18 rfl (lv_at hl 2 rfl) ?_
        obtain ⟨r_3, er_3, m_r_3, o_r_3⟩ := hg.2.2.1 _ m_r_2 y2_4 o_r_2 (by omega) (by omega)
        refine q_aald hx hb hK hw m_r_2 3 o_r_2 rfl ⟨ly2_4, uy2_4⟩ (by omega) (by omega) er_3 dX7_roomBits_19 ?_
        show W _ _ _ _ _ _ _ _ _ _ _ _ _ _ _ (F0 m 20 ls (.ref r_3 :: [.int (iI 1), .int (iI y1_4)]))
        have h19 := er_3
        have rb := sr.rb ⟨_, h15, h19⟩ (by omega) (by omega) (by omega)
        refine q_geti (ci := 0) (C := RX0) (T := TX0) (N := 15) hx hb hts (fun w h => List.mem_cons_of_mem _ (mfX00 w h)) hown hK hw m_r_3 o_r_3 rfl 0 (by decide) (hts _ (List.mem_cons_of_mem _ (mr32 _ (List.mem_of_getElem? (i := 17) rfl)))) (fun _ h => h) rfl dX7_roomBits_20 (fun x_4 lx_4 ux_4 ex_4 => ?_)
        have h20 := ex_4
        refine lv_ishl hx hb dX7_roomBits_23 ?_
        refine q_num (fun x_5 lx_5 ux_5 ex_5 => ?_)
        have h23 := ex_5
        refine lv_ior hx hb dX7_roomBits_24 ?_
        refine q_num (fun x_6 lx_6 ux_6 ex_6 => ?_)
        have h24 := ex_6
        refine lv_istore_n (lv' := [(1, .int (iI x_6)), (0, .ref a0), (2, .int (iI y2_4))]) hx hb dX7_roomBits_25 rfl hl (by decide) rfl (fun ls hl => ?_)
        obtain ⟨x_7, lx_7, ux_7, hx_7, ex_7⟩ := q_inc y2_4 (1)
        try (replace ex_7 : x_7 = y2_4 + (1) := by omega)
        refine lv_iinc (v := iI x_7) (lv' := [(2, .int (iI x_7)), (1, .int (iI x_6)), (0, .ref a0)]) hx hb dX7_roomBits_26 hl (k := 2) rfl hx_7 (by decide) rfl (fun ls hl => ?_)
        refine lv_goto (tgt := 4) hx hb dX7_roomBits_29 (by decide) ?_
        exact ih4 x_6 lx_6 ux_6 x_7 lx_7 ux_7 (by omega) (by omega) (by first | rfl | exact rb_step i3 (h20.trans rb.1.1.1) h23 h24 (by omega) (by omega) | fail "none") (by omega) _ _ _ hw (lv_sub hl [2, 1, 0] rfl)
  exact J4 ((((2147483647 : Int) - 0).toNat) + 1) 0 (by decide) (by decide) 0 (by decide) (by decide) (by omega) (by omega) (by first | rfl | exact rb_step i3 (h20.trans rb.1.1.1) h23 h24 (by omega) (by omega) | fail "none") (by omega) _ _ _ hw (lv_sub hl [2, 1, 0] rfl)
set_option maxHeartbeats 4000000 in
set_option maxRecDepth 100000 in
theorem c_X9_imageBits_f {Z : Zt} (zo : Zok Z) (l : Launch) (D : va_G) (cy : Cy) (L0 : List Nat) (f0 : Nat → va_E) (a0 : Nat) (m_a0 : a0 ∈ L0) (o_a0 : Ob f0 a0 7) (hg : GI cy L0 f0) (im0 : Nat) (ei : fR f0 a0 3 = some im0) (N : Int → Int) (hNi : ∀ j : Int, 0 ≤ j → j ≤ 1 → (N j = -1 ∧ aR f0 im0 j = none) ∨ (0 ≤ N j ∧ aR f0 im0 j ≠ none)) : Ci Z l yX9_imageBits (Cond.code yX9_imageBits cX9_imageBits 3 (some .int) :: TB) ({ frames := 0, cells := 0, slots := 0, locals := 0 } : Room) 0 0 D (tq cy) [.ref a0] L0 f0 (fun (r : Int) (L1 : List Nat) (f1 : Nat → va_E) => L0 = L1 ∧ f0 = f1 ∧ (r = imF N)) := by
  refine Ci.enter (cc := cX9_imageBits) (n := 3) rfl (plainFor_of_name (by decide)) (Nat.le_of_ble_eq_true rfl) ?_
  intro p e s m below meth c ls A hx hb hr hts hown hlocks hnm hml hK hA hAe hw hZ hl
  have hown : s.vm.findClass RX9 = some m.cls := hown
  have hl : lv_has ls 3 [(0, .ref a0)] := hl
  have hN : ZN s := (zo.2.2.2.2 _ _ _ hZ).2
  refine q_iconst hx hb dX9_imageBits_0 ?_
  refine lv_istore_n (lv' := [(1, .int (iI 0)), (0, .ref a0)]) hx hb dX9_imageBits_1 rfl hl (by decide) rfl (fun ls hl => ?_)
  refine q_iconst hx hb dX9_imageBits_2 ?_
  refine lv_istore_n (lv' := [(2, .int (iI 0)), (1, .int (iI 0)), (0, .ref a0)]) hx hb dX9_imageBits_3 rfl hl (by decide) rfl (fun ls hl => ?_)
  have J4 : ∀ (n4 : Nat) (y1_4 : Int) (ly1_4 : -2147483648 ≤ y1_4) (uy1_4 : y1_4 ≤ 2147483647) (y2_4 : Int) (ly2_4 : -2147483648 ≤ y2_4) (uy2_4 : y2_4 ≤ 2147483647) (i1 : 0 ≤ y2_4) (i2 : y2_4 ≤ 2) (i3 : y1_4 = imS N (y2_4).toNat) (hn4 : ((2147483647 : Int) - y2_4).toNat < n4) (H : Heap) (locs : List Loc) (ls : Array Slot) (hw : Wd D A s.heap L0 f0 H locs) (hl : lv_has ls 3 [(0, .ref a0), (1, .int (iI y1_4)), (2, .int (iI y2_4))]), W p l e ({ frames := 0, cells := 0, slots := 0, locals := 0 } : Room) s m ([.ref a0] : List Value).toArray below meth c H locs (0) (0) (MQ below (Qi D (tq cy) L0 f0 s.heap.size (fun (r : Int) (L1 : List Nat) (f1 : Nat → va_E) => L0 = L1 ∧ f0 = f1 ∧ (r = imF N))) ([.ref a0] : List Value).toArray s 0 0 A) (F0 m 4 ls []) := by
    intro n4
    induction n4 with
    | zero => intro y1_4 ly1_4 uy1_4 y2_4 ly2_4 uy2_4 i1 i2 i3 hn4; exact absurd hn4 (Nat.not_lt_zero _)
    | succ n4 ih4 =>
      intro y1_4 ly1_4 uy1_4 y2_4 ly2_4 uy2_4 i1 i2 i3 hn4 H locs ls hw hl
      refine lv_iload_n hx hb dX9_imageBits_4 rfl (lv_at hl 2 rfl) ?_
      refine lv_aload_n hx hb dX9_imageBits_5 rfl (lv_at hl 0 rfl) ?_
      obtain ⟨r_1, er_1, m_r_1, o_r_1⟩ := (show ∃ r, fR f0 a0 3 = some r ∧ r ∈ L0 ∧ ArR f0 r cy.2.2.2.2 2 from hg.2.1 _ m_a0 7 3 o_a0)
      refine q_getr (ci := 7) (C := RX9) (T := TX9) (N := 4) hx hb hts (fun w h => List.mem_cons_of_mem _ (mfX90 w h)) hown hK hw m_a0 o_a0 rfl 3 (by decide) (hts _ (List.mem_cons_of_mem _ (mr1 _ (List.mem_of_getElem? (i := 21) rfl)))) (fun _ h => h) rfl er_1 dX9_imageBits_6 ?_
      refine q_alenR hx hb hK hw m_r_1 4 o_r_1 rfl dX9_imageBits_9 ?_
      refine q_icmp_ge (tgt := 34) hx hb dX9_imageBits_10 (by decide) ⟨ly2_4, uy2_4⟩ ⟨by decide, by decide⟩ (fun c10 => ?_) (fun c10 => ?_)
      · refine lv_iload_n hx hb dX9_imageBits_34 rfl (lv_at hl 1 rfl) ?_
        exact q_ret_i hx hb hr hlocks hK hAe hw ⟨ly1_4, uy1_4⟩ (Nat.le_of_ble_eq_true rfl) (Nat.le_of_ble_eq_true rfl) dX9_imageBits_35 ⟨rfl, rfl, by rw [i3, show y2_4 = 2 by omega]; exact imS_2 N⟩
      · refine lv_aload_n hx hb dX9_imageBits_13 rfl (lv_at hl 0 rfl) ?_
        refine q_getr (ci := 7) (C := RX9) (T := TX9) (N := 4) hx hb hts (fun w h => List.mem_cons_of_mem _ (mfX90 w h)) hown hK hw m_a0 o_a0 rfl 3 (by decide) (hts _ (List.mem_cons_of_mem _ (mr1 _ (List.mem_of_getElem? (i := 21) rfl)))) (fun _ h => h) rfl er_1 dX9_imageBits_14 ?_
        have h14 := Option.some.inj (er_1.symm.trans ei)
        refine lv_iload_n hx hb dX9_imageBits_17 rfl (lv_at hl 2 rfl) ?_
        rcases hg.2.2.2 _ m_r_1 y2_4 o_r_1 (by omega) (by omega) with er_3 | ⟨r_3, er_3, m_r_3, o_r_3⟩
        · refine q_aald hx hb hK hw m_r_1 4 o_r_1 rfl ⟨ly2_4, uy2_4⟩ (by omega) (by omega) er_3 dX9_imageBits_18 ?_
          show W _ _ _ _ _ _ _ _ _ _ _ _ _ _ _ (F0 m 19 ls (.null :: []))
          have n18 := hNi y2_4 (by omega) (by omega)
          rw [← h14] at n18
          have J28 : ∀ (z1_28 : Int) (lz1_28 : -2147483648 ≤ z1_28) (uz1_28 : z1_28 ≤ 2147483647) (k3 : z1_28 = imS N (y2_4 + 1).toNat) (H : Heap) (locs : List Loc) (ls : Array Slot) (hw : Wd D A s.heap L0 f0 H locs) (hl : lv_has ls 3 [(0, .ref a0), (1, .int (iI z1_28)), (2, .int (iI y2_4))]), W p l e ({ frames := 0, cells := 0, slots := 0, locals := 0 } : Room) s m ([.ref a0] : List Value).toArray below meth c H locs (0) (0) (MQ below (Qi D (tq cy) L0 f0 s.heap.size (fun (r : Int) (L1 : List Nat) (f1 : Nat → va_E) => L0 = L1 ∧ f0 = f1 ∧ (r = imF N))) ([.ref a0] : List Value).toArray s 0 0 A) (F0 m 28 ls []) := by
            intro z1_28 lz1_28 uz1_28 k3 H locs ls hw hl
            obtain ⟨x_4, lx_4, ux_4, hx_4, ex_4⟩ := q_inc y2_4 (1)
            try (replace ex_4 : x_4 = y2_4 + (1) := by omega)
            refine lv_iinc (v := iI x_4) (lv' := [(2, .int (iI x_4)), (0, .ref a0), (1, .int (iI z1_28))]) hx hb dX9_imageBits_28 hl (k := 2) rfl hx_4 (by decide) rfl (fun ls hl => ?_)
            refine lv_goto (tgt := 4) hx hb dX9_imageBits_31 (by decide) ?_
            exact ih4 z1_28 lz1_28 uz1_28 x_4 lx_4 ux_4 (by omega) (by omega) (by first | rfl | exact im_arg k3 (by omega) | fail "none") (by omega) _ _ _ hw (lv_sub hl [1, 2, 0] rfl)
          refine lv_ifnullN (tgt := 28) hx hb dX9_imageBits_19 (by decide) ?_
          exact J28 y1_4 ly1_4 uy1_4 (by first | exact im_no i3 n18 (by assumption) i1 | exact im_yes i3 n18 (by assumption) h25 h26 i1 | fail "none") _ _ _ hw (lv_sub hl [0, 1, 2] rfl)
        · refine q_aald hx hb hK hw m_r_1 4 o_r_1 rfl ⟨ly2_4, uy2_4⟩ (by omega) (by omega) er_3 dX9_imageBits_18 ?_
          show W _ _ _ _ _ _ _ _ _ _ _ _ _ _ _ (F0 m 19 ls (.ref r_3 :: []))
          have n18 := hNi y2_4 (by omega) (by omega)
          rw [← h14] at n18
          have J28 : ∀ (z1_28 : Int) (lz1_28 : -2147483648 ≤ z1_28) (uz1_28 : z1_28 ≤ 2147483647) (k3 : z1_28 = imS N (y2_4 + 1).toNat) (H : Heap) (locs : List Loc) (ls : Array Slot) (hw : Wd D A s.heap L0 f0 H locs) (hl : lv_has ls 3 [(0, .ref a0), (1, .int (iI z1_28)), (2, .int (iI y2_4))]), W p l e ({ frames := 0, cells := 0, slots := 0, locals := 0 } : Room) s m ([.ref a0] : List Value).toArray below meth c H locs (0) (0) (MQ below (Qi D (tq cy) L0 f0 s.heap.size (fun (r : Int) (L1 : List Nat) (f1 : Nat → va_E) => L0 = L1 ∧ f0 = f1 ∧ (r = imF N))) ([.ref a0] : List Value).toArray s 0 0 A) (F0 m 28 ls []) := by
            intro z1_28 lz1_28 uz1_28 k3 H locs ls hw hl
            obtain ⟨x_5, lx_5, ux_5, hx_5, ex_5⟩ := q_inc y2_4 (1)
            try (replace ex_5 : x_5 = y2_4 + (1) := by omega)
            refine lv_iinc (v := iI x_5) (lv' := [(2, .int (iI x_5)), (0, .ref a0), (1, .int (iI z1_28))]) hx hb dX9_imageBits_28 hl (k := 2) rfl hx_5 (by decide) rfl (fun ls hl => ?_)
            refine lv_goto (tgt := 4) hx hb dX9_imageBits_31 (by decide) ?_
            exact ih4 z1_28 lz1_28 uz1_28 x_5 lx_5 ux_5 (by omega) (by omega) (by first | rfl | exact im_arg k3 (by omega) | fail "none") (by omega) _ _ _ hw (lv_sub hl [1, 2, 0] rfl)
          refine lv_ifnull hx hb dX9_imageBits_19 ?_
          refine lv_iload_n hx hb dX9_imageBits_22 rfl (lv_at hl 1 rfl) ?_
          refine q_iconst hx hb dX9_imageBits_23 ?_
          refine lv_iload_n hx hb dX9_imageBits_24 rfl (lv_at hl 2 rfl) ?_
          refine lv_ishl hx hb dX9_imageBits_25 ?_
          refine q_num (fun x_6 lx_6 ux_6 ex_6 => ?_)
          have h25 := ex_6
          refine lv_ior hx hb dX9_imageBits_26 ?_
          refine q_num (fun x_7 lx_7 ux_7 ex_7 => ?_)
          have h26 := ex_7
          refine lv_istore_n (lv' := [(1, .int (iI x_7)), (0, .ref a0), (2, .int (iI y2_4))]) hx hb dX9_imageBits_27 rfl hl (by decide) rfl (fun ls hl => ?_)
          exact J28 x_7 lx_7 ux_7 (by first | exact im_no i3 n18 (by assumption) i1 | exact im_yes i3 n18 (by assumption) h25 h26 i1 | fail "none") _ _ _ hw (lv_sub hl [1, 0, 2] rfl)
  exact J4 ((((2147483647 : Int) - 0).toNat) + 1) 0 (by decide) (by decide) 0 (by decide) (by decide) (by omega) (by omega) (by first | rfl | exact im_arg k3 (by omega) | fail "none") (by omega) _ _ _ hw (lv_sub hl [2, 1, 0] rfl)
set_option maxHeartbeats 4000000 in
set_option maxRecDepth 100000 in
theorem c_X9_told_f {Z : Zt} (zo : Zok Z) (l : Launch) (D : va_G) (cy : Cy) (L0 : List Nat) (f0 : Nat → va_E) (a0 : Nat) (x1 : Int) (lx1 : -2147483648 ≤ x1) (ux1 : x1 ≤ 2147483647) (m_a0 : a0 ∈ L0) (o_a0 : Ob f0 a0 7) (hg : GI cy L0 f0) (rq : Int → Nat) (g : Int → Int) (mm : Int) (sx : SX f0 a0 rq g mm) (im0 : Nat) (ei : fR f0 a0 3 = some im0) (N : Int → Int) (hNi : ∀ j : Int, 0 ≤ j → j ≤ 1 → (N j = -1 ∧ aR f0 im0 j = none) ∨ (0 ≤ N j ∧ aR f0 im0 j ≠ none)) : Ci Z l yX9_told (Cond.code yX9_told cX9_told 2 (some .int) :: TB) ({ frames := 1, cells := 0, slots := 0, locals := 22 } : Room) 0 0 D (tq cy) [.ref a0, .int (iI x1)] L0 f0 (fun (r : Int) (L1 : List Nat) (f1 : Nat → va_E) => L0 = L1 ∧ f0 = f1 ∧ ((x1 = 0 ∧ r = mm) ∨ (x1 = 1 ∧ r = fI f0 a0 1) ∨ (x1 = 2 ∧ r = rbS g mm.toNat) ∨ (x1 = 3 ∧ r = imF N) ∨ ((x1 < 0 ∨ 3 < x1) ∧ r = -1))) := by
  refine Ci.enter (cc := cX9_told) (n := 2) rfl (plainFor_of_name (by decide)) (Nat.le_of_ble_eq_true rfl) ?_
  intro p e s m below meth c ls A hx hb hr hts hown hlocks hnm hml hK hA hAe hw hZ hl
  have hown : s.vm.findClass RX9 = some m.cls := hown
  have hl : lv_has ls 2 [(0, .ref a0), (1, .int (iI x1))] := hl
  have hN : ZN s := (zo.2.2.2.2 _ _ _ hZ).2
  refine lv_iload_n hx hb dX9_told_0 rfl (lv_at hl 1 rfl) ?_
  have t1 : (iI x1).toInt = x1 := iI_toInt ⟨lx1, ux1⟩
  rcases (show (x1 < 0 ∨ 3 < x1) ∨ (x1 = 0) ∨ (x1 = 1) ∨ (x1 = 2) ∨ (x1 = 3) by omega) with k1 | k1 | k1 | k1 | k1
  · refine lv_tableOut (tgt := 58) hx hb dX9_told_1 (by rw [t1]; omega) (by decide) ?_
    refine q_iconst hx hb dX9_told_58 ?_
    exact q_ret_i hx hb hr hlocks hK hAe hw ⟨by decide, by decide⟩ (Nat.le_of_ble_eq_true rfl) (Nat.le_of_ble_eq_true rfl) dX9_told_59 ⟨rfl, rfl, by exact Or.inr (Or.inr (Or.inr (Or.inr ⟨by omega, by omega⟩)))⟩
  · refine lv_tableIn (tgt := 32) (off := 31) hx hb dX9_told_1 (by rw [t1]; omega) (by rw [t1]; omega) (by rw [t1, k1]; rfl) (by decide) ?_
    refine lv_aload_n hx hb dX9_told_32 rfl (lv_at hl 0 rfl) ?_
    obtain ⟨r_1, er_1, m_r_1, o_r_1⟩ := (show ∃ r, fR f0 a0 2 = some r ∧ r ∈ L0 ∧ Ob f0 r 5 from hg.2.1 _ m_a0 7 2 o_a0)
    refine q_getr (ci := 7) (C := RX9) (T := TX9) (N := 4) hx hb hts (fun w h => List.mem_cons_of_mem _ (mfX90 w h)) hown hK hw m_a0 o_a0 rfl 2 (by decide) (hts _ (List.mem_cons_of_mem _ (mr1 _ (List.mem_of_getElem? (i := 20) rfl)))) (fun _ h => h) rfl er_1 dX9_told_33 ?_
    have s1 := sx.at er_1
    refine q_getiN (ci := 5) (C := RX7) (T := TX7) (N := 2) hx hb hts (fun w h => List.mem_cons_of_mem _ (mfX70 w h)) hown hK hw m_r_1 o_r_1 rfl 1 (by decide) (va_Nw.use rfl (hN _ (List.mem_of_getElem? (i := 0) rfl))) (fun _ h => h) rfl dX9_told_36 (fun x_2 lx_2 ux_2 ex_2 => ?_)
    have bx_2 : 0 ≤ x_2 ∧ x_2 ≤ 12 := by rw [ex_2]; exact hg.1 _ m_r_1 5 1 o_r_1
    exact q_ret_i hx hb hr hlocks hK hAe hw ⟨lx_2, ux_2⟩ (Nat.le_of_ble_eq_true rfl) (Nat.le_of_ble_eq_true rfl) dX9_told_39 ⟨rfl, rfl, by exact Or.inl ⟨by omega, by omega⟩⟩
  · refine lv_tableIn (tgt := 40) (off := 39) hx hb dX9_told_1 (by rw [t1]; omega) (by rw [t1]; omega) (by rw [t1, k1]; rfl) (by decide) ?_
    refine lv_aload_n hx hb dX9_told_40 rfl (lv_at hl 0 rfl) ?_
    refine q_geti (ci := 7) (C := RX9) (T := TX9) (N := 4) hx hb hts (fun w h => List.mem_cons_of_mem _ (mfX90 w h)) hown hK hw m_a0 o_a0 rfl 1 (by decide) (hts _ (List.mem_cons_of_mem _ (mr1 _ (List.mem_of_getElem? (i := 16) rfl)))) (fun _ h => h) rfl dX9_told_41 (fun x_3 lx_3 ux_3 ex_3 => ?_)
    have bx_3 : 0 ≤ x_3 ∧ x_3 ≤ 168 := by rw [ex_3]; exact hg.1 _ m_a0 7 1 o_a0
    exact q_ret_i hx hb hr hlocks hK hAe hw ⟨lx_3, ux_3⟩ (Nat.le_of_ble_eq_true rfl) (Nat.le_of_ble_eq_true rfl) dX9_told_44 ⟨rfl, rfl, by exact Or.inr (Or.inl ⟨by omega, by omega⟩)⟩
  · refine lv_tableIn (tgt := 45) (off := 44) hx hb dX9_told_1 (by rw [t1]; omega) (by rw [t1]; omega) (by rw [t1, k1]; rfl) (by decide) ?_
    refine lv_aload_n hx hb dX9_told_45 rfl (lv_at hl 0 rfl) ?_
    obtain ⟨r_4, er_4, m_r_4, o_r_4⟩ := (show ∃ r, fR f0 a0 2 = some r ∧ r ∈ L0 ∧ Ob f0 r 5 from hg.2.1 _ m_a0 7 2 o_a0)
    refine q_getr (ci := 7) (C := RX9) (T := TX9) (N := 4) hx hb hts (fun w h => List.mem_cons_of_mem _ (mfX90 w h)) hown hK hw m_a0 o_a0 rfl 2 (by decide) (hts _ (List.mem_cons_of_mem _ (mr1 _ (List.mem_of_getElem? (i := 20) rfl)))) (fun _ h => h) rfl er_4 dX9_told_46 ?_
    have s1 := sx.at er_4
    refine q_call_i hA hK hw (va_runV (As := []) (rest := []) ⟨hx, hb, hml, hown, hts⟩ (c_X7_roomBits_f zo l D cy L0 f0 r_4 m_r_4 o_r_4 hg rq g mm s1.1 (by omega) (by omega) _) (cwV 0 hts (gT (inV (mr45 _ (List.mem_of_getElem? (i := 15) rfl)) (mr45 _ (List.mem_of_getElem? (i := 16) rfl)) (mr45 _ (List.mem_of_getElem? (i := 17) rfl)) (mr1 _ (List.mem_of_getElem? (i := 19) rfl)) (mr45 _ (List.mem_of_getElem? (i := 18) rfl)))) rfl rfl rfl (by decide +kernel) ⟨Nat.le_of_ble_eq_true rfl, Nat.le_of_ble_eq_true rfl⟩) (Wd.preV zo hA hZ hw hK m_r_4 o_r_4 rfl) rfl rfl hl.1 rfl (lv_room (Nat.le_of_ble_eq_true rfl)) dX9_told_49 ⟨Nat.le_of_ble_eq_true rfl, Nat.le_of_ble_eq_true rfl⟩) (fun x_5 L1 f1 H locs lx_5 ux_5 ex_5 hw => ?_)
    obtain ⟨rfl, rfl, ex_5⟩ := ex_5
    exact q_ret_i hx hb hr hlocks hK hAe hw ⟨lx_5, ux_5⟩ (Nat.le_of_ble_eq_true rfl) (Nat.le_of_ble_eq_true rfl) dX9_told_52 ⟨rfl, rfl, by exact Or.inr (Or.inr (Or.inl ⟨by omega, ex_5⟩))⟩
  · refine lv_tableIn (tgt := 53) (off := 52) hx hb dX9_told_1 (by rw [t1]; omega) (by rw [t1]; omega) (by rw [t1, k1]; rfl) (by decide) ?_
    refine lv_aload_n hx hb dX9_told_53 rfl (lv_at hl 0 rfl) ?_
    refine q_call_i hA hK hw (va_runV (As := []) (rest := []) ⟨hx, hb, hml, hown, hts⟩ (c_X9_imageBits_f zo l D cy L0 f0 a0 m_a0 o_a0 hg im0 ei N hNi _) (cwV 0 hts (gT (inV (mr45 _ (List.mem_of_getElem? (i := 19) rfl)) (mr45 _ (List.mem_of_getElem? (i := 20) rfl)) (mr45 _ (List.mem_of_getElem? (i := 21) rfl)) (mr1 _ (List.mem_of_getElem? (i := 2) rfl)) (mr45 _ (List.mem_of_getElem? (i := 22) rfl)))) rfl rfl rfl (by decide +kernel) ⟨Nat.le_of_ble_eq_true rfl, Nat.le_of_ble_eq_true rfl⟩) (Wd.preV zo hA hZ hw hK m_a0 o_a0 rfl) rfl rfl hl.1 rfl (lv_room (Nat.le_of_ble_eq_true rfl)) dX9_told_54 ⟨Nat.le_of_ble_eq_true rfl, Nat.le_of_ble_eq_true rfl⟩) (fun x_6 L1 f1 H locs lx_6 ux_6 ex_6 hw => ?_)
    obtain ⟨rfl, rfl, ex_6⟩ := ex_6
    exact q_ret_i hx hb hr hlocks hK hAe hw ⟨lx_6, ux_6⟩ (Nat.le_of_ble_eq_true rfl) (Nat.le_of_ble_eq_true rfl) dX9_told_57 ⟨rfl, rfl, by exact Or.inr (Or.inr (Or.inr (Or.inl ⟨by omega, ex_6⟩)))⟩
set_option maxHeartbeats 4000000 in
set_option maxRecDepth 100000 in
theorem c_X10_told_f {Z : Zt} (zo : Zok Z) (l : Launch) (D : va_G) (cy : Cy) (L0 : List Nat) (f0 : Nat → va_E) (a0 : Nat) (x1 : Int) (lx1 : -2147483648 ≤ x1) (ux1 : x1 ≤ 2147483647) (ad : Nat → Nat) (hs : MS cy L0 f0 a0 ad) (hv : MV f0 a0 ad) : Ci Z l yX10_told (Cond.code yX10_told cX10_told 4 (some .int) :: TB) ({ frames := 1, cells := 0, slots := 0, locals := 22 } : Room) 0 0 D (tq cy) [.ref a0, .int (iI x1)] L0 f0 (fun (r : Int) (L1 : List Nat) (f1 : Nat → va_E) => L0 = L1 ∧ MS cy L0 f1 a0 ad ∧ Kp a0 ad [] [10] f0 f1 ∧ ((x1 = 0 ∧ r = fI f0 a0 5) ∨ (x1 = 1 ∧ r = fI f0 a0 9) ∨ (x1 = 2 ∧ r = rbS (aI f0 (ad 4)) (fI f0 a0 5).toNat) ∨ (x1 = 3 ∧ r = imF (aI f0 (ad 7))) ∨ ((x1 < 0 ∨ 3 < x1) ∧ r = -1))) := by
  refine Ci.enter (cc := cX10_told) (n := 4) rfl (plainFor_of_name (by decide)) (Nat.le_of_ble_eq_true rfl) ?_
  intro p e s m below meth c ls A hx hb hr hts hown hlocks hnm hml hK hA hAe hw hZ hl
  have hown : s.vm.findClass RX10 = some m.cls := hown
  have hl : lv_has ls 4 [(0, .ref a0), (1, .int (iI x1))] := hl
  have hN : ZN s := (zo.2.2.2.2 _ _ _ hZ).2
  have hE : Kp a0 ad [] [10] f0 f0 := Kp.refl _ _ _ _ _
  have m5 := hv.1
  have m6 := hv.2.1
  refine lv_aload_n hx hb dX10_told_0 rfl (lv_at hl 0 rfl) ?_
  refine q_iconst hx hb dX10_told_1 ?_
  refine q_puti (ci := 8) (C := RX10) (T := TX10) (N := 26) hx hb hts (fun w h => List.mem_cons_of_mem _ (mfX100 w h)) hown hK hw hs.1 hs.2.1 rfl 10 (by decide) (hts _ (List.mem_cons_of_mem _ (mr4 _ (List.mem_of_getElem? (i := 19) rfl)))) (fun _ h => h) tyX10 tyX10_ok nmX10 rfl (ty := .int) (by decide +kernel) rfl rfl dX10_told_2 (fun H locs hw => ?_)
  obtain ⟨f_1, ef_1⟩ : ∃ g : Nat → va_E, g = pU f0 a0 10 (.int (iI 0)) := ⟨_, rfl⟩
  have v10_f_1 : fI f_1 a0 10 = 0 := by rw [ef_1]; exact fI_pU_self hs.2.1 rfl ⟨by decide, by decide⟩
  have t5_f_1 : fI f_1 a0 5 = fI f0 a0 5 := by rw [ef_1]; exact fI_pU (Or.inr (by decide))
  have t9_f_1 : fI f_1 a0 9 = fI f0 a0 9 := by rw [ef_1]; exact fI_pU (Or.inr (by decide))
  have hE := hE.trans (show Kp a0 ad [] [10] f0 f_1 by rw [ef_1]; exact Kp_pU hs (by decide))
  have hs_ := hs
  have hs : MS cy L0 f_1 a0 ad := by rw [ef_1]; exact MS_pU hs rfl
  rw [← ef_1] at hw
  have Q4a : aI f_1 (ad 4) = aI f0 (ad 4) := funext fun x => by rw [ef_1]; exact hs_.aI_pU _ x
  have Q7a : aI f_1 (ad 7) = aI f0 (ad 7) := funext fun x => by rw [ef_1]; exact hs_.aI_pU _ x
  refine lv_iload_n hx hb dX10_told_5 rfl (lv_at hl 1 rfl) ?_
  have t6 : (iI x1).toInt = x1 := iI_toInt ⟨lx1, ux1⟩
  rcases (show (x1 < 0 ∨ 3 < x1) ∨ (x1 = 0) ∨ (x1 = 1) ∨ (x1 = 2) ∨ (x1 = 3) by omega) with k6 | k6 | k6 | k6 | k6
  · refine lv_tableOut (tgt := 107) hx hb dX10_told_6 (by rw [t6]; omega) (by decide) ?_
    refine q_iconst hx hb dX10_told_107 ?_
    exact q_ret_i hx hb hr hlocks hK hAe hw ⟨by decide, by decide⟩ (Nat.le_of_ble_eq_true rfl) (Nat.le_of_ble_eq_true rfl) dX10_told_108 (by exact ⟨rfl, hs, hE, Or.inr (Or.inr (Or.inr (Or.inr ⟨by omega, by omega⟩)))⟩)
  · refine lv_tableIn (tgt := 36) (off := 30) hx hb dX10_told_6 (by rw [t6]; omega) (by rw [t6]; omega) (by rw [t6, k6]; rfl) (by decide) ?_
    refine lv_aload_n hx hb dX10_told_36 rfl (lv_at hl 0 rfl) ?_
    refine q_geti (ci := 8) (C := RX10) (T := TX10) (N := 26) hx hb hts (fun w h => List.mem_cons_of_mem _ (mfX100 w h)) hown hK hw hs.1 hs.2.1 rfl 5 (by decide) (hts _ (List.mem_cons_of_mem _ (mr19 _ (List.mem_of_getElem? (i := 1) rfl)))) (fun _ h => h) rfl dX10_told_37 (fun x_2 lx_2 ux_2 ex_2 => ?_)
    exact q_ret_i hx hb hr hlocks hK hAe hw ⟨lx_2, ux_2⟩ (Nat.le_of_ble_eq_true rfl) (Nat.le_of_ble_eq_true rfl) dX10_told_40 (by exact ⟨rfl, hs, hE, Or.inl ⟨by omega, by omega⟩⟩)
  · refine lv_tableIn (tgt := 41) (off := 35) hx hb dX10_told_6 (by rw [t6]; omega) (by rw [t6]; omega) (by rw [t6, k6]; rfl) (by decide) ?_
    refine lv_aload_n hx hb dX10_told_41 rfl (lv_at hl 0 rfl) ?_
    refine q_geti (ci := 8) (C := RX10) (T := TX10) (N := 26) hx hb hts (fun w h => List.mem_cons_of_mem _ (mfX100 w h)) hown hK hw hs.1 hs.2.1 rfl 9 (by decide) (hts _ (List.mem_cons_of_mem _ (mr4 _ (List.mem_of_getElem? (i := 20) rfl)))) (fun _ h => h) rfl dX10_told_42 (fun x_3 lx_3 ux_3 ex_3 => ?_)
    exact q_ret_i hx hb hr hlocks hK hAe hw ⟨lx_3, ux_3⟩ (Nat.le_of_ble_eq_true rfl) (Nat.le_of_ble_eq_true rfl) dX10_told_45 (by exact ⟨rfl, hs, hE, Or.inr (Or.inl ⟨by omega, by omega⟩)⟩)
  · refine lv_tableIn (tgt := 46) (off := 40) hx hb dX10_told_6 (by rw [t6]; omega) (by rw [t6]; omega) (by rw [t6, k6]; rfl) (by decide) ?_
    refine q_iconst hx hb dX10_told_46 ?_
    refine lv_istore_n (lv' := [(2, .int (iI 0)), (0, .ref a0), (1, .int (iI x1))]) hx hb dX10_told_47 rfl hl (by decide) rfl (fun ls hl => ?_)
    refine q_iconst hx hb dX10_told_48 ?_
    refine lv_istore_n (lv' := [(3, .int (iI 0)), (2, .int (iI 0)), (0, .ref a0), (1, .int (iI x1))]) hx hb dX10_told_49 rfl hl (by decide) rfl (fun ls hl => ?_)
    have J50 : ∀ (n50 : Nat) (y2_50 : Int) (ly2_50 : -2147483648 ≤ y2_50) (uy2_50 : y2_50 ≤ 2147483647) (y3_50 : Int) (ly3_50 : -2147483648 ≤ y3_50) (uy3_50 : y3_50 ≤ 2147483647) (i1 : 0 ≤ y3_50) (i2 : y3_50 ≤ fI f0 a0 5) (i3 : y2_50 = rbS (aI f0 (ad 4)) (y3_50).toNat) (hn50 : ((2147483647 : Int) - y3_50).toNat < n50) (H : Heap) (locs : List Loc) (ls : Array Slot) (hw : Wd D A s.heap L0 f_1 H locs) (hl : lv_has ls 4 [(0, .ref a0), (2, .int (iI y2_50)), (3, .int (iI y3_50))]), W p l e ({ frames := 1, cells := 0, slots := 0, locals := 22 } : Room) s m ([.ref a0, .int (iI x1)] : List Value).toArray below meth c H locs (0) (0) (MQ below (Qi D (tq cy) L0 f0 s.heap.size (fun (r : Int) (L1 : List Nat) (f1 : Nat → va_E) => L0 = L1 ∧ MS cy L0 f1 a0 ad ∧ Kp a0 ad [] [10] f0 f1 ∧ ((x1 = 0 ∧ r = fI f0 a0 5) ∨ (x1 = 1 ∧ r = fI f0 a0 9) ∨ (x1 = 2 ∧ r = rbS (aI f0 (ad 4)) (fI f0 a0 5).toNat) ∨ (x1 = 3 ∧ r = imF (aI f0 (ad 7))) ∨ ((x1 < 0 ∨ 3 < x1) ∧ r = -1)))) ([.ref a0, .int (iI x1)] : List Value).toArray s 0 0 A) (F0 m 50 ls []) := by
      intro n50
      induction n50 with
      | zero => intro y2_50 ly2_50 uy2_50 y3_50 ly3_50 uy3_50 i1 i2 i3 hn50; exact absurd hn50 (Nat.not_lt_zero _)
      | succ n50 ih50 =>
        intro y2_50 ly2_50 uy2_50 y3_50 ly3_50 uy3_50 i1 i2 i3 hn50 H locs ls hw hl
        refine lv_iload_n hx hb dX10_told_50 rfl (lv_at hl 2 rfl) ?_
        refine lv_aload_n hx hb dX10_told_51 rfl (lv_at hl 0 rfl) ?_
        refine q_geti (ci := 8) (C := RX10) (T := TX10) (N := 26) hx hb hts (fun w h => List.mem_cons_of_mem _ (mfX100 w h)) hown hK hw hs.1 hs.2.1 rfl 5 (by decide) (hts _ (List.mem_cons_of_mem _ (mr19 _ (List.mem_of_getElem? (i := 1) rfl)))) (fun _ h => h) rfl dX10_told_52 (fun x_4 lx_4 ux_4 ex_4 => ?_)
        refine q_icmp_ge (tgt := 75) hx hb dX10_told_55 (by decide) ⟨ly3_50, uy3_50⟩ ⟨lx_4, ux_4⟩ (fun c55 => ?_) (fun c55 => ?_)
        · refine lv_iload_n hx hb dX10_told_75 rfl (lv_at hl 1 rfl) ?_
          exact q_ret_i hx hb hr hlocks hK hAe hw ⟨ly2_50, uy2_50⟩ (Nat.le_of_ble_eq_true rfl) (Nat.le_of_ble_eq_true rfl) dX10_told_76 (by exact ⟨rfl, hs, hE, Or.inr (Or.inr (Or.inl ⟨by omega, by rw [i3, show y3_50 = fI f0 a0 5 by omega]⟩))⟩)
        · refine lv_iload_n hx hb dX10_told_58 rfl (lv_at hl 1 rfl) ?_
          refine q_iconst hx hb dX10_told_59 ?_
          refine lv_aload_n hx hb dX10_told_60 rfl (lv_at hl 0 rfl) ?_
          refine lv_iload_n hx hb dX10_told_61 rfl (lv_at hl 2 rfl) ?_
          refine q_iconst hx hb dX10_told_62 ?_
          refine q_call_i hA hK hw (va_runV (As := [.int (iI y3_50), .int (iI 0)]) (rest := [.int (iI 1), .int (iI y2_50)]) ⟨hx, hb, hml, hown, hts⟩ (c_X10_get zo l D cy L0 f_1 a0 y3_50 ly3_50 uy3_50 0 (by decide) (by decide) ad hs (by omega) (by omega) (by omega) (by omega) _) (cwV 2 hts (gT (inV (mr25 _ (List.mem_of_getElem? (i := 0) rfl)) (mr25 _ (List.mem_of_getElem? (i := 1) rfl)) (mr25 _ (List.mem_of_getElem? (i := 2) rfl)) (mr1 _ (List.mem_of_getElem? (i := 5) rfl)) (mr25 _ (List.mem_of_getElem? (i := 3) rfl)))) rfl rfl rfl (by decide +kernel) ⟨Nat.le_of_ble_eq_true rfl, Nat.le_of_ble_eq_true rfl⟩) (Wd.preV zo hA hZ hw hK hs.1 hs.2.1 rfl) rfl rfl hl.1 rfl (lv_room (Nat.le_of_ble_eq_true rfl)) dX10_told_63 ⟨Nat.le_of_ble_eq_true rfl, Nat.le_of_ble_eq_true rfl⟩) (fun x_5 L1 f1 H locs lx_5 ux_5 ex_5 hw => ?_)
          obtain ⟨rfl, rfl, ex_5⟩ := ex_5
          have h63 := ex_5.trans (show aI f_1 (ad 4) (44 * y3_50 + 0) = aI f0 (ad 4) (44 * y3_50) by rw [Q4a, Int.add_zero])
          refine lv_ishl hx hb dX10_told_66 ?_
          refine q_num (fun x_6 lx_6 ux_6 ex_6 => ?_)
          have h66 := ex_6
          refine lv_ior hx hb dX10_told_67 ?_
          refine q_num (fun x_7 lx_7 ux_7 ex_7 => ?_)
          have h67 := ex_7
          refine lv_istore_n (lv' := [(2, .int (iI x_7)), (0, .ref a0), (3, .int (iI y3_50))]) hx hb dX10_told_68 rfl hl (by decide) rfl (fun ls hl => ?_)
          obtain ⟨x_8, lx_8, ux_8, hx_8, ex_8⟩ := q_inc y3_50 (1)
          try (replace ex_8 : x_8 = y3_50 + (1) := by omega)
          refine lv_iinc (v := iI x_8) (lv' := [(3, .int (iI x_8)), (2, .int (iI x_7)), (0, .ref a0)]) hx hb dX10_told_69 hl (k := 2) rfl hx_8 (by decide) rfl (fun ls hl => ?_)
          refine lv_goto (tgt := 50) hx hb dX10_told_72 (by decide) ?_
          exact ih50 x_7 lx_7 ux_7 x_8 lx_8 ux_8 (by omega) (by omega) (by first | rfl | exact rb_step i3 h63 h66 h67 (by omega) (by omega) | fail "none") (by omega) _ _ _ hw (lv_sub hl [2, 1, 0] rfl)
    exact J50 ((((2147483647 : Int) - 0).toNat) + 1) 0 (by decide) (by decide) 0 (by decide) (by decide) (by omega) (by omega) (by first | rfl | exact rb_step i3 h63 h66 h67 (by omega) (by omega) | fail "none") (by omega) _ _ _ hw (lv_sub hl [2, 1, 0] rfl)
  · refine lv_tableIn (tgt := 77) (off := 71) hx hb dX10_told_6 (by rw [t6]; omega) (by rw [t6]; omega) (by rw [t6, k6]; rfl) (by decide) ?_
    refine lv_aload_n hx hb dX10_told_77 rfl (lv_at hl 0 rfl) ?_
    refine q_getr (ci := 8) (C := RX10) (T := TX10) (N := 26) hx hb hts (fun w h => List.mem_cons_of_mem _ (mfX100 w h)) hown hK hw hs.1 hs.2.1 rfl 7 (by decide) (hts _ (List.mem_cons_of_mem _ (mr3 _ (List.mem_of_getElem? (i := 16) rfl)))) (fun _ h => h) rfl (hs.2.2.1 7 rfl).1 dX10_told_78 ?_
    refine q_iconst hx hb dX10_told_81 ?_
    refine q_iald hx hb hK hw (hs.2.2.1 7 rfl).2.1 1 (hs.2.2.1 7 rfl).2.2 rfl ⟨by decide, by decide⟩ (by omega) (by show _ < ((2 : Nat) : Int); omega) dX10_told_82 (fun x_9 lx_9 ux_9 ex_9 => ?_)
    have h82 := ex_9.trans (congrFun Q7a 0)
    have J91 : ∀ (w0_91 : Int) (lw0_91 : -2147483648 ≤ w0_91) (uw0_91 : w0_91 ≤ 2147483647) (k0 : 0 ≤ w0_91) (k1 : w0_91 ≤ 1) (k3 : w0_91 = (if aI f0 (ad 7) 0 < 0 then 0 else 1)) (H : Heap) (locs : List Loc) (ls : Array Slot) (hw : Wd D A s.heap L0 f_1 H locs) (hl : lv_has ls 4 [(0, .ref a0)]), W p l e ({ frames := 1, cells := 0, slots := 0, locals := 22 } : Room) s m ([.ref a0, .int (iI x1)] : List Value).toArray below meth c H locs (0) (0) (MQ below (Qi D (tq cy) L0 f0 s.heap.size (fun (r : Int) (L1 : List Nat) (f1 : Nat → va_E) => L0 = L1 ∧ MS cy L0 f1 a0 ad ∧ Kp a0 ad [] [10] f0 f1 ∧ ((x1 = 0 ∧ r = fI f0 a0 5) ∨ (x1 = 1 ∧ r = fI f0 a0 9) ∨ (x1 = 2 ∧ r = rbS (aI f0 (ad 4)) (fI f0 a0 5).toNat) ∨ (x1 = 3 ∧ r = imF (aI f0 (ad 7))) ∨ ((x1 < 0 ∨ 3 < x1) ∧ r = -1)))) ([.ref a0, .int (iI x1)] : List Value).toArray s 0 0 A) (F0 m 91 ls [.int (iI w0_91)]) := by
      intro w0_91 lw0_91 uw0_91 k0 k1 k3 H locs ls hw hl
      refine lv_aload_n hx hb dX10_told_91 rfl (lv_at hl 0 rfl) ?_
      refine q_getr (ci := 8) (C := RX10) (T := TX10) (N := 26) hx hb hts (fun w h => List.mem_cons_of_mem _ (mfX100 w h)) hown hK hw hs.1 hs.2.1 rfl 7 (by decide) (hts _ (List.mem_cons_of_mem _ (mr3 _ (List.mem_of_getElem? (i := 16) rfl)))) (fun _ h => h) rfl (hs.2.2.1 7 rfl).1 dX10_told_92 ?_
      refine q_iconst hx hb dX10_told_95 ?_
      refine q_iald hx hb hK hw (hs.2.2.1 7 rfl).2.1 1 (hs.2.2.1 7 rfl).2.2 rfl ⟨by decide, by decide⟩ (by omega) (by show _ < ((2 : Nat) : Int); omega) dX10_told_96 (fun x_10 lx_10 ux_10 ex_10 => ?_)
      have h96 := ex_10.trans (congrFun Q7a 1)
      refine q_if_ge (tgt := 104) hx hb dX10_told_97 (by decide) ⟨lx_10, ux_10⟩ (fun c97 => ?_) (fun c97 => ?_)
      · refine q_iconst hx hb dX10_told_104 ?_
        first | refine q_iadd hx hb dX10_told_105 ⟨by omega, by omega⟩ (fun x_11 lx_11 ux_11 ex_11 => ?_) | refine q_iaddw hx hb dX10_told_105 (fun x_11 lx_11 ux_11 ex_11 => ?_)
        exact q_ret_i hx hb hr hlocks hK hAe hw ⟨lx_11, ux_11⟩ (Nat.le_of_ble_eq_true rfl) (Nat.le_of_ble_eq_true rfl) dX10_told_106 (by exact ⟨rfl, hs, hE, Or.inr (Or.inr (Or.inr (Or.inl ⟨by omega, im_ref k3 h96 (by omega)⟩)))⟩)
      · refine q_iconst hx hb dX10_told_100 ?_
        refine lv_goto (tgt := 105) hx hb dX10_told_101 (by decide) ?_
        first | refine q_iadd hx hb dX10_told_105 ⟨by omega, by omega⟩ (fun x_12 lx_12 ux_12 ex_12 => ?_) | refine q_iaddw hx hb dX10_told_105 (fun x_12 lx_12 ux_12 ex_12 => ?_)
        exact q_ret_i hx hb hr hlocks hK hAe hw ⟨lx_12, ux_12⟩ (Nat.le_of_ble_eq_true rfl) (Nat.le_of_ble_eq_true rfl) dX10_told_106 (by exact ⟨rfl, hs, hE, Or.inr (Or.inr (Or.inr (Or.inl ⟨by omega, im_ref k3 h96 (by omega)⟩)))⟩)
    refine q_if_ge (tgt := 90) hx hb dX10_told_83 (by decide) ⟨lx_9, ux_9⟩ (fun c83 => ?_) (fun c83 => ?_)
    · refine q_iconst hx hb dX10_told_90 ?_
      exact J91 1 (by decide) (by decide) (by omega) (by omega) (by first | exact (if_pos (by omega)).symm | exact (if_neg (by omega)).symm | fail "none") _ _ _ hw (lv_sub hl [0] rfl)
    · refine q_iconst hx hb dX10_told_86 ?_
      refine lv_goto (tgt := 91) hx hb dX10_told_87 (by decide) ?_
      exact J91 0 (by decide) (by decide) (by omega) (by omega) (by first | exact (if_pos (by omega)).symm | exact (if_neg (by omega)).symm | fail "none") _ _ _ hw (lv_sub hl [0] rfl)
